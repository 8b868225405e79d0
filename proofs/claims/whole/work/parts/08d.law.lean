section ZW
variable {p : Program} {l : Launch} {e : Env} {s : State} {m : MethodId} {args : Array Value} {below : List Frame} {meth : Method} {c : Code} {cells slots : Nat} {Q : State → Prop} {D : va_G} {cA : Nat → ClassId} {n : Nat} {ad : Nat → Nat}
abbrev rm_L_law : Room := room_1
set_option maxHeartbeats 4000000 in
set_option maxRecDepth 100000 in
theorem w_L_law_232 (C : z_CT p s m args c R_L b_L_law 7 D cA 51 ad) (hcs : cells ≤ rm_L_law.cells ∧ slots ≤ rm_L_law.slots) (L : Nat) (xs : Nat → Int32) (b : Nat) (hX0 : z_X0 b L xs 51 ad s) (hT : z_T l (z_fr 51 ad s.heap.size) s) (post : Int32 → zS → Prop) (K43 : Int32 → zS → Prop) (v4 : Int32) (hR : z_Rz p l e rm_L_law s m args below meth c Q b_L_law D cA 51 ad post) (kK43 : ∀ (v4 : Int32) (S : zS) (H : Heap) (locs : List Loc) (ls : Array Slot), K43 v4 S → z_I D cA 51 ad s.heap S H locs → lv_has ls 7 [(0, .ref b), (1, .ref (ad 0)), (2, .ref (ad 31)), (3, .ref (ad 50)), (4, .int v4)] → W p l e rm_L_law s m args below meth c H locs cells slots Q (F0 m 43 ls [])) (S : zS) (H : Heap) (locs : List Loc) (ls : Array Slot) (hI : z_I D cA 51 ad s.heap S H locs) (hl : lv_has ls 7 [(0, .ref b), (1, .ref (ad 0)), (2, .ref (ad 31)), (3, .ref (ad 50)), (4, .int v4)]) (h : J_L_law_232 L xs post K43 v4 S) : W p l e rm_L_law s m args below meth c H locs cells slots Q (F0 m 232 ls []) := by
  obtain ⟨hx, hb, hml, hown, hts, hK, hJ⟩ := id C
  unfold J_L_law_232 at h
  refine lv_goto (tgt := 1054) hx hb d_L_law_232 (by decide) ?_
  obtain ⟨x1054, e1054⟩ : ∃ y : Int32, y = v4 + 6 := ⟨_, rfl⟩
  replace h := h x1054 e1054
  refine lv_iinc (v := x1054) (lv' := [(4, .int x1054), (0, .ref b), (1, .ref (ad 0)), (2, .ref (ad 31)), (3, .ref (ad 50))]) hx hb d_L_law_1054 hl (k := 4) rfl (by rw [e1054]; rfl) (by decide) rfl (fun ls hl => ?_)
  refine lv_goto (tgt := 43) hx hb d_L_law_1057 (by decide) ?_
  exact kK43 x1054 S _ _ ls h hI (lv_sub hl [1, 2, 3, 4, 0] rfl)
set_option maxHeartbeats 4000000 in
set_option maxRecDepth 100000 in
theorem w_L_law_226 (C : z_CT p s m args c R_L b_L_law 7 D cA 51 ad) (hcs : cells ≤ rm_L_law.cells ∧ slots ≤ rm_L_law.slots) (L : Nat) (xs : Nat → Int32) (b : Nat) (hX0 : z_X0 b L xs 51 ad s) (hT : z_T l (z_fr 51 ad s.heap.size) s) (post : Int32 → zS → Prop) (K43 : Int32 → zS → Prop) (v4 : Int32) (t0 : Int32) (t1 : Int32) (hR : z_Rz p l e rm_L_law s m args below meth c Q b_L_law D cA 51 ad post) (kK43 : ∀ (v4 : Int32) (S : zS) (H : Heap) (locs : List Loc) (ls : Array Slot), K43 v4 S → z_I D cA 51 ad s.heap S H locs → lv_has ls 7 [(0, .ref b), (1, .ref (ad 0)), (2, .ref (ad 31)), (3, .ref (ad 50)), (4, .int v4)] → W p l e rm_L_law s m args below meth c H locs cells slots Q (F0 m 43 ls [])) (S : zS) (H : Heap) (locs : List Loc) (ls : Array Slot) (hI : z_I D cA 51 ad s.heap S H locs) (hl : lv_has ls 7 [(0, .ref b), (1, .ref (ad 0)), (2, .ref (ad 31)), (3, .ref (ad 50)), (4, .int v4)]) (h : J_L_law_226 L xs post K43 v4 t0 t1 S) : W p l e rm_L_law s m args below meth c H locs cells slots Q (F0 m 226 ls [.long (Int32.toInt64 t0), .long (Int32.toInt64 t1)]) := by
  obtain ⟨hx, hb, hml, hown, hts, hK, hJ⟩ := id C
  unfold J_L_law_226 at h
  refine W.lcmp hx hb d_L_law_226 ?_
  refine lv_if_eq (tgt := 232) hx hb d_L_law_227 (by decide) (fun q => ?_) (fun q => ?_)
  · replace h := h.1 (z_cmp0.mp q)
    exact w_L_law_232 C hcs L xs b hX0 hT _ _ v4 hR kK43 S _ _ ls hI (lv_sub hl [0, 1, 2, 3, 4] rfl) h
  · replace h := h.2 (fun z => q (z_cmp0.mpr z))
    refine lv_iconst (v := 0) hx hb d_L_law_230 (by decide) ?_
    exact hR _ _ hcs 0 S _ _ 231 ls (by decide) h hI d_L_law_231
set_option maxHeartbeats 4000000 in
set_option maxRecDepth 100000 in
theorem w_L_law_192 (C : z_CT p s m args c R_L b_L_law 7 D cA 51 ad) (hcs : cells ≤ rm_L_law.cells ∧ slots ≤ rm_L_law.slots) (L : Nat) (xs : Nat → Int32) (b : Nat) (hX0 : z_X0 b L xs 51 ad s) (hT : z_T l (z_fr 51 ad s.heap.size) s) (post : Int32 → zS → Prop) (K43 : Int32 → zS → Prop) (v4 : Int32) (v5 : Int32) (t0 : Int32) (t1 : Int32) (t2 : Int32) (hR : z_Rz p l e rm_L_law s m args below meth c Q b_L_law D cA 51 ad post) (kK43 : ∀ (v4 : Int32) (S : zS) (H : Heap) (locs : List Loc) (ls : Array Slot), K43 v4 S → z_I D cA 51 ad s.heap S H locs → lv_has ls 7 [(0, .ref b), (1, .ref (ad 0)), (2, .ref (ad 31)), (3, .ref (ad 50)), (4, .int v4)] → W p l e rm_L_law s m args below meth c H locs cells slots Q (F0 m 43 ls [])) (S : zS) (H : Heap) (locs : List Loc) (ls : Array Slot) (hI : z_I D cA 51 ad s.heap S H locs) (hl : lv_has ls 7 [(0, .ref b), (1, .ref (ad 0)), (2, .ref (ad 31)), (3, .ref (ad 50)), (4, .int v4), (5, .int v5)]) (h : J_L_law_192 L xs post K43 v4 v5 t0 t1 t2 S) : W p l e rm_L_law s m args below meth c H locs cells slots Q (F0 m 192 ls [.int t0, .int t1, .int t2, .ref (ad 31)]) := by
  obtain ⟨hx, hb, hml, hown, hts, hK, hJ⟩ := id C
  unfold J_L_law_192 at h
  refine z_callVi C hI 31 (by decide) kd_31 cl_M (As := [.int t2, .int t1, .int t0]) (rest := []) (c_M_put t2 t1 t0 _ _ h) wc_M_put k_ml_L_71 rfl rfl (Nat.le_of_ble_eq_true rfl) (Nat.le_of_ble_eq_true rfl) hcs hl.1 (Nat.le_of_ble_eq_true rfl) rfl d_L_law_192 (fun r192 S192 H locs h hI => ?_)
  refine lv_istore (lv' := [(6, .int r192), (0, .ref b), (1, .ref (ad 0)), (2, .ref (ad 31)), (3, .ref (ad 50)), (4, .int v4), (5, .int v5)]) hx hb d_L_law_195 hl (by decide) rfl (fun ls hl => ?_)
  refine lv_aload_n hx hb d_L_law_197 rfl (lv_at hl 3 rfl) ?_
  refine z_callVi C hI 31 (by decide) kd_31 cl_M (As := []) (rest := []) (c_M_thrown _ _ h) wc_M_thrown k_ml_L_72 rfl rfl (Nat.le_of_ble_eq_true rfl) (Nat.le_of_ble_eq_true rfl) hcs hl.1 (Nat.le_of_ble_eq_true rfl) rfl d_L_law_198 (fun r198 S198 H locs h hI => ?_)
  refine lv_iload hx hb d_L_law_201 (lv_at hl 6 rfl) ?_
  refine lv_icmp_eq (tgt := 208) hx hb d_L_law_203 (by decide) (fun q => ?_) (fun q => ?_)
  · replace h := h.1 q
    refine lv_iload hx hb d_L_law_208 (lv_at hl 6 rfl) ?_
    refine lv_if_ne (tgt := 232) hx hb d_L_law_210 (by decide) (fun q => ?_) (fun q => ?_)
    · replace h := h.1 q
      exact w_L_law_232 C hcs L xs b hX0 hT _ _ v4 hR kK43 S198 _ _ ls hI (lv_sub hl [1, 2, 3, 4, 5] rfl) h
    · replace h := h.2 q
      refine lv_aload_n hx hb d_L_law_213 rfl (lv_at hl 4 rfl) ?_
      refine lv_iconst (v := 0) hx hb d_L_law_214 (by decide) ?_
      obtain ⟨h1, h⟩ := h
      refine z_lld C hI 50 (by decide) kd_50 h1 d_L_law_215 ?_
      refine lv_iload hx hb d_L_law_216 (lv_at hl 0 rfl) ?_
      refine lv_if_eq (tgt := 225) hx hb d_L_law_218 (by decide) (fun q => ?_) (fun q => ?_)
      · replace h := h.1 q
        refine lv_lconst (v := Int32.toInt64 0) hx hb d_L_law_225 (by decide) ?_
        exact w_L_law_226 C hcs L xs b hX0 hT _ _ v4 0 (S198 50 (z_ix 0)) hR kK43 S198 _ _ ls hI (lv_sub hl [1, 2, 3, 4, 5] rfl) h
      · replace h := h.2 q
        refine lv_lconst (v := Int32.toInt64 1) hx hb d_L_law_221 (by decide) ?_
        refine lv_goto (tgt := 226) hx hb d_L_law_222 (by decide) ?_
        exact w_L_law_226 C hcs L xs b hX0 hT _ _ v4 1 (S198 50 (z_ix 0)) hR kK43 S198 _ _ ls hI (lv_sub hl [1, 2, 3, 4, 5] rfl) h
  · replace h := h.2 q
    refine lv_iconst (v := 0) hx hb d_L_law_206 (by decide) ?_
    exact hR _ _ hcs 0 S198 _ _ 207 ls (by decide) h hI d_L_law_207
set_option maxHeartbeats 4000000 in
set_option maxRecDepth 100000 in
theorem w_L_law_159 (C : z_CT p s m args c R_L b_L_law 7 D cA 51 ad) (hcs : cells ≤ rm_L_law.cells ∧ slots ≤ rm_L_law.slots) (hn1 : cells + 1 ≤ rm_L_law.cells) (hn2 : slots + 6 ≤ rm_L_law.slots) (L : Nat) (xs : Nat → Int32) (b : Nat) (hX0 : z_X0 b L xs 51 ad s) (hT : z_T l (z_fr 51 ad s.heap.size) s) (post : Int32 → zS → Prop) (K43 : Int32 → zS → Prop) (v4 : Int32) (t0 : Int32) (t1 : Int32) (t2 : Int32) (hR : z_Rz p l e rm_L_law s m args below meth c Q b_L_law D cA 51 ad post) (kK43 : ∀ (v4 : Int32) (S : zS) (H : Heap) (locs : List Loc) (ls : Array Slot), K43 v4 S → z_I D cA 51 ad s.heap S H locs → lv_has ls 7 [(0, .ref b), (1, .ref (ad 0)), (2, .ref (ad 31)), (3, .ref (ad 50)), (4, .int v4)] → W p l e rm_L_law s m args below meth c H locs (cells + 1) (slots + 6) Q (F0 m 43 ls [])) (S : zS) (H : Heap) (locs : List Loc) (ls : Array Slot) (hI : z_I D cA 51 ad s.heap S H locs) (hl : lv_has ls 7 [(0, .ref b), (1, .ref (ad 0)), (2, .ref (ad 31)), (3, .ref (ad 50)), (4, .int v4)]) (h : J_L_law_159 L xs post K43 v4 t0 t1 t2 S) : W p l e rm_L_law s m args below meth c H locs cells slots Q (F0 m 159 ls [.int t0, .int t1, .int t2, .ref (ad 0)]) := by
  obtain ⟨hx, hb, hml, hown, hts, hK, hJ⟩ := id C
  unfold J_L_law_159 at h
  refine lv_aload_n hx hb d_L_law_159 rfl (lv_at hl 3 rfl) ?_
  refine z_callSW C hT hI (As := [.ref (ad 0), .int t2, .int t1, .int t0, .ref (ad 50)]) (rest := []) (c_L_put t2 t1 t0 _ _ h) wc_L_put k_ml_L_68 rfl rfl (Nat.le_of_ble_eq_true rfl) (Nat.le_of_ble_eq_true rfl) ⟨by omega, by omega⟩ hl.1 (Nat.le_of_ble_eq_true rfl) rfl d_L_law_160 (fun r160 S160 H locs h hI => ?_)
  have hcs : cells + 1 ≤ rm_L_law.cells ∧ slots + 6 ≤ rm_L_law.slots := ⟨by omega, by omega⟩
  refine lv_istore (lv' := [(5, .int r160), (0, .ref b), (1, .ref (ad 0)), (2, .ref (ad 31)), (3, .ref (ad 50)), (4, .int v4)]) hx hb d_L_law_163 hl (by decide) rfl (fun ls hl => ?_)
  refine lv_aload_n hx hb d_L_law_165 rfl (lv_at hl 3 rfl) ?_
  refine lv_aload_n hx hb d_L_law_166 rfl (lv_at hl 1 rfl) ?_
  refine lv_iload hx hb d_L_law_167 (lv_at hl 5 rfl) ?_
  refine lv_iconst (v := 1) hx hb d_L_law_169 (by decide) ?_
  refine lv_iadd hx hb d_L_law_170 ?_
  obtain ⟨h1, h⟩ := h
  refine z_sld C hI hX0 h1 d_L_law_171 ?_
  refine lv_aload_n hx hb d_L_law_172 rfl (lv_at hl 1 rfl) ?_
  refine lv_iload hx hb d_L_law_173 (lv_at hl 5 rfl) ?_
  refine lv_iconst (v := 2) hx hb d_L_law_175 (by decide) ?_
  refine lv_iadd hx hb d_L_law_176 ?_
  obtain ⟨h1, h⟩ := h
  refine z_sld C hI hX0 h1 d_L_law_177 ?_
  refine lv_aload_n hx hb d_L_law_178 rfl (lv_at hl 1 rfl) ?_
  refine lv_iload hx hb d_L_law_179 (lv_at hl 5 rfl) ?_
  refine lv_iconst (v := 3) hx hb d_L_law_181 (by decide) ?_
  refine lv_iadd hx hb d_L_law_182 ?_
  obtain ⟨h1, h⟩ := h
  refine z_sld C hI hX0 h1 d_L_law_183 ?_
  refine lv_if_eq (tgt := 191) hx hb d_L_law_184 (by decide) (fun q => ?_) (fun q => ?_)
  · replace h := h.1 q
    refine lv_iconst (v := 0) hx hb d_L_law_191 (by decide) ?_
    exact w_L_law_192 C hcs L xs b hX0 hT _ _ v4 r160 0 (xs (z_ix (v4 + 2))) (xs (z_ix (v4 + 1))) hR kK43 S160 _ _ ls hI (lv_sub hl [1, 2, 3, 4, 5, 0] rfl) h
  · replace h := h.2 q
    refine lv_iconst (v := 1) hx hb d_L_law_187 (by decide) ?_
    refine lv_goto (tgt := 192) hx hb d_L_law_188 (by decide) ?_
    exact w_L_law_192 C hcs L xs b hX0 hT _ _ v4 r160 1 (xs (z_ix (v4 + 2))) (xs (z_ix (v4 + 1))) hR kK43 S160 _ _ ls hI (lv_sub hl [1, 2, 3, 4, 5, 0] rfl) h
set_option maxHeartbeats 4000000 in
set_option maxRecDepth 100000 in
theorem w_L_law_352 (C : z_CT p s m args c R_L b_L_law 7 D cA 51 ad) (hcs : cells ≤ rm_L_law.cells ∧ slots ≤ rm_L_law.slots) (L : Nat) (xs : Nat → Int32) (b : Nat) (hX0 : z_X0 b L xs 51 ad s) (hT : z_T l (z_fr 51 ad s.heap.size) s) (post : Int32 → zS → Prop) (K43 : Int32 → zS → Prop) (v4 : Int32) (hR : z_Rz p l e rm_L_law s m args below meth c Q b_L_law D cA 51 ad post) (kK43 : ∀ (v4 : Int32) (S : zS) (H : Heap) (locs : List Loc) (ls : Array Slot), K43 v4 S → z_I D cA 51 ad s.heap S H locs → lv_has ls 7 [(0, .ref b), (1, .ref (ad 0)), (2, .ref (ad 31)), (3, .ref (ad 50)), (4, .int v4)] → W p l e rm_L_law s m args below meth c H locs cells slots Q (F0 m 43 ls [])) (S : zS) (H : Heap) (locs : List Loc) (ls : Array Slot) (hI : z_I D cA 51 ad s.heap S H locs) (hl : lv_has ls 7 [(0, .ref b), (1, .ref (ad 0)), (2, .ref (ad 31)), (3, .ref (ad 50)), (4, .int v4)]) (h : J_L_law_352 L xs post K43 v4 S) : W p l e rm_L_law s m args below meth c H locs cells slots Q (F0 m 352 ls []) := by
  obtain ⟨hx, hb, hml, hown, hts, hK, hJ⟩ := id C
  unfold J_L_law_352 at h
  refine lv_goto (tgt := 1054) hx hb d_L_law_352 (by decide) ?_
  obtain ⟨x1054, e1054⟩ : ∃ y : Int32, y = v4 + 6 := ⟨_, rfl⟩
  replace h := h x1054 e1054
  refine lv_iinc (v := x1054) (lv' := [(4, .int x1054), (0, .ref b), (1, .ref (ad 0)), (2, .ref (ad 31)), (3, .ref (ad 50))]) hx hb d_L_law_1054 hl (k := 4) rfl (by rw [e1054]; rfl) (by decide) rfl (fun ls hl => ?_)
  refine lv_goto (tgt := 43) hx hb d_L_law_1057 (by decide) ?_
  exact kK43 x1054 S _ _ ls h hI (lv_sub hl [1, 2, 3, 4, 0] rfl)
set_option maxHeartbeats 4000000 in
set_option maxRecDepth 100000 in
theorem w_L_law_319 (C : z_CT p s m args c R_L b_L_law 7 D cA 51 ad) (hcs : cells ≤ rm_L_law.cells ∧ slots ≤ rm_L_law.slots) (L : Nat) (xs : Nat → Int32) (b : Nat) (hX0 : z_X0 b L xs 51 ad s) (hT : z_T l (z_fr 51 ad s.heap.size) s) (post : Int32 → zS → Prop) (K43 : Int32 → zS → Prop) (v4 : Int32) (v5 : Int32) (t0 : Int32) (t1 : Int32) (t2 : Int32) (t3 : Int32) (t4 : Int32) (hR : z_Rz p l e rm_L_law s m args below meth c Q b_L_law D cA 51 ad post) (kK43 : ∀ (v4 : Int32) (S : zS) (H : Heap) (locs : List Loc) (ls : Array Slot), K43 v4 S → z_I D cA 51 ad s.heap S H locs → lv_has ls 7 [(0, .ref b), (1, .ref (ad 0)), (2, .ref (ad 31)), (3, .ref (ad 50)), (4, .int v4)] → W p l e rm_L_law s m args below meth c H locs cells slots Q (F0 m 43 ls [])) (S : zS) (H : Heap) (locs : List Loc) (ls : Array Slot) (hI : z_I D cA 51 ad s.heap S H locs) (hl : lv_has ls 7 [(0, .ref b), (1, .ref (ad 0)), (2, .ref (ad 31)), (3, .ref (ad 50)), (4, .int v4), (5, .int v5)]) (h : J_L_law_319 L xs post K43 v4 v5 t0 t1 t2 t3 t4 S) : W p l e rm_L_law s m args below meth c H locs cells slots Q (F0 m 319 ls [.int t0, .int t1, .int t2, .int t3, .int t4, .ref (ad 31)]) := by
  obtain ⟨hx, hb, hml, hown, hts, hK, hJ⟩ := id C
  unfold J_L_law_319 at h
  refine z_callVi C hI 31 (by decide) kd_31 cl_M (As := [.int t4, .int t3, .int t2, .int t1, .int t0]) (rest := []) (c_M_fill t4 t3 t2 t1 t0 _ _ h) wc_M_fill k_ml_L_79 rfl rfl (Nat.le_of_ble_eq_true rfl) (Nat.le_of_ble_eq_true rfl) hcs hl.1 (Nat.le_of_ble_eq_true rfl) rfl d_L_law_319 (fun r319 S319 H locs h hI => ?_)
  refine lv_istore (lv' := [(6, .int r319), (0, .ref b), (1, .ref (ad 0)), (2, .ref (ad 31)), (3, .ref (ad 50)), (4, .int v4), (5, .int v5)]) hx hb d_L_law_322 hl (by decide) rfl (fun ls hl => ?_)
  refine lv_aload_n hx hb d_L_law_324 rfl (lv_at hl 3 rfl) ?_
  refine z_callVi C hI 31 (by decide) kd_31 cl_M (As := []) (rest := []) (c_M_thrown _ _ h) wc_M_thrown k_ml_L_72 rfl rfl (Nat.le_of_ble_eq_true rfl) (Nat.le_of_ble_eq_true rfl) hcs hl.1 (Nat.le_of_ble_eq_true rfl) rfl d_L_law_325 (fun r325 S325 H locs h hI => ?_)
  refine lv_iload hx hb d_L_law_328 (lv_at hl 6 rfl) ?_
  refine lv_icmp_eq (tgt := 335) hx hb d_L_law_330 (by decide) (fun q => ?_) (fun q => ?_)
  · replace h := h.1 q
    refine lv_iload hx hb d_L_law_335 (lv_at hl 6 rfl) ?_
    refine lv_if_ne (tgt := 352) hx hb d_L_law_337 (by decide) (fun q => ?_) (fun q => ?_)
    · replace h := h.1 q
      exact w_L_law_352 C hcs L xs b hX0 hT _ _ v4 hR kK43 S325 _ _ ls hI (lv_sub hl [1, 2, 3, 4, 5] rfl) h
    · replace h := h.2 q
      refine lv_aload_n hx hb d_L_law_340 rfl (lv_at hl 4 rfl) ?_
      refine lv_iconst (v := 0) hx hb d_L_law_341 (by decide) ?_
      obtain ⟨h1, h⟩ := h
      refine z_lld C hI 50 (by decide) kd_50 h1 d_L_law_342 ?_
      refine lv_iload hx hb d_L_law_343 (lv_at hl 0 rfl) ?_
      refine lv_i2l hx hb d_L_law_345 rfl ?_
      refine W.lcmp hx hb d_L_law_346 ?_
      refine lv_if_eq (tgt := 352) hx hb d_L_law_347 (by decide) (fun q => ?_) (fun q => ?_)
      · replace h := h.1 (z_cmp0.mp q)
        exact w_L_law_352 C hcs L xs b hX0 hT _ _ v4 hR kK43 S325 _ _ ls hI (lv_sub hl [1, 2, 3, 4, 5] rfl) h
      · replace h := h.2 (fun z => q (z_cmp0.mpr z))
        refine lv_iconst (v := 0) hx hb d_L_law_350 (by decide) ?_
        exact hR _ _ hcs 0 S325 _ _ 351 ls (by decide) h hI d_L_law_351
  · replace h := h.2 q
    refine lv_iconst (v := 0) hx hb d_L_law_333 (by decide) ?_
    exact hR _ _ hcs 0 S325 _ _ 334 ls (by decide) h hI d_L_law_334
set_option maxHeartbeats 4000000 in
set_option maxRecDepth 100000 in
theorem w_L_law_274 (C : z_CT p s m args c R_L b_L_law 7 D cA 51 ad) (hcs : cells ≤ rm_L_law.cells ∧ slots ≤ rm_L_law.slots) (hn1 : cells + 1 ≤ rm_L_law.cells) (hn2 : slots + 6 ≤ rm_L_law.slots) (L : Nat) (xs : Nat → Int32) (b : Nat) (hX0 : z_X0 b L xs 51 ad s) (hT : z_T l (z_fr 51 ad s.heap.size) s) (post : Int32 → zS → Prop) (K43 : Int32 → zS → Prop) (v4 : Int32) (t0 : Int32) (t1 : Int32) (t2 : Int32) (t3 : Int32) (t4 : Int32) (hR : z_Rz p l e rm_L_law s m args below meth c Q b_L_law D cA 51 ad post) (kK43 : ∀ (v4 : Int32) (S : zS) (H : Heap) (locs : List Loc) (ls : Array Slot), K43 v4 S → z_I D cA 51 ad s.heap S H locs → lv_has ls 7 [(0, .ref b), (1, .ref (ad 0)), (2, .ref (ad 31)), (3, .ref (ad 50)), (4, .int v4)] → W p l e rm_L_law s m args below meth c H locs (cells + 1) (slots + 6) Q (F0 m 43 ls [])) (S : zS) (H : Heap) (locs : List Loc) (ls : Array Slot) (hI : z_I D cA 51 ad s.heap S H locs) (hl : lv_has ls 7 [(0, .ref b), (1, .ref (ad 0)), (2, .ref (ad 31)), (3, .ref (ad 50)), (4, .int v4)]) (h : J_L_law_274 L xs post K43 v4 t0 t1 t2 t3 t4 S) : W p l e rm_L_law s m args below meth c H locs cells slots Q (F0 m 274 ls [.int t0, .int t1, .int t2, .int t3, .int t4, .ref (ad 0)]) := by
  obtain ⟨hx, hb, hml, hown, hts, hK, hJ⟩ := id C
  unfold J_L_law_274 at h
  refine lv_aload_n hx hb d_L_law_274 rfl (lv_at hl 3 rfl) ?_
  refine z_callSW C hT hI (As := [.ref (ad 0), .int t4, .int t3, .int t2, .int t1, .int t0, .ref (ad 50)]) (rest := []) (c_L_fill t4 t3 t2 t1 t0 _ _ h) wc_L_fill k_ml_L_76 rfl rfl (Nat.le_of_ble_eq_true rfl) (Nat.le_of_ble_eq_true rfl) ⟨by omega, by omega⟩ hl.1 (Nat.le_of_ble_eq_true rfl) rfl d_L_law_275 (fun r275 S275 H locs h hI => ?_)
  have hcs : cells + 1 ≤ rm_L_law.cells ∧ slots + 6 ≤ rm_L_law.slots := ⟨by omega, by omega⟩
  refine lv_istore (lv' := [(5, .int r275), (0, .ref b), (1, .ref (ad 0)), (2, .ref (ad 31)), (3, .ref (ad 50)), (4, .int v4)]) hx hb d_L_law_278 hl (by decide) rfl (fun ls hl => ?_)
  refine lv_aload_n hx hb d_L_law_280 rfl (lv_at hl 3 rfl) ?_
  refine lv_aload_n hx hb d_L_law_281 rfl (lv_at hl 1 rfl) ?_
  refine lv_iload hx hb d_L_law_282 (lv_at hl 5 rfl) ?_
  refine lv_iconst (v := 1) hx hb d_L_law_284 (by decide) ?_
  refine lv_iadd hx hb d_L_law_285 ?_
  obtain ⟨h1, h⟩ := h
  refine z_sld C hI hX0 h1 d_L_law_286 ?_
  refine lv_aload_n hx hb d_L_law_287 rfl (lv_at hl 1 rfl) ?_
  refine lv_iload hx hb d_L_law_288 (lv_at hl 5 rfl) ?_
  refine lv_iconst (v := 2) hx hb d_L_law_290 (by decide) ?_
  refine lv_iadd hx hb d_L_law_291 ?_
  obtain ⟨h1, h⟩ := h
  refine z_sld C hI hX0 h1 d_L_law_292 ?_
  refine lv_aload_n hx hb d_L_law_293 rfl (lv_at hl 1 rfl) ?_
  refine lv_iload hx hb d_L_law_294 (lv_at hl 5 rfl) ?_
  refine lv_iconst (v := 3) hx hb d_L_law_296 (by decide) ?_
  refine lv_iadd hx hb d_L_law_297 ?_
  obtain ⟨h1, h⟩ := h
  refine z_sld C hI hX0 h1 d_L_law_298 ?_
  refine lv_aload_n hx hb d_L_law_299 rfl (lv_at hl 1 rfl) ?_
  refine lv_iload hx hb d_L_law_300 (lv_at hl 5 rfl) ?_
  refine lv_iconst (v := 4) hx hb d_L_law_302 (by decide) ?_
  refine lv_iadd hx hb d_L_law_303 ?_
  obtain ⟨h1, h⟩ := h
  refine z_sld C hI hX0 h1 d_L_law_304 ?_
  refine lv_aload_n hx hb d_L_law_305 rfl (lv_at hl 1 rfl) ?_
  refine lv_iload hx hb d_L_law_306 (lv_at hl 5 rfl) ?_
  refine lv_iconst (v := 5) hx hb d_L_law_308 (by decide) ?_
  refine lv_iadd hx hb d_L_law_309 ?_
  obtain ⟨h1, h⟩ := h
  refine z_sld C hI hX0 h1 d_L_law_310 ?_
  refine lv_if_eq (tgt := 318) hx hb d_L_law_311 (by decide) (fun q => ?_) (fun q => ?_)
  · replace h := h.1 q
    refine lv_iconst (v := 0) hx hb d_L_law_318 (by decide) ?_
    exact w_L_law_319 C hcs L xs b hX0 hT _ _ v4 r275 0 (xs (z_ix (v4 + 4))) (xs (z_ix (v4 + 3))) (xs (z_ix (v4 + 2))) (xs (z_ix (v4 + 1))) hR kK43 S275 _ _ ls hI (lv_sub hl [1, 2, 3, 4, 5, 0] rfl) h
  · replace h := h.2 q
    refine lv_iconst (v := 1) hx hb d_L_law_314 (by decide) ?_
    refine lv_goto (tgt := 319) hx hb d_L_law_315 (by decide) ?_
    exact w_L_law_319 C hcs L xs b hX0 hT _ _ v4 r275 1 (xs (z_ix (v4 + 4))) (xs (z_ix (v4 + 3))) (xs (z_ix (v4 + 2))) (xs (z_ix (v4 + 1))) hR kK43 S275 _ _ ls hI (lv_sub hl [1, 2, 3, 4, 5, 0] rfl) h
set_option maxHeartbeats 4000000 in
set_option maxRecDepth 100000 in
theorem w_L_law_408 (C : z_CT p s m args c R_L b_L_law 7 D cA 51 ad) (hcs : cells ≤ rm_L_law.cells ∧ slots ≤ rm_L_law.slots) (L : Nat) (xs : Nat → Int32) (b : Nat) (hX0 : z_X0 b L xs 51 ad s) (hT : z_T l (z_fr 51 ad s.heap.size) s) (post : Int32 → zS → Prop) (K43 : Int32 → zS → Prop) (v4 : Int32) (hR : z_Rz p l e rm_L_law s m args below meth c Q b_L_law D cA 51 ad post) (kK43 : ∀ (v4 : Int32) (S : zS) (H : Heap) (locs : List Loc) (ls : Array Slot), K43 v4 S → z_I D cA 51 ad s.heap S H locs → lv_has ls 7 [(0, .ref b), (1, .ref (ad 0)), (2, .ref (ad 31)), (3, .ref (ad 50)), (4, .int v4)] → W p l e rm_L_law s m args below meth c H locs cells slots Q (F0 m 43 ls [])) (S : zS) (H : Heap) (locs : List Loc) (ls : Array Slot) (hI : z_I D cA 51 ad s.heap S H locs) (hl : lv_has ls 7 [(0, .ref b), (1, .ref (ad 0)), (2, .ref (ad 31)), (3, .ref (ad 50)), (4, .int v4)]) (h : J_L_law_408 L xs post K43 v4 S) : W p l e rm_L_law s m args below meth c H locs cells slots Q (F0 m 408 ls []) := by
  obtain ⟨hx, hb, hml, hown, hts, hK, hJ⟩ := id C
  unfold J_L_law_408 at h
  refine lv_goto (tgt := 1054) hx hb d_L_law_408 (by decide) ?_
  obtain ⟨x1054, e1054⟩ : ∃ y : Int32, y = v4 + 6 := ⟨_, rfl⟩
  replace h := h x1054 e1054
  refine lv_iinc (v := x1054) (lv' := [(4, .int x1054), (0, .ref b), (1, .ref (ad 0)), (2, .ref (ad 31)), (3, .ref (ad 50))]) hx hb d_L_law_1054 hl (k := 4) rfl (by rw [e1054]; rfl) (by decide) rfl (fun ls hl => ?_)
  refine lv_goto (tgt := 43) hx hb d_L_law_1057 (by decide) ?_
  exact kK43 x1054 S _ _ ls h hI (lv_sub hl [1, 2, 3, 4, 0] rfl)
set_option maxHeartbeats 4000000 in
set_option maxRecDepth 100000 in
theorem w_L_law_476 (C : z_CT p s m args c R_L b_L_law 7 D cA 51 ad) (hcs : cells ≤ rm_L_law.cells ∧ slots ≤ rm_L_law.slots) (L : Nat) (xs : Nat → Int32) (b : Nat) (hX0 : z_X0 b L xs 51 ad s) (hT : z_T l (z_fr 51 ad s.heap.size) s) (post : Int32 → zS → Prop) (K43 : Int32 → zS → Prop) (v4 : Int32) (hR : z_Rz p l e rm_L_law s m args below meth c Q b_L_law D cA 51 ad post) (kK43 : ∀ (v4 : Int32) (S : zS) (H : Heap) (locs : List Loc) (ls : Array Slot), K43 v4 S → z_I D cA 51 ad s.heap S H locs → lv_has ls 7 [(0, .ref b), (1, .ref (ad 0)), (2, .ref (ad 31)), (3, .ref (ad 50)), (4, .int v4)] → W p l e rm_L_law s m args below meth c H locs cells slots Q (F0 m 43 ls [])) (S : zS) (H : Heap) (locs : List Loc) (ls : Array Slot) (hI : z_I D cA 51 ad s.heap S H locs) (hl : lv_has ls 7 [(0, .ref b), (1, .ref (ad 0)), (2, .ref (ad 31)), (3, .ref (ad 50)), (4, .int v4)]) (h : J_L_law_476 L xs post K43 v4 S) : W p l e rm_L_law s m args below meth c H locs cells slots Q (F0 m 476 ls []) := by
  obtain ⟨hx, hb, hml, hown, hts, hK, hJ⟩ := id C
  unfold J_L_law_476 at h
  refine lv_goto (tgt := 1054) hx hb d_L_law_476 (by decide) ?_
  obtain ⟨x1054, e1054⟩ : ∃ y : Int32, y = v4 + 6 := ⟨_, rfl⟩
  replace h := h x1054 e1054
  refine lv_iinc (v := x1054) (lv' := [(4, .int x1054), (0, .ref b), (1, .ref (ad 0)), (2, .ref (ad 31)), (3, .ref (ad 50))]) hx hb d_L_law_1054 hl (k := 4) rfl (by rw [e1054]; rfl) (by decide) rfl (fun ls hl => ?_)
  refine lv_goto (tgt := 43) hx hb d_L_law_1057 (by decide) ?_
  exact kK43 x1054 S _ _ ls h hI (lv_sub hl [1, 2, 3, 4, 0] rfl)
set_option maxHeartbeats 4000000 in
set_option maxRecDepth 100000 in
theorem w_L_law_544 (C : z_CT p s m args c R_L b_L_law 7 D cA 51 ad) (hcs : cells ≤ rm_L_law.cells ∧ slots ≤ rm_L_law.slots) (L : Nat) (xs : Nat → Int32) (b : Nat) (hX0 : z_X0 b L xs 51 ad s) (hT : z_T l (z_fr 51 ad s.heap.size) s) (post : Int32 → zS → Prop) (K43 : Int32 → zS → Prop) (v4 : Int32) (hR : z_Rz p l e rm_L_law s m args below meth c Q b_L_law D cA 51 ad post) (kK43 : ∀ (v4 : Int32) (S : zS) (H : Heap) (locs : List Loc) (ls : Array Slot), K43 v4 S → z_I D cA 51 ad s.heap S H locs → lv_has ls 7 [(0, .ref b), (1, .ref (ad 0)), (2, .ref (ad 31)), (3, .ref (ad 50)), (4, .int v4)] → W p l e rm_L_law s m args below meth c H locs cells slots Q (F0 m 43 ls [])) (S : zS) (H : Heap) (locs : List Loc) (ls : Array Slot) (hI : z_I D cA 51 ad s.heap S H locs) (hl : lv_has ls 7 [(0, .ref b), (1, .ref (ad 0)), (2, .ref (ad 31)), (3, .ref (ad 50)), (4, .int v4)]) (h : J_L_law_544 L xs post K43 v4 S) : W p l e rm_L_law s m args below meth c H locs cells slots Q (F0 m 544 ls []) := by
  obtain ⟨hx, hb, hml, hown, hts, hK, hJ⟩ := id C
  unfold J_L_law_544 at h
  refine lv_goto (tgt := 1054) hx hb d_L_law_544 (by decide) ?_
  obtain ⟨x1054, e1054⟩ : ∃ y : Int32, y = v4 + 6 := ⟨_, rfl⟩
  replace h := h x1054 e1054
  refine lv_iinc (v := x1054) (lv' := [(4, .int x1054), (0, .ref b), (1, .ref (ad 0)), (2, .ref (ad 31)), (3, .ref (ad 50))]) hx hb d_L_law_1054 hl (k := 4) rfl (by rw [e1054]; rfl) (by decide) rfl (fun ls hl => ?_)
  refine lv_goto (tgt := 43) hx hb d_L_law_1057 (by decide) ?_
  exact kK43 x1054 S _ _ ls h hI (lv_sub hl [1, 2, 3, 4, 0] rfl)
set_option maxHeartbeats 4000000 in
set_option maxRecDepth 100000 in
theorem w_L_law_612 (C : z_CT p s m args c R_L b_L_law 7 D cA 51 ad) (hcs : cells ≤ rm_L_law.cells ∧ slots ≤ rm_L_law.slots) (L : Nat) (xs : Nat → Int32) (b : Nat) (hX0 : z_X0 b L xs 51 ad s) (hT : z_T l (z_fr 51 ad s.heap.size) s) (post : Int32 → zS → Prop) (K43 : Int32 → zS → Prop) (v4 : Int32) (hR : z_Rz p l e rm_L_law s m args below meth c Q b_L_law D cA 51 ad post) (kK43 : ∀ (v4 : Int32) (S : zS) (H : Heap) (locs : List Loc) (ls : Array Slot), K43 v4 S → z_I D cA 51 ad s.heap S H locs → lv_has ls 7 [(0, .ref b), (1, .ref (ad 0)), (2, .ref (ad 31)), (3, .ref (ad 50)), (4, .int v4)] → W p l e rm_L_law s m args below meth c H locs cells slots Q (F0 m 43 ls [])) (S : zS) (H : Heap) (locs : List Loc) (ls : Array Slot) (hI : z_I D cA 51 ad s.heap S H locs) (hl : lv_has ls 7 [(0, .ref b), (1, .ref (ad 0)), (2, .ref (ad 31)), (3, .ref (ad 50)), (4, .int v4)]) (h : J_L_law_612 L xs post K43 v4 S) : W p l e rm_L_law s m args below meth c H locs cells slots Q (F0 m 612 ls []) := by
  obtain ⟨hx, hb, hml, hown, hts, hK, hJ⟩ := id C
  unfold J_L_law_612 at h
  refine lv_goto (tgt := 1054) hx hb d_L_law_612 (by decide) ?_
  obtain ⟨x1054, e1054⟩ : ∃ y : Int32, y = v4 + 6 := ⟨_, rfl⟩
  replace h := h x1054 e1054
  refine lv_iinc (v := x1054) (lv' := [(4, .int x1054), (0, .ref b), (1, .ref (ad 0)), (2, .ref (ad 31)), (3, .ref (ad 50))]) hx hb d_L_law_1054 hl (k := 4) rfl (by rw [e1054]; rfl) (by decide) rfl (fun ls hl => ?_)
  refine lv_goto (tgt := 43) hx hb d_L_law_1057 (by decide) ?_
  exact kK43 x1054 S _ _ ls h hI (lv_sub hl [1, 2, 3, 4, 0] rfl)
set_option maxHeartbeats 4000000 in
set_option maxRecDepth 100000 in
theorem w_L_law_692 (C : z_CT p s m args c R_L b_L_law 7 D cA 51 ad) (hcs : cells ≤ rm_L_law.cells ∧ slots ≤ rm_L_law.slots) (L : Nat) (xs : Nat → Int32) (b : Nat) (hX0 : z_X0 b L xs 51 ad s) (hT : z_T l (z_fr 51 ad s.heap.size) s) (post : Int32 → zS → Prop) (K43 : Int32 → zS → Prop) (v4 : Int32) (hR : z_Rz p l e rm_L_law s m args below meth c Q b_L_law D cA 51 ad post) (kK43 : ∀ (v4 : Int32) (S : zS) (H : Heap) (locs : List Loc) (ls : Array Slot), K43 v4 S → z_I D cA 51 ad s.heap S H locs → lv_has ls 7 [(0, .ref b), (1, .ref (ad 0)), (2, .ref (ad 31)), (3, .ref (ad 50)), (4, .int v4)] → W p l e rm_L_law s m args below meth c H locs cells slots Q (F0 m 43 ls [])) (S : zS) (H : Heap) (locs : List Loc) (ls : Array Slot) (hI : z_I D cA 51 ad s.heap S H locs) (hl : lv_has ls 7 [(0, .ref b), (1, .ref (ad 0)), (2, .ref (ad 31)), (3, .ref (ad 50)), (4, .int v4)]) (h : J_L_law_692 L xs post K43 v4 S) : W p l e rm_L_law s m args below meth c H locs cells slots Q (F0 m 692 ls []) := by
  obtain ⟨hx, hb, hml, hown, hts, hK, hJ⟩ := id C
  unfold J_L_law_692 at h
  refine lv_goto (tgt := 1054) hx hb d_L_law_692 (by decide) ?_
  obtain ⟨x1054, e1054⟩ : ∃ y : Int32, y = v4 + 6 := ⟨_, rfl⟩
  replace h := h x1054 e1054
  refine lv_iinc (v := x1054) (lv' := [(4, .int x1054), (0, .ref b), (1, .ref (ad 0)), (2, .ref (ad 31)), (3, .ref (ad 50))]) hx hb d_L_law_1054 hl (k := 4) rfl (by rw [e1054]; rfl) (by decide) rfl (fun ls hl => ?_)
  refine lv_goto (tgt := 43) hx hb d_L_law_1057 (by decide) ?_
  exact kK43 x1054 S _ _ ls h hI (lv_sub hl [1, 2, 3, 4, 0] rfl)
set_option maxHeartbeats 4000000 in
set_option maxRecDepth 100000 in
theorem w_L_law_748 (C : z_CT p s m args c R_L b_L_law 7 D cA 51 ad) (hcs : cells ≤ rm_L_law.cells ∧ slots ≤ rm_L_law.slots) (L : Nat) (xs : Nat → Int32) (b : Nat) (hX0 : z_X0 b L xs 51 ad s) (hT : z_T l (z_fr 51 ad s.heap.size) s) (post : Int32 → zS → Prop) (K43 : Int32 → zS → Prop) (v4 : Int32) (hR : z_Rz p l e rm_L_law s m args below meth c Q b_L_law D cA 51 ad post) (kK43 : ∀ (v4 : Int32) (S : zS) (H : Heap) (locs : List Loc) (ls : Array Slot), K43 v4 S → z_I D cA 51 ad s.heap S H locs → lv_has ls 7 [(0, .ref b), (1, .ref (ad 0)), (2, .ref (ad 31)), (3, .ref (ad 50)), (4, .int v4)] → W p l e rm_L_law s m args below meth c H locs cells slots Q (F0 m 43 ls [])) (S : zS) (H : Heap) (locs : List Loc) (ls : Array Slot) (hI : z_I D cA 51 ad s.heap S H locs) (hl : lv_has ls 7 [(0, .ref b), (1, .ref (ad 0)), (2, .ref (ad 31)), (3, .ref (ad 50)), (4, .int v4)]) (h : J_L_law_748 L xs post K43 v4 S) : W p l e rm_L_law s m args below meth c H locs cells slots Q (F0 m 748 ls []) := by
  obtain ⟨hx, hb, hml, hown, hts, hK, hJ⟩ := id C
  unfold J_L_law_748 at h
  refine lv_goto (tgt := 1054) hx hb d_L_law_748 (by decide) ?_
  obtain ⟨x1054, e1054⟩ : ∃ y : Int32, y = v4 + 6 := ⟨_, rfl⟩
  replace h := h x1054 e1054
  refine lv_iinc (v := x1054) (lv' := [(4, .int x1054), (0, .ref b), (1, .ref (ad 0)), (2, .ref (ad 31)), (3, .ref (ad 50))]) hx hb d_L_law_1054 hl (k := 4) rfl (by rw [e1054]; rfl) (by decide) rfl (fun ls hl => ?_)
  refine lv_goto (tgt := 43) hx hb d_L_law_1057 (by decide) ?_
  exact kK43 x1054 S _ _ ls h hI (lv_sub hl [1, 2, 3, 4, 0] rfl)
set_option maxHeartbeats 4000000 in
set_option maxRecDepth 100000 in
theorem w_L_law_816 (C : z_CT p s m args c R_L b_L_law 7 D cA 51 ad) (hcs : cells ≤ rm_L_law.cells ∧ slots ≤ rm_L_law.slots) (L : Nat) (xs : Nat → Int32) (b : Nat) (hX0 : z_X0 b L xs 51 ad s) (hT : z_T l (z_fr 51 ad s.heap.size) s) (post : Int32 → zS → Prop) (K43 : Int32 → zS → Prop) (v4 : Int32) (hR : z_Rz p l e rm_L_law s m args below meth c Q b_L_law D cA 51 ad post) (kK43 : ∀ (v4 : Int32) (S : zS) (H : Heap) (locs : List Loc) (ls : Array Slot), K43 v4 S → z_I D cA 51 ad s.heap S H locs → lv_has ls 7 [(0, .ref b), (1, .ref (ad 0)), (2, .ref (ad 31)), (3, .ref (ad 50)), (4, .int v4)] → W p l e rm_L_law s m args below meth c H locs cells slots Q (F0 m 43 ls [])) (S : zS) (H : Heap) (locs : List Loc) (ls : Array Slot) (hI : z_I D cA 51 ad s.heap S H locs) (hl : lv_has ls 7 [(0, .ref b), (1, .ref (ad 0)), (2, .ref (ad 31)), (3, .ref (ad 50)), (4, .int v4)]) (h : J_L_law_816 L xs post K43 v4 S) : W p l e rm_L_law s m args below meth c H locs cells slots Q (F0 m 816 ls []) := by
  obtain ⟨hx, hb, hml, hown, hts, hK, hJ⟩ := id C
  unfold J_L_law_816 at h
  refine lv_goto (tgt := 1054) hx hb d_L_law_816 (by decide) ?_
  obtain ⟨x1054, e1054⟩ : ∃ y : Int32, y = v4 + 6 := ⟨_, rfl⟩
  replace h := h x1054 e1054
  refine lv_iinc (v := x1054) (lv' := [(4, .int x1054), (0, .ref b), (1, .ref (ad 0)), (2, .ref (ad 31)), (3, .ref (ad 50))]) hx hb d_L_law_1054 hl (k := 4) rfl (by rw [e1054]; rfl) (by decide) rfl (fun ls hl => ?_)
  refine lv_goto (tgt := 43) hx hb d_L_law_1057 (by decide) ?_
  exact kK43 x1054 S _ _ ls h hI (lv_sub hl [1, 2, 3, 4, 0] rfl)
set_option maxHeartbeats 4000000 in
set_option maxRecDepth 100000 in
theorem w_L_law_872 (C : z_CT p s m args c R_L b_L_law 7 D cA 51 ad) (hcs : cells ≤ rm_L_law.cells ∧ slots ≤ rm_L_law.slots) (L : Nat) (xs : Nat → Int32) (b : Nat) (hX0 : z_X0 b L xs 51 ad s) (hT : z_T l (z_fr 51 ad s.heap.size) s) (post : Int32 → zS → Prop) (K43 : Int32 → zS → Prop) (v4 : Int32) (hR : z_Rz p l e rm_L_law s m args below meth c Q b_L_law D cA 51 ad post) (kK43 : ∀ (v4 : Int32) (S : zS) (H : Heap) (locs : List Loc) (ls : Array Slot), K43 v4 S → z_I D cA 51 ad s.heap S H locs → lv_has ls 7 [(0, .ref b), (1, .ref (ad 0)), (2, .ref (ad 31)), (3, .ref (ad 50)), (4, .int v4)] → W p l e rm_L_law s m args below meth c H locs cells slots Q (F0 m 43 ls [])) (S : zS) (H : Heap) (locs : List Loc) (ls : Array Slot) (hI : z_I D cA 51 ad s.heap S H locs) (hl : lv_has ls 7 [(0, .ref b), (1, .ref (ad 0)), (2, .ref (ad 31)), (3, .ref (ad 50)), (4, .int v4)]) (h : J_L_law_872 L xs post K43 v4 S) : W p l e rm_L_law s m args below meth c H locs cells slots Q (F0 m 872 ls []) := by
  obtain ⟨hx, hb, hml, hown, hts, hK, hJ⟩ := id C
  unfold J_L_law_872 at h
  refine lv_goto (tgt := 1054) hx hb d_L_law_872 (by decide) ?_
  obtain ⟨x1054, e1054⟩ : ∃ y : Int32, y = v4 + 6 := ⟨_, rfl⟩
  replace h := h x1054 e1054
  refine lv_iinc (v := x1054) (lv' := [(4, .int x1054), (0, .ref b), (1, .ref (ad 0)), (2, .ref (ad 31)), (3, .ref (ad 50))]) hx hb d_L_law_1054 hl (k := 4) rfl (by rw [e1054]; rfl) (by decide) rfl (fun ls hl => ?_)
  refine lv_goto (tgt := 43) hx hb d_L_law_1057 (by decide) ?_
  exact kK43 x1054 S _ _ ls h hI (lv_sub hl [1, 2, 3, 4, 0] rfl)
set_option maxHeartbeats 4000000 in
set_option maxRecDepth 100000 in
theorem w_L_law_940 (C : z_CT p s m args c R_L b_L_law 7 D cA 51 ad) (hcs : cells ≤ rm_L_law.cells ∧ slots ≤ rm_L_law.slots) (L : Nat) (xs : Nat → Int32) (b : Nat) (hX0 : z_X0 b L xs 51 ad s) (hT : z_T l (z_fr 51 ad s.heap.size) s) (post : Int32 → zS → Prop) (K43 : Int32 → zS → Prop) (v4 : Int32) (hR : z_Rz p l e rm_L_law s m args below meth c Q b_L_law D cA 51 ad post) (kK43 : ∀ (v4 : Int32) (S : zS) (H : Heap) (locs : List Loc) (ls : Array Slot), K43 v4 S → z_I D cA 51 ad s.heap S H locs → lv_has ls 7 [(0, .ref b), (1, .ref (ad 0)), (2, .ref (ad 31)), (3, .ref (ad 50)), (4, .int v4)] → W p l e rm_L_law s m args below meth c H locs cells slots Q (F0 m 43 ls [])) (S : zS) (H : Heap) (locs : List Loc) (ls : Array Slot) (hI : z_I D cA 51 ad s.heap S H locs) (hl : lv_has ls 7 [(0, .ref b), (1, .ref (ad 0)), (2, .ref (ad 31)), (3, .ref (ad 50)), (4, .int v4)]) (h : J_L_law_940 L xs post K43 v4 S) : W p l e rm_L_law s m args below meth c H locs cells slots Q (F0 m 940 ls []) := by
  obtain ⟨hx, hb, hml, hown, hts, hK, hJ⟩ := id C
  unfold J_L_law_940 at h
  refine lv_goto (tgt := 1054) hx hb d_L_law_940 (by decide) ?_
  obtain ⟨x1054, e1054⟩ : ∃ y : Int32, y = v4 + 6 := ⟨_, rfl⟩
  replace h := h x1054 e1054
  refine lv_iinc (v := x1054) (lv' := [(4, .int x1054), (0, .ref b), (1, .ref (ad 0)), (2, .ref (ad 31)), (3, .ref (ad 50))]) hx hb d_L_law_1054 hl (k := 4) rfl (by rw [e1054]; rfl) (by decide) rfl (fun ls hl => ?_)
  refine lv_goto (tgt := 43) hx hb d_L_law_1057 (by decide) ?_
  exact kK43 x1054 S _ _ ls h hI (lv_sub hl [1, 2, 3, 4, 0] rfl)
set_option maxHeartbeats 4000000 in
set_option maxRecDepth 100000 in
theorem w_L_law_1015 (C : z_CT p s m args c R_L b_L_law 7 D cA 51 ad) (hcs : cells ≤ rm_L_law.cells ∧ slots ≤ rm_L_law.slots) (L : Nat) (xs : Nat → Int32) (b : Nat) (hX0 : z_X0 b L xs 51 ad s) (hT : z_T l (z_fr 51 ad s.heap.size) s) (post : Int32 → zS → Prop) (K43 : Int32 → zS → Prop) (v4 : Int32) (hR : z_Rz p l e rm_L_law s m args below meth c Q b_L_law D cA 51 ad post) (kK43 : ∀ (v4 : Int32) (S : zS) (H : Heap) (locs : List Loc) (ls : Array Slot), K43 v4 S → z_I D cA 51 ad s.heap S H locs → lv_has ls 7 [(0, .ref b), (1, .ref (ad 0)), (2, .ref (ad 31)), (3, .ref (ad 50)), (4, .int v4)] → W p l e rm_L_law s m args below meth c H locs cells slots Q (F0 m 43 ls [])) (S : zS) (H : Heap) (locs : List Loc) (ls : Array Slot) (hI : z_I D cA 51 ad s.heap S H locs) (hl : lv_has ls 7 [(0, .ref b), (1, .ref (ad 0)), (2, .ref (ad 31)), (3, .ref (ad 50)), (4, .int v4)]) (h : J_L_law_1015 L xs post K43 v4 S) : W p l e rm_L_law s m args below meth c H locs cells slots Q (F0 m 1015 ls []) := by
  obtain ⟨hx, hb, hml, hown, hts, hK, hJ⟩ := id C
  unfold J_L_law_1015 at h
  refine lv_goto (tgt := 1054) hx hb d_L_law_1015 (by decide) ?_
  obtain ⟨x1054, e1054⟩ : ∃ y : Int32, y = v4 + 6 := ⟨_, rfl⟩
  replace h := h x1054 e1054
  refine lv_iinc (v := x1054) (lv' := [(4, .int x1054), (0, .ref b), (1, .ref (ad 0)), (2, .ref (ad 31)), (3, .ref (ad 50))]) hx hb d_L_law_1054 hl (k := 4) rfl (by rw [e1054]; rfl) (by decide) rfl (fun ls hl => ?_)
  refine lv_goto (tgt := 43) hx hb d_L_law_1057 (by decide) ?_
  exact kK43 x1054 S _ _ ls h hI (lv_sub hl [1, 2, 3, 4, 0] rfl)
set_option maxHeartbeats 4000000 in
set_option maxRecDepth 100000 in
theorem w_L_law_1009 (C : z_CT p s m args c R_L b_L_law 7 D cA 51 ad) (hcs : cells ≤ rm_L_law.cells ∧ slots ≤ rm_L_law.slots) (L : Nat) (xs : Nat → Int32) (b : Nat) (hX0 : z_X0 b L xs 51 ad s) (hT : z_T l (z_fr 51 ad s.heap.size) s) (post : Int32 → zS → Prop) (K43 : Int32 → zS → Prop) (v4 : Int32) (t0 : Int32) (t1 : Int32) (hR : z_Rz p l e rm_L_law s m args below meth c Q b_L_law D cA 51 ad post) (kK43 : ∀ (v4 : Int32) (S : zS) (H : Heap) (locs : List Loc) (ls : Array Slot), K43 v4 S → z_I D cA 51 ad s.heap S H locs → lv_has ls 7 [(0, .ref b), (1, .ref (ad 0)), (2, .ref (ad 31)), (3, .ref (ad 50)), (4, .int v4)] → W p l e rm_L_law s m args below meth c H locs cells slots Q (F0 m 43 ls [])) (S : zS) (H : Heap) (locs : List Loc) (ls : Array Slot) (hI : z_I D cA 51 ad s.heap S H locs) (hl : lv_has ls 7 [(0, .ref b), (1, .ref (ad 0)), (2, .ref (ad 31)), (3, .ref (ad 50)), (4, .int v4)]) (h : J_L_law_1009 L xs post K43 v4 t0 t1 S) : W p l e rm_L_law s m args below meth c H locs cells slots Q (F0 m 1009 ls [.long (Int32.toInt64 t0), .long (Int32.toInt64 t1)]) := by
  obtain ⟨hx, hb, hml, hown, hts, hK, hJ⟩ := id C
  unfold J_L_law_1009 at h
  refine W.lcmp hx hb d_L_law_1009 ?_
  refine lv_if_eq (tgt := 1015) hx hb d_L_law_1010 (by decide) (fun q => ?_) (fun q => ?_)
  · replace h := h.1 (z_cmp0.mp q)
    exact w_L_law_1015 C hcs L xs b hX0 hT _ _ v4 hR kK43 S _ _ ls hI (lv_sub hl [0, 1, 2, 3, 4] rfl) h
  · replace h := h.2 (fun z => q (z_cmp0.mpr z))
    refine lv_iconst (v := 0) hx hb d_L_law_1013 (by decide) ?_
    exact hR _ _ hcs 0 S _ _ 1014 ls (by decide) h hI d_L_law_1014
set_option maxHeartbeats 8000000 in
set_option maxRecDepth 100000 in
theorem w_L_law_43 (C : z_CT p s m args c R_L b_L_law 7 D cA 51 ad) (L : Nat) (xs : Nat → Int32) (b : Nat) (hX0 : z_X0 b L xs 51 ad s) (hT : z_T l (z_fr 51 ad s.heap.size) s) (post : Int32 → zS → Prop) (hR : z_Rz p l e rm_L_law s m args below meth c Q b_L_law D cA 51 ad post) : ∀ (n : Nat) (v4 : Int32) (S : zS) (H : Heap) (locs : List Loc) (ls : Array Slot) (cells slots : Nat), cells + n ≤ rm_L_law.cells ∧ slots + 6 * n ≤ rm_L_law.slots → z_I D cA 51 ad s.heap S H locs → lv_has ls 7 [(0, .ref b), (1, .ref (ad 0)), (2, .ref (ad 31)), (3, .ref (ad 50)), (4, .int v4)] → L_L_law_43 L xs post n v4 S → W p l e rm_L_law s m args below meth c H locs cells slots Q (F0 m 43 ls []) := by
  obtain ⟨hx, hb, hml, hown, hts, hK, hJ⟩ := id C
  intro n
  induction n with
  | zero => intro v4 S H locs ls cells slots hn hI hl h; exact h.elim
  | succ n ih =>
    intro v4 S H locs ls cells slots hn hI hl h
    obtain ⟨hn1, hn2⟩ := hn
    have hcs : cells ≤ rm_L_law.cells ∧ slots ≤ rm_L_law.slots := ⟨by omega, by omega⟩
    rw [L_L_law_43] at h
    refine lv_iload hx hb d_L_law_43 (lv_at hl 4 rfl) ?_
    refine lv_aload_n hx hb d_L_law_45 rfl (lv_at hl 0 rfl) ?_
    refine z_slen C hI hX0 d_L_law_46 ?_
    refine lv_bipush (v := 6) hx hb d_L_law_47 (by decide) ?_
    refine lv_isub hx hb d_L_law_49 ?_
    refine lv_icmp_gt (tgt := 1060) hx hb d_L_law_50 (by decide) (fun q => ?_) (fun q => ?_)
    · replace h := h.1 q
      refine lv_iconst (v := 1) hx hb d_L_law_1060 (by decide) ?_
      exact hR _ _ hcs 1 S _ _ 1061 ls (by decide) h hI d_L_law_1061
    · replace h := h.2 q
      refine lv_aload_n hx hb d_L_law_53 rfl (lv_at hl 0 rfl) ?_
      refine lv_iload hx hb d_L_law_54 (lv_at hl 4 rfl) ?_
      obtain ⟨h1, h⟩ := h
      refine z_sld C hI hX0 h1 d_L_law_56 ?_
      refine lv_bipush (v := 15) hx hb d_L_law_57 (by decide) ?_
      refine lv_iand hx hb d_L_law_59 ?_
      by_cases q : ((xs (z_ix v4)) &&& 15) = 0
      · replace h := h.1 q
        refine lv_tableIn (tgt := 132) hx hb d_L_law_60 (by rw [q]; decide) (by rw [q]; decide) (by rw [q]; rfl) (by decide) ?_
        refine lv_aload_n hx hb d_L_law_132 rfl (lv_at hl 1 rfl) ?_
        refine lv_aload_n hx hb d_L_law_133 rfl (lv_at hl 0 rfl) ?_
        refine lv_iload hx hb d_L_law_134 (lv_at hl 4 rfl) ?_
        refine lv_iconst (v := 1) hx hb d_L_law_136 (by decide) ?_
        refine lv_iadd hx hb d_L_law_137 ?_
        obtain ⟨h1, h⟩ := h
        refine z_sld C hI hX0 h1 d_L_law_138 ?_
        refine lv_aload_n hx hb d_L_law_139 rfl (lv_at hl 0 rfl) ?_
        refine lv_iload hx hb d_L_law_140 (lv_at hl 4 rfl) ?_
        refine lv_iconst (v := 2) hx hb d_L_law_142 (by decide) ?_
        refine lv_iadd hx hb d_L_law_143 ?_
        obtain ⟨h1, h⟩ := h
        refine z_sld C hI hX0 h1 d_L_law_144 ?_
        refine lv_aload_n hx hb d_L_law_145 rfl (lv_at hl 0 rfl) ?_
        refine lv_iload hx hb d_L_law_146 (lv_at hl 4 rfl) ?_
        refine lv_iconst (v := 3) hx hb d_L_law_148 (by decide) ?_
        refine lv_iadd hx hb d_L_law_149 ?_
        obtain ⟨h1, h⟩ := h
        refine z_sld C hI hX0 h1 d_L_law_150 ?_
        refine lv_if_eq (tgt := 158) hx hb d_L_law_151 (by decide) (fun q => ?_) (fun q => ?_)
        · replace h := h.1 q
          refine lv_iconst (v := 0) hx hb d_L_law_158 (by decide) ?_
          exact w_L_law_159 C hcs (by omega) (by omega) L xs b hX0 hT _ _ v4 0 (xs (z_ix (v4 + 2))) (xs (z_ix (v4 + 1))) hR (fun v4 S H locs ls h hI hl => ih v4 S H locs ls (cells + 1) (slots + 6) ⟨by omega, by omega⟩ hI hl h) S _ _ ls hI (lv_sub hl [0, 1, 2, 3, 4] rfl) h
        · replace h := h.2 q
          refine lv_iconst (v := 1) hx hb d_L_law_154 (by decide) ?_
          refine lv_goto (tgt := 159) hx hb d_L_law_155 (by decide) ?_
          exact w_L_law_159 C hcs (by omega) (by omega) L xs b hX0 hT _ _ v4 1 (xs (z_ix (v4 + 2))) (xs (z_ix (v4 + 1))) hR (fun v4 S H locs ls h hI hl => ih v4 S H locs ls (cells + 1) (slots + 6) ⟨by omega, by omega⟩ hI hl h) S _ _ ls hI (lv_sub hl [0, 1, 2, 3, 4] rfl) h
      replace h := h.2
      have q0 := q
      clear q
      by_cases q : ((xs (z_ix v4)) &&& 15) = 1
      · replace h := h.1 q
        refine lv_tableIn (tgt := 235) hx hb d_L_law_60 (by rw [q]; decide) (by rw [q]; decide) (by rw [q]; rfl) (by decide) ?_
        refine lv_aload_n hx hb d_L_law_235 rfl (lv_at hl 1 rfl) ?_
        refine lv_aload_n hx hb d_L_law_236 rfl (lv_at hl 0 rfl) ?_
        refine lv_iload hx hb d_L_law_237 (lv_at hl 4 rfl) ?_
        refine lv_iconst (v := 1) hx hb d_L_law_239 (by decide) ?_
        refine lv_iadd hx hb d_L_law_240 ?_
        obtain ⟨h1, h⟩ := h
        refine z_sld C hI hX0 h1 d_L_law_241 ?_
        refine lv_aload_n hx hb d_L_law_242 rfl (lv_at hl 0 rfl) ?_
        refine lv_iload hx hb d_L_law_243 (lv_at hl 4 rfl) ?_
        refine lv_iconst (v := 2) hx hb d_L_law_245 (by decide) ?_
        refine lv_iadd hx hb d_L_law_246 ?_
        obtain ⟨h1, h⟩ := h
        refine z_sld C hI hX0 h1 d_L_law_247 ?_
        refine lv_aload_n hx hb d_L_law_248 rfl (lv_at hl 0 rfl) ?_
        refine lv_iload hx hb d_L_law_249 (lv_at hl 4 rfl) ?_
        refine lv_iconst (v := 3) hx hb d_L_law_251 (by decide) ?_
        refine lv_iadd hx hb d_L_law_252 ?_
        obtain ⟨h1, h⟩ := h
        refine z_sld C hI hX0 h1 d_L_law_253 ?_
        refine lv_aload_n hx hb d_L_law_254 rfl (lv_at hl 0 rfl) ?_
        refine lv_iload hx hb d_L_law_255 (lv_at hl 4 rfl) ?_
        refine lv_iconst (v := 4) hx hb d_L_law_257 (by decide) ?_
        refine lv_iadd hx hb d_L_law_258 ?_
        obtain ⟨h1, h⟩ := h
        refine z_sld C hI hX0 h1 d_L_law_259 ?_
        refine lv_aload_n hx hb d_L_law_260 rfl (lv_at hl 0 rfl) ?_
        refine lv_iload hx hb d_L_law_261 (lv_at hl 4 rfl) ?_
        refine lv_iconst (v := 5) hx hb d_L_law_263 (by decide) ?_
        refine lv_iadd hx hb d_L_law_264 ?_
        obtain ⟨h1, h⟩ := h
        refine z_sld C hI hX0 h1 d_L_law_265 ?_
        refine lv_if_eq (tgt := 273) hx hb d_L_law_266 (by decide) (fun q => ?_) (fun q => ?_)
        · replace h := h.1 q
          refine lv_iconst (v := 0) hx hb d_L_law_273 (by decide) ?_
          exact w_L_law_274 C hcs (by omega) (by omega) L xs b hX0 hT _ _ v4 0 (xs (z_ix (v4 + 4))) (xs (z_ix (v4 + 3))) (xs (z_ix (v4 + 2))) (xs (z_ix (v4 + 1))) hR (fun v4 S H locs ls h hI hl => ih v4 S H locs ls (cells + 1) (slots + 6) ⟨by omega, by omega⟩ hI hl h) S _ _ ls hI (lv_sub hl [0, 1, 2, 3, 4] rfl) h
        · replace h := h.2 q
          refine lv_iconst (v := 1) hx hb d_L_law_269 (by decide) ?_
          refine lv_goto (tgt := 274) hx hb d_L_law_270 (by decide) ?_
          exact w_L_law_274 C hcs (by omega) (by omega) L xs b hX0 hT _ _ v4 1 (xs (z_ix (v4 + 4))) (xs (z_ix (v4 + 3))) (xs (z_ix (v4 + 2))) (xs (z_ix (v4 + 1))) hR (fun v4 S H locs ls h hI hl => ih v4 S H locs ls (cells + 1) (slots + 6) ⟨by omega, by omega⟩ hI hl h) S _ _ ls hI (lv_sub hl [0, 1, 2, 3, 4] rfl) h
      replace h := h.2
      have q1 := q
      clear q
      by_cases q : ((xs (z_ix v4)) &&& 15) = 2
      · replace h := h.1 q
        refine lv_tableIn (tgt := 355) hx hb d_L_law_60 (by rw [q]; decide) (by rw [q]; decide) (by rw [q]; rfl) (by decide) ?_
        refine lv_aload_n hx hb d_L_law_355 rfl (lv_at hl 1 rfl) ?_
        refine lv_aload_n hx hb d_L_law_356 rfl (lv_at hl 0 rfl) ?_
        refine lv_iload hx hb d_L_law_357 (lv_at hl 4 rfl) ?_
        refine lv_iconst (v := 1) hx hb d_L_law_359 (by decide) ?_
        refine lv_iadd hx hb d_L_law_360 ?_
        obtain ⟨h1, h⟩ := h
        refine z_sld C hI hX0 h1 d_L_law_361 ?_
        refine lv_aload_n hx hb d_L_law_362 rfl (lv_at hl 3 rfl) ?_
        refine z_callSW C hT hI (As := [.ref (ad 0), .int (xs (z_ix (v4 + 1))), .ref (ad 50)]) (rest := []) (c_L_noise (xs (z_ix (v4 + 1))) _ _ h) wc_L_noise k_ml_L_80 rfl rfl (Nat.le_of_ble_eq_true rfl) (Nat.le_of_ble_eq_true rfl) ⟨by omega, by omega⟩ hl.1 (Nat.le_of_ble_eq_true rfl) rfl d_L_law_363 (fun r363 S363 H locs h hI => ?_)
        have hcs : cells + 1 ≤ rm_L_law.cells ∧ slots + 6 ≤ rm_L_law.slots := ⟨by omega, by omega⟩
        refine lv_istore (lv' := [(5, .int r363), (0, .ref b), (1, .ref (ad 0)), (2, .ref (ad 31)), (3, .ref (ad 50)), (4, .int v4)]) hx hb d_L_law_366 hl (by decide) rfl (fun ls hl => ?_)
        refine lv_aload_n hx hb d_L_law_368 rfl (lv_at hl 3 rfl) ?_
        refine lv_aload_n hx hb d_L_law_369 rfl (lv_at hl 1 rfl) ?_
        refine lv_iload hx hb d_L_law_370 (lv_at hl 5 rfl) ?_
        refine lv_iconst (v := 1) hx hb d_L_law_372 (by decide) ?_
        refine lv_iadd hx hb d_L_law_373 ?_
        obtain ⟨h1, h⟩ := h
        refine z_sld C hI hX0 h1 d_L_law_374 ?_
        refine z_callVi C hI 31 (by decide) kd_31 cl_M (As := [.int (xs (z_ix (v4 + 1)))]) (rest := []) (c_M_noise (xs (z_ix (v4 + 1))) _ _ h) wc_M_noise k_ml_L_83 rfl rfl (Nat.le_of_ble_eq_true rfl) (Nat.le_of_ble_eq_true rfl) hcs hl.1 (Nat.le_of_ble_eq_true rfl) rfl d_L_law_375 (fun r375 S375 H locs h hI => ?_)
        refine lv_istore (lv' := [(6, .int r375), (5, .int r363), (0, .ref b), (1, .ref (ad 0)), (2, .ref (ad 31)), (3, .ref (ad 50)), (4, .int v4)]) hx hb d_L_law_378 hl (by decide) rfl (fun ls hl => ?_)
        refine lv_aload_n hx hb d_L_law_380 rfl (lv_at hl 4 rfl) ?_
        refine z_callVi C hI 31 (by decide) kd_31 cl_M (As := []) (rest := []) (c_M_thrown _ _ h) wc_M_thrown k_ml_L_72 rfl rfl (Nat.le_of_ble_eq_true rfl) (Nat.le_of_ble_eq_true rfl) hcs hl.1 (Nat.le_of_ble_eq_true rfl) rfl d_L_law_381 (fun r381 S381 H locs h hI => ?_)
        refine lv_iload hx hb d_L_law_384 (lv_at hl 1 rfl) ?_
        refine lv_icmp_eq (tgt := 391) hx hb d_L_law_386 (by decide) (fun q => ?_) (fun q => ?_)
        · replace h := h.1 q
          refine lv_iload hx hb d_L_law_391 (lv_at hl 1 rfl) ?_
          refine lv_if_ne (tgt := 408) hx hb d_L_law_393 (by decide) (fun q => ?_) (fun q => ?_)
          · replace h := h.1 q
            exact w_L_law_408 C hcs L xs b hX0 hT _ _ v4 hR (fun v4 S H locs ls h hI hl => ih v4 S H locs ls (cells + 1) (slots + 6) ⟨by omega, by omega⟩ hI hl h) S381 _ _ ls hI (lv_sub hl [2, 3, 4, 5, 6] rfl) h
          · replace h := h.2 q
            refine lv_aload_n hx hb d_L_law_396 rfl (lv_at hl 5 rfl) ?_
            refine lv_iconst (v := 0) hx hb d_L_law_397 (by decide) ?_
            obtain ⟨h1, h⟩ := h
            refine z_lld C hI 50 (by decide) kd_50 h1 d_L_law_398 ?_
            refine lv_iload hx hb d_L_law_399 (lv_at hl 0 rfl) ?_
            refine lv_i2l hx hb d_L_law_401 rfl ?_
            refine W.lcmp hx hb d_L_law_402 ?_
            refine lv_if_eq (tgt := 408) hx hb d_L_law_403 (by decide) (fun q => ?_) (fun q => ?_)
            · replace h := h.1 (z_cmp0.mp q)
              exact w_L_law_408 C hcs L xs b hX0 hT _ _ v4 hR (fun v4 S H locs ls h hI hl => ih v4 S H locs ls (cells + 1) (slots + 6) ⟨by omega, by omega⟩ hI hl h) S381 _ _ ls hI (lv_sub hl [2, 3, 4, 5, 6] rfl) h
            · replace h := h.2 (fun z => q (z_cmp0.mpr z))
              refine lv_iconst (v := 0) hx hb d_L_law_406 (by decide) ?_
              exact hR _ _ hcs 0 S381 _ _ 407 ls (by decide) h hI d_L_law_407
        · replace h := h.2 q
          refine lv_iconst (v := 0) hx hb d_L_law_389 (by decide) ?_
          exact hR _ _ hcs 0 S381 _ _ 390 ls (by decide) h hI d_L_law_390
      replace h := h.2
      have q2 := q
      clear q
      by_cases q : ((xs (z_ix v4)) &&& 15) = 3
      · replace h := h.1 q
        refine lv_tableIn (tgt := 411) hx hb d_L_law_60 (by rw [q]; decide) (by rw [q]; decide) (by rw [q]; rfl) (by decide) ?_
        refine lv_aload_n hx hb d_L_law_411 rfl (lv_at hl 1 rfl) ?_
        refine lv_aload_n hx hb d_L_law_412 rfl (lv_at hl 0 rfl) ?_
        refine lv_iload hx hb d_L_law_413 (lv_at hl 4 rfl) ?_
        refine lv_iconst (v := 1) hx hb d_L_law_415 (by decide) ?_
        refine lv_iadd hx hb d_L_law_416 ?_
        obtain ⟨h1, h⟩ := h
        refine z_sld C hI hX0 h1 d_L_law_417 ?_
        refine lv_aload_n hx hb d_L_law_418 rfl (lv_at hl 0 rfl) ?_
        refine lv_iload hx hb d_L_law_419 (lv_at hl 4 rfl) ?_
        refine lv_iconst (v := 2) hx hb d_L_law_421 (by decide) ?_
        refine lv_iadd hx hb d_L_law_422 ?_
        obtain ⟨h1, h⟩ := h
        refine z_sld C hI hX0 h1 d_L_law_423 ?_
        refine lv_aload_n hx hb d_L_law_424 rfl (lv_at hl 3 rfl) ?_
        refine z_callSW C hT hI (As := [.ref (ad 0), .int (xs (z_ix (v4 + 1))), .int (xs (z_ix (v4 + 2))), .ref (ad 50)]) (rest := []) (c_L_run (xs (z_ix (v4 + 1))) (xs (z_ix (v4 + 2))) _ _ h) wc_L_run k_ml_L_84 rfl rfl (Nat.le_of_ble_eq_true rfl) (Nat.le_of_ble_eq_true rfl) ⟨by omega, by omega⟩ hl.1 (Nat.le_of_ble_eq_true rfl) rfl d_L_law_425 (fun r425 S425 H locs h hI => ?_)
        have hcs : cells + 1 ≤ rm_L_law.cells ∧ slots + 6 ≤ rm_L_law.slots := ⟨by omega, by omega⟩
        refine lv_istore (lv' := [(5, .int r425), (0, .ref b), (1, .ref (ad 0)), (2, .ref (ad 31)), (3, .ref (ad 50)), (4, .int v4)]) hx hb d_L_law_428 hl (by decide) rfl (fun ls hl => ?_)
        refine lv_aload_n hx hb d_L_law_430 rfl (lv_at hl 3 rfl) ?_
        refine lv_aload_n hx hb d_L_law_431 rfl (lv_at hl 1 rfl) ?_
        refine lv_iload hx hb d_L_law_432 (lv_at hl 5 rfl) ?_
        refine lv_iconst (v := 1) hx hb d_L_law_434 (by decide) ?_
        refine lv_iadd hx hb d_L_law_435 ?_
        obtain ⟨h1, h⟩ := h
        refine z_sld C hI hX0 h1 d_L_law_436 ?_
        refine lv_aload_n hx hb d_L_law_437 rfl (lv_at hl 1 rfl) ?_
        refine lv_iload hx hb d_L_law_438 (lv_at hl 5 rfl) ?_
        refine lv_iconst (v := 2) hx hb d_L_law_440 (by decide) ?_
        refine lv_iadd hx hb d_L_law_441 ?_
        obtain ⟨h1, h⟩ := h
        refine z_sld C hI hX0 h1 d_L_law_442 ?_
        refine z_callVi C hI 31 (by decide) kd_31 cl_M (As := [.int (xs (z_ix (v4 + 1))), .int (xs (z_ix (v4 + 2)))]) (rest := []) (c_M_run (xs (z_ix (v4 + 1))) (xs (z_ix (v4 + 2))) _ _ h) wc_M_run k_ml_L_87 rfl rfl (Nat.le_of_ble_eq_true rfl) (Nat.le_of_ble_eq_true rfl) hcs hl.1 (Nat.le_of_ble_eq_true rfl) rfl d_L_law_443 (fun r443 S443 H locs h hI => ?_)
        refine lv_istore (lv' := [(6, .int r443), (5, .int r425), (0, .ref b), (1, .ref (ad 0)), (2, .ref (ad 31)), (3, .ref (ad 50)), (4, .int v4)]) hx hb d_L_law_446 hl (by decide) rfl (fun ls hl => ?_)
        refine lv_aload_n hx hb d_L_law_448 rfl (lv_at hl 4 rfl) ?_
        refine z_callVi C hI 31 (by decide) kd_31 cl_M (As := []) (rest := []) (c_M_thrown _ _ h) wc_M_thrown k_ml_L_72 rfl rfl (Nat.le_of_ble_eq_true rfl) (Nat.le_of_ble_eq_true rfl) hcs hl.1 (Nat.le_of_ble_eq_true rfl) rfl d_L_law_449 (fun r449 S449 H locs h hI => ?_)
        refine lv_iload hx hb d_L_law_452 (lv_at hl 1 rfl) ?_
        refine lv_icmp_eq (tgt := 459) hx hb d_L_law_454 (by decide) (fun q => ?_) (fun q => ?_)
        · replace h := h.1 q
          refine lv_iload hx hb d_L_law_459 (lv_at hl 1 rfl) ?_
          refine lv_if_ne (tgt := 476) hx hb d_L_law_461 (by decide) (fun q => ?_) (fun q => ?_)
          · replace h := h.1 q
            exact w_L_law_476 C hcs L xs b hX0 hT _ _ v4 hR (fun v4 S H locs ls h hI hl => ih v4 S H locs ls (cells + 1) (slots + 6) ⟨by omega, by omega⟩ hI hl h) S449 _ _ ls hI (lv_sub hl [2, 3, 4, 5, 6] rfl) h
          · replace h := h.2 q
            refine lv_aload_n hx hb d_L_law_464 rfl (lv_at hl 5 rfl) ?_
            refine lv_iconst (v := 0) hx hb d_L_law_465 (by decide) ?_
            obtain ⟨h1, h⟩ := h
            refine z_lld C hI 50 (by decide) kd_50 h1 d_L_law_466 ?_
            refine lv_iload hx hb d_L_law_467 (lv_at hl 0 rfl) ?_
            refine lv_i2l hx hb d_L_law_469 rfl ?_
            refine W.lcmp hx hb d_L_law_470 ?_
            refine lv_if_eq (tgt := 476) hx hb d_L_law_471 (by decide) (fun q => ?_) (fun q => ?_)
            · replace h := h.1 (z_cmp0.mp q)
              exact w_L_law_476 C hcs L xs b hX0 hT _ _ v4 hR (fun v4 S H locs ls h hI hl => ih v4 S H locs ls (cells + 1) (slots + 6) ⟨by omega, by omega⟩ hI hl h) S449 _ _ ls hI (lv_sub hl [2, 3, 4, 5, 6] rfl) h
            · replace h := h.2 (fun z => q (z_cmp0.mpr z))
              refine lv_iconst (v := 0) hx hb d_L_law_474 (by decide) ?_
              exact hR _ _ hcs 0 S449 _ _ 475 ls (by decide) h hI d_L_law_475
        · replace h := h.2 q
          refine lv_iconst (v := 0) hx hb d_L_law_457 (by decide) ?_
          exact hR _ _ hcs 0 S449 _ _ 458 ls (by decide) h hI d_L_law_458
      replace h := h.2
      have q3 := q
      clear q
      by_cases q : ((xs (z_ix v4)) &&& 15) = 4
      · replace h := h.1 q
        refine lv_tableIn (tgt := 479) hx hb d_L_law_60 (by rw [q]; decide) (by rw [q]; decide) (by rw [q]; rfl) (by decide) ?_
        refine lv_aload_n hx hb d_L_law_479 rfl (lv_at hl 1 rfl) ?_
        refine lv_aload_n hx hb d_L_law_480 rfl (lv_at hl 0 rfl) ?_
        refine lv_iload hx hb d_L_law_481 (lv_at hl 4 rfl) ?_
        refine lv_iconst (v := 1) hx hb d_L_law_483 (by decide) ?_
        refine lv_iadd hx hb d_L_law_484 ?_
        obtain ⟨h1, h⟩ := h
        refine z_sld C hI hX0 h1 d_L_law_485 ?_
        refine lv_aload_n hx hb d_L_law_486 rfl (lv_at hl 0 rfl) ?_
        refine lv_iload hx hb d_L_law_487 (lv_at hl 4 rfl) ?_
        refine lv_iconst (v := 2) hx hb d_L_law_489 (by decide) ?_
        refine lv_iadd hx hb d_L_law_490 ?_
        obtain ⟨h1, h⟩ := h
        refine z_sld C hI hX0 h1 d_L_law_491 ?_
        refine lv_aload_n hx hb d_L_law_492 rfl (lv_at hl 3 rfl) ?_
        refine z_callSW C hT hI (As := [.ref (ad 0), .int (xs (z_ix (v4 + 1))), .int (xs (z_ix (v4 + 2))), .ref (ad 50)]) (rest := []) (c_L_part (xs (z_ix (v4 + 1))) (xs (z_ix (v4 + 2))) _ _ h) wc_L_part k_ml_L_88 rfl rfl (Nat.le_of_ble_eq_true rfl) (Nat.le_of_ble_eq_true rfl) ⟨by omega, by omega⟩ hl.1 (Nat.le_of_ble_eq_true rfl) rfl d_L_law_493 (fun r493 S493 H locs h hI => ?_)
        have hcs : cells + 1 ≤ rm_L_law.cells ∧ slots + 6 ≤ rm_L_law.slots := ⟨by omega, by omega⟩
        refine lv_istore (lv' := [(5, .int r493), (0, .ref b), (1, .ref (ad 0)), (2, .ref (ad 31)), (3, .ref (ad 50)), (4, .int v4)]) hx hb d_L_law_496 hl (by decide) rfl (fun ls hl => ?_)
        refine lv_aload_n hx hb d_L_law_498 rfl (lv_at hl 3 rfl) ?_
        refine lv_aload_n hx hb d_L_law_499 rfl (lv_at hl 1 rfl) ?_
        refine lv_iload hx hb d_L_law_500 (lv_at hl 5 rfl) ?_
        refine lv_iconst (v := 1) hx hb d_L_law_502 (by decide) ?_
        refine lv_iadd hx hb d_L_law_503 ?_
        obtain ⟨h1, h⟩ := h
        refine z_sld C hI hX0 h1 d_L_law_504 ?_
        refine lv_aload_n hx hb d_L_law_505 rfl (lv_at hl 1 rfl) ?_
        refine lv_iload hx hb d_L_law_506 (lv_at hl 5 rfl) ?_
        refine lv_iconst (v := 2) hx hb d_L_law_508 (by decide) ?_
        refine lv_iadd hx hb d_L_law_509 ?_
        obtain ⟨h1, h⟩ := h
        refine z_sld C hI hX0 h1 d_L_law_510 ?_
        refine z_callVi C hI 31 (by decide) kd_31 cl_M (As := [.int (xs (z_ix (v4 + 1))), .int (xs (z_ix (v4 + 2)))]) (rest := []) (c_M_part (xs (z_ix (v4 + 1))) (xs (z_ix (v4 + 2))) _ _ h) wc_M_part k_ml_L_90 rfl rfl (Nat.le_of_ble_eq_true rfl) (Nat.le_of_ble_eq_true rfl) hcs hl.1 (Nat.le_of_ble_eq_true rfl) rfl d_L_law_511 (fun r511 S511 H locs h hI => ?_)
        refine lv_istore (lv' := [(6, .int r511), (5, .int r493), (0, .ref b), (1, .ref (ad 0)), (2, .ref (ad 31)), (3, .ref (ad 50)), (4, .int v4)]) hx hb d_L_law_514 hl (by decide) rfl (fun ls hl => ?_)
        refine lv_aload_n hx hb d_L_law_516 rfl (lv_at hl 4 rfl) ?_
        refine z_callVi C hI 31 (by decide) kd_31 cl_M (As := []) (rest := []) (c_M_thrown _ _ h) wc_M_thrown k_ml_L_72 rfl rfl (Nat.le_of_ble_eq_true rfl) (Nat.le_of_ble_eq_true rfl) hcs hl.1 (Nat.le_of_ble_eq_true rfl) rfl d_L_law_517 (fun r517 S517 H locs h hI => ?_)
        refine lv_iload hx hb d_L_law_520 (lv_at hl 1 rfl) ?_
        refine lv_icmp_eq (tgt := 527) hx hb d_L_law_522 (by decide) (fun q => ?_) (fun q => ?_)
        · replace h := h.1 q
          refine lv_iload hx hb d_L_law_527 (lv_at hl 1 rfl) ?_
          refine lv_if_ne (tgt := 544) hx hb d_L_law_529 (by decide) (fun q => ?_) (fun q => ?_)
          · replace h := h.1 q
            exact w_L_law_544 C hcs L xs b hX0 hT _ _ v4 hR (fun v4 S H locs ls h hI hl => ih v4 S H locs ls (cells + 1) (slots + 6) ⟨by omega, by omega⟩ hI hl h) S517 _ _ ls hI (lv_sub hl [2, 3, 4, 5, 6] rfl) h
          · replace h := h.2 q
            refine lv_aload_n hx hb d_L_law_532 rfl (lv_at hl 5 rfl) ?_
            refine lv_iconst (v := 0) hx hb d_L_law_533 (by decide) ?_
            obtain ⟨h1, h⟩ := h
            refine z_lld C hI 50 (by decide) kd_50 h1 d_L_law_534 ?_
            refine lv_iload hx hb d_L_law_535 (lv_at hl 0 rfl) ?_
            refine lv_i2l hx hb d_L_law_537 rfl ?_
            refine W.lcmp hx hb d_L_law_538 ?_
            refine lv_if_eq (tgt := 544) hx hb d_L_law_539 (by decide) (fun q => ?_) (fun q => ?_)
            · replace h := h.1 (z_cmp0.mp q)
              exact w_L_law_544 C hcs L xs b hX0 hT _ _ v4 hR (fun v4 S H locs ls h hI hl => ih v4 S H locs ls (cells + 1) (slots + 6) ⟨by omega, by omega⟩ hI hl h) S517 _ _ ls hI (lv_sub hl [2, 3, 4, 5, 6] rfl) h
            · replace h := h.2 (fun z => q (z_cmp0.mpr z))
              refine lv_iconst (v := 0) hx hb d_L_law_542 (by decide) ?_
              exact hR _ _ hcs 0 S517 _ _ 543 ls (by decide) h hI d_L_law_543
        · replace h := h.2 q
          refine lv_iconst (v := 0) hx hb d_L_law_525 (by decide) ?_
          exact hR _ _ hcs 0 S517 _ _ 526 ls (by decide) h hI d_L_law_526
      replace h := h.2
      have q4 := q
      clear q
      by_cases q : ((xs (z_ix v4)) &&& 15) = 5
      · replace h := h.1 q
        refine lv_tableIn (tgt := 547) hx hb d_L_law_60 (by rw [q]; decide) (by rw [q]; decide) (by rw [q]; rfl) (by decide) ?_
        refine lv_aload_n hx hb d_L_law_547 rfl (lv_at hl 1 rfl) ?_
        refine lv_aload_n hx hb d_L_law_548 rfl (lv_at hl 0 rfl) ?_
        refine lv_iload hx hb d_L_law_549 (lv_at hl 4 rfl) ?_
        refine lv_iconst (v := 1) hx hb d_L_law_551 (by decide) ?_
        refine lv_iadd hx hb d_L_law_552 ?_
        obtain ⟨h1, h⟩ := h
        refine z_sld C hI hX0 h1 d_L_law_553 ?_
        refine lv_aload_n hx hb d_L_law_554 rfl (lv_at hl 0 rfl) ?_
        refine lv_iload hx hb d_L_law_555 (lv_at hl 4 rfl) ?_
        refine lv_iconst (v := 2) hx hb d_L_law_557 (by decide) ?_
        refine lv_iadd hx hb d_L_law_558 ?_
        obtain ⟨h1, h⟩ := h
        refine z_sld C hI hX0 h1 d_L_law_559 ?_
        refine lv_aload_n hx hb d_L_law_560 rfl (lv_at hl 3 rfl) ?_
        refine z_callSW C hT hI (As := [.ref (ad 0), .int (xs (z_ix (v4 + 1))), .int (xs (z_ix (v4 + 2))), .ref (ad 50)]) (rest := []) (c_L_partOf (xs (z_ix (v4 + 1))) (xs (z_ix (v4 + 2))) _ _ h) wc_L_partOf k_ml_L_91 rfl rfl (Nat.le_of_ble_eq_true rfl) (Nat.le_of_ble_eq_true rfl) ⟨by omega, by omega⟩ hl.1 (Nat.le_of_ble_eq_true rfl) rfl d_L_law_561 (fun r561 S561 H locs h hI => ?_)
        have hcs : cells + 1 ≤ rm_L_law.cells ∧ slots + 6 ≤ rm_L_law.slots := ⟨by omega, by omega⟩
        refine lv_istore (lv' := [(5, .int r561), (0, .ref b), (1, .ref (ad 0)), (2, .ref (ad 31)), (3, .ref (ad 50)), (4, .int v4)]) hx hb d_L_law_564 hl (by decide) rfl (fun ls hl => ?_)
        refine lv_aload_n hx hb d_L_law_566 rfl (lv_at hl 3 rfl) ?_
        refine lv_aload_n hx hb d_L_law_567 rfl (lv_at hl 1 rfl) ?_
        refine lv_iload hx hb d_L_law_568 (lv_at hl 5 rfl) ?_
        refine lv_iconst (v := 1) hx hb d_L_law_570 (by decide) ?_
        refine lv_iadd hx hb d_L_law_571 ?_
        obtain ⟨h1, h⟩ := h
        refine z_sld C hI hX0 h1 d_L_law_572 ?_
        refine lv_aload_n hx hb d_L_law_573 rfl (lv_at hl 1 rfl) ?_
        refine lv_iload hx hb d_L_law_574 (lv_at hl 5 rfl) ?_
        refine lv_iconst (v := 2) hx hb d_L_law_576 (by decide) ?_
        refine lv_iadd hx hb d_L_law_577 ?_
        obtain ⟨h1, h⟩ := h
        refine z_sld C hI hX0 h1 d_L_law_578 ?_
        refine z_callVi C hI 31 (by decide) kd_31 cl_M (As := [.int (xs (z_ix (v4 + 1))), .int (xs (z_ix (v4 + 2)))]) (rest := []) (c_M_partOf (xs (z_ix (v4 + 1))) (xs (z_ix (v4 + 2))) _ _ h) wc_M_partOf k_ml_L_93 rfl rfl (Nat.le_of_ble_eq_true rfl) (Nat.le_of_ble_eq_true rfl) hcs hl.1 (Nat.le_of_ble_eq_true rfl) rfl d_L_law_579 (fun r579 S579 H locs h hI => ?_)
        refine lv_istore (lv' := [(6, .int r579), (5, .int r561), (0, .ref b), (1, .ref (ad 0)), (2, .ref (ad 31)), (3, .ref (ad 50)), (4, .int v4)]) hx hb d_L_law_582 hl (by decide) rfl (fun ls hl => ?_)
        refine lv_aload_n hx hb d_L_law_584 rfl (lv_at hl 4 rfl) ?_
        refine z_callVi C hI 31 (by decide) kd_31 cl_M (As := []) (rest := []) (c_M_thrown _ _ h) wc_M_thrown k_ml_L_72 rfl rfl (Nat.le_of_ble_eq_true rfl) (Nat.le_of_ble_eq_true rfl) hcs hl.1 (Nat.le_of_ble_eq_true rfl) rfl d_L_law_585 (fun r585 S585 H locs h hI => ?_)
        refine lv_iload hx hb d_L_law_588 (lv_at hl 1 rfl) ?_
        refine lv_icmp_eq (tgt := 595) hx hb d_L_law_590 (by decide) (fun q => ?_) (fun q => ?_)
        · replace h := h.1 q
          refine lv_iload hx hb d_L_law_595 (lv_at hl 1 rfl) ?_
          refine lv_if_ne (tgt := 612) hx hb d_L_law_597 (by decide) (fun q => ?_) (fun q => ?_)
          · replace h := h.1 q
            exact w_L_law_612 C hcs L xs b hX0 hT _ _ v4 hR (fun v4 S H locs ls h hI hl => ih v4 S H locs ls (cells + 1) (slots + 6) ⟨by omega, by omega⟩ hI hl h) S585 _ _ ls hI (lv_sub hl [2, 3, 4, 5, 6] rfl) h
          · replace h := h.2 q
            refine lv_aload_n hx hb d_L_law_600 rfl (lv_at hl 5 rfl) ?_
            refine lv_iconst (v := 0) hx hb d_L_law_601 (by decide) ?_
            obtain ⟨h1, h⟩ := h
            refine z_lld C hI 50 (by decide) kd_50 h1 d_L_law_602 ?_
            refine lv_iload hx hb d_L_law_603 (lv_at hl 0 rfl) ?_
            refine lv_i2l hx hb d_L_law_605 rfl ?_
            refine W.lcmp hx hb d_L_law_606 ?_
            refine lv_if_eq (tgt := 612) hx hb d_L_law_607 (by decide) (fun q => ?_) (fun q => ?_)
            · replace h := h.1 (z_cmp0.mp q)
              exact w_L_law_612 C hcs L xs b hX0 hT _ _ v4 hR (fun v4 S H locs ls h hI hl => ih v4 S H locs ls (cells + 1) (slots + 6) ⟨by omega, by omega⟩ hI hl h) S585 _ _ ls hI (lv_sub hl [2, 3, 4, 5, 6] rfl) h
            · replace h := h.2 (fun z => q (z_cmp0.mpr z))
              refine lv_iconst (v := 0) hx hb d_L_law_610 (by decide) ?_
              exact hR _ _ hcs 0 S585 _ _ 611 ls (by decide) h hI d_L_law_611
        · replace h := h.2 q
          refine lv_iconst (v := 0) hx hb d_L_law_593 (by decide) ?_
          exact hR _ _ hcs 0 S585 _ _ 594 ls (by decide) h hI d_L_law_594
      replace h := h.2
      have q5 := q
      clear q
      by_cases q : ((xs (z_ix v4)) &&& 15) = 6
      · replace h := h.1 q
        refine lv_tableIn (tgt := 615) hx hb d_L_law_60 (by rw [q]; decide) (by rw [q]; decide) (by rw [q]; rfl) (by decide) ?_
        refine lv_aload_n hx hb d_L_law_615 rfl (lv_at hl 1 rfl) ?_
        refine lv_aload_n hx hb d_L_law_616 rfl (lv_at hl 0 rfl) ?_
        refine lv_iload hx hb d_L_law_617 (lv_at hl 4 rfl) ?_
        refine lv_iconst (v := 1) hx hb d_L_law_619 (by decide) ?_
        refine lv_iadd hx hb d_L_law_620 ?_
        obtain ⟨h1, h⟩ := h
        refine z_sld C hI hX0 h1 d_L_law_621 ?_
        refine lv_aload_n hx hb d_L_law_622 rfl (lv_at hl 0 rfl) ?_
        refine lv_iload hx hb d_L_law_623 (lv_at hl 4 rfl) ?_
        refine lv_iconst (v := 2) hx hb d_L_law_625 (by decide) ?_
        refine lv_iadd hx hb d_L_law_626 ?_
        obtain ⟨h1, h⟩ := h
        refine z_sld C hI hX0 h1 d_L_law_627 ?_
        refine lv_aload_n hx hb d_L_law_628 rfl (lv_at hl 0 rfl) ?_
        refine lv_iload hx hb d_L_law_629 (lv_at hl 4 rfl) ?_
        refine lv_iconst (v := 3) hx hb d_L_law_631 (by decide) ?_
        refine lv_iadd hx hb d_L_law_632 ?_
        obtain ⟨h1, h⟩ := h
        refine z_sld C hI hX0 h1 d_L_law_633 ?_
        refine lv_aload_n hx hb d_L_law_634 rfl (lv_at hl 3 rfl) ?_
        refine z_callSW C hT hI (As := [.ref (ad 0), .int (xs (z_ix (v4 + 1))), .int (xs (z_ix (v4 + 2))), .int (xs (z_ix (v4 + 3))), .ref (ad 50)]) (rest := []) (c_L_line (xs (z_ix (v4 + 1))) (xs (z_ix (v4 + 2))) (xs (z_ix (v4 + 3))) _ _ h) wc_L_line k_ml_L_94 rfl rfl (Nat.le_of_ble_eq_true rfl) (Nat.le_of_ble_eq_true rfl) ⟨by omega, by omega⟩ hl.1 (Nat.le_of_ble_eq_true rfl) rfl d_L_law_635 (fun r635 S635 H locs h hI => ?_)
        have hcs : cells + 1 ≤ rm_L_law.cells ∧ slots + 6 ≤ rm_L_law.slots := ⟨by omega, by omega⟩
        refine lv_istore (lv' := [(5, .int r635), (0, .ref b), (1, .ref (ad 0)), (2, .ref (ad 31)), (3, .ref (ad 50)), (4, .int v4)]) hx hb d_L_law_638 hl (by decide) rfl (fun ls hl => ?_)
        refine lv_aload_n hx hb d_L_law_640 rfl (lv_at hl 3 rfl) ?_
        refine lv_aload_n hx hb d_L_law_641 rfl (lv_at hl 1 rfl) ?_
        refine lv_iload hx hb d_L_law_642 (lv_at hl 5 rfl) ?_
        refine lv_iconst (v := 1) hx hb d_L_law_644 (by decide) ?_
        refine lv_iadd hx hb d_L_law_645 ?_
        obtain ⟨h1, h⟩ := h
        refine z_sld C hI hX0 h1 d_L_law_646 ?_
        refine lv_aload_n hx hb d_L_law_647 rfl (lv_at hl 1 rfl) ?_
        refine lv_iload hx hb d_L_law_648 (lv_at hl 5 rfl) ?_
        refine lv_iconst (v := 2) hx hb d_L_law_650 (by decide) ?_
        refine lv_iadd hx hb d_L_law_651 ?_
        obtain ⟨h1, h⟩ := h
        refine z_sld C hI hX0 h1 d_L_law_652 ?_
        refine lv_aload_n hx hb d_L_law_653 rfl (lv_at hl 1 rfl) ?_
        refine lv_iload hx hb d_L_law_654 (lv_at hl 5 rfl) ?_
        refine lv_iconst (v := 3) hx hb d_L_law_656 (by decide) ?_
        refine lv_iadd hx hb d_L_law_657 ?_
        obtain ⟨h1, h⟩ := h
        refine z_sld C hI hX0 h1 d_L_law_658 ?_
        refine z_callVi C hI 31 (by decide) kd_31 cl_M (As := [.int (xs (z_ix (v4 + 1))), .int (xs (z_ix (v4 + 2))), .int (xs (z_ix (v4 + 3)))]) (rest := []) (c_M_line (xs (z_ix (v4 + 1))) (xs (z_ix (v4 + 2))) (xs (z_ix (v4 + 3))) _ _ h) wc_M_line k_ml_L_97 rfl rfl (Nat.le_of_ble_eq_true rfl) (Nat.le_of_ble_eq_true rfl) hcs hl.1 (Nat.le_of_ble_eq_true rfl) rfl d_L_law_659 (fun r659 S659 H locs h hI => ?_)
        refine lv_istore (lv' := [(6, .int r659), (5, .int r635), (0, .ref b), (1, .ref (ad 0)), (2, .ref (ad 31)), (3, .ref (ad 50)), (4, .int v4)]) hx hb d_L_law_662 hl (by decide) rfl (fun ls hl => ?_)
        refine lv_aload_n hx hb d_L_law_664 rfl (lv_at hl 4 rfl) ?_
        refine z_callVi C hI 31 (by decide) kd_31 cl_M (As := []) (rest := []) (c_M_thrown _ _ h) wc_M_thrown k_ml_L_72 rfl rfl (Nat.le_of_ble_eq_true rfl) (Nat.le_of_ble_eq_true rfl) hcs hl.1 (Nat.le_of_ble_eq_true rfl) rfl d_L_law_665 (fun r665 S665 H locs h hI => ?_)
        refine lv_iload hx hb d_L_law_668 (lv_at hl 1 rfl) ?_
        refine lv_icmp_eq (tgt := 675) hx hb d_L_law_670 (by decide) (fun q => ?_) (fun q => ?_)
        · replace h := h.1 q
          refine lv_iload hx hb d_L_law_675 (lv_at hl 1 rfl) ?_
          refine lv_if_ne (tgt := 692) hx hb d_L_law_677 (by decide) (fun q => ?_) (fun q => ?_)
          · replace h := h.1 q
            exact w_L_law_692 C hcs L xs b hX0 hT _ _ v4 hR (fun v4 S H locs ls h hI hl => ih v4 S H locs ls (cells + 1) (slots + 6) ⟨by omega, by omega⟩ hI hl h) S665 _ _ ls hI (lv_sub hl [2, 3, 4, 5, 6] rfl) h
          · replace h := h.2 q
            refine lv_aload_n hx hb d_L_law_680 rfl (lv_at hl 5 rfl) ?_
            refine lv_iconst (v := 0) hx hb d_L_law_681 (by decide) ?_
            obtain ⟨h1, h⟩ := h
            refine z_lld C hI 50 (by decide) kd_50 h1 d_L_law_682 ?_
            refine lv_iload hx hb d_L_law_683 (lv_at hl 0 rfl) ?_
            refine lv_i2l hx hb d_L_law_685 rfl ?_
            refine W.lcmp hx hb d_L_law_686 ?_
            refine lv_if_eq (tgt := 692) hx hb d_L_law_687 (by decide) (fun q => ?_) (fun q => ?_)
            · replace h := h.1 (z_cmp0.mp q)
              exact w_L_law_692 C hcs L xs b hX0 hT _ _ v4 hR (fun v4 S H locs ls h hI hl => ih v4 S H locs ls (cells + 1) (slots + 6) ⟨by omega, by omega⟩ hI hl h) S665 _ _ ls hI (lv_sub hl [2, 3, 4, 5, 6] rfl) h
            · replace h := h.2 (fun z => q (z_cmp0.mpr z))
              refine lv_iconst (v := 0) hx hb d_L_law_690 (by decide) ?_
              exact hR _ _ hcs 0 S665 _ _ 691 ls (by decide) h hI d_L_law_691
        · replace h := h.2 q
          refine lv_iconst (v := 0) hx hb d_L_law_673 (by decide) ?_
          exact hR _ _ hcs 0 S665 _ _ 674 ls (by decide) h hI d_L_law_674
      replace h := h.2
      have q6 := q
      clear q
      by_cases q : ((xs (z_ix v4)) &&& 15) = 7
      · replace h := h.1 q
        refine lv_tableIn (tgt := 695) hx hb d_L_law_60 (by rw [q]; decide) (by rw [q]; decide) (by rw [q]; rfl) (by decide) ?_
        refine lv_aload_n hx hb d_L_law_695 rfl (lv_at hl 1 rfl) ?_
        refine lv_aload_n hx hb d_L_law_696 rfl (lv_at hl 0 rfl) ?_
        refine lv_iload hx hb d_L_law_697 (lv_at hl 4 rfl) ?_
        refine lv_iconst (v := 1) hx hb d_L_law_699 (by decide) ?_
        refine lv_iadd hx hb d_L_law_700 ?_
        obtain ⟨h1, h⟩ := h
        refine z_sld C hI hX0 h1 d_L_law_701 ?_
        refine lv_aload_n hx hb d_L_law_702 rfl (lv_at hl 3 rfl) ?_
        refine z_callSW C hT hI (As := [.ref (ad 0), .int (xs (z_ix (v4 + 1))), .ref (ad 50)]) (rest := []) (c_L_order (xs (z_ix (v4 + 1))) _ _ h) wc_L_order k_ml_L_98 rfl rfl (Nat.le_of_ble_eq_true rfl) (Nat.le_of_ble_eq_true rfl) ⟨by omega, by omega⟩ hl.1 (Nat.le_of_ble_eq_true rfl) rfl d_L_law_703 (fun r703 S703 H locs h hI => ?_)
        have hcs : cells + 1 ≤ rm_L_law.cells ∧ slots + 6 ≤ rm_L_law.slots := ⟨by omega, by omega⟩
        refine lv_istore (lv' := [(5, .int r703), (0, .ref b), (1, .ref (ad 0)), (2, .ref (ad 31)), (3, .ref (ad 50)), (4, .int v4)]) hx hb d_L_law_706 hl (by decide) rfl (fun ls hl => ?_)
        refine lv_aload_n hx hb d_L_law_708 rfl (lv_at hl 3 rfl) ?_
        refine lv_aload_n hx hb d_L_law_709 rfl (lv_at hl 1 rfl) ?_
        refine lv_iload hx hb d_L_law_710 (lv_at hl 5 rfl) ?_
        refine lv_iconst (v := 1) hx hb d_L_law_712 (by decide) ?_
        refine lv_iadd hx hb d_L_law_713 ?_
        obtain ⟨h1, h⟩ := h
        refine z_sld C hI hX0 h1 d_L_law_714 ?_
        refine z_callVi C hI 31 (by decide) kd_31 cl_M (As := [.int (xs (z_ix (v4 + 1)))]) (rest := []) (c_M_order (xs (z_ix (v4 + 1))) _ _ h) wc_M_order k_ml_L_100 rfl rfl (Nat.le_of_ble_eq_true rfl) (Nat.le_of_ble_eq_true rfl) hcs hl.1 (Nat.le_of_ble_eq_true rfl) rfl d_L_law_715 (fun r715 S715 H locs h hI => ?_)
        refine lv_istore (lv' := [(6, .int r715), (5, .int r703), (0, .ref b), (1, .ref (ad 0)), (2, .ref (ad 31)), (3, .ref (ad 50)), (4, .int v4)]) hx hb d_L_law_718 hl (by decide) rfl (fun ls hl => ?_)
        refine lv_aload_n hx hb d_L_law_720 rfl (lv_at hl 4 rfl) ?_
        refine z_callVi C hI 31 (by decide) kd_31 cl_M (As := []) (rest := []) (c_M_thrown _ _ h) wc_M_thrown k_ml_L_72 rfl rfl (Nat.le_of_ble_eq_true rfl) (Nat.le_of_ble_eq_true rfl) hcs hl.1 (Nat.le_of_ble_eq_true rfl) rfl d_L_law_721 (fun r721 S721 H locs h hI => ?_)
        refine lv_iload hx hb d_L_law_724 (lv_at hl 1 rfl) ?_
        refine lv_icmp_eq (tgt := 731) hx hb d_L_law_726 (by decide) (fun q => ?_) (fun q => ?_)
        · replace h := h.1 q
          refine lv_iload hx hb d_L_law_731 (lv_at hl 1 rfl) ?_
          refine lv_if_ne (tgt := 748) hx hb d_L_law_733 (by decide) (fun q => ?_) (fun q => ?_)
          · replace h := h.1 q
            exact w_L_law_748 C hcs L xs b hX0 hT _ _ v4 hR (fun v4 S H locs ls h hI hl => ih v4 S H locs ls (cells + 1) (slots + 6) ⟨by omega, by omega⟩ hI hl h) S721 _ _ ls hI (lv_sub hl [2, 3, 4, 5, 6] rfl) h
          · replace h := h.2 q
            refine lv_aload_n hx hb d_L_law_736 rfl (lv_at hl 5 rfl) ?_
            refine lv_iconst (v := 0) hx hb d_L_law_737 (by decide) ?_
            obtain ⟨h1, h⟩ := h
            refine z_lld C hI 50 (by decide) kd_50 h1 d_L_law_738 ?_
            refine lv_iload hx hb d_L_law_739 (lv_at hl 0 rfl) ?_
            refine lv_i2l hx hb d_L_law_741 rfl ?_
            refine W.lcmp hx hb d_L_law_742 ?_
            refine lv_if_eq (tgt := 748) hx hb d_L_law_743 (by decide) (fun q => ?_) (fun q => ?_)
            · replace h := h.1 (z_cmp0.mp q)
              exact w_L_law_748 C hcs L xs b hX0 hT _ _ v4 hR (fun v4 S H locs ls h hI hl => ih v4 S H locs ls (cells + 1) (slots + 6) ⟨by omega, by omega⟩ hI hl h) S721 _ _ ls hI (lv_sub hl [2, 3, 4, 5, 6] rfl) h
            · replace h := h.2 (fun z => q (z_cmp0.mpr z))
              refine lv_iconst (v := 0) hx hb d_L_law_746 (by decide) ?_
              exact hR _ _ hcs 0 S721 _ _ 747 ls (by decide) h hI d_L_law_747
        · replace h := h.2 q
          refine lv_iconst (v := 0) hx hb d_L_law_729 (by decide) ?_
          exact hR _ _ hcs 0 S721 _ _ 730 ls (by decide) h hI d_L_law_730
      replace h := h.2
      have q7 := q
      clear q
      by_cases q : ((xs (z_ix v4)) &&& 15) = 8
      · replace h := h.1 q
        refine lv_tableIn (tgt := 751) hx hb d_L_law_60 (by rw [q]; decide) (by rw [q]; decide) (by rw [q]; rfl) (by decide) ?_
        refine lv_aload_n hx hb d_L_law_751 rfl (lv_at hl 1 rfl) ?_
        refine lv_aload_n hx hb d_L_law_752 rfl (lv_at hl 0 rfl) ?_
        refine lv_iload hx hb d_L_law_753 (lv_at hl 4 rfl) ?_
        refine lv_iconst (v := 1) hx hb d_L_law_755 (by decide) ?_
        refine lv_iadd hx hb d_L_law_756 ?_
        obtain ⟨h1, h⟩ := h
        refine z_sld C hI hX0 h1 d_L_law_757 ?_
        refine lv_aload_n hx hb d_L_law_758 rfl (lv_at hl 0 rfl) ?_
        refine lv_iload hx hb d_L_law_759 (lv_at hl 4 rfl) ?_
        refine lv_iconst (v := 2) hx hb d_L_law_761 (by decide) ?_
        refine lv_iadd hx hb d_L_law_762 ?_
        obtain ⟨h1, h⟩ := h
        refine z_sld C hI hX0 h1 d_L_law_763 ?_
        refine lv_aload_n hx hb d_L_law_764 rfl (lv_at hl 3 rfl) ?_
        refine z_callSW C hT hI (As := [.ref (ad 0), .int (xs (z_ix (v4 + 1))), .int (xs (z_ix (v4 + 2))), .ref (ad 50)]) (rest := []) (c_L_cover (xs (z_ix (v4 + 1))) (xs (z_ix (v4 + 2))) _ _ h) wc_L_cover k_ml_L_101 rfl rfl (Nat.le_of_ble_eq_true rfl) (Nat.le_of_ble_eq_true rfl) ⟨by omega, by omega⟩ hl.1 (Nat.le_of_ble_eq_true rfl) rfl d_L_law_765 (fun r765 S765 H locs h hI => ?_)
        have hcs : cells + 1 ≤ rm_L_law.cells ∧ slots + 6 ≤ rm_L_law.slots := ⟨by omega, by omega⟩
        refine lv_istore (lv' := [(5, .int r765), (0, .ref b), (1, .ref (ad 0)), (2, .ref (ad 31)), (3, .ref (ad 50)), (4, .int v4)]) hx hb d_L_law_768 hl (by decide) rfl (fun ls hl => ?_)
        refine lv_aload_n hx hb d_L_law_770 rfl (lv_at hl 3 rfl) ?_
        refine lv_aload_n hx hb d_L_law_771 rfl (lv_at hl 1 rfl) ?_
        refine lv_iload hx hb d_L_law_772 (lv_at hl 5 rfl) ?_
        refine lv_iconst (v := 1) hx hb d_L_law_774 (by decide) ?_
        refine lv_iadd hx hb d_L_law_775 ?_
        obtain ⟨h1, h⟩ := h
        refine z_sld C hI hX0 h1 d_L_law_776 ?_
        refine lv_aload_n hx hb d_L_law_777 rfl (lv_at hl 1 rfl) ?_
        refine lv_iload hx hb d_L_law_778 (lv_at hl 5 rfl) ?_
        refine lv_iconst (v := 2) hx hb d_L_law_780 (by decide) ?_
        refine lv_iadd hx hb d_L_law_781 ?_
        obtain ⟨h1, h⟩ := h
        refine z_sld C hI hX0 h1 d_L_law_782 ?_
        refine z_callVi C hI 31 (by decide) kd_31 cl_M (As := [.int (xs (z_ix (v4 + 1))), .int (xs (z_ix (v4 + 2)))]) (rest := []) (c_M_cover (xs (z_ix (v4 + 1))) (xs (z_ix (v4 + 2))) _ _ h) wc_M_cover k_ml_L_103 rfl rfl (Nat.le_of_ble_eq_true rfl) (Nat.le_of_ble_eq_true rfl) hcs hl.1 (Nat.le_of_ble_eq_true rfl) rfl d_L_law_783 (fun r783 S783 H locs h hI => ?_)
        refine lv_istore (lv' := [(6, .int r783), (5, .int r765), (0, .ref b), (1, .ref (ad 0)), (2, .ref (ad 31)), (3, .ref (ad 50)), (4, .int v4)]) hx hb d_L_law_786 hl (by decide) rfl (fun ls hl => ?_)
        refine lv_aload_n hx hb d_L_law_788 rfl (lv_at hl 4 rfl) ?_
        refine z_callVi C hI 31 (by decide) kd_31 cl_M (As := []) (rest := []) (c_M_thrown _ _ h) wc_M_thrown k_ml_L_72 rfl rfl (Nat.le_of_ble_eq_true rfl) (Nat.le_of_ble_eq_true rfl) hcs hl.1 (Nat.le_of_ble_eq_true rfl) rfl d_L_law_789 (fun r789 S789 H locs h hI => ?_)
        refine lv_iload hx hb d_L_law_792 (lv_at hl 1 rfl) ?_
        refine lv_icmp_eq (tgt := 799) hx hb d_L_law_794 (by decide) (fun q => ?_) (fun q => ?_)
        · replace h := h.1 q
          refine lv_iload hx hb d_L_law_799 (lv_at hl 1 rfl) ?_
          refine lv_if_ne (tgt := 816) hx hb d_L_law_801 (by decide) (fun q => ?_) (fun q => ?_)
          · replace h := h.1 q
            exact w_L_law_816 C hcs L xs b hX0 hT _ _ v4 hR (fun v4 S H locs ls h hI hl => ih v4 S H locs ls (cells + 1) (slots + 6) ⟨by omega, by omega⟩ hI hl h) S789 _ _ ls hI (lv_sub hl [2, 3, 4, 5, 6] rfl) h
          · replace h := h.2 q
            refine lv_aload_n hx hb d_L_law_804 rfl (lv_at hl 5 rfl) ?_
            refine lv_iconst (v := 0) hx hb d_L_law_805 (by decide) ?_
            obtain ⟨h1, h⟩ := h
            refine z_lld C hI 50 (by decide) kd_50 h1 d_L_law_806 ?_
            refine lv_iload hx hb d_L_law_807 (lv_at hl 0 rfl) ?_
            refine lv_i2l hx hb d_L_law_809 rfl ?_
            refine W.lcmp hx hb d_L_law_810 ?_
            refine lv_if_eq (tgt := 816) hx hb d_L_law_811 (by decide) (fun q => ?_) (fun q => ?_)
            · replace h := h.1 (z_cmp0.mp q)
              exact w_L_law_816 C hcs L xs b hX0 hT _ _ v4 hR (fun v4 S H locs ls h hI hl => ih v4 S H locs ls (cells + 1) (slots + 6) ⟨by omega, by omega⟩ hI hl h) S789 _ _ ls hI (lv_sub hl [2, 3, 4, 5, 6] rfl) h
            · replace h := h.2 (fun z => q (z_cmp0.mpr z))
              refine lv_iconst (v := 0) hx hb d_L_law_814 (by decide) ?_
              exact hR _ _ hcs 0 S789 _ _ 815 ls (by decide) h hI d_L_law_815
        · replace h := h.2 q
          refine lv_iconst (v := 0) hx hb d_L_law_797 (by decide) ?_
          exact hR _ _ hcs 0 S789 _ _ 798 ls (by decide) h hI d_L_law_798
      replace h := h.2
      have q8 := q
      clear q
      by_cases q : ((xs (z_ix v4)) &&& 15) = 9
      · replace h := h.1 q
        refine lv_tableIn (tgt := 819) hx hb d_L_law_60 (by rw [q]; decide) (by rw [q]; decide) (by rw [q]; rfl) (by decide) ?_
        refine lv_aload_n hx hb d_L_law_819 rfl (lv_at hl 1 rfl) ?_
        refine lv_aload_n hx hb d_L_law_820 rfl (lv_at hl 0 rfl) ?_
        refine lv_iload hx hb d_L_law_821 (lv_at hl 4 rfl) ?_
        refine lv_iconst (v := 1) hx hb d_L_law_823 (by decide) ?_
        refine lv_iadd hx hb d_L_law_824 ?_
        obtain ⟨h1, h⟩ := h
        refine z_sld C hI hX0 h1 d_L_law_825 ?_
        refine lv_aload_n hx hb d_L_law_826 rfl (lv_at hl 3 rfl) ?_
        refine z_callSW C hT hI (As := [.ref (ad 0), .int (xs (z_ix (v4 + 1))), .ref (ad 50)]) (rest := []) (c_L_strip (xs (z_ix (v4 + 1))) _ _ h) wc_L_strip k_ml_L_104 rfl rfl (Nat.le_of_ble_eq_true rfl) (Nat.le_of_ble_eq_true rfl) ⟨by omega, by omega⟩ hl.1 (Nat.le_of_ble_eq_true rfl) rfl d_L_law_827 (fun r827 S827 H locs h hI => ?_)
        have hcs : cells + 1 ≤ rm_L_law.cells ∧ slots + 6 ≤ rm_L_law.slots := ⟨by omega, by omega⟩
        refine lv_istore (lv' := [(5, .int r827), (0, .ref b), (1, .ref (ad 0)), (2, .ref (ad 31)), (3, .ref (ad 50)), (4, .int v4)]) hx hb d_L_law_830 hl (by decide) rfl (fun ls hl => ?_)
        refine lv_aload_n hx hb d_L_law_832 rfl (lv_at hl 3 rfl) ?_
        refine lv_aload_n hx hb d_L_law_833 rfl (lv_at hl 1 rfl) ?_
        refine lv_iload hx hb d_L_law_834 (lv_at hl 5 rfl) ?_
        refine lv_iconst (v := 1) hx hb d_L_law_836 (by decide) ?_
        refine lv_iadd hx hb d_L_law_837 ?_
        obtain ⟨h1, h⟩ := h
        refine z_sld C hI hX0 h1 d_L_law_838 ?_
        refine z_callVi C hI 31 (by decide) kd_31 cl_M (As := [.int (xs (z_ix (v4 + 1)))]) (rest := []) (c_M_strip (xs (z_ix (v4 + 1))) _ _ h) wc_M_strip k_ml_L_106 rfl rfl (Nat.le_of_ble_eq_true rfl) (Nat.le_of_ble_eq_true rfl) hcs hl.1 (Nat.le_of_ble_eq_true rfl) rfl d_L_law_839 (fun r839 S839 H locs h hI => ?_)
        refine lv_istore (lv' := [(6, .int r839), (5, .int r827), (0, .ref b), (1, .ref (ad 0)), (2, .ref (ad 31)), (3, .ref (ad 50)), (4, .int v4)]) hx hb d_L_law_842 hl (by decide) rfl (fun ls hl => ?_)
        refine lv_aload_n hx hb d_L_law_844 rfl (lv_at hl 4 rfl) ?_
        refine z_callVi C hI 31 (by decide) kd_31 cl_M (As := []) (rest := []) (c_M_thrown _ _ h) wc_M_thrown k_ml_L_72 rfl rfl (Nat.le_of_ble_eq_true rfl) (Nat.le_of_ble_eq_true rfl) hcs hl.1 (Nat.le_of_ble_eq_true rfl) rfl d_L_law_845 (fun r845 S845 H locs h hI => ?_)
        refine lv_iload hx hb d_L_law_848 (lv_at hl 1 rfl) ?_
        refine lv_icmp_eq (tgt := 855) hx hb d_L_law_850 (by decide) (fun q => ?_) (fun q => ?_)
        · replace h := h.1 q
          refine lv_iload hx hb d_L_law_855 (lv_at hl 1 rfl) ?_
          refine lv_if_ne (tgt := 872) hx hb d_L_law_857 (by decide) (fun q => ?_) (fun q => ?_)
          · replace h := h.1 q
            exact w_L_law_872 C hcs L xs b hX0 hT _ _ v4 hR (fun v4 S H locs ls h hI hl => ih v4 S H locs ls (cells + 1) (slots + 6) ⟨by omega, by omega⟩ hI hl h) S845 _ _ ls hI (lv_sub hl [2, 3, 4, 5, 6] rfl) h
          · replace h := h.2 q
            refine lv_aload_n hx hb d_L_law_860 rfl (lv_at hl 5 rfl) ?_
            refine lv_iconst (v := 0) hx hb d_L_law_861 (by decide) ?_
            obtain ⟨h1, h⟩ := h
            refine z_lld C hI 50 (by decide) kd_50 h1 d_L_law_862 ?_
            refine lv_iload hx hb d_L_law_863 (lv_at hl 0 rfl) ?_
            refine lv_i2l hx hb d_L_law_865 rfl ?_
            refine W.lcmp hx hb d_L_law_866 ?_
            refine lv_if_eq (tgt := 872) hx hb d_L_law_867 (by decide) (fun q => ?_) (fun q => ?_)
            · replace h := h.1 (z_cmp0.mp q)
              exact w_L_law_872 C hcs L xs b hX0 hT _ _ v4 hR (fun v4 S H locs ls h hI hl => ih v4 S H locs ls (cells + 1) (slots + 6) ⟨by omega, by omega⟩ hI hl h) S845 _ _ ls hI (lv_sub hl [2, 3, 4, 5, 6] rfl) h
            · replace h := h.2 (fun z => q (z_cmp0.mpr z))
              refine lv_iconst (v := 0) hx hb d_L_law_870 (by decide) ?_
              exact hR _ _ hcs 0 S845 _ _ 871 ls (by decide) h hI d_L_law_871
        · replace h := h.2 q
          refine lv_iconst (v := 0) hx hb d_L_law_853 (by decide) ?_
          exact hR _ _ hcs 0 S845 _ _ 854 ls (by decide) h hI d_L_law_854
      replace h := h.2
      have q9 := q
      clear q
      by_cases q : ((xs (z_ix v4)) &&& 15) = 10
      · replace h := h.1 q
        refine lv_tableIn (tgt := 875) hx hb d_L_law_60 (by rw [q]; decide) (by rw [q]; decide) (by rw [q]; rfl) (by decide) ?_
        refine lv_aload_n hx hb d_L_law_875 rfl (lv_at hl 1 rfl) ?_
        refine lv_aload_n hx hb d_L_law_876 rfl (lv_at hl 0 rfl) ?_
        refine lv_iload hx hb d_L_law_877 (lv_at hl 4 rfl) ?_
        refine lv_iconst (v := 1) hx hb d_L_law_879 (by decide) ?_
        refine lv_iadd hx hb d_L_law_880 ?_
        obtain ⟨h1, h⟩ := h
        refine z_sld C hI hX0 h1 d_L_law_881 ?_
        refine lv_aload_n hx hb d_L_law_882 rfl (lv_at hl 0 rfl) ?_
        refine lv_iload hx hb d_L_law_883 (lv_at hl 4 rfl) ?_
        refine lv_iconst (v := 2) hx hb d_L_law_885 (by decide) ?_
        refine lv_iadd hx hb d_L_law_886 ?_
        obtain ⟨h1, h⟩ := h
        refine z_sld C hI hX0 h1 d_L_law_887 ?_
        refine lv_aload_n hx hb d_L_law_888 rfl (lv_at hl 3 rfl) ?_
        refine z_callSW C hT hI (As := [.ref (ad 0), .int (xs (z_ix (v4 + 1))), .int (xs (z_ix (v4 + 2))), .ref (ad 50)]) (rest := []) (c_L_cell2 (xs (z_ix (v4 + 1))) (xs (z_ix (v4 + 2))) _ _ h) wc_L_cell2 k_ml_L_107 rfl rfl (Nat.le_of_ble_eq_true rfl) (Nat.le_of_ble_eq_true rfl) ⟨by omega, by omega⟩ hl.1 (Nat.le_of_ble_eq_true rfl) rfl d_L_law_889 (fun r889 S889 H locs h hI => ?_)
        have hcs : cells + 1 ≤ rm_L_law.cells ∧ slots + 6 ≤ rm_L_law.slots := ⟨by omega, by omega⟩
        refine lv_istore (lv' := [(5, .int r889), (0, .ref b), (1, .ref (ad 0)), (2, .ref (ad 31)), (3, .ref (ad 50)), (4, .int v4)]) hx hb d_L_law_892 hl (by decide) rfl (fun ls hl => ?_)
        refine lv_aload_n hx hb d_L_law_894 rfl (lv_at hl 3 rfl) ?_
        refine lv_aload_n hx hb d_L_law_895 rfl (lv_at hl 1 rfl) ?_
        refine lv_iload hx hb d_L_law_896 (lv_at hl 5 rfl) ?_
        refine lv_iconst (v := 1) hx hb d_L_law_898 (by decide) ?_
        refine lv_iadd hx hb d_L_law_899 ?_
        obtain ⟨h1, h⟩ := h
        refine z_sld C hI hX0 h1 d_L_law_900 ?_
        refine lv_aload_n hx hb d_L_law_901 rfl (lv_at hl 1 rfl) ?_
        refine lv_iload hx hb d_L_law_902 (lv_at hl 5 rfl) ?_
        refine lv_iconst (v := 2) hx hb d_L_law_904 (by decide) ?_
        refine lv_iadd hx hb d_L_law_905 ?_
        obtain ⟨h1, h⟩ := h
        refine z_sld C hI hX0 h1 d_L_law_906 ?_
        refine z_callVi C hI 31 (by decide) kd_31 cl_M (As := [.int (xs (z_ix (v4 + 1))), .int (xs (z_ix (v4 + 2)))]) (rest := []) (c_M_cell (xs (z_ix (v4 + 1))) (xs (z_ix (v4 + 2))) _ _ h) wc_M_cell k_ml_L_109 rfl rfl (Nat.le_of_ble_eq_true rfl) (Nat.le_of_ble_eq_true rfl) hcs hl.1 (Nat.le_of_ble_eq_true rfl) rfl d_L_law_907 (fun r907 S907 H locs h hI => ?_)
        refine lv_istore (lv' := [(6, .int r907), (5, .int r889), (0, .ref b), (1, .ref (ad 0)), (2, .ref (ad 31)), (3, .ref (ad 50)), (4, .int v4)]) hx hb d_L_law_910 hl (by decide) rfl (fun ls hl => ?_)
        refine lv_aload_n hx hb d_L_law_912 rfl (lv_at hl 4 rfl) ?_
        refine z_callVi C hI 31 (by decide) kd_31 cl_M (As := []) (rest := []) (c_M_thrown _ _ h) wc_M_thrown k_ml_L_72 rfl rfl (Nat.le_of_ble_eq_true rfl) (Nat.le_of_ble_eq_true rfl) hcs hl.1 (Nat.le_of_ble_eq_true rfl) rfl d_L_law_913 (fun r913 S913 H locs h hI => ?_)
        refine lv_iload hx hb d_L_law_916 (lv_at hl 1 rfl) ?_
        refine lv_icmp_eq (tgt := 923) hx hb d_L_law_918 (by decide) (fun q => ?_) (fun q => ?_)
        · replace h := h.1 q
          refine lv_iload hx hb d_L_law_923 (lv_at hl 1 rfl) ?_
          refine lv_if_ne (tgt := 940) hx hb d_L_law_925 (by decide) (fun q => ?_) (fun q => ?_)
          · replace h := h.1 q
            exact w_L_law_940 C hcs L xs b hX0 hT _ _ v4 hR (fun v4 S H locs ls h hI hl => ih v4 S H locs ls (cells + 1) (slots + 6) ⟨by omega, by omega⟩ hI hl h) S913 _ _ ls hI (lv_sub hl [2, 3, 4, 5, 6] rfl) h
          · replace h := h.2 q
            refine lv_aload_n hx hb d_L_law_928 rfl (lv_at hl 5 rfl) ?_
            refine lv_iconst (v := 0) hx hb d_L_law_929 (by decide) ?_
            obtain ⟨h1, h⟩ := h
            refine z_lld C hI 50 (by decide) kd_50 h1 d_L_law_930 ?_
            refine lv_iload hx hb d_L_law_931 (lv_at hl 0 rfl) ?_
            refine lv_i2l hx hb d_L_law_933 rfl ?_
            refine W.lcmp hx hb d_L_law_934 ?_
            refine lv_if_eq (tgt := 940) hx hb d_L_law_935 (by decide) (fun q => ?_) (fun q => ?_)
            · replace h := h.1 (z_cmp0.mp q)
              exact w_L_law_940 C hcs L xs b hX0 hT _ _ v4 hR (fun v4 S H locs ls h hI hl => ih v4 S H locs ls (cells + 1) (slots + 6) ⟨by omega, by omega⟩ hI hl h) S913 _ _ ls hI (lv_sub hl [2, 3, 4, 5, 6] rfl) h
            · replace h := h.2 (fun z => q (z_cmp0.mpr z))
              refine lv_iconst (v := 0) hx hb d_L_law_938 (by decide) ?_
              exact hR _ _ hcs 0 S913 _ _ 939 ls (by decide) h hI d_L_law_939
        · replace h := h.2 q
          refine lv_iconst (v := 0) hx hb d_L_law_921 (by decide) ?_
          exact hR _ _ hcs 0 S913 _ _ 922 ls (by decide) h hI d_L_law_922
      replace h := h.2
      have q10 := q
      clear q
      by_cases q : ((xs (z_ix v4)) &&& 15) = 11
      · replace h := h.1 q
        refine lv_tableIn (tgt := 943) hx hb d_L_law_60 (by rw [q]; decide) (by rw [q]; decide) (by rw [q]; rfl) (by decide) ?_
        refine lv_aload_n hx hb d_L_law_943 rfl (lv_at hl 1 rfl) ?_
        refine lv_aload_n hx hb d_L_law_944 rfl (lv_at hl 0 rfl) ?_
        refine lv_iload hx hb d_L_law_945 (lv_at hl 4 rfl) ?_
        refine lv_iconst (v := 1) hx hb d_L_law_947 (by decide) ?_
        refine lv_iadd hx hb d_L_law_948 ?_
        obtain ⟨h1, h⟩ := h
        refine z_sld C hI hX0 h1 d_L_law_949 ?_
        refine lv_aload_n hx hb d_L_law_950 rfl (lv_at hl 0 rfl) ?_
        refine lv_iload hx hb d_L_law_951 (lv_at hl 4 rfl) ?_
        refine lv_iconst (v := 2) hx hb d_L_law_953 (by decide) ?_
        refine lv_iadd hx hb d_L_law_954 ?_
        obtain ⟨h1, h⟩ := h
        refine z_sld C hI hX0 h1 d_L_law_955 ?_
        refine lv_aload_n hx hb d_L_law_956 rfl (lv_at hl 3 rfl) ?_
        refine z_callSW C hT hI (As := [.ref (ad 0), .int (xs (z_ix (v4 + 1))), .int (xs (z_ix (v4 + 2))), .ref (ad 50)]) (rest := []) (c_L_isSpeck (xs (z_ix (v4 + 1))) (xs (z_ix (v4 + 2))) _ _ h) wc_L_isSpeck k_ml_L_110 rfl rfl (Nat.le_of_ble_eq_true rfl) (Nat.le_of_ble_eq_true rfl) ⟨by omega, by omega⟩ hl.1 (Nat.le_of_ble_eq_true rfl) rfl d_L_law_957 (fun r957 S957 H locs h hI => ?_)
        have hcs : cells + 1 ≤ rm_L_law.cells ∧ slots + 6 ≤ rm_L_law.slots := ⟨by omega, by omega⟩
        refine lv_istore (lv' := [(5, .int r957), (0, .ref b), (1, .ref (ad 0)), (2, .ref (ad 31)), (3, .ref (ad 50)), (4, .int v4)]) hx hb d_L_law_960 hl (by decide) rfl (fun ls hl => ?_)
        refine lv_aload_n hx hb d_L_law_962 rfl (lv_at hl 3 rfl) ?_
        refine lv_aload_n hx hb d_L_law_963 rfl (lv_at hl 1 rfl) ?_
        refine lv_iload hx hb d_L_law_964 (lv_at hl 5 rfl) ?_
        refine lv_iconst (v := 1) hx hb d_L_law_966 (by decide) ?_
        refine lv_iadd hx hb d_L_law_967 ?_
        obtain ⟨h1, h⟩ := h
        refine z_sld C hI hX0 h1 d_L_law_968 ?_
        refine lv_aload_n hx hb d_L_law_969 rfl (lv_at hl 1 rfl) ?_
        refine lv_iload hx hb d_L_law_970 (lv_at hl 5 rfl) ?_
        refine lv_iconst (v := 2) hx hb d_L_law_972 (by decide) ?_
        refine lv_iadd hx hb d_L_law_973 ?_
        obtain ⟨h1, h⟩ := h
        refine z_sld C hI hX0 h1 d_L_law_974 ?_
        refine z_callVi C hI 31 (by decide) kd_31 cl_M (As := [.int (xs (z_ix (v4 + 1))), .int (xs (z_ix (v4 + 2)))]) (rest := []) (c_M_isSpeck (xs (z_ix (v4 + 1))) (xs (z_ix (v4 + 2))) _ _ h) wc_M_isSpeck k_ml_L_112 rfl rfl (Nat.le_of_ble_eq_true rfl) (Nat.le_of_ble_eq_true rfl) hcs hl.1 (Nat.le_of_ble_eq_true rfl) rfl d_L_law_975 (fun r975 S975 H locs h hI => ?_)
        refine lv_istore (lv' := [(6, .int r975), (5, .int r957), (0, .ref b), (1, .ref (ad 0)), (2, .ref (ad 31)), (3, .ref (ad 50)), (4, .int v4)]) hx hb d_L_law_978 hl (by decide) rfl (fun ls hl => ?_)
        refine lv_aload_n hx hb d_L_law_980 rfl (lv_at hl 4 rfl) ?_
        refine z_callVi C hI 31 (by decide) kd_31 cl_M (As := []) (rest := []) (c_M_thrown _ _ h) wc_M_thrown k_ml_L_72 rfl rfl (Nat.le_of_ble_eq_true rfl) (Nat.le_of_ble_eq_true rfl) hcs hl.1 (Nat.le_of_ble_eq_true rfl) rfl d_L_law_981 (fun r981 S981 H locs h hI => ?_)
        refine lv_iload hx hb d_L_law_984 (lv_at hl 1 rfl) ?_
        refine lv_icmp_eq (tgt := 991) hx hb d_L_law_986 (by decide) (fun q => ?_) (fun q => ?_)
        · replace h := h.1 q
          refine lv_iload hx hb d_L_law_991 (lv_at hl 1 rfl) ?_
          refine lv_if_ne (tgt := 1015) hx hb d_L_law_993 (by decide) (fun q => ?_) (fun q => ?_)
          · replace h := h.1 q
            exact w_L_law_1015 C hcs L xs b hX0 hT _ _ v4 hR (fun v4 S H locs ls h hI hl => ih v4 S H locs ls (cells + 1) (slots + 6) ⟨by omega, by omega⟩ hI hl h) S981 _ _ ls hI (lv_sub hl [2, 3, 4, 5, 6] rfl) h
          · replace h := h.2 q
            refine lv_aload_n hx hb d_L_law_996 rfl (lv_at hl 5 rfl) ?_
            refine lv_iconst (v := 0) hx hb d_L_law_997 (by decide) ?_
            obtain ⟨h1, h⟩ := h
            refine z_lld C hI 50 (by decide) kd_50 h1 d_L_law_998 ?_
            refine lv_iload hx hb d_L_law_999 (lv_at hl 0 rfl) ?_
            refine lv_if_eq (tgt := 1008) hx hb d_L_law_1001 (by decide) (fun q => ?_) (fun q => ?_)
            · replace h := h.1 q
              refine lv_lconst (v := Int32.toInt64 0) hx hb d_L_law_1008 (by decide) ?_
              exact w_L_law_1009 C hcs L xs b hX0 hT _ _ v4 0 (S981 50 (z_ix 0)) hR (fun v4 S H locs ls h hI hl => ih v4 S H locs ls (cells + 1) (slots + 6) ⟨by omega, by omega⟩ hI hl h) S981 _ _ ls hI (lv_sub hl [2, 3, 4, 5, 6] rfl) h
            · replace h := h.2 q
              refine lv_lconst (v := Int32.toInt64 1) hx hb d_L_law_1004 (by decide) ?_
              refine lv_goto (tgt := 1009) hx hb d_L_law_1005 (by decide) ?_
              exact w_L_law_1009 C hcs L xs b hX0 hT _ _ v4 1 (S981 50 (z_ix 0)) hR (fun v4 S H locs ls h hI hl => ih v4 S H locs ls (cells + 1) (slots + 6) ⟨by omega, by omega⟩ hI hl h) S981 _ _ ls hI (lv_sub hl [2, 3, 4, 5, 6] rfl) h
        · replace h := h.2 q
          refine lv_iconst (v := 0) hx hb d_L_law_989 (by decide) ?_
          exact hR _ _ hcs 0 S981 _ _ 990 ls (by decide) h hI d_L_law_990
      replace h := h.2
      have q11 := q
      clear q
      by_cases q : ((xs (z_ix v4)) &&& 15) = 12
      · replace h := h.1 q
        refine lv_tableIn (tgt := 1018) hx hb d_L_law_60 (by rw [q]; decide) (by rw [q]; decide) (by rw [q]; rfl) (by decide) ?_
        refine lv_aload_n hx hb d_L_law_1018 rfl (lv_at hl 1 rfl) ?_
        refine lv_aload_n hx hb d_L_law_1019 rfl (lv_at hl 0 rfl) ?_
        refine lv_iload hx hb d_L_law_1020 (lv_at hl 4 rfl) ?_
        refine lv_iconst (v := 1) hx hb d_L_law_1022 (by decide) ?_
        refine lv_iadd hx hb d_L_law_1023 ?_
        obtain ⟨h1, h⟩ := h
        refine z_sld C hI hX0 h1 d_L_law_1024 ?_
        refine z_callVi C hI 0 (by decide) kd_0 cl_P (As := [.int (xs (z_ix (v4 + 1)))]) (rest := []) (c_P_told (xs (z_ix (v4 + 1))) _ _ h) wc_P_told k_ml_L_113 rfl rfl (Nat.le_of_ble_eq_true rfl) (Nat.le_of_ble_eq_true rfl) hcs hl.1 (Nat.le_of_ble_eq_true rfl) rfl d_L_law_1025 (fun r1025 S1025 H locs h hI => ?_)
        refine lv_aload_n hx hb d_L_law_1028 rfl (lv_at hl 2 rfl) ?_
        refine lv_aload_n hx hb d_L_law_1029 rfl (lv_at hl 0 rfl) ?_
        refine lv_iload hx hb d_L_law_1030 (lv_at hl 4 rfl) ?_
        refine lv_iconst (v := 1) hx hb d_L_law_1032 (by decide) ?_
        refine lv_iadd hx hb d_L_law_1033 ?_
        obtain ⟨h1, h⟩ := h
        refine z_sld C hI hX0 h1 d_L_law_1034 ?_
        refine z_callVi C hI 31 (by decide) kd_31 cl_M (As := [.int (xs (z_ix (v4 + 1)))]) (rest := [.int r1025]) (c_M_told (xs (z_ix (v4 + 1))) _ _ h) wc_M_told k_ml_L_116 rfl rfl (Nat.le_of_ble_eq_true rfl) (Nat.le_of_ble_eq_true rfl) hcs hl.1 (Nat.le_of_ble_eq_true rfl) rfl d_L_law_1035 (fun r1035 S1035 H locs h hI => ?_)
        refine lv_icmp_eq (tgt := 1054) hx hb d_L_law_1038 (by decide) (fun q => ?_) (fun q => ?_)
        · replace h := h.1 q
          obtain ⟨x1054, e1054⟩ : ∃ y : Int32, y = v4 + 6 := ⟨_, rfl⟩
          replace h := h x1054 e1054
          refine lv_iinc (v := x1054) (lv' := [(4, .int x1054), (0, .ref b), (1, .ref (ad 0)), (2, .ref (ad 31)), (3, .ref (ad 50))]) hx hb d_L_law_1054 hl (k := 4) rfl (by rw [e1054]; rfl) (by decide) rfl (fun ls hl => ?_)
          refine lv_goto (tgt := 43) hx hb d_L_law_1057 (by decide) ?_
          refine W.widen (k := cells + 1) (n := slots + 6) (by omega) (by omega) ?_
          exact ih x1054 S1035 _ _ ls (cells + 1) (slots + 6) ⟨by omega, by omega⟩ hI (lv_sub hl [1, 2, 3, 4, 0] rfl) h
        · replace h := h.2 q
          refine lv_iconst (v := 0) hx hb d_L_law_1041 (by decide) ?_
          exact hR _ _ hcs 0 S1035 _ _ 1042 ls (by decide) h hI d_L_law_1042
      replace h := h.2
      have q12 := q
      clear q
      by_cases q : ((xs (z_ix v4)) &&& 15) = 13
      · replace h := h.1 q
        refine lv_tableIn (tgt := 1043) hx hb d_L_law_60 (by rw [q]; decide) (by rw [q]; decide) (by rw [q]; rfl) (by decide) ?_
        refine lv_aload_n hx hb d_L_law_1043 rfl (lv_at hl 1 rfl) ?_
        refine z_callVv C hI 0 (by decide) kd_0 cl_P (As := []) (rest := []) (c_P_clear _ _ h) wc_P_clear k_ml_L_117 rfl rfl (Nat.le_of_ble_eq_true rfl) (Nat.le_of_ble_eq_true rfl) hcs hl.1 (Nat.le_of_ble_eq_true rfl) rfl d_L_law_1044 (fun S1044 H locs h hI => ?_)
        refine lv_aload_n hx hb d_L_law_1047 rfl (lv_at hl 2 rfl) ?_
        refine z_callVv C hI 31 (by decide) kd_31 cl_M (As := []) (rest := []) (c_M_clear _ _ h) wc_M_clear k_ml_L_120 rfl rfl (Nat.le_of_ble_eq_true rfl) (Nat.le_of_ble_eq_true rfl) hcs hl.1 (Nat.le_of_ble_eq_true rfl) rfl d_L_law_1048 (fun S1048 H locs h hI => ?_)
        refine lv_goto (tgt := 1054) hx hb d_L_law_1051 (by decide) ?_
        obtain ⟨x1054, e1054⟩ : ∃ y : Int32, y = v4 + 6 := ⟨_, rfl⟩
        replace h := h x1054 e1054
        refine lv_iinc (v := x1054) (lv' := [(4, .int x1054), (0, .ref b), (1, .ref (ad 0)), (2, .ref (ad 31)), (3, .ref (ad 50))]) hx hb d_L_law_1054 hl (k := 4) rfl (by rw [e1054]; rfl) (by decide) rfl (fun ls hl => ?_)
        refine lv_goto (tgt := 43) hx hb d_L_law_1057 (by decide) ?_
        refine W.widen (k := cells + 1) (n := slots + 6) (by omega) (by omega) ?_
        exact ih x1054 S1048 _ _ ls (cells + 1) (slots + 6) ⟨by omega, by omega⟩ hI (lv_sub hl [1, 2, 3, 4, 0] rfl) h
      replace h := h.2
      have q13 := q
      clear q
      replace h := h q0 q1 q2 q3 q4 q5 q6 q7 q8 q9 q10 q11 q12 q13
      refine lv_tableOut (tgt := 1054) hx hb d_L_law_60 (by have a0 := lv_neT (a := 0) q0 (by decide); have a1 := lv_neT (a := 1) q1 (by decide); have a2 := lv_neT (a := 2) q2 (by decide); have a3 := lv_neT (a := 3) q3 (by decide); have a4 := lv_neT (a := 4) q4 (by decide); have a5 := lv_neT (a := 5) q5 (by decide); have a6 := lv_neT (a := 6) q6 (by decide); have a7 := lv_neT (a := 7) q7 (by decide); have a8 := lv_neT (a := 8) q8 (by decide); have a9 := lv_neT (a := 9) q9 (by decide); have a10 := lv_neT (a := 10) q10 (by decide); have a11 := lv_neT (a := 11) q11 (by decide); have a12 := lv_neT (a := 12) q12 (by decide); have a13 := lv_neT (a := 13) q13 (by decide); omega) (by decide) ?_
      obtain ⟨x1054, e1054⟩ : ∃ y : Int32, y = v4 + 6 := ⟨_, rfl⟩
      replace h := h x1054 e1054
      refine lv_iinc (v := x1054) (lv' := [(4, .int x1054), (0, .ref b), (1, .ref (ad 0)), (2, .ref (ad 31)), (3, .ref (ad 50))]) hx hb d_L_law_1054 hl (k := 4) rfl (by rw [e1054]; rfl) (by decide) rfl (fun ls hl => ?_)
      refine lv_goto (tgt := 43) hx hb d_L_law_1057 (by decide) ?_
      refine W.widen (k := cells + 1) (n := slots + 6) (by omega) (by omega) ?_
      exact ih x1054 S _ _ ls (cells + 1) (slots + 6) ⟨by omega, by omega⟩ hI (lv_sub hl [1, 2, 3, 4, 0] rfl) h
end ZW
