section ZW
variable {p : Program} {l : Launch} {e : Env} {s : State} {m : MethodId} {args : Array Value} {below : List Frame} {meth : Method} {c : Code} {cells slots : Nat} {Q : State → Prop} {D : va_G} {cA : Nat → ClassId} {n : Nat} {ad : Nat → Nat}
set_option maxHeartbeats 4000000 in
set_option maxRecDepth 100000 in
theorem w_M_kindOf_197 (C : z_CT p s m args c R_M b_M_kindOf 9 D cA 51 ad) (hcs : cells ≤ rm_M_kindOf.cells ∧ slots ≤ rm_M_kindOf.slots) (post : Int32 → zS → Prop) (v1 : Int32) (v2 : Int32) (v3 : Int32) (v4 : Int32) (v5 : Int32) (v6 : Int32) (hR : z_Ri p l e rm_M_kindOf s m args below meth c Q b_M_kindOf D cA 51 ad post) (S : zS) (H : Heap) (locs : List Loc) (ls : Array Slot) (hI : z_I D cA 51 ad s.heap S H locs) (hl : lv_has ls 9 [(0, .ref (ad 31)), (1, .int v1), (2, .int v2), (3, .int v3), (4, .int v4), (5, .int v5), (6, .int v6)]) (h : J_M_kindOf_197 post v1 v2 v3 v4 v5 v6 S) : W p l e rm_M_kindOf s m args below meth c H locs cells slots Q (F0 m 197 ls []) := by
  obtain ⟨hx, hb, hml, hown, hts, hK, hJ⟩ := id C
  unfold J_M_kindOf_197 at h
  refine lv_iconst (v := 2) hx hb d_M_kindOf_197 (by decide) ?_
  refine lv_aload_n hx hb d_M_kindOf_198 rfl (lv_at hl 0 rfl) ?_
  refine lv_iload_n hx hb d_M_kindOf_199 rfl (lv_at hl 1 rfl) ?_
  refine lv_iload_n hx hb d_M_kindOf_200 rfl (lv_at hl 2 rfl) ?_
  refine lv_iload_n hx hb d_M_kindOf_201 rfl (lv_at hl 3 rfl) ?_
  refine lv_iload hx hb d_M_kindOf_202 (lv_at hl 4 rfl) ?_
  refine lv_iconst (v := (-1)) hx hb d_M_kindOf_204 (by decide) ?_
  refine z_callVi C hI 31 (by decide) kd_31 cl_M (As := [.int v1, .int v2, .int v3, .int v4, .int (-1)]) (rest := [.int 2]) (c_M_cleanIn v1 v2 v3 v4 (-1) _ _ h) wc_M_cleanIn k_ml_M_123 rfl rfl (Nat.le_of_ble_eq_true rfl) (Nat.le_of_ble_eq_true rfl) hcs hl.1 (Nat.le_of_ble_eq_true rfl) rfl d_M_kindOf_205 (fun r205 S205 H locs h hI => ?_)
  refine lv_imul hx hb d_M_kindOf_208 ?_
  refine lv_iload hx hb d_M_kindOf_209 (lv_at hl 5 rfl) ?_
  refine lv_iload hx hb d_M_kindOf_211 (lv_at hl 6 rfl) ?_
  refine lv_imul hx hb d_M_kindOf_213 ?_
  refine lv_icmp_lt (tgt := 221) hx hb d_M_kindOf_214 (by decide) (fun q => ?_) (fun q => ?_)
  · replace h := h.1 q
    refine lv_iconst (v := 0) hx hb d_M_kindOf_221 (by decide) ?_
    exact hR _ _ hcs 0 S205 _ _ 222 ls h hI d_M_kindOf_222
  · replace h := h.2 q
    refine lv_iconst (v := 2) hx hb d_M_kindOf_217 (by decide) ?_
    refine lv_goto (tgt := 222) hx hb d_M_kindOf_218 (by decide) ?_
    exact hR _ _ hcs 2 S205 _ _ 222 ls h hI d_M_kindOf_222
set_option maxHeartbeats 4000000 in
set_option maxRecDepth 100000 in
theorem w_M_kindOf_151 (C : z_CT p s m args c R_M b_M_kindOf 9 D cA 51 ad) (hcs : cells ≤ rm_M_kindOf.cells ∧ slots ≤ rm_M_kindOf.slots) (post : Int32 → zS → Prop) (v1 : Int32) (v2 : Int32) (v3 : Int32) (v4 : Int32) (v5 : Int32) (v6 : Int32) (v7 : Int32) (t0 : Int32) (hR : z_Ri p l e rm_M_kindOf s m args below meth c Q b_M_kindOf D cA 51 ad post) (S : zS) (H : Heap) (locs : List Loc) (ls : Array Slot) (hI : z_I D cA 51 ad s.heap S H locs) (hl : lv_has ls 9 [(0, .ref (ad 31)), (1, .int v1), (2, .int v2), (3, .int v3), (4, .int v4), (5, .int v5), (6, .int v6), (7, .int v7)]) (h : J_M_kindOf_151 post v1 v2 v3 v4 v5 v6 v7 t0 S) : W p l e rm_M_kindOf s m args below meth c H locs cells slots Q (F0 m 151 ls [.int t0]) := by
  obtain ⟨hx, hb, hml, hown, hts, hK, hJ⟩ := id C
  unfold J_M_kindOf_151 at h
  refine lv_istore (lv' := [(8, .int t0), (0, .ref (ad 31)), (1, .int v1), (2, .int v2), (3, .int v3), (4, .int v4), (5, .int v5), (6, .int v6), (7, .int v7)]) hx hb d_M_kindOf_151 hl (by decide) rfl (fun ls hl => ?_)
  refine lv_iload hx hb d_M_kindOf_153 (lv_at hl 8 rfl) ?_
  refine lv_if_eq (tgt := 197) hx hb d_M_kindOf_155 (by decide) (fun q => ?_) (fun q => ?_)
  · replace h := h.1 q
    exact w_M_kindOf_197 C hcs _ v1 v2 v3 v4 v5 v6 hR S _ _ ls hI (lv_sub hl [1, 2, 3, 4, 5, 6, 7] rfl) h
  · replace h := h.2 q
    refine lv_iload hx hb d_M_kindOf_158 (lv_at hl 0 rfl) ?_
    refine lv_if_eq (tgt := 197) hx hb d_M_kindOf_160 (by decide) (fun q => ?_) (fun q => ?_)
    · replace h := h.1 q
      exact w_M_kindOf_197 C hcs _ v1 v2 v3 v4 v5 v6 hR S _ _ ls hI (lv_sub hl [1, 2, 3, 4, 5, 6, 7] rfl) h
    · replace h := h.2 q
      refine lv_iconst (v := 4) hx hb d_M_kindOf_163 (by decide) ?_
      refine lv_aload_n hx hb d_M_kindOf_164 rfl (lv_at hl 1 rfl) ?_
      refine lv_iload_n hx hb d_M_kindOf_165 rfl (lv_at hl 2 rfl) ?_
      refine lv_iconst (v := 1) hx hb d_M_kindOf_166 (by decide) ?_
      refine lv_iadd hx hb d_M_kindOf_167 ?_
      refine lv_iload_n hx hb d_M_kindOf_168 rfl (lv_at hl 3 rfl) ?_
      refine lv_iconst (v := 1) hx hb d_M_kindOf_169 (by decide) ?_
      refine lv_iadd hx hb d_M_kindOf_170 ?_
      refine lv_iload_n hx hb d_M_kindOf_171 rfl (lv_at hl 4 rfl) ?_
      refine lv_iconst (v := 1) hx hb d_M_kindOf_172 (by decide) ?_
      refine lv_isub hx hb d_M_kindOf_173 ?_
      refine lv_iload hx hb d_M_kindOf_174 (lv_at hl 5 rfl) ?_
      refine lv_iconst (v := 1) hx hb d_M_kindOf_176 (by decide) ?_
      refine lv_isub hx hb d_M_kindOf_177 ?_
      refine lv_iconst (v := (-1)) hx hb d_M_kindOf_178 (by decide) ?_
      refine z_callVi C hI 31 (by decide) kd_31 cl_M (As := [.int (v1 + 1), .int (v2 + 1), .int (v3 - 1), .int (v4 - 1), .int (-1)]) (rest := [.int 4]) (c_M_cleanIn (v1 + 1) (v2 + 1) (v3 - 1) (v4 - 1) (-1) _ _ h) wc_M_cleanIn k_ml_M_123 rfl rfl (Nat.le_of_ble_eq_true rfl) (Nat.le_of_ble_eq_true rfl) hcs hl.1 (Nat.le_of_ble_eq_true rfl) rfl d_M_kindOf_179 (fun r179 S179 H locs h hI => ?_)
      refine lv_imul hx hb d_M_kindOf_182 ?_
      refine lv_iload hx hb d_M_kindOf_183 (lv_at hl 6 rfl) ?_
      refine lv_iconst (v := 2) hx hb d_M_kindOf_185 (by decide) ?_
      refine lv_isub hx hb d_M_kindOf_186 ?_
      refine lv_iload hx hb d_M_kindOf_187 (lv_at hl 7 rfl) ?_
      refine lv_iconst (v := 2) hx hb d_M_kindOf_189 (by decide) ?_
      refine lv_isub hx hb d_M_kindOf_190 ?_
      refine lv_imul hx hb d_M_kindOf_191 ?_
      refine lv_icmp_gt (tgt := 197) hx hb d_M_kindOf_192 (by decide) (fun q => ?_) (fun q => ?_)
      · replace h := h.1 q
        exact w_M_kindOf_197 C hcs _ v1 v2 v3 v4 v5 v6 hR S179 _ _ ls hI (lv_sub hl [1, 2, 3, 4, 5, 6, 7] rfl) h
      · replace h := h.2 q
        refine lv_iconst (v := 3) hx hb d_M_kindOf_195 (by decide) ?_
        exact hR _ _ hcs 3 S179 _ _ 196 ls h hI d_M_kindOf_196
set_option maxHeartbeats 4000000 in
set_option maxRecDepth 100000 in
theorem w_M_kindOf_150 (C : z_CT p s m args c R_M b_M_kindOf 9 D cA 51 ad) (hcs : cells ≤ rm_M_kindOf.cells ∧ slots ≤ rm_M_kindOf.slots) (post : Int32 → zS → Prop) (v1 : Int32) (v2 : Int32) (v3 : Int32) (v4 : Int32) (v5 : Int32) (v6 : Int32) (v7 : Int32) (hR : z_Ri p l e rm_M_kindOf s m args below meth c Q b_M_kindOf D cA 51 ad post) (S : zS) (H : Heap) (locs : List Loc) (ls : Array Slot) (hI : z_I D cA 51 ad s.heap S H locs) (hl : lv_has ls 9 [(0, .ref (ad 31)), (1, .int v1), (2, .int v2), (3, .int v3), (4, .int v4), (5, .int v5), (6, .int v6), (7, .int v7)]) (h : J_M_kindOf_150 post v1 v2 v3 v4 v5 v6 v7 S) : W p l e rm_M_kindOf s m args below meth c H locs cells slots Q (F0 m 150 ls []) := by
  obtain ⟨hx, hb, hml, hown, hts, hK, hJ⟩ := id C
  unfold J_M_kindOf_150 at h
  refine lv_iconst (v := 0) hx hb d_M_kindOf_150 (by decide) ?_
  exact w_M_kindOf_151 C hcs _ v1 v2 v3 v4 v5 v6 v7 0 hR S _ _ ls hI (lv_sub hl [0, 1, 2, 3, 4, 5, 6, 7] rfl) h
set_option maxHeartbeats 4000000 in
set_option maxRecDepth 100000 in
theorem w_M_kindOf_106 (C : z_CT p s m args c R_M b_M_kindOf 9 D cA 51 ad) (hcs : cells ≤ rm_M_kindOf.cells ∧ slots ≤ rm_M_kindOf.slots) (post : Int32 → zS → Prop) (v1 : Int32) (v2 : Int32) (v3 : Int32) (v4 : Int32) (v5 : Int32) (v6 : Int32) (t0 : Int32) (hR : z_Ri p l e rm_M_kindOf s m args below meth c Q b_M_kindOf D cA 51 ad post) (S : zS) (H : Heap) (locs : List Loc) (ls : Array Slot) (hI : z_I D cA 51 ad s.heap S H locs) (hl : lv_has ls 9 [(0, .ref (ad 31)), (1, .int v1), (2, .int v2), (3, .int v3), (4, .int v4), (5, .int v5), (6, .int v6)]) (h : J_M_kindOf_106 post v1 v2 v3 v4 v5 v6 t0 S) : W p l e rm_M_kindOf s m args below meth c H locs cells slots Q (F0 m 106 ls [.int t0]) := by
  obtain ⟨hx, hb, hml, hown, hts, hK, hJ⟩ := id C
  unfold J_M_kindOf_106 at h
  refine lv_istore (lv' := [(7, .int t0), (0, .ref (ad 31)), (1, .int v1), (2, .int v2), (3, .int v3), (4, .int v4), (5, .int v5), (6, .int v6)]) hx hb d_M_kindOf_106 hl (by decide) rfl (fun ls hl => ?_)
  refine lv_iconst (v := 4) hx hb d_M_kindOf_108 (by decide) ?_
  refine lv_aload_n hx hb d_M_kindOf_109 rfl (lv_at hl 1 rfl) ?_
  refine lv_iload_n hx hb d_M_kindOf_110 rfl (lv_at hl 2 rfl) ?_
  refine lv_iload_n hx hb d_M_kindOf_111 rfl (lv_at hl 3 rfl) ?_
  refine lv_iload_n hx hb d_M_kindOf_112 rfl (lv_at hl 2 rfl) ?_
  refine lv_iload hx hb d_M_kindOf_113 (lv_at hl 5 rfl) ?_
  refine lv_iconst (v := (-1)) hx hb d_M_kindOf_115 (by decide) ?_
  refine z_callVi C hI 31 (by decide) kd_31 cl_M (As := [.int v1, .int v2, .int v1, .int v4, .int (-1)]) (rest := [.int 4]) (c_M_cleanIn v1 v2 v1 v4 (-1) _ _ h) wc_M_cleanIn k_ml_M_123 rfl rfl (Nat.le_of_ble_eq_true rfl) (Nat.le_of_ble_eq_true rfl) hcs hl.1 (Nat.le_of_ble_eq_true rfl) rfl d_M_kindOf_116 (fun r116 S116 H locs h hI => ?_)
  refine lv_imul hx hb d_M_kindOf_119 ?_
  refine lv_iconst (v := 3) hx hb d_M_kindOf_120 (by decide) ?_
  refine lv_iload hx hb d_M_kindOf_121 (lv_at hl 7 rfl) ?_
  refine lv_imul hx hb d_M_kindOf_123 ?_
  refine lv_icmp_lt (tgt := 150) hx hb d_M_kindOf_124 (by decide) (fun q => ?_) (fun q => ?_)
  · replace h := h.1 q
    exact w_M_kindOf_150 C hcs _ v1 v2 v3 v4 v5 v6 t0 hR S116 _ _ ls hI (lv_sub hl [1, 2, 3, 4, 5, 6, 7, 0] rfl) h
  · replace h := h.2 q
    refine lv_iconst (v := 4) hx hb d_M_kindOf_127 (by decide) ?_
    refine lv_aload_n hx hb d_M_kindOf_128 rfl (lv_at hl 1 rfl) ?_
    refine lv_iload_n hx hb d_M_kindOf_129 rfl (lv_at hl 4 rfl) ?_
    refine lv_iload_n hx hb d_M_kindOf_130 rfl (lv_at hl 3 rfl) ?_
    refine lv_iload_n hx hb d_M_kindOf_131 rfl (lv_at hl 4 rfl) ?_
    refine lv_iload hx hb d_M_kindOf_132 (lv_at hl 5 rfl) ?_
    refine lv_iconst (v := (-1)) hx hb d_M_kindOf_134 (by decide) ?_
    refine z_callVi C hI 31 (by decide) kd_31 cl_M (As := [.int v3, .int v2, .int v3, .int v4, .int (-1)]) (rest := [.int 4]) (c_M_cleanIn v3 v2 v3 v4 (-1) _ _ h) wc_M_cleanIn k_ml_M_123 rfl rfl (Nat.le_of_ble_eq_true rfl) (Nat.le_of_ble_eq_true rfl) hcs hl.1 (Nat.le_of_ble_eq_true rfl) rfl d_M_kindOf_135 (fun r135 S135 H locs h hI => ?_)
    refine lv_imul hx hb d_M_kindOf_138 ?_
    refine lv_iconst (v := 3) hx hb d_M_kindOf_139 (by decide) ?_
    refine lv_iload hx hb d_M_kindOf_140 (lv_at hl 7 rfl) ?_
    refine lv_imul hx hb d_M_kindOf_142 ?_
    refine lv_icmp_lt (tgt := 150) hx hb d_M_kindOf_143 (by decide) (fun q => ?_) (fun q => ?_)
    · replace h := h.1 q
      exact w_M_kindOf_150 C hcs _ v1 v2 v3 v4 v5 v6 t0 hR S135 _ _ ls hI (lv_sub hl [1, 2, 3, 4, 5, 6, 7, 0] rfl) h
    · replace h := h.2 q
      refine lv_iconst (v := 1) hx hb d_M_kindOf_146 (by decide) ?_
      refine lv_goto (tgt := 151) hx hb d_M_kindOf_147 (by decide) ?_
      exact w_M_kindOf_151 C hcs _ v1 v2 v3 v4 v5 v6 t0 1 hR S135 _ _ ls hI (lv_sub hl [1, 2, 3, 4, 5, 6, 7, 0] rfl) h
set_option maxHeartbeats 4000000 in
set_option maxRecDepth 100000 in
theorem w_M_kindOf_105 (C : z_CT p s m args c R_M b_M_kindOf 9 D cA 51 ad) (hcs : cells ≤ rm_M_kindOf.cells ∧ slots ≤ rm_M_kindOf.slots) (post : Int32 → zS → Prop) (v1 : Int32) (v2 : Int32) (v3 : Int32) (v4 : Int32) (v5 : Int32) (v6 : Int32) (hR : z_Ri p l e rm_M_kindOf s m args below meth c Q b_M_kindOf D cA 51 ad post) (S : zS) (H : Heap) (locs : List Loc) (ls : Array Slot) (hI : z_I D cA 51 ad s.heap S H locs) (hl : lv_has ls 9 [(0, .ref (ad 31)), (1, .int v1), (2, .int v2), (3, .int v3), (4, .int v4), (5, .int v5), (6, .int v6)]) (h : J_M_kindOf_105 post v1 v2 v3 v4 v5 v6 S) : W p l e rm_M_kindOf s m args below meth c H locs cells slots Q (F0 m 105 ls []) := by
  obtain ⟨hx, hb, hml, hown, hts, hK, hJ⟩ := id C
  unfold J_M_kindOf_105 at h
  refine lv_iconst (v := 0) hx hb d_M_kindOf_105 (by decide) ?_
  exact w_M_kindOf_106 C hcs _ v1 v2 v3 v4 v5 v6 0 hR S _ _ ls hI (lv_sub hl [0, 1, 2, 3, 4, 5, 6] rfl) h
set_option maxHeartbeats 4000000 in
set_option maxRecDepth 100000 in
theorem w_M_kindOf_47 (C : z_CT p s m args c R_M b_M_kindOf 9 D cA 51 ad) (hcs : cells ≤ rm_M_kindOf.cells ∧ slots ≤ rm_M_kindOf.slots) (post : Int32 → zS → Prop) (v1 : Int32) (v2 : Int32) (v3 : Int32) (v4 : Int32) (v5 : Int32) (v6 : Int32) (hR : z_Ri p l e rm_M_kindOf s m args below meth c Q b_M_kindOf D cA 51 ad post) (S : zS) (H : Heap) (locs : List Loc) (ls : Array Slot) (hI : z_I D cA 51 ad s.heap S H locs) (hl : lv_has ls 9 [(0, .ref (ad 31)), (1, .int v1), (2, .int v2), (3, .int v3), (4, .int v4), (5, .int v5), (6, .int v6)]) (h : J_M_kindOf_47 post v1 v2 v3 v4 v5 v6 S) : W p l e rm_M_kindOf s m args below meth c H locs cells slots Q (F0 m 47 ls []) := by
  obtain ⟨hx, hb, hml, hown, hts, hK, hJ⟩ := id C
  unfold J_M_kindOf_47 at h
  refine lv_iload hx hb d_M_kindOf_47 (lv_at hl 5 rfl) ?_
  refine lv_bipush (v := 7) hx hb d_M_kindOf_49 (by decide) ?_
  refine lv_icmp_lt (tgt := 61) hx hb d_M_kindOf_51 (by decide) (fun q => ?_) (fun q => ?_)
  · replace h := h.1 q
    refine lv_iconst (v := 0) hx hb d_M_kindOf_61 (by decide) ?_
    exact hR _ _ hcs 0 S _ _ 62 ls h hI d_M_kindOf_62
  · replace h := h.2 q
    refine lv_iload hx hb d_M_kindOf_54 (lv_at hl 6 rfl) ?_
    refine lv_bipush (v := 7) hx hb d_M_kindOf_56 (by decide) ?_
    refine lv_icmp_ge (tgt := 63) hx hb d_M_kindOf_58 (by decide) (fun q => ?_) (fun q => ?_)
    · replace h := h.1 q
      refine lv_iconst (v := 4) hx hb d_M_kindOf_63 (by decide) ?_
      refine lv_aload_n hx hb d_M_kindOf_64 rfl (lv_at hl 0 rfl) ?_
      refine lv_iload_n hx hb d_M_kindOf_65 rfl (lv_at hl 1 rfl) ?_
      refine lv_iload_n hx hb d_M_kindOf_66 rfl (lv_at hl 2 rfl) ?_
      refine lv_iload_n hx hb d_M_kindOf_67 rfl (lv_at hl 3 rfl) ?_
      refine lv_iload_n hx hb d_M_kindOf_68 rfl (lv_at hl 2 rfl) ?_
      refine lv_iconst (v := (-1)) hx hb d_M_kindOf_69 (by decide) ?_
      refine z_callVi C hI 31 (by decide) kd_31 cl_M (As := [.int v1, .int v2, .int v3, .int v2, .int (-1)]) (rest := [.int 4]) (c_M_cleanIn v1 v2 v3 v2 (-1) _ _ h) wc_M_cleanIn k_ml_M_123 rfl rfl (Nat.le_of_ble_eq_true rfl) (Nat.le_of_ble_eq_true rfl) hcs hl.1 (Nat.le_of_ble_eq_true rfl) rfl d_M_kindOf_70 (fun r70 S70 H locs h hI => ?_)
      refine lv_imul hx hb d_M_kindOf_73 ?_
      refine lv_iconst (v := 3) hx hb d_M_kindOf_74 (by decide) ?_
      refine lv_iload hx hb d_M_kindOf_75 (lv_at hl 5 rfl) ?_
      refine lv_imul hx hb d_M_kindOf_77 ?_
      refine lv_icmp_lt (tgt := 105) hx hb d_M_kindOf_78 (by decide) (fun q => ?_) (fun q => ?_)
      · replace h := h.1 q
        exact w_M_kindOf_105 C hcs _ v1 v2 v3 v4 v5 v6 hR S70 _ _ ls hI (lv_sub hl [0, 1, 2, 3, 4, 5, 6] rfl) h
      · replace h := h.2 q
        refine lv_iconst (v := 4) hx hb d_M_kindOf_81 (by decide) ?_
        refine lv_aload_n hx hb d_M_kindOf_82 rfl (lv_at hl 0 rfl) ?_
        refine lv_iload_n hx hb d_M_kindOf_83 rfl (lv_at hl 1 rfl) ?_
        refine lv_iload hx hb d_M_kindOf_84 (lv_at hl 4 rfl) ?_
        refine lv_iload_n hx hb d_M_kindOf_86 rfl (lv_at hl 3 rfl) ?_
        refine lv_iload hx hb d_M_kindOf_87 (lv_at hl 4 rfl) ?_
        refine lv_iconst (v := (-1)) hx hb d_M_kindOf_89 (by decide) ?_
        refine z_callVi C hI 31 (by decide) kd_31 cl_M (As := [.int v1, .int v4, .int v3, .int v4, .int (-1)]) (rest := [.int 4]) (c_M_cleanIn v1 v4 v3 v4 (-1) _ _ h) wc_M_cleanIn k_ml_M_123 rfl rfl (Nat.le_of_ble_eq_true rfl) (Nat.le_of_ble_eq_true rfl) hcs hl.1 (Nat.le_of_ble_eq_true rfl) rfl d_M_kindOf_90 (fun r90 S90 H locs h hI => ?_)
        refine lv_imul hx hb d_M_kindOf_93 ?_
        refine lv_iconst (v := 3) hx hb d_M_kindOf_94 (by decide) ?_
        refine lv_iload hx hb d_M_kindOf_95 (lv_at hl 5 rfl) ?_
        refine lv_imul hx hb d_M_kindOf_97 ?_
        refine lv_icmp_lt (tgt := 105) hx hb d_M_kindOf_98 (by decide) (fun q => ?_) (fun q => ?_)
        · replace h := h.1 q
          exact w_M_kindOf_105 C hcs _ v1 v2 v3 v4 v5 v6 hR S90 _ _ ls hI (lv_sub hl [0, 1, 2, 3, 4, 5, 6] rfl) h
        · replace h := h.2 q
          refine lv_iconst (v := 1) hx hb d_M_kindOf_101 (by decide) ?_
          refine lv_goto (tgt := 106) hx hb d_M_kindOf_102 (by decide) ?_
          exact w_M_kindOf_106 C hcs _ v1 v2 v3 v4 v5 v6 1 hR S90 _ _ ls hI (lv_sub hl [0, 1, 2, 3, 4, 5, 6] rfl) h
    · replace h := h.2 q
      refine lv_iconst (v := 0) hx hb d_M_kindOf_61 (by decide) ?_
      exact hR _ _ hcs 0 S _ _ 62 ls h hI d_M_kindOf_62
set_option maxHeartbeats 4000000 in
set_option maxRecDepth 100000 in
theorem w_M_kindOf_30 (C : z_CT p s m args c R_M b_M_kindOf 9 D cA 51 ad) (hcs : cells ≤ rm_M_kindOf.cells ∧ slots ≤ rm_M_kindOf.slots) (post : Int32 → zS → Prop) (v1 : Int32) (v2 : Int32) (v3 : Int32) (v4 : Int32) (v5 : Int32) (v6 : Int32) (hR : z_Ri p l e rm_M_kindOf s m args below meth c Q b_M_kindOf D cA 51 ad post) (S : zS) (H : Heap) (locs : List Loc) (ls : Array Slot) (hI : z_I D cA 51 ad s.heap S H locs) (hl : lv_has ls 9 [(0, .ref (ad 31)), (1, .int v1), (2, .int v2), (3, .int v3), (4, .int v4), (5, .int v5), (6, .int v6)]) (h : J_M_kindOf_30 post v1 v2 v3 v4 v5 v6 S) : W p l e rm_M_kindOf s m args below meth c H locs cells slots Q (F0 m 30 ls []) := by
  obtain ⟨hx, hb, hml, hown, hts, hK, hJ⟩ := id C
  unfold J_M_kindOf_30 at h
  refine lv_iload hx hb d_M_kindOf_30 (lv_at hl 5 rfl) ?_
  refine lv_iconst (v := 2) hx hb d_M_kindOf_32 (by decide) ?_
  refine lv_icmp_gt (tgt := 47) hx hb d_M_kindOf_33 (by decide) (fun q => ?_) (fun q => ?_)
  · replace h := h.1 q
    exact w_M_kindOf_47 C hcs _ v1 v2 v3 v4 v5 v6 hR S _ _ ls hI (lv_sub hl [0, 1, 2, 3, 4, 5, 6] rfl) h
  · replace h := h.2 q
    refine lv_iload hx hb d_M_kindOf_36 (lv_at hl 6 rfl) ?_
    refine lv_iconst (v := 5) hx hb d_M_kindOf_38 (by decide) ?_
    refine lv_iload hx hb d_M_kindOf_39 (lv_at hl 5 rfl) ?_
    refine lv_imul hx hb d_M_kindOf_41 ?_
    refine lv_icmp_lt (tgt := 47) hx hb d_M_kindOf_42 (by decide) (fun q => ?_) (fun q => ?_)
    · replace h := h.1 q
      exact w_M_kindOf_47 C hcs _ v1 v2 v3 v4 v5 v6 hR S _ _ ls hI (lv_sub hl [0, 1, 2, 3, 4, 5, 6] rfl) h
    · replace h := h.2 q
      refine lv_iconst (v := 1) hx hb d_M_kindOf_45 (by decide) ?_
      exact hR _ _ hcs 1 S _ _ 46 ls h hI d_M_kindOf_46
set_option maxHeartbeats 4000000 in
set_option maxRecDepth 100000 in
theorem c_M_kindOf (v1 : Int32) (v2 : Int32) (v3 : Int32) (v4 : Int32) (S : zS) (post : Int32 → zS → Prop) (h : P_M_kindOf v1 v2 v3 v4 S post) : z_cti l D cA 51 ad y_M_kindOf b_M_kindOf 9 (some .int) rm_M_kindOf [.ref (ad 31), .int v1, .int v2, .int v3, .int v4] S post := by
  refine z_meti (av := [.ref (ad 31), .int v1, .int v2, .int v3, .int v4]) (by decide) (Nat.le_of_ble_eq_true rfl) ⟨rfl, rfl⟩ (fun p e s m args below meth c Q ls C hcs hl hI hR => ?_)
  obtain ⟨hx, hb, hml, hown, hts, hK, hJ⟩ := id C
  unfold P_M_kindOf at h
  have hl : lv_has ls 9 [(0, .ref (ad 31)), (1, .int v1), (2, .int v2), (3, .int v3), (4, .int v4)] := hl
  refine lv_iload_n hx hb d_M_kindOf_0 rfl (lv_at hl 3 rfl) ?_
  refine lv_iload_n hx hb d_M_kindOf_1 rfl (lv_at hl 1 rfl) ?_
  refine lv_isub hx hb d_M_kindOf_2 ?_
  refine lv_iconst (v := 1) hx hb d_M_kindOf_3 (by decide) ?_
  refine lv_iadd hx hb d_M_kindOf_4 ?_
  refine lv_topi (fun x5 e5 => ?_)
  replace h := h x5 e5
  refine lv_istore (lv' := [(5, .int x5), (0, .ref (ad 31)), (1, .int v1), (2, .int v2), (3, .int v3), (4, .int v4)]) hx hb d_M_kindOf_5 hl (by decide) rfl (fun ls hl => ?_)
  refine lv_iload hx hb d_M_kindOf_7 (lv_at hl 5 rfl) ?_
  refine lv_iload_n hx hb d_M_kindOf_9 rfl (lv_at hl 3 rfl) ?_
  refine lv_isub hx hb d_M_kindOf_10 ?_
  refine lv_iconst (v := 1) hx hb d_M_kindOf_11 (by decide) ?_
  refine lv_iadd hx hb d_M_kindOf_12 ?_
  refine lv_topi (fun x13 e13 => ?_)
  replace h := h x13 e13
  refine lv_istore (lv' := [(6, .int x13), (5, .int x5), (0, .ref (ad 31)), (1, .int v1), (2, .int v2), (3, .int v3), (4, .int v4)]) hx hb d_M_kindOf_13 hl (by decide) rfl (fun ls hl => ?_)
  refine lv_iload hx hb d_M_kindOf_15 (lv_at hl 0 rfl) ?_
  refine lv_iconst (v := 2) hx hb d_M_kindOf_17 (by decide) ?_
  refine lv_icmp_gt (tgt := 30) hx hb d_M_kindOf_18 (by decide) (fun q => ?_) (fun q => ?_)
  · replace h := h.1 q
    exact w_M_kindOf_30 C hcs _ v1 v2 v3 v4 x5 x13 hR S _ _ ls hI (lv_sub hl [2, 3, 4, 5, 6, 1, 0] rfl) h
  · replace h := h.2 q
    refine lv_iload hx hb d_M_kindOf_21 (lv_at hl 1 rfl) ?_
    refine lv_iconst (v := 5) hx hb d_M_kindOf_23 (by decide) ?_
    refine lv_iload hx hb d_M_kindOf_24 (lv_at hl 0 rfl) ?_
    refine lv_imul hx hb d_M_kindOf_26 ?_
    refine lv_icmp_ge (tgt := 45) hx hb d_M_kindOf_27 (by decide) (fun q => ?_) (fun q => ?_)
    · replace h := h.1 q
      refine lv_iconst (v := 1) hx hb d_M_kindOf_45 (by decide) ?_
      exact hR _ _ hcs 1 S _ _ 46 ls h hI d_M_kindOf_46
    · replace h := h.2 q
      exact w_M_kindOf_30 C hcs _ v1 v2 v3 v4 x5 x13 hR S _ _ ls hI (lv_sub hl [2, 3, 4, 5, 6, 1, 0] rfl) h
set_option maxHeartbeats 4000000 in
set_option maxRecDepth 100000 in
theorem w_M_takeParts_206 (C : z_CT p s m args c R_M b_M_takeParts 5 D cA 51 ad) (hcs : cells ≤ rm_M_takeParts.cells ∧ slots ≤ rm_M_takeParts.slots) (post : zS → Prop) (K23 : Int32 → zS → Prop) (v1 : Int32) (v2 : Int32) (v4 : Int32) (t0 : Int32) (t1 : Int32) (hR : z_Rv p l e rm_M_takeParts s m args below meth c Q b_M_takeParts D cA 51 ad post) (kK23 : ∀ (v2 : Int32) (S : zS) (H : Heap) (locs : List Loc) (ls : Array Slot), K23 v2 S → z_I D cA 51 ad s.heap S H locs → lv_has ls 5 [(0, .ref (ad 31)), (1, .int v1), (2, .int v2)] → W p l e rm_M_takeParts s m args below meth c H locs cells slots Q (F0 m 23 ls [])) (S : zS) (H : Heap) (locs : List Loc) (ls : Array Slot) (hI : z_I D cA 51 ad s.heap S H locs) (hl : lv_has ls 5 [(0, .ref (ad 31)), (1, .int v1), (2, .int v2), (4, .int v4)]) (h : J_M_takeParts_206 post K23 v1 v2 v4 t0 t1 S) : W p l e rm_M_takeParts s m args below meth c H locs cells slots Q (F0 m 206 ls [.int t0, .int t1, .ref (ad 41)]) := by
  obtain ⟨hx, hb, hml, hown, hts, hK, hJ⟩ := id C
  unfold J_M_takeParts_206 at h
  obtain ⟨h1, h⟩ := h
  refine z_ist C hI 41 (by decide) kd_41 h1 d_M_takeParts_206 (fun S206 eS H locs hI => ?_)
  replace h := h S206 eS
  refine lv_aload_n hx hb d_M_takeParts_207 rfl (lv_at hl 0 rfl) ?_
  refine z_getR C hI 31 (by decide) kd_31 cl_M iw_M 16 (by decide) k_fl_M_45 rfl d_M_takeParts_208 ?_
  refine lv_iload hx hb d_M_takeParts_211 (lv_at hl 3 rfl) ?_
  refine lv_iload_n hx hb d_M_takeParts_213 rfl (lv_at hl 1 rfl) ?_
  obtain ⟨h1, h⟩ := h
  refine z_ist C hI 42 (by decide) kd_42 h1 d_M_takeParts_214 (fun S214 eS H locs hI => ?_)
  replace h := h S214 eS
  obtain ⟨x215, e215⟩ : ∃ y : Int32, y = v2 + 1 := ⟨_, rfl⟩
  replace h := h x215 e215
  refine lv_iinc (v := x215) (lv' := [(2, .int x215), (0, .ref (ad 31)), (1, .int v1), (4, .int v4)]) hx hb d_M_takeParts_215 hl (k := 2) rfl (by rw [e215]; rfl) (by decide) rfl (fun ls hl => ?_)
  refine lv_goto (tgt := 23) hx hb d_M_takeParts_218 (by decide) ?_
  exact kK23 x215 S214 _ _ ls h hI (lv_sub hl [1, 2, 0] rfl)
set_option maxHeartbeats 4000000 in
set_option maxRecDepth 100000 in
theorem w_M_takeParts_177 (C : z_CT p s m args c R_M b_M_takeParts 5 D cA 51 ad) (hcs : cells ≤ rm_M_takeParts.cells ∧ slots ≤ rm_M_takeParts.slots) (post : zS → Prop) (K23 : Int32 → zS → Prop) (v1 : Int32) (v2 : Int32) (v4 : Int32) (t0 : Int32) (t1 : Int32) (hR : z_Rv p l e rm_M_takeParts s m args below meth c Q b_M_takeParts D cA 51 ad post) (kK23 : ∀ (v2 : Int32) (S : zS) (H : Heap) (locs : List Loc) (ls : Array Slot), K23 v2 S → z_I D cA 51 ad s.heap S H locs → lv_has ls 5 [(0, .ref (ad 31)), (1, .int v1), (2, .int v2)] → W p l e rm_M_takeParts s m args below meth c H locs cells slots Q (F0 m 23 ls [])) (S : zS) (H : Heap) (locs : List Loc) (ls : Array Slot) (hI : z_I D cA 51 ad s.heap S H locs) (hl : lv_has ls 5 [(0, .ref (ad 31)), (1, .int v1), (2, .int v2), (4, .int v4)]) (h : J_M_takeParts_177 post K23 v1 v2 v4 t0 t1 S) : W p l e rm_M_takeParts s m args below meth c H locs cells slots Q (F0 m 177 ls [.int t0, .int t1, .ref (ad 39)]) := by
  obtain ⟨hx, hb, hml, hown, hts, hK, hJ⟩ := id C
  unfold J_M_takeParts_177 at h
  obtain ⟨h1, h⟩ := h
  refine z_ist C hI 39 (by decide) kd_39 h1 d_M_takeParts_177 (fun S177 eS H locs hI => ?_)
  replace h := h S177 eS
  refine lv_aload_n hx hb d_M_takeParts_178 rfl (lv_at hl 0 rfl) ?_
  refine z_getR C hI 31 (by decide) kd_31 cl_M iw_M 15 (by decide) k_fl_M_42 rfl d_M_takeParts_179 ?_
  refine lv_iload hx hb d_M_takeParts_182 (lv_at hl 3 rfl) ?_
  refine lv_iload_n hx hb d_M_takeParts_184 rfl (lv_at hl 2 rfl) ?_
  refine lv_aload_n hx hb d_M_takeParts_185 rfl (lv_at hl 0 rfl) ?_
  refine z_getR C hI 31 (by decide) kd_31 cl_M iw_M 15 (by decide) k_fl_M_42 rfl d_M_takeParts_186 ?_
  refine lv_iload hx hb d_M_takeParts_189 (lv_at hl 3 rfl) ?_
  obtain ⟨h1, h⟩ := h
  refine z_ild C hI 41 (by decide) kd_41 h1 d_M_takeParts_191 ?_
  refine lv_icmp_le (tgt := 199) hx hb d_M_takeParts_192 (by decide) (fun q => ?_) (fun q => ?_)
  · replace h := h.1 q
    refine lv_aload_n hx hb d_M_takeParts_199 rfl (lv_at hl 0 rfl) ?_
    refine z_getR C hI 31 (by decide) kd_31 cl_M iw_M 15 (by decide) k_fl_M_42 rfl d_M_takeParts_200 ?_
    refine lv_iload hx hb d_M_takeParts_203 (lv_at hl 3 rfl) ?_
    obtain ⟨h1, h⟩ := h
    refine z_ild C hI 41 (by decide) kd_41 h1 d_M_takeParts_205 ?_
    exact w_M_takeParts_206 C hcs _ _ v1 v2 v4 (S177 41 (z_ix v4)) v4 hR kK23 S177 _ _ ls hI (lv_sub hl [0, 1, 2, 3] rfl) h
  · replace h := h.2 q
    refine lv_iload_n hx hb d_M_takeParts_195 rfl (lv_at hl 2 rfl) ?_
    refine lv_goto (tgt := 206) hx hb d_M_takeParts_196 (by decide) ?_
    exact w_M_takeParts_206 C hcs _ _ v1 v2 v4 v2 v4 hR kK23 S177 _ _ ls hI (lv_sub hl [0, 1, 2, 3] rfl) h
set_option maxHeartbeats 4000000 in
set_option maxRecDepth 100000 in
theorem w_M_takeParts_23 (C : z_CT p s m args c R_M b_M_takeParts 5 D cA 51 ad) (hcs : cells ≤ rm_M_takeParts.cells ∧ slots ≤ rm_M_takeParts.slots) (post : zS → Prop) (K221 : zS → Prop) (v1 : Int32) (hR : z_Rv p l e rm_M_takeParts s m args below meth c Q b_M_takeParts D cA 51 ad post) (kK221 : ∀ (S : zS) (H : Heap) (locs : List Loc) (ls : Array Slot), K221 S → z_I D cA 51 ad s.heap S H locs → lv_has ls 5 [(0, .ref (ad 31)), (1, .int v1)] → W p l e rm_M_takeParts s m args below meth c H locs cells slots Q (F0 m 221 ls [])) : ∀ (n : Nat) (v2 : Int32) (S : zS) (H : Heap) (locs : List Loc) (ls : Array Slot), z_I D cA 51 ad s.heap S H locs → lv_has ls 5 [(0, .ref (ad 31)), (1, .int v1), (2, .int v2)] → L_M_takeParts_23 post K221 v1 n v2 S → W p l e rm_M_takeParts s m args below meth c H locs cells slots Q (F0 m 23 ls []) := by
  obtain ⟨hx, hb, hml, hown, hts, hK, hJ⟩ := id C
  intro n
  induction n with
  | zero => intro v2 S H locs ls hI hl h; exact h.elim
  | succ n ih =>
    intro v2 S H locs ls hI hl h
    rw [L_M_takeParts_23] at h
    refine lv_iload_n hx hb d_M_takeParts_23 rfl (lv_at hl 2 rfl) ?_
    refine lv_aload_n hx hb d_M_takeParts_24 rfl (lv_at hl 0 rfl) ?_
    refine z_getI C hI 31 (by decide) kd_31 cl_M iw_M 1 (by decide) k_fl_M_73 rfl d_M_takeParts_25 ?_
    refine lv_icmp_ge (tgt := 221) hx hb d_M_takeParts_28 (by decide) (fun q => ?_) (fun q => ?_)
    · replace h := h.1 q
      exact kK221 S _ _ ls h hI (lv_sub hl [0, 1] rfl)
    · replace h := h.2 q
      refine lv_bipush (v := 24) hx hb d_M_takeParts_31 (by decide) ?_
      refine lv_iload_n hx hb d_M_takeParts_33 rfl (lv_at hl 1 rfl) ?_
      refine lv_imul hx hb d_M_takeParts_34 ?_
      refine lv_iload_n hx hb d_M_takeParts_35 rfl (lv_at hl 2 rfl) ?_
      refine lv_iadd hx hb d_M_takeParts_36 ?_
      refine lv_topi (fun x37 e37 => ?_)
      replace h := h x37 e37
      refine lv_istore_n (lv' := [(3, .int x37), (0, .ref (ad 31)), (1, .int v1), (2, .int v2)]) hx hb d_M_takeParts_37 rfl hl (by decide) rfl (fun ls hl => ?_)
      refine lv_aload_n hx hb d_M_takeParts_38 rfl (lv_at hl 1 rfl) ?_
      refine z_getR C hI 31 (by decide) kd_31 cl_M iw_M 11 (by decide) k_fl_M_33 rfl d_M_takeParts_39 ?_
      refine lv_iload_n hx hb d_M_takeParts_42 rfl (lv_at hl 0 rfl) ?_
      refine lv_iconst (v := (-1)) hx hb d_M_takeParts_43 (by decide) ?_
      obtain ⟨h1, h⟩ := h
      refine z_ist C hI 38 (by decide) kd_38 h1 d_M_takeParts_44 (fun S44 eS H locs hI => ?_)
      replace h := h S44 eS
      refine lv_aload_n hx hb d_M_takeParts_45 rfl (lv_at hl 1 rfl) ?_
      refine z_getR C hI 31 (by decide) kd_31 cl_M iw_M 10 (by decide) k_fl_M_29 rfl d_M_takeParts_46 ?_
      refine lv_iload_n hx hb d_M_takeParts_49 rfl (lv_at hl 0 rfl) ?_
      obtain ⟨h1, h⟩ := h
      refine z_ild C hI 37 (by decide) kd_37 h1 d_M_takeParts_50 ?_
      refine lv_iload_n hx hb d_M_takeParts_51 rfl (lv_at hl 0 rfl) ?_
      refine lv_icmp_ne (tgt := 118) hx hb d_M_takeParts_52 (by decide) (fun q => ?_) (fun q => ?_)
      · replace h := h.1 q
        refine lv_aload_n hx hb d_M_takeParts_118 rfl (lv_at hl 1 rfl) ?_
        refine z_getR C hI 31 (by decide) kd_31 cl_M iw_M 10 (by decide) k_fl_M_29 rfl d_M_takeParts_119 ?_
        refine lv_iload_n hx hb d_M_takeParts_122 rfl (lv_at hl 0 rfl) ?_
        obtain ⟨h1, h⟩ := h
        refine z_ild C hI 37 (by decide) kd_37 h1 d_M_takeParts_123 ?_
        refine lv_iconst (v := (-1)) hx hb d_M_takeParts_124 (by decide) ?_
        refine lv_icmp_eq (tgt := 215) hx hb d_M_takeParts_125 (by decide) (fun q => ?_) (fun q => ?_)
        · replace h := h.1 q
          obtain ⟨x215, e215⟩ : ∃ y : Int32, y = v2 + 1 := ⟨_, rfl⟩
          replace h := h x215 e215
          refine lv_iinc (v := x215) (lv' := [(2, .int x215), (3, .int x37), (0, .ref (ad 31)), (1, .int v1)]) hx hb d_M_takeParts_215 hl (k := 3) rfl (by rw [e215]; rfl) (by decide) rfl (fun ls hl => ?_)
          refine lv_goto (tgt := 23) hx hb d_M_takeParts_218 (by decide) ?_
          exact ih x215 S44 _ _ ls hI (lv_sub hl [2, 3, 0] rfl) h
        · replace h := h.2 q
          refine lv_aload_n hx hb d_M_takeParts_128 rfl (lv_at hl 1 rfl) ?_
          refine z_getR C hI 31 (by decide) kd_31 cl_M iw_M 11 (by decide) k_fl_M_33 rfl d_M_takeParts_129 ?_
          refine lv_aload_n hx hb d_M_takeParts_132 rfl (lv_at hl 1 rfl) ?_
          refine z_getR C hI 31 (by decide) kd_31 cl_M iw_M 10 (by decide) k_fl_M_29 rfl d_M_takeParts_133 ?_
          refine lv_iload_n hx hb d_M_takeParts_136 rfl (lv_at hl 0 rfl) ?_
          obtain ⟨h1, h⟩ := h
          refine z_ild C hI 37 (by decide) kd_37 h1 d_M_takeParts_137 ?_
          obtain ⟨h1, h⟩ := h
          refine z_ild C hI 38 (by decide) kd_38 h1 d_M_takeParts_138 ?_
          refine lv_topi (fun x139 e139 => ?_)
          replace h := h x139 e139
          refine lv_istore (lv' := [(4, .int x139), (3, .int x37), (0, .ref (ad 31)), (1, .int v1), (2, .int v2)]) hx hb d_M_takeParts_139 hl (by decide) rfl (fun ls hl => ?_)
          refine lv_aload_n hx hb d_M_takeParts_141 rfl (lv_at hl 2 rfl) ?_
          refine z_getR C hI 31 (by decide) kd_31 cl_M iw_M 11 (by decide) k_fl_M_33 rfl d_M_takeParts_142 ?_
          refine lv_iload_n hx hb d_M_takeParts_145 rfl (lv_at hl 1 rfl) ?_
          refine lv_iload hx hb d_M_takeParts_146 (lv_at hl 0 rfl) ?_
          obtain ⟨h1, h⟩ := h
          refine z_ist C hI 38 (by decide) kd_38 h1 d_M_takeParts_148 (fun S148 eS H locs hI => ?_)
          replace h := h S148 eS
          refine lv_aload_n hx hb d_M_takeParts_149 rfl (lv_at hl 2 rfl) ?_
          refine z_getR C hI 31 (by decide) kd_31 cl_M iw_M 13 (by decide) k_fl_M_36 rfl d_M_takeParts_150 ?_
          refine lv_iload hx hb d_M_takeParts_153 (lv_at hl 0 rfl) ?_
          refine lv_iload_n hx hb d_M_takeParts_155 rfl (lv_at hl 4 rfl) ?_
          refine lv_aload_n hx hb d_M_takeParts_156 rfl (lv_at hl 2 rfl) ?_
          refine z_getR C hI 31 (by decide) kd_31 cl_M iw_M 13 (by decide) k_fl_M_36 rfl d_M_takeParts_157 ?_
          refine lv_iload hx hb d_M_takeParts_160 (lv_at hl 0 rfl) ?_
          obtain ⟨h1, h⟩ := h
          refine z_ild C hI 39 (by decide) kd_39 h1 d_M_takeParts_162 ?_
          refine lv_icmp_ge (tgt := 170) hx hb d_M_takeParts_163 (by decide) (fun q => ?_) (fun q => ?_)
          · replace h := h.1 q
            refine lv_aload_n hx hb d_M_takeParts_170 rfl (lv_at hl 2 rfl) ?_
            refine z_getR C hI 31 (by decide) kd_31 cl_M iw_M 13 (by decide) k_fl_M_36 rfl d_M_takeParts_171 ?_
            refine lv_iload hx hb d_M_takeParts_174 (lv_at hl 0 rfl) ?_
            obtain ⟨h1, h⟩ := h
            refine z_ild C hI 39 (by decide) kd_39 h1 d_M_takeParts_176 ?_
            exact w_M_takeParts_177 C hcs _ _ v1 v2 x139 (S148 39 (z_ix x139)) x139 hR (fun v2 S H locs ls h hI hl => ih v2 S H locs ls hI hl h) S148 _ _ ls hI (lv_sub hl [2, 3, 4, 0] rfl) h
          · replace h := h.2 q
            refine lv_iload_n hx hb d_M_takeParts_166 rfl (lv_at hl 4 rfl) ?_
            refine lv_goto (tgt := 177) hx hb d_M_takeParts_167 (by decide) ?_
            exact w_M_takeParts_177 C hcs _ _ v1 v2 x139 v2 x139 hR (fun v2 S H locs ls h hI hl => ih v2 S H locs ls hI hl h) S148 _ _ ls hI (lv_sub hl [2, 3, 4, 0] rfl) h
      · replace h := h.2 q
        refine lv_aload_n hx hb d_M_takeParts_55 rfl (lv_at hl 1 rfl) ?_
        refine z_getR C hI 31 (by decide) kd_31 cl_M iw_M 11 (by decide) k_fl_M_33 rfl d_M_takeParts_56 ?_
        refine lv_iload_n hx hb d_M_takeParts_59 rfl (lv_at hl 0 rfl) ?_
        refine lv_aload_n hx hb d_M_takeParts_60 rfl (lv_at hl 1 rfl) ?_
        refine z_getI C hI 31 (by decide) kd_31 cl_M iw_M 12 (by decide) k_fl_M_116 rfl d_M_takeParts_61 ?_
        obtain ⟨h1, h⟩ := h
        refine z_ist C hI 38 (by decide) kd_38 h1 d_M_takeParts_64 (fun S64 eS H locs hI => ?_)
        replace h := h S64 eS
        refine lv_aload_n hx hb d_M_takeParts_65 rfl (lv_at hl 1 rfl) ?_
        refine z_getR C hI 31 (by decide) kd_31 cl_M iw_M 13 (by decide) k_fl_M_36 rfl d_M_takeParts_66 ?_
        refine lv_aload_n hx hb d_M_takeParts_69 rfl (lv_at hl 1 rfl) ?_
        refine z_getI C hI 31 (by decide) kd_31 cl_M iw_M 12 (by decide) k_fl_M_116 rfl d_M_takeParts_70 ?_
        refine lv_iload_n hx hb d_M_takeParts_73 rfl (lv_at hl 3 rfl) ?_
        obtain ⟨h1, h⟩ := h
        refine z_ist C hI 39 (by decide) kd_39 h1 d_M_takeParts_74 (fun S74 eS H locs hI => ?_)
        replace h := h S74 eS
        refine lv_aload_n hx hb d_M_takeParts_75 rfl (lv_at hl 1 rfl) ?_
        refine z_getR C hI 31 (by decide) kd_31 cl_M iw_M 15 (by decide) k_fl_M_42 rfl d_M_takeParts_76 ?_
        refine lv_aload_n hx hb d_M_takeParts_79 rfl (lv_at hl 1 rfl) ?_
        refine z_getI C hI 31 (by decide) kd_31 cl_M iw_M 12 (by decide) k_fl_M_116 rfl d_M_takeParts_80 ?_
        refine lv_iload_n hx hb d_M_takeParts_83 rfl (lv_at hl 3 rfl) ?_
        obtain ⟨h1, h⟩ := h
        refine z_ist C hI 41 (by decide) kd_41 h1 d_M_takeParts_84 (fun S84 eS H locs hI => ?_)
        replace h := h S84 eS
        refine lv_aload_n hx hb d_M_takeParts_85 rfl (lv_at hl 1 rfl) ?_
        refine z_getR C hI 31 (by decide) kd_31 cl_M iw_M 14 (by decide) k_fl_M_39 rfl d_M_takeParts_86 ?_
        refine lv_aload_n hx hb d_M_takeParts_89 rfl (lv_at hl 1 rfl) ?_
        refine z_getI C hI 31 (by decide) kd_31 cl_M iw_M 12 (by decide) k_fl_M_116 rfl d_M_takeParts_90 ?_
        refine lv_iload_n hx hb d_M_takeParts_93 rfl (lv_at hl 2 rfl) ?_
        obtain ⟨h1, h⟩ := h
        refine z_ist C hI 40 (by decide) kd_40 h1 d_M_takeParts_94 (fun S94 eS H locs hI => ?_)
        replace h := h S94 eS
        refine lv_aload_n hx hb d_M_takeParts_95 rfl (lv_at hl 1 rfl) ?_
        refine z_getR C hI 31 (by decide) kd_31 cl_M iw_M 16 (by decide) k_fl_M_45 rfl d_M_takeParts_96 ?_
        refine lv_aload_n hx hb d_M_takeParts_99 rfl (lv_at hl 1 rfl) ?_
        refine z_getI C hI 31 (by decide) kd_31 cl_M iw_M 12 (by decide) k_fl_M_116 rfl d_M_takeParts_100 ?_
        refine lv_iload_n hx hb d_M_takeParts_103 rfl (lv_at hl 2 rfl) ?_
        obtain ⟨h1, h⟩ := h
        refine z_ist C hI 42 (by decide) kd_42 h1 d_M_takeParts_104 (fun S104 eS H locs hI => ?_)
        replace h := h S104 eS
        refine lv_aload_n hx hb d_M_takeParts_105 rfl (lv_at hl 1 rfl) ?_
        refine lv_dup hx hb d_M_takeParts_106 rfl ?_
        refine z_getI C hI 31 (by decide) kd_31 cl_M iw_M 12 (by decide) k_fl_M_116 rfl d_M_takeParts_107 ?_
        refine lv_iconst (v := 1) hx hb d_M_takeParts_110 (by decide) ?_
        refine lv_iadd hx hb d_M_takeParts_111 ?_
        refine z_putI C hI 31 (by decide) kd_31 cl_M iw_M ty_M ty_M_ok n_M 12 (by decide) k_fl_M_116 rfl rfl rfl d_M_takeParts_112 (fun S112 eS H locs hI => ?_)
        replace h := h S112 eS
        refine lv_goto (tgt := 215) hx hb d_M_takeParts_115 (by decide) ?_
        obtain ⟨x215, e215⟩ : ∃ y : Int32, y = v2 + 1 := ⟨_, rfl⟩
        replace h := h x215 e215
        refine lv_iinc (v := x215) (lv' := [(2, .int x215), (3, .int x37), (0, .ref (ad 31)), (1, .int v1)]) hx hb d_M_takeParts_215 hl (k := 3) rfl (by rw [e215]; rfl) (by decide) rfl (fun ls hl => ?_)
        refine lv_goto (tgt := 23) hx hb d_M_takeParts_218 (by decide) ?_
        exact ih x215 S112 _ _ ls hI (lv_sub hl [2, 3, 0] rfl) h
set_option maxHeartbeats 4000000 in
set_option maxRecDepth 100000 in
theorem w_M_takeParts_13 (C : z_CT p s m args c R_M b_M_takeParts 5 D cA 51 ad) (hcs : cells ≤ rm_M_takeParts.cells ∧ slots ≤ rm_M_takeParts.slots) (post : zS → Prop) (K227 : zS → Prop) (hR : z_Rv p l e rm_M_takeParts s m args below meth c Q b_M_takeParts D cA 51 ad post) (kK227 : ∀ (S : zS) (H : Heap) (locs : List Loc) (ls : Array Slot), K227 S → z_I D cA 51 ad s.heap S H locs → lv_has ls 5 [(0, .ref (ad 31))] → W p l e rm_M_takeParts s m args below meth c H locs cells slots Q (F0 m 227 ls [])) : ∀ (n : Nat) (v1 : Int32) (S : zS) (H : Heap) (locs : List Loc) (ls : Array Slot), z_I D cA 51 ad s.heap S H locs → lv_has ls 5 [(0, .ref (ad 31)), (1, .int v1)] → L_M_takeParts_13 post K227 n v1 S → W p l e rm_M_takeParts s m args below meth c H locs cells slots Q (F0 m 13 ls []) := by
  obtain ⟨hx, hb, hml, hown, hts, hK, hJ⟩ := id C
  intro n
  induction n with
  | zero => intro v1 S H locs ls hI hl h; exact h.elim
  | succ n ih =>
    intro v1 S H locs ls hI hl h
    rw [L_M_takeParts_13] at h
    refine lv_iload_n hx hb d_M_takeParts_13 rfl (lv_at hl 1 rfl) ?_
    refine lv_aload_n hx hb d_M_takeParts_14 rfl (lv_at hl 0 rfl) ?_
    refine z_getI C hI 31 (by decide) kd_31 cl_M iw_M 2 (by decide) k_fl_M_76 rfl d_M_takeParts_15 ?_
    refine lv_icmp_ge (tgt := 227) hx hb d_M_takeParts_18 (by decide) (fun q => ?_) (fun q => ?_)
    · replace h := h.1 q
      exact kK227 S _ _ ls h hI (lv_sub hl [0] rfl)
    · replace h := h.2 q
      refine lv_iconst (v := 0) hx hb d_M_takeParts_21 (by decide) ?_
      refine lv_istore_n (lv' := [(2, .int 0), (0, .ref (ad 31)), (1, .int v1)]) hx hb d_M_takeParts_22 rfl hl (by decide) rfl (fun ls hl => ?_)
      obtain ⟨k23, h⟩ := h
      refine w_M_takeParts_23 C hcs _ _ v1 hR (fun S23e H locs ls h hI hl => ?_) k23 0 S _ _ ls hI (lv_sub hl [1, 2, 0] rfl) h
      obtain ⟨x221, e221⟩ : ∃ y : Int32, y = v1 + 1 := ⟨_, rfl⟩
      replace h := h x221 e221
      refine lv_iinc (v := x221) (lv' := [(1, .int x221), (0, .ref (ad 31))]) hx hb d_M_takeParts_221 hl (k := 1) rfl (by rw [e221]; rfl) (by decide) rfl (fun ls hl => ?_)
      refine lv_goto (tgt := 13) hx hb d_M_takeParts_224 (by decide) ?_
      exact ih x221 S23e _ _ ls hI (lv_sub hl [1, 0] rfl) h
set_option maxHeartbeats 4000000 in
set_option maxRecDepth 100000 in
theorem w_M_takeParts_229 (C : z_CT p s m args c R_M b_M_takeParts 5 D cA 51 ad) (hcs : cells ≤ rm_M_takeParts.cells ∧ slots ≤ rm_M_takeParts.slots) (post : zS → Prop) (hR : z_Rv p l e rm_M_takeParts s m args below meth c Q b_M_takeParts D cA 51 ad post) : ∀ (n : Nat) (v1 : Int32) (S : zS) (H : Heap) (locs : List Loc) (ls : Array Slot), z_I D cA 51 ad s.heap S H locs → lv_has ls 5 [(0, .ref (ad 31)), (1, .int v1)] → L_M_takeParts_229 post n v1 S → W p l e rm_M_takeParts s m args below meth c H locs cells slots Q (F0 m 229 ls []) := by
  obtain ⟨hx, hb, hml, hown, hts, hK, hJ⟩ := id C
  intro n
  induction n with
  | zero => intro v1 S H locs ls hI hl h; exact h.elim
  | succ n ih =>
    intro v1 S H locs ls hI hl h
    rw [L_M_takeParts_229] at h
    refine lv_iload_n hx hb d_M_takeParts_229 rfl (lv_at hl 1 rfl) ?_
    refine lv_aload_n hx hb d_M_takeParts_230 rfl (lv_at hl 0 rfl) ?_
    refine z_getI C hI 31 (by decide) kd_31 cl_M iw_M 12 (by decide) k_fl_M_116 rfl d_M_takeParts_231 ?_
    refine lv_icmp_ge (tgt := 277) hx hb d_M_takeParts_234 (by decide) (fun q => ?_) (fun q => ?_)
    · replace h := h.1 q
      exact hR _ _ hcs S _ _ 277 ls h hI d_M_takeParts_277
    · replace h := h.2 q
      refine lv_aload_n hx hb d_M_takeParts_237 rfl (lv_at hl 0 rfl) ?_
      refine z_getR C hI 31 (by decide) kd_31 cl_M iw_M 17 (by decide) k_fl_M_48 rfl d_M_takeParts_238 ?_
      refine lv_iload_n hx hb d_M_takeParts_241 rfl (lv_at hl 1 rfl) ?_
      refine lv_aload_n hx hb d_M_takeParts_242 rfl (lv_at hl 0 rfl) ?_
      refine lv_aload_n hx hb d_M_takeParts_243 rfl (lv_at hl 0 rfl) ?_
      refine z_getR C hI 31 (by decide) kd_31 cl_M iw_M 13 (by decide) k_fl_M_36 rfl d_M_takeParts_244 ?_
      refine lv_iload_n hx hb d_M_takeParts_247 rfl (lv_at hl 1 rfl) ?_
      obtain ⟨h1, h⟩ := h
      refine z_ild C hI 39 (by decide) kd_39 h1 d_M_takeParts_248 ?_
      refine lv_aload_n hx hb d_M_takeParts_249 rfl (lv_at hl 0 rfl) ?_
      refine z_getR C hI 31 (by decide) kd_31 cl_M iw_M 14 (by decide) k_fl_M_39 rfl d_M_takeParts_250 ?_
      refine lv_iload_n hx hb d_M_takeParts_253 rfl (lv_at hl 1 rfl) ?_
      obtain ⟨h1, h⟩ := h
      refine z_ild C hI 40 (by decide) kd_40 h1 d_M_takeParts_254 ?_
      refine lv_aload_n hx hb d_M_takeParts_255 rfl (lv_at hl 0 rfl) ?_
      refine z_getR C hI 31 (by decide) kd_31 cl_M iw_M 15 (by decide) k_fl_M_42 rfl d_M_takeParts_256 ?_
      refine lv_iload_n hx hb d_M_takeParts_259 rfl (lv_at hl 1 rfl) ?_
      obtain ⟨h1, h⟩ := h
      refine z_ild C hI 41 (by decide) kd_41 h1 d_M_takeParts_260 ?_
      refine lv_aload_n hx hb d_M_takeParts_261 rfl (lv_at hl 0 rfl) ?_
      refine z_getR C hI 31 (by decide) kd_31 cl_M iw_M 16 (by decide) k_fl_M_45 rfl d_M_takeParts_262 ?_
      refine lv_iload_n hx hb d_M_takeParts_265 rfl (lv_at hl 1 rfl) ?_
      obtain ⟨h1, h⟩ := h
      refine z_ild C hI 42 (by decide) kd_42 h1 d_M_takeParts_266 ?_
      refine z_callVi C hI 31 (by decide) kd_31 cl_M (As := [.int (S 39 (z_ix v1)), .int (S 40 (z_ix v1)), .int (S 41 (z_ix v1)), .int (S 42 (z_ix v1))]) (rest := [.int v1, .ref (ad 43)]) (c_M_kindOf (S 39 (z_ix v1)) (S 40 (z_ix v1)) (S 41 (z_ix v1)) (S 42 (z_ix v1)) _ _ h) wc_M_kindOf k_ml_M_119 rfl rfl (Nat.le_of_ble_eq_true rfl) (Nat.le_of_ble_eq_true rfl) hcs hl.1 (Nat.le_of_ble_eq_true rfl) rfl d_M_takeParts_267 (fun r267 S267 H locs h hI => ?_)
      obtain ⟨h1, h⟩ := h
      refine z_ist C hI 43 (by decide) kd_43 h1 d_M_takeParts_270 (fun S270 eS H locs hI => ?_)
      replace h := h S270 eS
      obtain ⟨x271, e271⟩ : ∃ y : Int32, y = v1 + 1 := ⟨_, rfl⟩
      replace h := h x271 e271
      refine lv_iinc (v := x271) (lv' := [(1, .int x271), (0, .ref (ad 31))]) hx hb d_M_takeParts_271 hl (k := 1) rfl (by rw [e271]; rfl) (by decide) rfl (fun ls hl => ?_)
      refine lv_goto (tgt := 229) hx hb d_M_takeParts_274 (by decide) ?_
      exact ih x271 S270 _ _ ls hI (lv_sub hl [1, 0] rfl) h
set_option maxHeartbeats 4000000 in
set_option maxRecDepth 100000 in
theorem c_M_takeParts (S : zS) (post : zS → Prop) (h : P_M_takeParts S post) : z_ctv l D cA 51 ad y_M_takeParts b_M_takeParts 5 none rm_M_takeParts [.ref (ad 31)] S post := by
  refine z_metv (av := [.ref (ad 31)]) (by decide) (Nat.le_of_ble_eq_true rfl) ⟨rfl, rfl⟩ (fun p e s m args below meth c Q ls C hcs hl hI hR => ?_)
  obtain ⟨hx, hb, hml, hown, hts, hK, hJ⟩ := id C
  unfold P_M_takeParts at h
  have hl : lv_has ls 5 [(0, .ref (ad 31))] := hl
  refine lv_aload_n hx hb d_M_takeParts_0 rfl (lv_at hl 0 rfl) ?_
  refine lv_iconst (v := 1) hx hb d_M_takeParts_1 (by decide) ?_
  refine lv_iconst (v := 0) hx hb d_M_takeParts_2 (by decide) ?_
  refine z_callVv C hI 31 (by decide) kd_31 cl_M (As := [.int 1, .int 0]) (rest := []) (c_M_group 1 0 _ _ h) wc_M_group k_ml_M_105 rfl rfl (Nat.le_of_ble_eq_true rfl) (Nat.le_of_ble_eq_true rfl) hcs hl.1 (Nat.le_of_ble_eq_true rfl) rfl d_M_takeParts_3 (fun S3 H locs h hI => ?_)
  refine lv_aload_n hx hb d_M_takeParts_6 rfl (lv_at hl 0 rfl) ?_
  refine lv_iconst (v := 0) hx hb d_M_takeParts_7 (by decide) ?_
  refine z_putI C hI 31 (by decide) kd_31 cl_M iw_M ty_M ty_M_ok n_M 12 (by decide) k_fl_M_116 rfl rfl rfl d_M_takeParts_8 (fun S8 eS H locs hI => ?_)
  replace h := h S8 eS
  refine lv_iconst (v := 0) hx hb d_M_takeParts_11 (by decide) ?_
  refine lv_istore_n (lv' := [(1, .int 0), (0, .ref (ad 31))]) hx hb d_M_takeParts_12 rfl hl (by decide) rfl (fun ls hl => ?_)
  obtain ⟨k13, h⟩ := h
  refine w_M_takeParts_13 C hcs _ _ hR (fun S13e H locs ls h hI hl => ?_) k13 0 S8 _ _ ls hI (lv_sub hl [1, 0] rfl) h
  refine lv_iconst (v := 0) hx hb d_M_takeParts_227 (by decide) ?_
  refine lv_istore_n (lv' := [(1, .int 0), (0, .ref (ad 31))]) hx hb d_M_takeParts_228 rfl hl (by decide) rfl (fun ls hl => ?_)
  obtain ⟨k229, h⟩ := h
  refine w_M_takeParts_229 C hcs _ hR k229 0 S13e _ _ ls hI (lv_sub hl [1, 0] rfl) h
set_option maxHeartbeats 4000000 in
set_option maxRecDepth 100000 in
theorem w_M_takeCover_57 (C : z_CT p s m args c R_M b_M_takeCover 8 D cA 51 ad) (hcs : cells ≤ rm_M_takeCover.cells ∧ slots ≤ rm_M_takeCover.slots) (post : Int32 → zS → Prop) (K116 : Int32 → zS → Prop) (v1 : Int32) (v2 : Int32) (v3 : Int32) (v4 : Int32) (v5 : Int32) (v6 : Int32) (hR : z_Rz p l e rm_M_takeCover s m args below meth c Q b_M_takeCover D cA 51 ad post) (kK116 : ∀ (v7 : Int32) (S : zS) (H : Heap) (locs : List Loc) (ls : Array Slot), K116 v7 S → z_I D cA 51 ad s.heap S H locs → lv_has ls 8 [(0, .ref (ad 31)), (1, .int v1), (2, .int v2), (3, .int v3), (4, .int v4), (6, .int v6), (7, .int v7)] → W p l e rm_M_takeCover s m args below meth c H locs cells slots Q (F0 m 116 ls [])) : ∀ (n : Nat) (v7 : Int32) (S : zS) (H : Heap) (locs : List Loc) (ls : Array Slot), z_I D cA 51 ad s.heap S H locs → lv_has ls 8 [(0, .ref (ad 31)), (1, .int v1), (2, .int v2), (3, .int v3), (4, .int v4), (5, .int v5), (6, .int v6), (7, .int v7)] → L_M_takeCover_57 post K116 v1 v2 v3 v4 v5 v6 n v7 S → W p l e rm_M_takeCover s m args below meth c H locs cells slots Q (F0 m 57 ls []) := by
  obtain ⟨hx, hb, hml, hown, hts, hK, hJ⟩ := id C
  intro n
  induction n with
  | zero => intro v7 S H locs ls hI hl h; exact h.elim
  | succ n ih =>
    intro v7 S H locs ls hI hl h
    rw [L_M_takeCover_57] at h
    refine lv_iload hx hb d_M_takeCover_57 (lv_at hl 7 rfl) ?_
    refine lv_iload hx hb d_M_takeCover_59 (lv_at hl 5 rfl) ?_
    refine lv_icmp_ge (tgt := 116) hx hb d_M_takeCover_61 (by decide) (fun q => ?_) (fun q => ?_)
    · replace h := h.1 q
      exact kK116 v7 S _ _ ls h hI (lv_sub hl [0, 1, 2, 3, 4, 6, 7] rfl)
    · replace h := h.2 q
      refine lv_aload_n hx hb d_M_takeCover_64 rfl (lv_at hl 0 rfl) ?_
      refine z_getR C hI 31 (by decide) kd_31 cl_M iw_M 8 (by decide) k_fl_M_23 rfl d_M_takeCover_65 ?_
      refine lv_bipush (v := 24) hx hb d_M_takeCover_68 (by decide) ?_
      refine lv_iload_n hx hb d_M_takeCover_70 rfl (lv_at hl 3 rfl) ?_
      refine lv_iload hx hb d_M_takeCover_71 (lv_at hl 6 rfl) ?_
      refine lv_iadd hx hb d_M_takeCover_73 ?_
      refine lv_iconst (v := 1) hx hb d_M_takeCover_74 (by decide) ?_
      refine lv_isub hx hb d_M_takeCover_75 ?_
      refine lv_imul hx hb d_M_takeCover_76 ?_
      refine lv_iload hx hb d_M_takeCover_77 (lv_at hl 4 rfl) ?_
      refine lv_iadd hx hb d_M_takeCover_79 ?_
      refine lv_iload hx hb d_M_takeCover_80 (lv_at hl 7 rfl) ?_
      refine lv_iadd hx hb d_M_takeCover_82 ?_
      obtain ⟨h1, h⟩ := h
      refine z_zld C hI 35 (by decide) kd_35 h1 d_M_takeCover_83 ?_
      refine lv_if_ne (tgt := 116) hx hb d_M_takeCover_84 (by decide) (fun q => ?_) (fun q => ?_)
      · replace h := h.1 q
        exact kK116 v7 S _ _ ls h hI (lv_sub hl [0, 1, 2, 3, 4, 6, 7] rfl)
      · replace h := h.2 q
        refine lv_aload_n hx hb d_M_takeCover_87 rfl (lv_at hl 0 rfl) ?_
        refine z_getR C hI 31 (by decide) kd_31 cl_M iw_M 9 (by decide) k_fl_M_26 rfl d_M_takeCover_88 ?_
        refine lv_bipush (v := 24) hx hb d_M_takeCover_91 (by decide) ?_
        refine lv_iload_n hx hb d_M_takeCover_93 rfl (lv_at hl 3 rfl) ?_
        refine lv_iload hx hb d_M_takeCover_94 (lv_at hl 6 rfl) ?_
        refine lv_iadd hx hb d_M_takeCover_96 ?_
        refine lv_iconst (v := 1) hx hb d_M_takeCover_97 (by decide) ?_
        refine lv_isub hx hb d_M_takeCover_98 ?_
        refine lv_imul hx hb d_M_takeCover_99 ?_
        refine lv_iload hx hb d_M_takeCover_100 (lv_at hl 4 rfl) ?_
        refine lv_iadd hx hb d_M_takeCover_102 ?_
        refine lv_iload hx hb d_M_takeCover_103 (lv_at hl 7 rfl) ?_
        refine lv_iadd hx hb d_M_takeCover_105 ?_
        obtain ⟨h1, h⟩ := h
        refine z_zld C hI 36 (by decide) kd_36 h1 d_M_takeCover_106 ?_
        refine lv_if_ne (tgt := 116) hx hb d_M_takeCover_107 (by decide) (fun q => ?_) (fun q => ?_)
        · replace h := h.1 q
          exact kK116 v7 S _ _ ls h hI (lv_sub hl [0, 1, 2, 3, 4, 6, 7] rfl)
        · replace h := h.2 q
          obtain ⟨x110, e110⟩ : ∃ y : Int32, y = v7 + 1 := ⟨_, rfl⟩
          replace h := h x110 e110
          refine lv_iinc (v := x110) (lv' := [(7, .int x110), (0, .ref (ad 31)), (1, .int v1), (2, .int v2), (3, .int v3), (4, .int v4), (5, .int v5), (6, .int v6)]) hx hb d_M_takeCover_110 hl (k := 7) rfl (by rw [e110]; rfl) (by decide) rfl (fun ls hl => ?_)
          refine lv_goto (tgt := 57) hx hb d_M_takeCover_113 (by decide) ?_
          exact ih x110 S _ _ ls hI (lv_sub hl [1, 2, 3, 4, 5, 6, 7, 0] rfl) h
set_option maxHeartbeats 4000000 in
set_option maxRecDepth 100000 in
theorem w_M_takeCover_116 (C : z_CT p s m args c R_M b_M_takeCover 8 D cA 51 ad) (hcs : cells ≤ rm_M_takeCover.cells ∧ slots ≤ rm_M_takeCover.slots) (post : Int32 → zS → Prop) (K38 : Int32 → Int32 → Int32 → Int32 → zS → Prop) (v1 : Int32) (v2 : Int32) (v3 : Int32) (v4 : Int32) (v6 : Int32) (v7 : Int32) (hR : z_Rz p l e rm_M_takeCover s m args below meth c Q b_M_takeCover D cA 51 ad post) (kK38 : ∀ (v1 : Int32) (v2 : Int32) (v5 : Int32) (v6 : Int32) (S : zS) (H : Heap) (locs : List Loc) (ls : Array Slot), K38 v1 v2 v5 v6 S → z_I D cA 51 ad s.heap S H locs → lv_has ls 8 [(0, .ref (ad 31)), (1, .int v1), (2, .int v2), (3, .int v3), (4, .int v4), (5, .int v5), (6, .int v6)] → W p l e rm_M_takeCover s m args below meth c H locs cells slots Q (F0 m 38 ls [])) (S : zS) (H : Heap) (locs : List Loc) (ls : Array Slot) (hI : z_I D cA 51 ad s.heap S H locs) (hl : lv_has ls 8 [(0, .ref (ad 31)), (1, .int v1), (2, .int v2), (3, .int v3), (4, .int v4), (6, .int v6), (7, .int v7)]) (h : J_M_takeCover_116 post K38 v1 v2 v3 v4 v6 v7 S) : W p l e rm_M_takeCover s m args below meth c H locs cells slots Q (F0 m 116 ls []) := by
  obtain ⟨hx, hb, hml, hown, hts, hK, hJ⟩ := id C
  unfold J_M_takeCover_116 at h
  refine lv_iload hx hb d_M_takeCover_116 (lv_at hl 6 rfl) ?_
  refine lv_istore (lv' := [(5, .int v7), (0, .ref (ad 31)), (1, .int v1), (2, .int v2), (3, .int v3), (4, .int v4), (6, .int v6), (7, .int v7)]) hx hb d_M_takeCover_118 hl (by decide) rfl (fun ls hl => ?_)
  refine lv_iload hx hb d_M_takeCover_120 (lv_at hl 0 rfl) ?_
  refine lv_iload hx hb d_M_takeCover_122 (lv_at hl 6 rfl) ?_
  refine lv_imul hx hb d_M_takeCover_124 ?_
  refine lv_iload_n hx hb d_M_takeCover_125 rfl (lv_at hl 2 rfl) ?_
  refine lv_icmp_le (tgt := 155) hx hb d_M_takeCover_126 (by decide) (fun q => ?_) (fun q => ?_)
  · replace h := h.1 q
    obtain ⟨x155, e155⟩ : ∃ y : Int32, y = v6 + 1 := ⟨_, rfl⟩
    replace h := h x155 e155
    refine lv_iinc (v := x155) (lv' := [(6, .int x155), (5, .int v7), (0, .ref (ad 31)), (1, .int v1), (2, .int v2), (3, .int v3), (4, .int v4), (7, .int v7)]) hx hb d_M_takeCover_155 hl (k := 6) rfl (by rw [e155]; rfl) (by decide) rfl (fun ls hl => ?_)
    refine lv_goto (tgt := 38) hx hb d_M_takeCover_158 (by decide) ?_
    exact kK38 v1 v2 v7 x155 S _ _ ls h hI (lv_sub hl [2, 3, 4, 5, 6, 1, 0] rfl)
  · replace h := h.2 q
    refine lv_iload hx hb d_M_takeCover_129 (lv_at hl 0 rfl) ?_
    refine lv_iload hx hb d_M_takeCover_131 (lv_at hl 6 rfl) ?_
    refine lv_imul hx hb d_M_takeCover_133 ?_
    refine lv_topi (fun x134 e134 => ?_)
    replace h := h x134 e134
    refine lv_istore_n (lv' := [(1, .int x134), (5, .int v7), (0, .ref (ad 31)), (2, .int v2), (3, .int v3), (4, .int v4), (6, .int v6), (7, .int v7)]) hx hb d_M_takeCover_134 rfl hl (by decide) rfl (fun ls hl => ?_)
    refine lv_bipush (v := 24) hx hb d_M_takeCover_135 (by decide) ?_
    refine lv_iload_n hx hb d_M_takeCover_137 rfl (lv_at hl 4 rfl) ?_
    refine lv_imul hx hb d_M_takeCover_138 ?_
    refine lv_iload hx hb d_M_takeCover_139 (lv_at hl 5 rfl) ?_
    refine lv_iadd hx hb d_M_takeCover_141 ?_
    refine lv_bipush (v := 32) hx hb d_M_takeCover_142 (by decide) ?_
    refine lv_imul hx hb d_M_takeCover_144 ?_
    refine lv_iload hx hb d_M_takeCover_145 (lv_at hl 1 rfl) ?_
    refine lv_iadd hx hb d_M_takeCover_147 ?_
    refine lv_bipush (v := 32) hx hb d_M_takeCover_148 (by decide) ?_
    refine lv_imul hx hb d_M_takeCover_150 ?_
    refine lv_iload hx hb d_M_takeCover_151 (lv_at hl 6 rfl) ?_
    refine lv_iadd hx hb d_M_takeCover_153 ?_
    refine lv_topi (fun x154 e154 => ?_)
    replace h := h x154 e154
    refine lv_istore_n (lv' := [(2, .int x154), (1, .int x134), (5, .int v7), (0, .ref (ad 31)), (3, .int v3), (4, .int v4), (6, .int v6), (7, .int v7)]) hx hb d_M_takeCover_154 rfl hl (by decide) rfl (fun ls hl => ?_)
    obtain ⟨x155, e155⟩ : ∃ y : Int32, y = v6 + 1 := ⟨_, rfl⟩
    replace h := h x155 e155
    refine lv_iinc (v := x155) (lv' := [(6, .int x155), (2, .int x154), (1, .int x134), (5, .int v7), (0, .ref (ad 31)), (3, .int v3), (4, .int v4), (7, .int v7)]) hx hb d_M_takeCover_155 hl (k := 6) rfl (by rw [e155]; rfl) (by decide) rfl (fun ls hl => ?_)
    refine lv_goto (tgt := 38) hx hb d_M_takeCover_158 (by decide) ?_
    exact kK38 x134 x154 v7 x155 S _ _ ls h hI (lv_sub hl [4, 2, 1, 5, 6, 3, 0] rfl)
set_option maxHeartbeats 4000000 in
set_option maxRecDepth 100000 in
theorem w_M_takeCover_38 (C : z_CT p s m args c R_M b_M_takeCover 8 D cA 51 ad) (hcs : cells ≤ rm_M_takeCover.cells ∧ slots ≤ rm_M_takeCover.slots) (post : Int32 → zS → Prop) (K161 : Int32 → Int32 → zS → Prop) (v3 : Int32) (v4 : Int32) (hR : z_Rz p l e rm_M_takeCover s m args below meth c Q b_M_takeCover D cA 51 ad post) (kK161 : ∀ (v1 : Int32) (v2 : Int32) (S : zS) (H : Heap) (locs : List Loc) (ls : Array Slot), K161 v1 v2 S → z_I D cA 51 ad s.heap S H locs → lv_has ls 8 [(0, .ref (ad 31)), (1, .int v1), (2, .int v2), (3, .int v3), (4, .int v4)] → W p l e rm_M_takeCover s m args below meth c H locs cells slots Q (F0 m 161 ls [])) : ∀ (n : Nat) (v1 : Int32) (v2 : Int32) (v5 : Int32) (v6 : Int32) (S : zS) (H : Heap) (locs : List Loc) (ls : Array Slot), z_I D cA 51 ad s.heap S H locs → lv_has ls 8 [(0, .ref (ad 31)), (1, .int v1), (2, .int v2), (3, .int v3), (4, .int v4), (5, .int v5), (6, .int v6)] → L_M_takeCover_38 post K161 v3 v4 n v1 v2 v5 v6 S → W p l e rm_M_takeCover s m args below meth c H locs cells slots Q (F0 m 38 ls []) := by
  obtain ⟨hx, hb, hml, hown, hts, hK, hJ⟩ := id C
  intro n
  induction n with
  | zero => intro v1 v2 v5 v6 S H locs ls hI hl h; exact h.elim
  | succ n ih =>
    intro v1 v2 v5 v6 S H locs ls hI hl h
    rw [L_M_takeCover_38] at h
    refine lv_iload_n hx hb d_M_takeCover_38 rfl (lv_at hl 3 rfl) ?_
    refine lv_iload hx hb d_M_takeCover_39 (lv_at hl 6 rfl) ?_
    refine lv_iadd hx hb d_M_takeCover_41 ?_
    refine lv_aload_n hx hb d_M_takeCover_42 rfl (lv_at hl 0 rfl) ?_
    refine z_getI C hI 31 (by decide) kd_31 cl_M iw_M 2 (by decide) k_fl_M_76 rfl d_M_takeCover_43 ?_
    refine lv_icmp_gt (tgt := 161) hx hb d_M_takeCover_46 (by decide) (fun q => ?_) (fun q => ?_)
    · replace h := h.1 q
      exact kK161 v1 v2 S _ _ ls h hI (lv_sub hl [0, 1, 2, 3, 4] rfl)
    · replace h := h.2 q
      refine lv_iload hx hb d_M_takeCover_49 (lv_at hl 5 rfl) ?_
      refine lv_if_le (tgt := 161) hx hb d_M_takeCover_51 (by decide) (fun q => ?_) (fun q => ?_)
      · replace h := h.1 q
        exact kK161 v1 v2 S _ _ ls h hI (lv_sub hl [0, 1, 2, 3, 4] rfl)
      · replace h := h.2 q
        refine lv_iconst (v := 0) hx hb d_M_takeCover_54 (by decide) ?_
        refine lv_istore (lv' := [(7, .int 0), (0, .ref (ad 31)), (1, .int v1), (2, .int v2), (3, .int v3), (4, .int v4), (5, .int v5), (6, .int v6)]) hx hb d_M_takeCover_55 hl (by decide) rfl (fun ls hl => ?_)
        obtain ⟨k57, h⟩ := h
        refine w_M_takeCover_57 C hcs _ _ v1 v2 v3 v4 v5 v6 hR (fun v7_57e S57e H locs ls h hI hl => ?_) k57 0 S _ _ ls hI (lv_sub hl [1, 2, 3, 4, 5, 6, 7, 0] rfl) h
        exact w_M_takeCover_116 C hcs _ _ v1 v2 v3 v4 v6 v7_57e hR (fun v1 v2 v5 v6 S H locs ls h hI hl => ih v1 v2 v5 v6 S H locs ls hI hl h) S57e _ _ ls hI (lv_sub hl [0, 1, 2, 3, 4, 5, 6] rfl) h
set_option maxHeartbeats 4000000 in
set_option maxRecDepth 100000 in
theorem w_M_takeCover_17 (C : z_CT p s m args c R_M b_M_takeCover 8 D cA 51 ad) (hcs : cells ≤ rm_M_takeCover.cells ∧ slots ≤ rm_M_takeCover.slots) (post : Int32 → zS → Prop) (K167 : Int32 → Int32 → zS → Prop) (v3 : Int32) (hR : z_Rz p l e rm_M_takeCover s m args below meth c Q b_M_takeCover D cA 51 ad post) (kK167 : ∀ (v1 : Int32) (v2 : Int32) (S : zS) (H : Heap) (locs : List Loc) (ls : Array Slot), K167 v1 v2 S → z_I D cA 51 ad s.heap S H locs → lv_has ls 8 [(0, .ref (ad 31)), (1, .int v1), (2, .int v2), (3, .int v3)] → W p l e rm_M_takeCover s m args below meth c H locs cells slots Q (F0 m 167 ls [])) : ∀ (n : Nat) (v1 : Int32) (v2 : Int32) (v4 : Int32) (S : zS) (H : Heap) (locs : List Loc) (ls : Array Slot), z_I D cA 51 ad s.heap S H locs → lv_has ls 8 [(0, .ref (ad 31)), (1, .int v1), (2, .int v2), (3, .int v3), (4, .int v4)] → L_M_takeCover_17 post K167 v3 n v1 v2 v4 S → W p l e rm_M_takeCover s m args below meth c H locs cells slots Q (F0 m 17 ls []) := by
  obtain ⟨hx, hb, hml, hown, hts, hK, hJ⟩ := id C
  intro n
  induction n with
  | zero => intro v1 v2 v4 S H locs ls hI hl h; exact h.elim
  | succ n ih =>
    intro v1 v2 v4 S H locs ls hI hl h
    rw [L_M_takeCover_17] at h
    refine lv_iload hx hb d_M_takeCover_17 (lv_at hl 4 rfl) ?_
    refine lv_aload_n hx hb d_M_takeCover_19 rfl (lv_at hl 0 rfl) ?_
    refine z_getI C hI 31 (by decide) kd_31 cl_M iw_M 1 (by decide) k_fl_M_73 rfl d_M_takeCover_20 ?_
    refine lv_icmp_ge (tgt := 167) hx hb d_M_takeCover_23 (by decide) (fun q => ?_) (fun q => ?_)
    · replace h := h.1 q
      exact kK167 v1 v2 S _ _ ls h hI (lv_sub hl [0, 1, 2, 3] rfl)
    · replace h := h.2 q
      refine lv_aload_n hx hb d_M_takeCover_26 rfl (lv_at hl 0 rfl) ?_
      refine z_getI C hI 31 (by decide) kd_31 cl_M iw_M 1 (by decide) k_fl_M_73 rfl d_M_takeCover_27 ?_
      refine lv_iload hx hb d_M_takeCover_30 (lv_at hl 4 rfl) ?_
      refine lv_isub hx hb d_M_takeCover_32 ?_
      refine lv_topi (fun x33 e33 => ?_)
      replace h := h x33 e33
      refine lv_istore (lv' := [(5, .int x33), (0, .ref (ad 31)), (1, .int v1), (2, .int v2), (3, .int v3), (4, .int v4)]) hx hb d_M_takeCover_33 hl (by decide) rfl (fun ls hl => ?_)
      refine lv_iconst (v := 1) hx hb d_M_takeCover_35 (by decide) ?_
      refine lv_istore (lv' := [(6, .int 1), (5, .int x33), (0, .ref (ad 31)), (1, .int v1), (2, .int v2), (3, .int v3), (4, .int v4)]) hx hb d_M_takeCover_36 hl (by decide) rfl (fun ls hl => ?_)
      obtain ⟨k38, h⟩ := h
      refine w_M_takeCover_38 C hcs _ _ v3 v4 hR (fun v1_38e v2_38e S38e H locs ls h hI hl => ?_) k38 v1 v2 x33 1 S _ _ ls hI (lv_sub hl [2, 3, 4, 5, 6, 1, 0] rfl) h
      obtain ⟨x161, e161⟩ : ∃ y : Int32, y = v4 + 1 := ⟨_, rfl⟩
      replace h := h x161 e161
      refine lv_iinc (v := x161) (lv' := [(4, .int x161), (0, .ref (ad 31)), (1, .int v1_38e), (2, .int v2_38e), (3, .int v3)]) hx hb d_M_takeCover_161 hl (k := 4) rfl (by rw [e161]; rfl) (by decide) rfl (fun ls hl => ?_)
      refine lv_goto (tgt := 17) hx hb d_M_takeCover_164 (by decide) ?_
      exact ih v1_38e v2_38e x161 S38e _ _ ls hI (lv_sub hl [1, 2, 3, 4, 0] rfl) h
set_option maxHeartbeats 4000000 in
set_option maxRecDepth 100000 in
theorem w_M_takeCover_6 (C : z_CT p s m args c R_M b_M_takeCover 8 D cA 51 ad) (hcs : cells ≤ rm_M_takeCover.cells ∧ slots ≤ rm_M_takeCover.slots) (post : Int32 → zS → Prop) (K173 : Int32 → zS → Prop) (hR : z_Rz p l e rm_M_takeCover s m args below meth c Q b_M_takeCover D cA 51 ad post) (kK173 : ∀ (v2 : Int32) (S : zS) (H : Heap) (locs : List Loc) (ls : Array Slot), K173 v2 S → z_I D cA 51 ad s.heap S H locs → lv_has ls 8 [(0, .ref (ad 31)), (2, .int v2)] → W p l e rm_M_takeCover s m args below meth c H locs cells slots Q (F0 m 173 ls [])) : ∀ (n : Nat) (v1 : Int32) (v2 : Int32) (v3 : Int32) (S : zS) (H : Heap) (locs : List Loc) (ls : Array Slot), z_I D cA 51 ad s.heap S H locs → lv_has ls 8 [(0, .ref (ad 31)), (1, .int v1), (2, .int v2), (3, .int v3)] → L_M_takeCover_6 post K173 n v1 v2 v3 S → W p l e rm_M_takeCover s m args below meth c H locs cells slots Q (F0 m 6 ls []) := by
  obtain ⟨hx, hb, hml, hown, hts, hK, hJ⟩ := id C
  intro n
  induction n with
  | zero => intro v1 v2 v3 S H locs ls hI hl h; exact h.elim
  | succ n ih =>
    intro v1 v2 v3 S H locs ls hI hl h
    rw [L_M_takeCover_6] at h
    refine lv_iload_n hx hb d_M_takeCover_6 rfl (lv_at hl 3 rfl) ?_
    refine lv_aload_n hx hb d_M_takeCover_7 rfl (lv_at hl 0 rfl) ?_
    refine z_getI C hI 31 (by decide) kd_31 cl_M iw_M 2 (by decide) k_fl_M_76 rfl d_M_takeCover_8 ?_
    refine lv_icmp_ge (tgt := 173) hx hb d_M_takeCover_11 (by decide) (fun q => ?_) (fun q => ?_)
    · replace h := h.1 q
      exact kK173 v2 S _ _ ls h hI (lv_sub hl [0, 2] rfl)
    · replace h := h.2 q
      refine lv_iconst (v := 0) hx hb d_M_takeCover_14 (by decide) ?_
      refine lv_istore (lv' := [(4, .int 0), (0, .ref (ad 31)), (1, .int v1), (2, .int v2), (3, .int v3)]) hx hb d_M_takeCover_15 hl (by decide) rfl (fun ls hl => ?_)
      obtain ⟨k17, h⟩ := h
      refine w_M_takeCover_17 C hcs _ _ v3 hR (fun v1_17e v2_17e S17e H locs ls h hI hl => ?_) k17 v1 v2 0 S _ _ ls hI (lv_sub hl [1, 2, 3, 4, 0] rfl) h
      obtain ⟨x167, e167⟩ : ∃ y : Int32, y = v3 + 1 := ⟨_, rfl⟩
      replace h := h x167 e167
      refine lv_iinc (v := x167) (lv' := [(3, .int x167), (0, .ref (ad 31)), (1, .int v1_17e), (2, .int v2_17e)]) hx hb d_M_takeCover_167 hl (k := 3) rfl (by rw [e167]; rfl) (by decide) rfl (fun ls hl => ?_)
      refine lv_goto (tgt := 6) hx hb d_M_takeCover_170 (by decide) ?_
      exact ih v1_17e v2_17e x167 S17e _ _ ls hI (lv_sub hl [1, 2, 3, 0] rfl) h
set_option maxHeartbeats 4000000 in
set_option maxRecDepth 100000 in
theorem w_M_takeCover_279 (C : z_CT p s m args c R_M b_M_takeCover 8 D cA 51 ad) (hcs : cells ≤ rm_M_takeCover.cells ∧ slots ≤ rm_M_takeCover.slots) (post : Int32 → zS → Prop) (K315 : zS → Prop) (v3 : Int32) (v4 : Int32) (v5 : Int32) (v6 : Int32) (hR : z_Rz p l e rm_M_takeCover s m args below meth c Q b_M_takeCover D cA 51 ad post) (kK315 : ∀ (S : zS) (H : Heap) (locs : List Loc) (ls : Array Slot), K315 S → z_I D cA 51 ad s.heap S H locs → lv_has ls 8 [(0, .ref (ad 31)), (3, .int v3), (4, .int v4), (5, .int v5), (6, .int v6)] → W p l e rm_M_takeCover s m args below meth c H locs cells slots Q (F0 m 315 ls [])) : ∀ (n : Nat) (v7 : Int32) (S : zS) (H : Heap) (locs : List Loc) (ls : Array Slot), z_I D cA 51 ad s.heap S H locs → lv_has ls 8 [(0, .ref (ad 31)), (3, .int v3), (4, .int v4), (5, .int v5), (6, .int v6), (7, .int v7)] → L_M_takeCover_279 post K315 v3 v4 v5 v6 n v7 S → W p l e rm_M_takeCover s m args below meth c H locs cells slots Q (F0 m 279 ls []) := by
  obtain ⟨hx, hb, hml, hown, hts, hK, hJ⟩ := id C
  intro n
  induction n with
  | zero => intro v7 S H locs ls hI hl h; exact h.elim
  | succ n ih =>
    intro v7 S H locs ls hI hl h
    rw [L_M_takeCover_279] at h
    refine lv_iload hx hb d_M_takeCover_279 (lv_at hl 5 rfl) ?_
    refine lv_iload_n hx hb d_M_takeCover_281 rfl (lv_at hl 1 rfl) ?_
    refine lv_aload_n hx hb d_M_takeCover_282 rfl (lv_at hl 0 rfl) ?_
    refine z_getR C hI 31 (by decide) kd_31 cl_M iw_M 20 (by decide) k_fl_M_54 rfl d_M_takeCover_283 ?_
    refine lv_iload hx hb d_M_takeCover_286 (lv_at hl 3 rfl) ?_
    refine lv_iconst (v := 2) hx hb d_M_takeCover_288 (by decide) ?_
    refine lv_iadd hx hb d_M_takeCover_289 ?_
    obtain ⟨h1, h⟩ := h
    refine z_ild C hI 45 (by decide) kd_45 h1 d_M_takeCover_290 ?_
    refine lv_iadd hx hb d_M_takeCover_291 ?_
    refine lv_icmp_ge (tgt := 315) hx hb d_M_takeCover_292 (by decide) (fun q => ?_) (fun q => ?_)
    · replace h := h.1 q
      exact kK315 S _ _ ls h hI (lv_sub hl [0, 1, 2, 3, 4] rfl)
    · replace h := h.2 q
      refine lv_aload_n hx hb d_M_takeCover_295 rfl (lv_at hl 0 rfl) ?_
      refine z_getR C hI 31 (by decide) kd_31 cl_M iw_M 9 (by decide) k_fl_M_26 rfl d_M_takeCover_296 ?_
      refine lv_bipush (v := 24) hx hb d_M_takeCover_299 (by decide) ?_
      refine lv_iload hx hb d_M_takeCover_301 (lv_at hl 4 rfl) ?_
      refine lv_imul hx hb d_M_takeCover_303 ?_
      refine lv_iload hx hb d_M_takeCover_304 (lv_at hl 5 rfl) ?_
      refine lv_iadd hx hb d_M_takeCover_306 ?_
      refine lv_iconst (v := 1) hx hb d_M_takeCover_307 (by decide) ?_
      obtain ⟨h1, h⟩ := h
      refine z_zst C hI 36 (by decide) kd_36 h1 (by decide) d_M_takeCover_308 (fun S308 eS H locs hI => ?_)
      replace h := h S308 eS
      obtain ⟨x309, e309⟩ : ∃ y : Int32, y = v7 + 1 := ⟨_, rfl⟩
      replace h := h x309 e309
      refine lv_iinc (v := x309) (lv' := [(7, .int x309), (0, .ref (ad 31)), (3, .int v3), (4, .int v4), (5, .int v5), (6, .int v6)]) hx hb d_M_takeCover_309 hl (k := 5) rfl (by rw [e309]; rfl) (by decide) rfl (fun ls hl => ?_)
      refine lv_goto (tgt := 279) hx hb d_M_takeCover_312 (by decide) ?_
      exact ih x309 S308 _ _ ls hI (lv_sub hl [1, 2, 3, 4, 5, 0] rfl) h
set_option maxHeartbeats 4000000 in
set_option maxRecDepth 100000 in
theorem w_M_takeCover_259 (C : z_CT p s m args c R_M b_M_takeCover 8 D cA 51 ad) (hcs : cells ≤ rm_M_takeCover.cells ∧ slots ≤ rm_M_takeCover.slots) (post : Int32 → zS → Prop) (K321 : zS → Prop) (v3 : Int32) (v4 : Int32) (v5 : Int32) (hR : z_Rz p l e rm_M_takeCover s m args below meth c Q b_M_takeCover D cA 51 ad post) (kK321 : ∀ (S : zS) (H : Heap) (locs : List Loc) (ls : Array Slot), K321 S → z_I D cA 51 ad s.heap S H locs → lv_has ls 8 [(0, .ref (ad 31))] → W p l e rm_M_takeCover s m args below meth c H locs cells slots Q (F0 m 321 ls [])) : ∀ (n : Nat) (v6 : Int32) (S : zS) (H : Heap) (locs : List Loc) (ls : Array Slot), z_I D cA 51 ad s.heap S H locs → lv_has ls 8 [(0, .ref (ad 31)), (3, .int v3), (4, .int v4), (5, .int v5), (6, .int v6)] → L_M_takeCover_259 post K321 v3 v4 v5 n v6 S → W p l e rm_M_takeCover s m args below meth c H locs cells slots Q (F0 m 259 ls []) := by
  obtain ⟨hx, hb, hml, hown, hts, hK, hJ⟩ := id C
  intro n
  induction n with
  | zero => intro v6 S H locs ls hI hl h; exact h.elim
  | succ n ih =>
    intro v6 S H locs ls hI hl h
    rw [L_M_takeCover_259] at h
    refine lv_iload hx hb d_M_takeCover_259 (lv_at hl 4 rfl) ?_
    refine lv_iload hx hb d_M_takeCover_261 (lv_at hl 2 rfl) ?_
    refine lv_aload_n hx hb d_M_takeCover_263 rfl (lv_at hl 0 rfl) ?_
    refine z_getR C hI 31 (by decide) kd_31 cl_M iw_M 20 (by decide) k_fl_M_54 rfl d_M_takeCover_264 ?_
    refine lv_iload hx hb d_M_takeCover_267 (lv_at hl 3 rfl) ?_
    refine lv_iconst (v := 3) hx hb d_M_takeCover_269 (by decide) ?_
    refine lv_iadd hx hb d_M_takeCover_270 ?_
    obtain ⟨h1, h⟩ := h
    refine z_ild C hI 45 (by decide) kd_45 h1 d_M_takeCover_271 ?_
    refine lv_iadd hx hb d_M_takeCover_272 ?_
    refine lv_icmp_ge (tgt := 321) hx hb d_M_takeCover_273 (by decide) (fun q => ?_) (fun q => ?_)
    · replace h := h.1 q
      exact kK321 S _ _ ls h hI (lv_sub hl [0] rfl)
    · replace h := h.2 q
      refine lv_iload_n hx hb d_M_takeCover_276 rfl (lv_at hl 1 rfl) ?_
      refine lv_istore (lv' := [(7, .int v3), (0, .ref (ad 31)), (3, .int v3), (4, .int v4), (5, .int v5), (6, .int v6)]) hx hb d_M_takeCover_277 hl (by decide) rfl (fun ls hl => ?_)
      obtain ⟨k279, h⟩ := h
      refine w_M_takeCover_279 C hcs _ _ v3 v4 v5 v6 hR (fun S279e H locs ls h hI hl => ?_) k279 v3 S _ _ ls hI (lv_sub hl [1, 2, 3, 4, 5, 0] rfl) h
      obtain ⟨x315, e315⟩ : ∃ y : Int32, y = v6 + 1 := ⟨_, rfl⟩
      replace h := h x315 e315
      refine lv_iinc (v := x315) (lv' := [(6, .int x315), (0, .ref (ad 31)), (3, .int v3), (4, .int v4), (5, .int v5)]) hx hb d_M_takeCover_315 hl (k := 4) rfl (by rw [e315]; rfl) (by decide) rfl (fun ls hl => ?_)
      refine lv_goto (tgt := 259) hx hb d_M_takeCover_318 (by decide) ?_
      exact ih x315 S279e _ _ ls hI (lv_sub hl [1, 2, 3, 4, 0] rfl) h
set_option maxHeartbeats 4000000 in
set_option maxRecDepth 100000 in
theorem c_M_takeCover (S : zS) (post : Int32 → zS → Prop) (h : P_M_takeCover S post) : z_cti l D cA 51 ad y_M_takeCover b_M_takeCover 8 (some .boolean) rm_M_takeCover [.ref (ad 31)] S post := by
  refine z_metz (av := [.ref (ad 31)]) (by decide) (Nat.le_of_ble_eq_true rfl) ⟨rfl, rfl⟩ (fun p e s m args below meth c Q ls C hcs hl hI hR => ?_)
  obtain ⟨hx, hb, hml, hown, hts, hK, hJ⟩ := id C
  unfold P_M_takeCover at h
  have hl : lv_has ls 8 [(0, .ref (ad 31))] := hl
  refine lv_iconst (v := 3) hx hb d_M_takeCover_0 (by decide) ?_
  refine lv_istore_n (lv' := [(1, .int 3), (0, .ref (ad 31))]) hx hb d_M_takeCover_1 rfl hl (by decide) rfl (fun ls hl => ?_)
  refine lv_iconst (v := (-1)) hx hb d_M_takeCover_2 (by decide) ?_
  refine lv_istore_n (lv' := [(2, .int (-1)), (1, .int 3), (0, .ref (ad 31))]) hx hb d_M_takeCover_3 rfl hl (by decide) rfl (fun ls hl => ?_)
  refine lv_iconst (v := 0) hx hb d_M_takeCover_4 (by decide) ?_
  refine lv_istore_n (lv' := [(3, .int 0), (2, .int (-1)), (1, .int 3), (0, .ref (ad 31))]) hx hb d_M_takeCover_5 rfl hl (by decide) rfl (fun ls hl => ?_)
  obtain ⟨k6, h⟩ := h
  refine w_M_takeCover_6 C hcs _ _ hR (fun v2_6e S6e H locs ls h hI hl => ?_) k6 3 (-1) 0 S _ _ ls hI (lv_sub hl [3, 2, 1, 0] rfl) h
  refine lv_iload_n hx hb d_M_takeCover_173 rfl (lv_at hl 1 rfl) ?_
  refine lv_iconst (v := (-1)) hx hb d_M_takeCover_174 (by decide) ?_
  refine lv_icmp_ne (tgt := 180) hx hb d_M_takeCover_175 (by decide) (fun q => ?_) (fun q => ?_)
  · replace h := h.1 q
    refine lv_iload_n hx hb d_M_takeCover_180 rfl (lv_at hl 1 rfl) ?_
    refine lv_sipush (v := 1024) hx hb d_M_takeCover_181 (by decide) ?_
    refine lv_idiv hx hb d_M_takeCover_184 (by decide) ?_
    refine lv_bipush (v := 24) hx hb d_M_takeCover_185 (by decide) ?_
    refine lv_irem hx hb d_M_takeCover_187 (by decide) ?_
    refine lv_topi (fun x188 e188 => ?_)
    replace h := h x188 e188
    refine lv_istore_n (lv' := [(3, .int x188), (0, .ref (ad 31)), (2, .int v2_6e)]) hx hb d_M_takeCover_188 rfl hl (by decide) rfl (fun ls hl => ?_)
    refine lv_iload_n hx hb d_M_takeCover_189 rfl (lv_at hl 2 rfl) ?_
    refine lv_sipush (v := 1024) hx hb d_M_takeCover_190 (by decide) ?_
    refine lv_idiv hx hb d_M_takeCover_193 (by decide) ?_
    refine lv_bipush (v := 24) hx hb d_M_takeCover_194 (by decide) ?_
    refine lv_idiv hx hb d_M_takeCover_196 (by decide) ?_
    refine lv_topi (fun x197 e197 => ?_)
    replace h := h x197 e197
    refine lv_istore (lv' := [(4, .int x197), (3, .int x188), (0, .ref (ad 31)), (2, .int v2_6e)]) hx hb d_M_takeCover_197 hl (by decide) rfl (fun ls hl => ?_)
    refine lv_iconst (v := 4) hx hb d_M_takeCover_199 (by decide) ?_
    refine lv_aload_n hx hb d_M_takeCover_200 rfl (lv_at hl 2 rfl) ?_
    refine z_getI C hI 31 (by decide) kd_31 cl_M iw_M 19 (by decide) k_fl_M_127 rfl d_M_takeCover_201 ?_
    refine lv_imul hx hb d_M_takeCover_204 ?_
    refine lv_topi (fun x205 e205 => ?_)
    replace h := h x205 e205
    refine lv_istore (lv' := [(5, .int x205), (4, .int x197), (3, .int x188), (0, .ref (ad 31)), (2, .int v2_6e)]) hx hb d_M_takeCover_205 hl (by decide) rfl (fun ls hl => ?_)
    refine lv_aload_n hx hb d_M_takeCover_207 rfl (lv_at hl 3 rfl) ?_
    refine z_getR C hI 31 (by decide) kd_31 cl_M iw_M 20 (by decide) k_fl_M_54 rfl d_M_takeCover_208 ?_
    refine lv_iload hx hb d_M_takeCover_211 (lv_at hl 0 rfl) ?_
    refine lv_iload_n hx hb d_M_takeCover_213 rfl (lv_at hl 2 rfl) ?_
    obtain ⟨h1, h⟩ := h
    refine z_ist C hI 45 (by decide) kd_45 h1 d_M_takeCover_214 (fun S214 eS H locs hI => ?_)
    replace h := h S214 eS
    refine lv_aload_n hx hb d_M_takeCover_215 rfl (lv_at hl 3 rfl) ?_
    refine z_getR C hI 31 (by decide) kd_31 cl_M iw_M 20 (by decide) k_fl_M_54 rfl d_M_takeCover_216 ?_
    refine lv_iload hx hb d_M_takeCover_219 (lv_at hl 0 rfl) ?_
    refine lv_iconst (v := 1) hx hb d_M_takeCover_221 (by decide) ?_
    refine lv_iadd hx hb d_M_takeCover_222 ?_
    refine lv_iload hx hb d_M_takeCover_223 (lv_at hl 1 rfl) ?_
    obtain ⟨h1, h⟩ := h
    refine z_ist C hI 45 (by decide) kd_45 h1 d_M_takeCover_225 (fun S225 eS H locs hI => ?_)
    replace h := h S225 eS
    refine lv_aload_n hx hb d_M_takeCover_226 rfl (lv_at hl 3 rfl) ?_
    refine z_getR C hI 31 (by decide) kd_31 cl_M iw_M 20 (by decide) k_fl_M_54 rfl d_M_takeCover_227 ?_
    refine lv_iload hx hb d_M_takeCover_230 (lv_at hl 0 rfl) ?_
    refine lv_iconst (v := 2) hx hb d_M_takeCover_232 (by decide) ?_
    refine lv_iadd hx hb d_M_takeCover_233 ?_
    refine lv_iload_n hx hb d_M_takeCover_234 rfl (lv_at hl 4 rfl) ?_
    refine lv_bipush (v := 32) hx hb d_M_takeCover_235 (by decide) ?_
    refine lv_idiv hx hb d_M_takeCover_237 (by decide) ?_
    refine lv_bipush (v := 32) hx hb d_M_takeCover_238 (by decide) ?_
    refine lv_irem hx hb d_M_takeCover_240 (by decide) ?_
    obtain ⟨h1, h⟩ := h
    refine z_ist C hI 45 (by decide) kd_45 h1 d_M_takeCover_241 (fun S241 eS H locs hI => ?_)
    replace h := h S241 eS
    refine lv_aload_n hx hb d_M_takeCover_242 rfl (lv_at hl 3 rfl) ?_
    refine z_getR C hI 31 (by decide) kd_31 cl_M iw_M 20 (by decide) k_fl_M_54 rfl d_M_takeCover_243 ?_
    refine lv_iload hx hb d_M_takeCover_246 (lv_at hl 0 rfl) ?_
    refine lv_iconst (v := 3) hx hb d_M_takeCover_248 (by decide) ?_
    refine lv_iadd hx hb d_M_takeCover_249 ?_
    refine lv_iload_n hx hb d_M_takeCover_250 rfl (lv_at hl 4 rfl) ?_
    refine lv_bipush (v := 32) hx hb d_M_takeCover_251 (by decide) ?_
    refine lv_irem hx hb d_M_takeCover_253 (by decide) ?_
    obtain ⟨h1, h⟩ := h
    refine z_ist C hI 45 (by decide) kd_45 h1 d_M_takeCover_254 (fun S254 eS H locs hI => ?_)
    replace h := h S254 eS
    refine lv_iload hx hb d_M_takeCover_255 (lv_at hl 1 rfl) ?_
    refine lv_istore (lv' := [(6, .int x197), (5, .int x205), (4, .int x197), (3, .int x188), (0, .ref (ad 31)), (2, .int v2_6e)]) hx hb d_M_takeCover_257 hl (by decide) rfl (fun ls hl => ?_)
    obtain ⟨k259, h⟩ := h
    refine w_M_takeCover_259 C hcs _ _ x188 x197 x205 hR (fun S259e H locs ls h hI hl => ?_) k259 x197 S254 _ _ ls hI (lv_sub hl [4, 3, 2, 1, 0] rfl) h
    refine lv_aload_n hx hb d_M_takeCover_321 rfl (lv_at hl 0 rfl) ?_
    refine lv_dup hx hb d_M_takeCover_322 rfl ?_
    refine z_getI C hI 31 (by decide) kd_31 cl_M iw_M 19 (by decide) k_fl_M_127 rfl d_M_takeCover_323 ?_
    refine lv_iconst (v := 1) hx hb d_M_takeCover_326 (by decide) ?_
    refine lv_iadd hx hb d_M_takeCover_327 ?_
    refine z_putI C hI 31 (by decide) kd_31 cl_M iw_M ty_M ty_M_ok n_M 19 (by decide) k_fl_M_127 rfl rfl rfl d_M_takeCover_328 (fun S328 eS H locs hI => ?_)
    replace h := h S328 eS
    refine lv_iconst (v := 1) hx hb d_M_takeCover_331 (by decide) ?_
    exact hR _ _ hcs 1 S328 _ _ 332 ls (by decide) h hI d_M_takeCover_332
  · replace h := h.2 q
    refine lv_iconst (v := 0) hx hb d_M_takeCover_178 (by decide) ?_
    exact hR _ _ hcs 0 S6e _ _ 179 ls (by decide) h hI d_M_takeCover_179
set_option maxHeartbeats 4000000 in
set_option maxRecDepth 100000 in
theorem w_M_takeCovers_2 (C : z_CT p s m args c R_M b_M_takeCovers 2 D cA 51 ad) (hcs : cells ≤ rm_M_takeCovers.cells ∧ slots ≤ rm_M_takeCovers.slots) (post : zS → Prop) (K22 : zS → Prop) (hR : z_Rv p l e rm_M_takeCovers s m args below meth c Q b_M_takeCovers D cA 51 ad post) (kK22 : ∀ (S : zS) (H : Heap) (locs : List Loc) (ls : Array Slot), K22 S → z_I D cA 51 ad s.heap S H locs → lv_has ls 2 [(0, .ref (ad 31))] → W p l e rm_M_takeCovers s m args below meth c H locs cells slots Q (F0 m 22 ls [])) : ∀ (n : Nat) (v1 : Int32) (S : zS) (H : Heap) (locs : List Loc) (ls : Array Slot), z_I D cA 51 ad s.heap S H locs → lv_has ls 2 [(0, .ref (ad 31)), (1, .int v1)] → L_M_takeCovers_2 post K22 n v1 S → W p l e rm_M_takeCovers s m args below meth c H locs cells slots Q (F0 m 2 ls []) := by
  obtain ⟨hx, hb, hml, hown, hts, hK, hJ⟩ := id C
  intro n
  induction n with
  | zero => intro v1 S H locs ls hI hl h; exact h.elim
  | succ n ih =>
    intro v1 S H locs ls hI hl h
    rw [L_M_takeCovers_2] at h
    refine lv_iload_n hx hb d_M_takeCovers_2 rfl (lv_at hl 1 rfl) ?_
    refine lv_sipush (v := 576) hx hb d_M_takeCovers_3 (by decide) ?_
    refine lv_icmp_ge (tgt := 22) hx hb d_M_takeCovers_6 (by decide) (fun q => ?_) (fun q => ?_)
    · replace h := h.1 q
      exact kK22 S _ _ ls h hI (lv_sub hl [0] rfl)
    · replace h := h.2 q
      refine lv_aload_n hx hb d_M_takeCovers_9 rfl (lv_at hl 0 rfl) ?_
      refine z_getR C hI 31 (by decide) kd_31 cl_M iw_M 9 (by decide) k_fl_M_26 rfl d_M_takeCovers_10 ?_
      refine lv_iload_n hx hb d_M_takeCovers_13 rfl (lv_at hl 1 rfl) ?_
      refine lv_iconst (v := 0) hx hb d_M_takeCovers_14 (by decide) ?_
      obtain ⟨h1, h⟩ := h
      refine z_zst C hI 36 (by decide) kd_36 h1 (by decide) d_M_takeCovers_15 (fun S15 eS H locs hI => ?_)
      replace h := h S15 eS
      obtain ⟨x16, e16⟩ : ∃ y : Int32, y = v1 + 1 := ⟨_, rfl⟩
      replace h := h x16 e16
      refine lv_iinc (v := x16) (lv' := [(1, .int x16), (0, .ref (ad 31))]) hx hb d_M_takeCovers_16 hl (k := 1) rfl (by rw [e16]; rfl) (by decide) rfl (fun ls hl => ?_)
      refine lv_goto (tgt := 2) hx hb d_M_takeCovers_19 (by decide) ?_
      exact ih x16 S15 _ _ ls hI (lv_sub hl [1, 0] rfl) h
set_option maxHeartbeats 4000000 in
set_option maxRecDepth 100000 in
theorem w_M_takeCovers_29 (C : z_CT p s m args c R_M b_M_takeCovers 2 D cA 51 ad) (hcs : cells ≤ rm_M_takeCovers.cells ∧ slots ≤ rm_M_takeCovers.slots) (post : zS → Prop) (hR : z_Rv p l e rm_M_takeCovers s m args below meth c Q b_M_takeCovers D cA 51 ad post) : ∀ (n : Nat) (v1 : Int32) (S : zS) (H : Heap) (locs : List Loc) (ls : Array Slot), z_I D cA 51 ad s.heap S H locs → lv_has ls 2 [(0, .ref (ad 31)), (1, .int v1)] → L_M_takeCovers_29 post n v1 S → W p l e rm_M_takeCovers s m args below meth c H locs cells slots Q (F0 m 29 ls []) := by
  obtain ⟨hx, hb, hml, hown, hts, hK, hJ⟩ := id C
  intro n
  induction n with
  | zero => intro v1 S H locs ls hI hl h; exact h.elim
  | succ n ih =>
    intro v1 S H locs ls hI hl h
    rw [L_M_takeCovers_29] at h
    refine lv_iload_n hx hb d_M_takeCovers_29 rfl (lv_at hl 1 rfl) ?_
    refine lv_if_eq (tgt := 50) hx hb d_M_takeCovers_30 (by decide) (fun q => ?_) (fun q => ?_)
    · replace h := h.1 q
      exact hR _ _ hcs S _ _ 50 ls h hI d_M_takeCovers_50
    · replace h := h.2 q
      refine lv_aload_n hx hb d_M_takeCovers_33 rfl (lv_at hl 0 rfl) ?_
      refine z_getI C hI 31 (by decide) kd_31 cl_M iw_M 19 (by decide) k_fl_M_127 rfl d_M_takeCovers_34 ?_
      refine lv_bipush (v := 6) hx hb d_M_takeCovers_37 (by decide) ?_
      refine lv_icmp_ge (tgt := 50) hx hb d_M_takeCovers_39 (by decide) (fun q => ?_) (fun q => ?_)
      · replace h := h.1 q
        exact hR _ _ hcs S _ _ 50 ls h hI d_M_takeCovers_50
      · replace h := h.2 q
        refine lv_aload_n hx hb d_M_takeCovers_42 rfl (lv_at hl 0 rfl) ?_
        refine z_callVi C hI 31 (by decide) kd_31 cl_M (As := []) (rest := []) (c_M_takeCover _ _ h) wc_M_takeCover k_ml_M_130 rfl rfl (Nat.le_of_ble_eq_true rfl) (Nat.le_of_ble_eq_true rfl) hcs hl.1 (Nat.le_of_ble_eq_true rfl) rfl d_M_takeCovers_43 (fun r43 S43 H locs h hI => ?_)
        refine lv_istore_n (lv' := [(1, .int r43), (0, .ref (ad 31))]) hx hb d_M_takeCovers_46 rfl hl (by decide) rfl (fun ls hl => ?_)
        refine lv_goto (tgt := 29) hx hb d_M_takeCovers_47 (by decide) ?_
        exact ih r43 S43 _ _ ls hI (lv_sub hl [1, 0] rfl) h
set_option maxHeartbeats 4000000 in
set_option maxRecDepth 100000 in
theorem c_M_takeCovers (S : zS) (post : zS → Prop) (h : P_M_takeCovers S post) : z_ctv l D cA 51 ad y_M_takeCovers b_M_takeCovers 2 none rm_M_takeCovers [.ref (ad 31)] S post := by
  refine z_metv (av := [.ref (ad 31)]) (by decide) (Nat.le_of_ble_eq_true rfl) ⟨rfl, rfl⟩ (fun p e s m args below meth c Q ls C hcs hl hI hR => ?_)
  obtain ⟨hx, hb, hml, hown, hts, hK, hJ⟩ := id C
  unfold P_M_takeCovers at h
  have hl : lv_has ls 2 [(0, .ref (ad 31))] := hl
  refine lv_iconst (v := 0) hx hb d_M_takeCovers_0 (by decide) ?_
  refine lv_istore_n (lv' := [(1, .int 0), (0, .ref (ad 31))]) hx hb d_M_takeCovers_1 rfl hl (by decide) rfl (fun ls hl => ?_)
  obtain ⟨k2, h⟩ := h
  refine w_M_takeCovers_2 C hcs _ _ hR (fun S2e H locs ls h hI hl => ?_) k2 0 S _ _ ls hI (lv_sub hl [1, 0] rfl) h
  refine lv_aload_n hx hb d_M_takeCovers_22 rfl (lv_at hl 0 rfl) ?_
  refine lv_iconst (v := 0) hx hb d_M_takeCovers_23 (by decide) ?_
  refine z_putI C hI 31 (by decide) kd_31 cl_M iw_M ty_M ty_M_ok n_M 19 (by decide) k_fl_M_127 rfl rfl rfl d_M_takeCovers_24 (fun S24 eS H locs hI => ?_)
  replace h := h S24 eS
  refine lv_iconst (v := 1) hx hb d_M_takeCovers_27 (by decide) ?_
  refine lv_istore_n (lv' := [(1, .int 1), (0, .ref (ad 31))]) hx hb d_M_takeCovers_28 rfl hl (by decide) rfl (fun ls hl => ?_)
  obtain ⟨k29, h⟩ := h
  refine w_M_takeCovers_29 C hcs _ hR k29 1 S24 _ _ ls hI (lv_sub hl [1, 0] rfl) h
end ZW
