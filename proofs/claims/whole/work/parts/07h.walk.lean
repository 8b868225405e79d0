section ZW
variable {p : Program} {l : Launch} {e : Env} {s : State} {m : MethodId} {args : Array Value} {below : List Frame} {meth : Method} {c : Code} {cells slots : Nat} {Q : State → Prop} {D : va_G} {cA : Nat → ClassId} {n : Nat} {ad : Nat → Nat}
set_option maxHeartbeats 4000000 in
set_option maxRecDepth 100000 in
theorem w_M_gap_92 (C : z_CT p s m args c R_M b_M_gap 11 D cA 51 ad) (hcs : cells ≤ rm_M_gap.cells ∧ slots ≤ rm_M_gap.slots) (post : Int32 → zS → Prop) (K13 : Int32 → Int32 → Int32 → Int32 → zS → Prop) (v1 : Int32) (v2 : Int32) (v4 : Int32) (v6 : Int32) (v7 : Int32) (v8 : Int32) (v9 : Int32) (t0 : Int32) (hR : z_Ri p l e rm_M_gap s m args below meth c Q b_M_gap D cA 51 ad post) (kK13 : ∀ (v5 : Int32) (v6 : Int32) (v7 : Int32) (v8 : Int32) (S : zS) (H : Heap) (locs : List Loc) (ls : Array Slot), K13 v5 v6 v7 v8 S → z_I D cA 51 ad s.heap S H locs → lv_has ls 11 [(0, .ref (ad 31)), (1, .int v1), (2, .int v2), (4, .int v4), (5, .int v5), (6, .int v6), (7, .int v7), (8, .int v8)] → W p l e rm_M_gap s m args below meth c H locs cells slots Q (F0 m 13 ls [])) (S : zS) (H : Heap) (locs : List Loc) (ls : Array Slot) (hI : z_I D cA 51 ad s.heap S H locs) (hl : lv_has ls 11 [(0, .ref (ad 31)), (1, .int v1), (2, .int v2), (4, .int v4), (6, .int v6), (7, .int v7), (8, .int v8), (9, .int v9)]) (h : J_M_gap_92 post K13 v1 v2 v4 v6 v7 v8 v9 t0 S) : W p l e rm_M_gap s m args below meth c H locs cells slots Q (F0 m 92 ls [.int t0]) := by
  obtain ⟨hx, hb, hml, hown, hts, hK, hJ⟩ := id C
  unfold J_M_gap_92 at h
  refine lv_istore (lv' := [(5, .int t0), (0, .ref (ad 31)), (1, .int v1), (2, .int v2), (4, .int v4), (6, .int v6), (7, .int v7), (8, .int v8), (9, .int v9)]) hx hb d_M_gap_92 hl (by decide) rfl (fun ls hl => ?_)
  refine lv_iload hx hb d_M_gap_94 (lv_at hl 8 rfl) ?_
  refine lv_iload_n hx hb d_M_gap_96 rfl (lv_at hl 2 rfl) ?_
  refine lv_icmp_lt (tgt := 112) hx hb d_M_gap_97 (by decide) (fun q => ?_) (fun q => ?_)
  · replace h := h.1 q
    refine lv_iload hx hb d_M_gap_112 (lv_at hl 5 rfl) ?_
    refine lv_istore (lv' := [(6, .int v6), (5, .int t0), (0, .ref (ad 31)), (1, .int v1), (2, .int v2), (4, .int v4), (7, .int v7), (8, .int v8), (9, .int v9)]) hx hb d_M_gap_114 hl (by decide) rfl (fun ls hl => ?_)
    obtain ⟨x116, e116⟩ : ∃ y : Int32, y = v8 + 1 := ⟨_, rfl⟩
    replace h := h x116 e116
    refine lv_iinc (v := x116) (lv' := [(8, .int x116), (6, .int v6), (5, .int t0), (0, .ref (ad 31)), (1, .int v1), (2, .int v2), (4, .int v4), (7, .int v7), (9, .int v9)]) hx hb d_M_gap_116 hl (k := 7) rfl (by rw [e116]; rfl) (by decide) rfl (fun ls hl => ?_)
    refine lv_goto (tgt := 13) hx hb d_M_gap_119 (by decide) ?_
    exact kK13 t0 v6 v7 x116 S _ _ ls h hI (lv_sub hl [3, 4, 5, 6, 2, 1, 7, 0] rfl)
  · replace h := h.2 q
    refine lv_iload hx hb d_M_gap_100 (lv_at hl 8 rfl) ?_
    refine lv_iload hx hb d_M_gap_102 (lv_at hl 5 rfl) ?_
    refine lv_icmp_ge (tgt := 112) hx hb d_M_gap_104 (by decide) (fun q => ?_) (fun q => ?_)
    · replace h := h.1 q
      refine lv_iload hx hb d_M_gap_112 (lv_at hl 5 rfl) ?_
      refine lv_istore (lv' := [(6, .int v6), (5, .int t0), (0, .ref (ad 31)), (1, .int v1), (2, .int v2), (4, .int v4), (7, .int v7), (8, .int v8), (9, .int v9)]) hx hb d_M_gap_114 hl (by decide) rfl (fun ls hl => ?_)
      obtain ⟨x116, e116⟩ : ∃ y : Int32, y = v8 + 1 := ⟨_, rfl⟩
      replace h := h x116 e116
      refine lv_iinc (v := x116) (lv' := [(8, .int x116), (6, .int v6), (5, .int t0), (0, .ref (ad 31)), (1, .int v1), (2, .int v2), (4, .int v4), (7, .int v7), (9, .int v9)]) hx hb d_M_gap_116 hl (k := 7) rfl (by rw [e116]; rfl) (by decide) rfl (fun ls hl => ?_)
      refine lv_goto (tgt := 13) hx hb d_M_gap_119 (by decide) ?_
      exact kK13 t0 v6 v7 x116 S _ _ ls h hI (lv_sub hl [3, 4, 5, 6, 2, 1, 7, 0] rfl)
    · replace h := h.2 q
      refine lv_iload hx hb d_M_gap_107 (lv_at hl 8 rfl) ?_
      refine lv_goto (tgt := 114) hx hb d_M_gap_109 (by decide) ?_
      refine lv_istore (lv' := [(6, .int v9), (5, .int t0), (0, .ref (ad 31)), (1, .int v1), (2, .int v2), (4, .int v4), (7, .int v7), (8, .int v8), (9, .int v9)]) hx hb d_M_gap_114 hl (by decide) rfl (fun ls hl => ?_)
      obtain ⟨x116, e116⟩ : ∃ y : Int32, y = v8 + 1 := ⟨_, rfl⟩
      replace h := h x116 e116
      refine lv_iinc (v := x116) (lv' := [(8, .int x116), (6, .int v9), (5, .int t0), (0, .ref (ad 31)), (1, .int v1), (2, .int v2), (4, .int v4), (7, .int v7), (9, .int v9)]) hx hb d_M_gap_116 hl (k := 7) rfl (by rw [e116]; rfl) (by decide) rfl (fun ls hl => ?_)
      refine lv_goto (tgt := 13) hx hb d_M_gap_119 (by decide) ?_
      exact kK13 t0 v9 v7 x116 S _ _ ls h hI (lv_sub hl [3, 4, 5, 6, 2, 1, 7, 0] rfl)
set_option maxHeartbeats 4000000 in
set_option maxRecDepth 100000 in
theorem w_M_gap_90 (C : z_CT p s m args c R_M b_M_gap 11 D cA 51 ad) (hcs : cells ≤ rm_M_gap.cells ∧ slots ≤ rm_M_gap.slots) (post : Int32 → zS → Prop) (K13 : Int32 → Int32 → Int32 → Int32 → zS → Prop) (v1 : Int32) (v2 : Int32) (v4 : Int32) (v5 : Int32) (v6 : Int32) (v7 : Int32) (v8 : Int32) (v9 : Int32) (hR : z_Ri p l e rm_M_gap s m args below meth c Q b_M_gap D cA 51 ad post) (kK13 : ∀ (v5 : Int32) (v6 : Int32) (v7 : Int32) (v8 : Int32) (S : zS) (H : Heap) (locs : List Loc) (ls : Array Slot), K13 v5 v6 v7 v8 S → z_I D cA 51 ad s.heap S H locs → lv_has ls 11 [(0, .ref (ad 31)), (1, .int v1), (2, .int v2), (4, .int v4), (5, .int v5), (6, .int v6), (7, .int v7), (8, .int v8)] → W p l e rm_M_gap s m args below meth c H locs cells slots Q (F0 m 13 ls [])) (S : zS) (H : Heap) (locs : List Loc) (ls : Array Slot) (hI : z_I D cA 51 ad s.heap S H locs) (hl : lv_has ls 11 [(0, .ref (ad 31)), (1, .int v1), (2, .int v2), (4, .int v4), (5, .int v5), (6, .int v6), (7, .int v7), (8, .int v8), (9, .int v9)]) (h : J_M_gap_90 post K13 v1 v2 v4 v5 v6 v7 v8 v9 S) : W p l e rm_M_gap s m args below meth c H locs cells slots Q (F0 m 90 ls []) := by
  obtain ⟨hx, hb, hml, hown, hts, hK, hJ⟩ := id C
  unfold J_M_gap_90 at h
  refine lv_iload hx hb d_M_gap_90 (lv_at hl 4 rfl) ?_
  exact w_M_gap_92 C hcs _ _ v1 v2 v4 v6 v7 v8 v9 v5 hR kK13 S _ _ ls hI (lv_sub hl [0, 1, 2, 3, 5, 6, 7, 8] rfl) h
set_option maxHeartbeats 4000000 in
set_option maxRecDepth 100000 in
theorem w_M_gap_70 (C : z_CT p s m args c R_M b_M_gap 11 D cA 51 ad) (hcs : cells ≤ rm_M_gap.cells ∧ slots ≤ rm_M_gap.slots) (post : Int32 → zS → Prop) (K13 : Int32 → Int32 → Int32 → Int32 → zS → Prop) (v1 : Int32) (v2 : Int32) (v4 : Int32) (v5 : Int32) (v6 : Int32) (v8 : Int32) (v9 : Int32) (v10 : Int32) (t0 : Int32) (hR : z_Ri p l e rm_M_gap s m args below meth c Q b_M_gap D cA 51 ad post) (kK13 : ∀ (v5 : Int32) (v6 : Int32) (v7 : Int32) (v8 : Int32) (S : zS) (H : Heap) (locs : List Loc) (ls : Array Slot), K13 v5 v6 v7 v8 S → z_I D cA 51 ad s.heap S H locs → lv_has ls 11 [(0, .ref (ad 31)), (1, .int v1), (2, .int v2), (4, .int v4), (5, .int v5), (6, .int v6), (7, .int v7), (8, .int v8)] → W p l e rm_M_gap s m args below meth c H locs cells slots Q (F0 m 13 ls [])) (S : zS) (H : Heap) (locs : List Loc) (ls : Array Slot) (hI : z_I D cA 51 ad s.heap S H locs) (hl : lv_has ls 11 [(0, .ref (ad 31)), (1, .int v1), (2, .int v2), (4, .int v4), (5, .int v5), (6, .int v6), (8, .int v8), (9, .int v9), (10, .int v10)]) (h : J_M_gap_70 post K13 v1 v2 v4 v5 v6 v8 v9 v10 t0 S) : W p l e rm_M_gap s m args below meth c H locs cells slots Q (F0 m 70 ls [.int t0]) := by
  obtain ⟨hx, hb, hml, hown, hts, hK, hJ⟩ := id C
  unfold J_M_gap_70 at h
  refine lv_istore (lv' := [(7, .int t0), (0, .ref (ad 31)), (1, .int v1), (2, .int v2), (4, .int v4), (5, .int v5), (6, .int v6), (8, .int v8), (9, .int v9), (10, .int v10)]) hx hb d_M_gap_70 hl (by decide) rfl (fun ls hl => ?_)
  refine lv_iload hx hb d_M_gap_72 (lv_at hl 9 rfl) ?_
  refine lv_iload_n hx hb d_M_gap_74 rfl (lv_at hl 2 rfl) ?_
  refine lv_icmp_ge (tgt := 90) hx hb d_M_gap_75 (by decide) (fun q => ?_) (fun q => ?_)
  · replace h := h.1 q
    exact w_M_gap_90 C hcs _ _ v1 v2 v4 v5 v6 t0 v8 v9 hR kK13 S _ _ ls hI (lv_sub hl [1, 2, 3, 4, 5, 6, 0, 7, 8] rfl) h
  · replace h := h.2 q
    refine lv_iload hx hb d_M_gap_78 (lv_at hl 9 rfl) ?_
    refine lv_iload hx hb d_M_gap_80 (lv_at hl 5 rfl) ?_
    refine lv_icmp_le (tgt := 90) hx hb d_M_gap_82 (by decide) (fun q => ?_) (fun q => ?_)
    · replace h := h.1 q
      exact w_M_gap_90 C hcs _ _ v1 v2 v4 v5 v6 t0 v8 v9 hR kK13 S _ _ ls hI (lv_sub hl [1, 2, 3, 4, 5, 6, 0, 7, 8] rfl) h
    · replace h := h.2 q
      refine lv_iload hx hb d_M_gap_85 (lv_at hl 9 rfl) ?_
      refine lv_goto (tgt := 92) hx hb d_M_gap_87 (by decide) ?_
      exact w_M_gap_92 C hcs _ _ v1 v2 v4 v6 t0 v8 v9 v10 hR kK13 S _ _ ls hI (lv_sub hl [1, 2, 3, 4, 6, 0, 7, 8] rfl) h
set_option maxHeartbeats 4000000 in
set_option maxRecDepth 100000 in
theorem w_M_gap_69 (C : z_CT p s m args c R_M b_M_gap 11 D cA 51 ad) (hcs : cells ≤ rm_M_gap.cells ∧ slots ≤ rm_M_gap.slots) (post : Int32 → zS → Prop) (K13 : Int32 → Int32 → Int32 → Int32 → zS → Prop) (v1 : Int32) (v2 : Int32) (v4 : Int32) (v5 : Int32) (v6 : Int32) (v8 : Int32) (v9 : Int32) (v10 : Int32) (hR : z_Ri p l e rm_M_gap s m args below meth c Q b_M_gap D cA 51 ad post) (kK13 : ∀ (v5 : Int32) (v6 : Int32) (v7 : Int32) (v8 : Int32) (S : zS) (H : Heap) (locs : List Loc) (ls : Array Slot), K13 v5 v6 v7 v8 S → z_I D cA 51 ad s.heap S H locs → lv_has ls 11 [(0, .ref (ad 31)), (1, .int v1), (2, .int v2), (4, .int v4), (5, .int v5), (6, .int v6), (7, .int v7), (8, .int v8)] → W p l e rm_M_gap s m args below meth c H locs cells slots Q (F0 m 13 ls [])) (S : zS) (H : Heap) (locs : List Loc) (ls : Array Slot) (hI : z_I D cA 51 ad s.heap S H locs) (hl : lv_has ls 11 [(0, .ref (ad 31)), (1, .int v1), (2, .int v2), (4, .int v4), (5, .int v5), (6, .int v6), (8, .int v8), (9, .int v9), (10, .int v10)]) (h : J_M_gap_69 post K13 v1 v2 v4 v5 v6 v8 v9 v10 S) : W p l e rm_M_gap s m args below meth c H locs cells slots Q (F0 m 69 ls []) := by
  obtain ⟨hx, hb, hml, hown, hts, hK, hJ⟩ := id C
  unfold J_M_gap_69 at h
  refine lv_iconst (v := 0) hx hb d_M_gap_69 (by decide) ?_
  exact w_M_gap_70 C hcs _ _ v1 v2 v4 v5 v6 v8 v9 v10 0 hR kK13 S _ _ ls hI (lv_sub hl [0, 1, 2, 3, 4, 5, 6, 7, 8] rfl) h
set_option maxHeartbeats 4000000 in
set_option maxRecDepth 100000 in
theorem w_M_gap_65 (C : z_CT p s m args c R_M b_M_gap 11 D cA 51 ad) (hcs : cells ≤ rm_M_gap.cells ∧ slots ≤ rm_M_gap.slots) (post : Int32 → zS → Prop) (K13 : Int32 → Int32 → Int32 → Int32 → zS → Prop) (v1 : Int32) (v2 : Int32) (v4 : Int32) (v5 : Int32) (v6 : Int32) (v8 : Int32) (v9 : Int32) (v10 : Int32) (hR : z_Ri p l e rm_M_gap s m args below meth c Q b_M_gap D cA 51 ad post) (kK13 : ∀ (v5 : Int32) (v6 : Int32) (v7 : Int32) (v8 : Int32) (S : zS) (H : Heap) (locs : List Loc) (ls : Array Slot), K13 v5 v6 v7 v8 S → z_I D cA 51 ad s.heap S H locs → lv_has ls 11 [(0, .ref (ad 31)), (1, .int v1), (2, .int v2), (4, .int v4), (5, .int v5), (6, .int v6), (7, .int v7), (8, .int v8)] → W p l e rm_M_gap s m args below meth c H locs cells slots Q (F0 m 13 ls [])) (S : zS) (H : Heap) (locs : List Loc) (ls : Array Slot) (hI : z_I D cA 51 ad s.heap S H locs) (hl : lv_has ls 11 [(0, .ref (ad 31)), (1, .int v1), (2, .int v2), (4, .int v4), (5, .int v5), (6, .int v6), (8, .int v8), (9, .int v9), (10, .int v10)]) (h : J_M_gap_65 post K13 v1 v2 v4 v5 v6 v8 v9 v10 S) : W p l e rm_M_gap s m args below meth c H locs cells slots Q (F0 m 65 ls []) := by
  obtain ⟨hx, hb, hml, hown, hts, hK, hJ⟩ := id C
  unfold J_M_gap_65 at h
  refine lv_iconst (v := 1) hx hb d_M_gap_65 (by decide) ?_
  refine lv_goto (tgt := 70) hx hb d_M_gap_66 (by decide) ?_
  exact w_M_gap_70 C hcs _ _ v1 v2 v4 v5 v6 v8 v9 v10 1 hR kK13 S _ _ ls hI (lv_sub hl [0, 1, 2, 3, 4, 5, 6, 7, 8] rfl) h
set_option maxHeartbeats 4000000 in
set_option maxRecDepth 100000 in
theorem w_M_gap_13 (C : z_CT p s m args c R_M b_M_gap 11 D cA 51 ad) (hcs : cells ≤ rm_M_gap.cells ∧ slots ≤ rm_M_gap.slots) (post : Int32 → zS → Prop) (K122 : Int32 → Int32 → Int32 → zS → Prop) (v1 : Int32) (v2 : Int32) (v4 : Int32) (hR : z_Ri p l e rm_M_gap s m args below meth c Q b_M_gap D cA 51 ad post) (kK122 : ∀ (v5 : Int32) (v6 : Int32) (v7 : Int32) (S : zS) (H : Heap) (locs : List Loc) (ls : Array Slot), K122 v5 v6 v7 S → z_I D cA 51 ad s.heap S H locs → lv_has ls 11 [(5, .int v5), (6, .int v6), (7, .int v7)] → W p l e rm_M_gap s m args below meth c H locs cells slots Q (F0 m 122 ls [])) : ∀ (n : Nat) (v5 : Int32) (v6 : Int32) (v7 : Int32) (v8 : Int32) (S : zS) (H : Heap) (locs : List Loc) (ls : Array Slot), z_I D cA 51 ad s.heap S H locs → lv_has ls 11 [(0, .ref (ad 31)), (1, .int v1), (2, .int v2), (4, .int v4), (5, .int v5), (6, .int v6), (7, .int v7), (8, .int v8)] → L_M_gap_13 post K122 v1 v2 v4 n v5 v6 v7 v8 S → W p l e rm_M_gap s m args below meth c H locs cells slots Q (F0 m 13 ls []) := by
  obtain ⟨hx, hb, hml, hown, hts, hK, hJ⟩ := id C
  intro n
  induction n with
  | zero => intro v5 v6 v7 v8 S H locs ls hI hl h; exact h.elim
  | succ n ih =>
    intro v5 v6 v7 v8 S H locs ls hI hl h
    rw [L_M_gap_13] at h
    refine lv_iload hx hb d_M_gap_13 (lv_at hl 7 rfl) ?_
    refine lv_iload hx hb d_M_gap_15 (lv_at hl 3 rfl) ?_
    refine lv_icmp_ge (tgt := 122) hx hb d_M_gap_17 (by decide) (fun q => ?_) (fun q => ?_)
    · replace h := h.1 q
      exact kK122 v5 v6 v7 S _ _ ls h hI (lv_sub hl [4, 5, 6] rfl)
    · replace h := h.2 q
      refine lv_aload_n hx hb d_M_gap_20 rfl (lv_at hl 0 rfl) ?_
      refine lv_aload_n hx hb d_M_gap_21 rfl (lv_at hl 0 rfl) ?_
      refine z_getR C hI 31 (by decide) kd_31 cl_M iw_M 18 (by decide) k_fl_M_51 rfl d_M_gap_22 ?_
      refine lv_iload hx hb d_M_gap_25 (lv_at hl 7 rfl) ?_
      obtain ⟨h1, h⟩ := h
      refine z_ild C hI 44 (by decide) kd_44 h1 d_M_gap_27 ?_
      refine lv_iload_n hx hb d_M_gap_28 rfl (lv_at hl 2 rfl) ?_
      refine z_callVi C hI 31 (by decide) kd_31 cl_M (As := [.int (S 44 (z_ix v8)), .int v2]) (rest := []) (c_M_low (S 44 (z_ix v8)) v2 _ _ h) wc_M_low k_ml_M_144 rfl rfl (Nat.le_of_ble_eq_true rfl) (Nat.le_of_ble_eq_true rfl) hcs hl.1 (Nat.le_of_ble_eq_true rfl) rfl d_M_gap_29 (fun r29 S29 H locs h hI => ?_)
      refine lv_istore (lv' := [(9, .int r29), (0, .ref (ad 31)), (1, .int v1), (2, .int v2), (4, .int v4), (5, .int v5), (6, .int v6), (7, .int v7), (8, .int v8)]) hx hb d_M_gap_32 hl (by decide) rfl (fun ls hl => ?_)
      refine lv_aload_n hx hb d_M_gap_34 rfl (lv_at hl 1 rfl) ?_
      refine lv_aload_n hx hb d_M_gap_35 rfl (lv_at hl 1 rfl) ?_
      refine z_getR C hI 31 (by decide) kd_31 cl_M iw_M 18 (by decide) k_fl_M_51 rfl d_M_gap_36 ?_
      refine lv_iload hx hb d_M_gap_39 (lv_at hl 8 rfl) ?_
      obtain ⟨h1, h⟩ := h
      refine z_ild C hI 44 (by decide) kd_44 h1 d_M_gap_41 ?_
      refine lv_iload_n hx hb d_M_gap_42 rfl (lv_at hl 3 rfl) ?_
      refine z_callVi C hI 31 (by decide) kd_31 cl_M (As := [.int (S29 44 (z_ix v8)), .int v2]) (rest := []) (c_M_high (S29 44 (z_ix v8)) v2 _ _ h) wc_M_high k_ml_M_148 rfl rfl (Nat.le_of_ble_eq_true rfl) (Nat.le_of_ble_eq_true rfl) hcs hl.1 (Nat.le_of_ble_eq_true rfl) rfl d_M_gap_43 (fun r43 S43 H locs h hI => ?_)
      refine lv_istore (lv' := [(10, .int r43), (9, .int r29), (0, .ref (ad 31)), (1, .int v1), (2, .int v2), (4, .int v4), (5, .int v5), (6, .int v6), (7, .int v7), (8, .int v8)]) hx hb d_M_gap_46 hl (by decide) rfl (fun ls hl => ?_)
      refine lv_iload hx hb d_M_gap_48 (lv_at hl 8 rfl) ?_
      refine lv_if_eq (tgt := 69) hx hb d_M_gap_50 (by decide) (fun q => ?_) (fun q => ?_)
      · replace h := h.1 q
        exact w_M_gap_69 C hcs _ _ v1 v2 v4 v5 v6 v8 r29 r43 hR (fun v5 v6 v7 v8 S H locs ls h hI hl => ih v5 v6 v7 v8 S H locs ls hI hl h) S43 _ _ ls hI (lv_sub hl [2, 3, 4, 5, 6, 7, 9, 1, 0] rfl) h
      · replace h := h.2 q
        refine lv_iload hx hb d_M_gap_53 (lv_at hl 1 rfl) ?_
        refine lv_iload_n hx hb d_M_gap_55 rfl (lv_at hl 3 rfl) ?_
        refine lv_icmp_ge (tgt := 65) hx hb d_M_gap_56 (by decide) (fun q => ?_) (fun q => ?_)
        · replace h := h.1 q
          exact w_M_gap_65 C hcs _ _ v1 v2 v4 v5 v6 v8 r29 r43 hR (fun v5 v6 v7 v8 S H locs ls h hI hl => ih v5 v6 v7 v8 S H locs ls hI hl h) S43 _ _ ls hI (lv_sub hl [2, 3, 4, 5, 6, 7, 9, 1, 0] rfl) h
        · replace h := h.2 q
          refine lv_iload hx hb d_M_gap_59 (lv_at hl 0 rfl) ?_
          refine lv_iload_n hx hb d_M_gap_61 rfl (lv_at hl 3 rfl) ?_
          refine lv_icmp_ge (tgt := 69) hx hb d_M_gap_62 (by decide) (fun q => ?_) (fun q => ?_)
          · replace h := h.1 q
            exact w_M_gap_69 C hcs _ _ v1 v2 v4 v5 v6 v8 r29 r43 hR (fun v5 v6 v7 v8 S H locs ls h hI hl => ih v5 v6 v7 v8 S H locs ls hI hl h) S43 _ _ ls hI (lv_sub hl [2, 3, 4, 5, 6, 7, 9, 1, 0] rfl) h
          · replace h := h.2 q
            exact w_M_gap_65 C hcs _ _ v1 v2 v4 v5 v6 v8 r29 r43 hR (fun v5 v6 v7 v8 S H locs ls h hI hl => ih v5 v6 v7 v8 S H locs ls hI hl h) S43 _ _ ls hI (lv_sub hl [2, 3, 4, 5, 6, 7, 9, 1, 0] rfl) h
set_option maxHeartbeats 4000000 in
set_option maxRecDepth 100000 in
theorem c_M_gap (v1 : Int32) (v2 : Int32) (v3 : Int32) (v4 : Int32) (S : zS) (post : Int32 → zS → Prop) (h : P_M_gap v1 v2 v3 v4 S post) : z_cti l D cA 51 ad y_M_gap b_M_gap 11 (some .int) rm_M_gap [.ref (ad 31), .int v1, .int v2, .int v3, .int v4] S post := by
  refine z_meti (av := [.ref (ad 31), .int v1, .int v2, .int v3, .int v4]) (by decide) (Nat.le_of_ble_eq_true rfl) ⟨rfl, rfl⟩ (fun p e s m args below meth c Q ls C hcs hl hI hR => ?_)
  obtain ⟨hx, hb, hml, hown, hts, hK, hJ⟩ := id C
  unfold P_M_gap at h
  have hl : lv_has ls 11 [(0, .ref (ad 31)), (1, .int v1), (2, .int v2), (3, .int v3), (4, .int v4)] := hl
  refine lv_iconst (v := (-1)) hx hb d_M_gap_0 (by decide) ?_
  refine lv_istore (lv' := [(5, .int (-1)), (0, .ref (ad 31)), (1, .int v1), (2, .int v2), (3, .int v3), (4, .int v4)]) hx hb d_M_gap_1 hl (by decide) rfl (fun ls hl => ?_)
  refine lv_bipush (v := 24) hx hb d_M_gap_3 (by decide) ?_
  refine lv_istore (lv' := [(6, .int 24), (5, .int (-1)), (0, .ref (ad 31)), (1, .int v1), (2, .int v2), (3, .int v3), (4, .int v4)]) hx hb d_M_gap_5 hl (by decide) rfl (fun ls hl => ?_)
  refine lv_iconst (v := 1) hx hb d_M_gap_7 (by decide) ?_
  refine lv_istore (lv' := [(7, .int 1), (6, .int 24), (5, .int (-1)), (0, .ref (ad 31)), (1, .int v1), (2, .int v2), (3, .int v3), (4, .int v4)]) hx hb d_M_gap_8 hl (by decide) rfl (fun ls hl => ?_)
  refine lv_iload_n hx hb d_M_gap_10 rfl (lv_at hl 6 rfl) ?_
  refine lv_istore (lv' := [(8, .int v3), (7, .int 1), (6, .int 24), (5, .int (-1)), (0, .ref (ad 31)), (1, .int v1), (2, .int v2), (3, .int v3), (4, .int v4)]) hx hb d_M_gap_11 hl (by decide) rfl (fun ls hl => ?_)
  obtain ⟨k13, h⟩ := h
  refine w_M_gap_13 C hcs _ _ v1 v2 v4 hR (fun v5_13e v6_13e v7_13e S13e H locs ls h hI hl => ?_) k13 (-1) 24 1 v3 S _ _ ls hI (lv_sub hl [4, 5, 6, 8, 3, 2, 1, 0] rfl) h
  refine lv_iload hx hb d_M_gap_122 (lv_at hl 2 rfl) ?_
  refine lv_if_eq (tgt := 150) hx hb d_M_gap_124 (by decide) (fun q => ?_) (fun q => ?_)
  · replace h := h.1 q
    refine lv_iconst (v := (-1)) hx hb d_M_gap_150 (by decide) ?_
    exact hR _ _ hcs (-1) S13e _ _ 151 ls h hI d_M_gap_151
  · replace h := h.2 q
    refine lv_iload hx hb d_M_gap_127 (lv_at hl 0 rfl) ?_
    refine lv_iconst (v := (-1)) hx hb d_M_gap_129 (by decide) ?_
    refine lv_icmp_eq (tgt := 150) hx hb d_M_gap_130 (by decide) (fun q => ?_) (fun q => ?_)
    · replace h := h.1 q
      refine lv_iconst (v := (-1)) hx hb d_M_gap_150 (by decide) ?_
      exact hR _ _ hcs (-1) S13e _ _ 151 ls h hI d_M_gap_151
    · replace h := h.2 q
      refine lv_iload hx hb d_M_gap_133 (lv_at hl 1 rfl) ?_
      refine lv_bipush (v := 24) hx hb d_M_gap_135 (by decide) ?_
      refine lv_icmp_eq (tgt := 150) hx hb d_M_gap_137 (by decide) (fun q => ?_) (fun q => ?_)
      · replace h := h.1 q
        refine lv_iconst (v := (-1)) hx hb d_M_gap_150 (by decide) ?_
        exact hR _ _ hcs (-1) S13e _ _ 151 ls h hI d_M_gap_151
      · replace h := h.2 q
        refine lv_iload hx hb d_M_gap_140 (lv_at hl 1 rfl) ?_
        refine lv_iload hx hb d_M_gap_142 (lv_at hl 0 rfl) ?_
        refine lv_isub hx hb d_M_gap_144 ?_
        refine lv_iconst (v := 1) hx hb d_M_gap_145 (by decide) ?_
        refine lv_isub hx hb d_M_gap_146 ?_
        refine lv_goto (tgt := 151) hx hb d_M_gap_147 (by decide) ?_
        exact hR _ _ hcs ((v6_13e - v5_13e) - 1) S13e _ _ 151 ls h hI d_M_gap_151
set_option maxHeartbeats 4000000 in
set_option maxRecDepth 100000 in
theorem c_M_swap (v1 : Int32) (v2 : Int32) (S : zS) (post : zS → Prop) (h : P_M_swap v1 v2 S post) : z_ctv l D cA 51 ad y_M_swap b_M_swap 4 none rm_M_swap [.ref (ad 31), .int v1, .int v2] S post := by
  refine z_metv (av := [.ref (ad 31), .int v1, .int v2]) (by decide) (Nat.le_of_ble_eq_true rfl) ⟨rfl, rfl⟩ (fun p e s m args below meth c Q ls C hcs hl hI hR => ?_)
  obtain ⟨hx, hb, hml, hown, hts, hK, hJ⟩ := id C
  unfold P_M_swap at h
  have hl : lv_has ls 4 [(0, .ref (ad 31)), (1, .int v1), (2, .int v2)] := hl
  refine lv_aload_n hx hb d_M_swap_0 rfl (lv_at hl 0 rfl) ?_
  refine z_getR C hI 31 (by decide) kd_31 cl_M iw_M 18 (by decide) k_fl_M_51 rfl d_M_swap_1 ?_
  refine lv_iload_n hx hb d_M_swap_4 rfl (lv_at hl 1 rfl) ?_
  obtain ⟨h1, h⟩ := h
  refine z_ild C hI 44 (by decide) kd_44 h1 d_M_swap_5 ?_
  refine lv_topi (fun x6 e6 => ?_)
  replace h := h x6 e6
  refine lv_istore_n (lv' := [(3, .int x6), (0, .ref (ad 31)), (1, .int v1), (2, .int v2)]) hx hb d_M_swap_6 rfl hl (by decide) rfl (fun ls hl => ?_)
  refine lv_aload_n hx hb d_M_swap_7 rfl (lv_at hl 1 rfl) ?_
  refine z_getR C hI 31 (by decide) kd_31 cl_M iw_M 18 (by decide) k_fl_M_51 rfl d_M_swap_8 ?_
  refine lv_iload_n hx hb d_M_swap_11 rfl (lv_at hl 2 rfl) ?_
  refine lv_aload_n hx hb d_M_swap_12 rfl (lv_at hl 1 rfl) ?_
  refine z_getR C hI 31 (by decide) kd_31 cl_M iw_M 18 (by decide) k_fl_M_51 rfl d_M_swap_13 ?_
  refine lv_iload_n hx hb d_M_swap_16 rfl (lv_at hl 3 rfl) ?_
  obtain ⟨h1, h⟩ := h
  refine z_ild C hI 44 (by decide) kd_44 h1 d_M_swap_17 ?_
  obtain ⟨h1, h⟩ := h
  refine z_ist C hI 44 (by decide) kd_44 h1 d_M_swap_18 (fun S18 eS H locs hI => ?_)
  replace h := h S18 eS
  refine lv_aload_n hx hb d_M_swap_19 rfl (lv_at hl 1 rfl) ?_
  refine z_getR C hI 31 (by decide) kd_31 cl_M iw_M 18 (by decide) k_fl_M_51 rfl d_M_swap_20 ?_
  refine lv_iload_n hx hb d_M_swap_23 rfl (lv_at hl 3 rfl) ?_
  refine lv_iload_n hx hb d_M_swap_24 rfl (lv_at hl 0 rfl) ?_
  obtain ⟨h1, h⟩ := h
  refine z_ist C hI 44 (by decide) kd_44 h1 d_M_swap_25 (fun S25 eS H locs hI => ?_)
  replace h := h S25 eS
  exact hR _ _ hcs S25 _ _ 26 ls h hI d_M_swap_26
set_option maxHeartbeats 4000000 in
set_option maxRecDepth 100000 in
theorem c_M_isBefore (v1 : Int32) (v2 : Int32) (S : zS) (post : Int32 → zS → Prop) (h : P_M_isBefore v1 v2 S post) : z_cti l D cA 51 ad y_M_isBefore b_M_isBefore 3 (some .boolean) rm_M_isBefore [.ref (ad 31), .int v1, .int v2] S post := by
  refine z_metz (av := [.ref (ad 31), .int v1, .int v2]) (by decide) (Nat.le_of_ble_eq_true rfl) ⟨rfl, rfl⟩ (fun p e s m args below meth c Q ls C hcs hl hI hR => ?_)
  obtain ⟨hx, hb, hml, hown, hts, hK, hJ⟩ := id C
  unfold P_M_isBefore at h
  have hl : lv_has ls 3 [(0, .ref (ad 31)), (1, .int v1), (2, .int v2)] := hl
  refine lv_aload_n hx hb d_M_isBefore_0 rfl (lv_at hl 0 rfl) ?_
  refine z_getR C hI 31 (by decide) kd_31 cl_M iw_M 14 (by decide) k_fl_M_39 rfl d_M_isBefore_1 ?_
  refine lv_iload_n hx hb d_M_isBefore_4 rfl (lv_at hl 1 rfl) ?_
  obtain ⟨h1, h⟩ := h
  refine z_ild C hI 40 (by decide) kd_40 h1 d_M_isBefore_5 ?_
  refine lv_aload_n hx hb d_M_isBefore_6 rfl (lv_at hl 0 rfl) ?_
  refine z_getR C hI 31 (by decide) kd_31 cl_M iw_M 14 (by decide) k_fl_M_39 rfl d_M_isBefore_7 ?_
  refine lv_iload_n hx hb d_M_isBefore_10 rfl (lv_at hl 2 rfl) ?_
  obtain ⟨h1, h⟩ := h
  refine z_ild C hI 40 (by decide) kd_40 h1 d_M_isBefore_11 ?_
  refine lv_icmp_eq (tgt := 38) hx hb d_M_isBefore_12 (by decide) (fun q => ?_) (fun q => ?_)
  · replace h := h.1 q
    refine lv_aload_n hx hb d_M_isBefore_38 rfl (lv_at hl 0 rfl) ?_
    refine z_getR C hI 31 (by decide) kd_31 cl_M iw_M 13 (by decide) k_fl_M_36 rfl d_M_isBefore_39 ?_
    refine lv_iload_n hx hb d_M_isBefore_42 rfl (lv_at hl 1 rfl) ?_
    obtain ⟨h1, h⟩ := h
    refine z_ild C hI 39 (by decide) kd_39 h1 d_M_isBefore_43 ?_
    refine lv_aload_n hx hb d_M_isBefore_44 rfl (lv_at hl 0 rfl) ?_
    refine z_getR C hI 31 (by decide) kd_31 cl_M iw_M 13 (by decide) k_fl_M_36 rfl d_M_isBefore_45 ?_
    refine lv_iload_n hx hb d_M_isBefore_48 rfl (lv_at hl 2 rfl) ?_
    obtain ⟨h1, h⟩ := h
    refine z_ild C hI 39 (by decide) kd_39 h1 d_M_isBefore_49 ?_
    refine lv_icmp_eq (tgt := 76) hx hb d_M_isBefore_50 (by decide) (fun q => ?_) (fun q => ?_)
    · replace h := h.1 q
      refine lv_iload_n hx hb d_M_isBefore_76 rfl (lv_at hl 1 rfl) ?_
      refine lv_iload_n hx hb d_M_isBefore_77 rfl (lv_at hl 2 rfl) ?_
      refine lv_icmp_ge (tgt := 85) hx hb d_M_isBefore_78 (by decide) (fun q => ?_) (fun q => ?_)
      · replace h := h.1 q
        refine lv_iconst (v := 0) hx hb d_M_isBefore_85 (by decide) ?_
        exact hR _ _ hcs 0 S _ _ 86 ls (by decide) h hI d_M_isBefore_86
      · replace h := h.2 q
        refine lv_iconst (v := 1) hx hb d_M_isBefore_81 (by decide) ?_
        refine lv_goto (tgt := 86) hx hb d_M_isBefore_82 (by decide) ?_
        exact hR _ _ hcs 1 S _ _ 86 ls (by decide) h hI d_M_isBefore_86
    · replace h := h.2 q
      refine lv_aload_n hx hb d_M_isBefore_53 rfl (lv_at hl 0 rfl) ?_
      refine z_getR C hI 31 (by decide) kd_31 cl_M iw_M 13 (by decide) k_fl_M_36 rfl d_M_isBefore_54 ?_
      refine lv_iload_n hx hb d_M_isBefore_57 rfl (lv_at hl 1 rfl) ?_
      obtain ⟨h1, h⟩ := h
      refine z_ild C hI 39 (by decide) kd_39 h1 d_M_isBefore_58 ?_
      refine lv_aload_n hx hb d_M_isBefore_59 rfl (lv_at hl 0 rfl) ?_
      refine z_getR C hI 31 (by decide) kd_31 cl_M iw_M 13 (by decide) k_fl_M_36 rfl d_M_isBefore_60 ?_
      refine lv_iload_n hx hb d_M_isBefore_63 rfl (lv_at hl 2 rfl) ?_
      obtain ⟨h1, h⟩ := h
      refine z_ild C hI 39 (by decide) kd_39 h1 d_M_isBefore_64 ?_
      refine lv_icmp_ge (tgt := 72) hx hb d_M_isBefore_65 (by decide) (fun q => ?_) (fun q => ?_)
      · replace h := h.1 q
        refine lv_iconst (v := 0) hx hb d_M_isBefore_72 (by decide) ?_
        refine lv_goto (tgt := 86) hx hb d_M_isBefore_73 (by decide) ?_
        exact hR _ _ hcs 0 S _ _ 86 ls (by decide) h hI d_M_isBefore_86
      · replace h := h.2 q
        refine lv_iconst (v := 1) hx hb d_M_isBefore_68 (by decide) ?_
        refine lv_goto (tgt := 86) hx hb d_M_isBefore_69 (by decide) ?_
        exact hR _ _ hcs 1 S _ _ 86 ls (by decide) h hI d_M_isBefore_86
  · replace h := h.2 q
    refine lv_aload_n hx hb d_M_isBefore_15 rfl (lv_at hl 0 rfl) ?_
    refine z_getR C hI 31 (by decide) kd_31 cl_M iw_M 14 (by decide) k_fl_M_39 rfl d_M_isBefore_16 ?_
    refine lv_iload_n hx hb d_M_isBefore_19 rfl (lv_at hl 1 rfl) ?_
    obtain ⟨h1, h⟩ := h
    refine z_ild C hI 40 (by decide) kd_40 h1 d_M_isBefore_20 ?_
    refine lv_aload_n hx hb d_M_isBefore_21 rfl (lv_at hl 0 rfl) ?_
    refine z_getR C hI 31 (by decide) kd_31 cl_M iw_M 14 (by decide) k_fl_M_39 rfl d_M_isBefore_22 ?_
    refine lv_iload_n hx hb d_M_isBefore_25 rfl (lv_at hl 2 rfl) ?_
    obtain ⟨h1, h⟩ := h
    refine z_ild C hI 40 (by decide) kd_40 h1 d_M_isBefore_26 ?_
    refine lv_icmp_ge (tgt := 34) hx hb d_M_isBefore_27 (by decide) (fun q => ?_) (fun q => ?_)
    · replace h := h.1 q
      refine lv_iconst (v := 0) hx hb d_M_isBefore_34 (by decide) ?_
      refine lv_goto (tgt := 86) hx hb d_M_isBefore_35 (by decide) ?_
      exact hR _ _ hcs 0 S _ _ 86 ls (by decide) h hI d_M_isBefore_86
    · replace h := h.2 q
      refine lv_iconst (v := 1) hx hb d_M_isBefore_30 (by decide) ?_
      refine lv_goto (tgt := 86) hx hb d_M_isBefore_31 (by decide) ?_
      exact hR _ _ hcs 1 S _ _ 86 ls (by decide) h hI d_M_isBefore_86
set_option maxHeartbeats 4000000 in
set_option maxRecDepth 100000 in
theorem w_M_sort_10 (C : z_CT p s m args c R_M b_M_sort 5 D cA 51 ad) (hcs : cells ≤ rm_M_sort.cells ∧ slots ≤ rm_M_sort.slots) (post : zS → Prop) (K55 : zS → Prop) (v1 : Int32) (v2 : Int32) (v3 : Int32) (hR : z_Rv p l e rm_M_sort s m args below meth c Q b_M_sort D cA 51 ad post) (kK55 : ∀ (S : zS) (H : Heap) (locs : List Loc) (ls : Array Slot), K55 S → z_I D cA 51 ad s.heap S H locs → lv_has ls 5 [(0, .ref (ad 31)), (1, .int v1), (2, .int v2), (3, .int v3)] → W p l e rm_M_sort s m args below meth c H locs cells slots Q (F0 m 55 ls [])) : ∀ (n : Nat) (v4 : Int32) (S : zS) (H : Heap) (locs : List Loc) (ls : Array Slot), z_I D cA 51 ad s.heap S H locs → lv_has ls 5 [(0, .ref (ad 31)), (1, .int v1), (2, .int v2), (3, .int v3), (4, .int v4)] → L_M_sort_10 post K55 v1 v2 v3 n v4 S → W p l e rm_M_sort s m args below meth c H locs cells slots Q (F0 m 10 ls []) := by
  obtain ⟨hx, hb, hml, hown, hts, hK, hJ⟩ := id C
  intro n
  induction n with
  | zero => intro v4 S H locs ls hI hl h; exact h.elim
  | succ n ih =>
    intro v4 S H locs ls hI hl h
    rw [L_M_sort_10] at h
    refine lv_iload hx hb d_M_sort_10 (lv_at hl 4 rfl) ?_
    refine lv_iload_n hx hb d_M_sort_12 rfl (lv_at hl 1 rfl) ?_
    refine lv_icmp_le (tgt := 55) hx hb d_M_sort_13 (by decide) (fun q => ?_) (fun q => ?_)
    · replace h := h.1 q
      exact kK55 S _ _ ls h hI (lv_sub hl [0, 1, 2, 3] rfl)
    · replace h := h.2 q
      refine lv_aload_n hx hb d_M_sort_16 rfl (lv_at hl 0 rfl) ?_
      refine lv_aload_n hx hb d_M_sort_17 rfl (lv_at hl 0 rfl) ?_
      refine z_getR C hI 31 (by decide) kd_31 cl_M iw_M 18 (by decide) k_fl_M_51 rfl d_M_sort_18 ?_
      refine lv_iload hx hb d_M_sort_21 (lv_at hl 4 rfl) ?_
      obtain ⟨h1, h⟩ := h
      refine z_ild C hI 44 (by decide) kd_44 h1 d_M_sort_23 ?_
      refine lv_aload_n hx hb d_M_sort_24 rfl (lv_at hl 0 rfl) ?_
      refine z_getR C hI 31 (by decide) kd_31 cl_M iw_M 18 (by decide) k_fl_M_51 rfl d_M_sort_25 ?_
      refine lv_iload hx hb d_M_sort_28 (lv_at hl 4 rfl) ?_
      refine lv_iconst (v := 1) hx hb d_M_sort_30 (by decide) ?_
      refine lv_isub hx hb d_M_sort_31 ?_
      obtain ⟨h1, h⟩ := h
      refine z_ild C hI 44 (by decide) kd_44 h1 d_M_sort_32 ?_
      refine z_callVi C hI 31 (by decide) kd_31 cl_M (As := [.int (S 44 (z_ix v4)), .int (S 44 (z_ix (v4 - 1)))]) (rest := []) (c_M_isBefore (S 44 (z_ix v4)) (S 44 (z_ix (v4 - 1))) _ _ h) wc_M_isBefore k_ml_M_151 rfl rfl (Nat.le_of_ble_eq_true rfl) (Nat.le_of_ble_eq_true rfl) hcs hl.1 (Nat.le_of_ble_eq_true rfl) rfl d_M_sort_33 (fun r33 S33 H locs h hI => ?_)
      refine lv_if_eq (tgt := 55) hx hb d_M_sort_36 (by decide) (fun q => ?_) (fun q => ?_)
      · replace h := h.1 q
        exact kK55 S33 _ _ ls h hI (lv_sub hl [0, 1, 2, 3] rfl)
      · replace h := h.2 q
        refine lv_aload_n hx hb d_M_sort_39 rfl (lv_at hl 0 rfl) ?_
        refine lv_iload hx hb d_M_sort_40 (lv_at hl 4 rfl) ?_
        refine lv_iload hx hb d_M_sort_42 (lv_at hl 4 rfl) ?_
        refine lv_iconst (v := 1) hx hb d_M_sort_44 (by decide) ?_
        refine lv_isub hx hb d_M_sort_45 ?_
        refine z_callVv C hI 31 (by decide) kd_31 cl_M (As := [.int v4, .int (v4 - 1)]) (rest := []) (c_M_swap v4 (v4 - 1) _ _ h) wc_M_swap k_ml_M_154 rfl rfl (Nat.le_of_ble_eq_true rfl) (Nat.le_of_ble_eq_true rfl) hcs hl.1 (Nat.le_of_ble_eq_true rfl) rfl d_M_sort_46 (fun S46 H locs h hI => ?_)
        obtain ⟨x49, e49⟩ : ∃ y : Int32, y = v4 + (-1) := ⟨_, rfl⟩
        replace h := h x49 e49
        refine lv_iinc (v := x49) (lv' := [(4, .int x49), (0, .ref (ad 31)), (1, .int v1), (2, .int v2), (3, .int v3)]) hx hb d_M_sort_49 hl (k := 4) rfl (by rw [e49]; rfl) (by decide) rfl (fun ls hl => ?_)
        refine lv_goto (tgt := 10) hx hb d_M_sort_52 (by decide) ?_
        exact ih x49 S46 _ _ ls hI (lv_sub hl [1, 2, 3, 4, 0] rfl) h
set_option maxHeartbeats 4000000 in
set_option maxRecDepth 100000 in
theorem w_M_sort_2 (C : z_CT p s m args c R_M b_M_sort 5 D cA 51 ad) (hcs : cells ≤ rm_M_sort.cells ∧ slots ≤ rm_M_sort.slots) (post : zS → Prop) (v1 : Int32) (v2 : Int32) (hR : z_Rv p l e rm_M_sort s m args below meth c Q b_M_sort D cA 51 ad post) : ∀ (n : Nat) (v3 : Int32) (S : zS) (H : Heap) (locs : List Loc) (ls : Array Slot), z_I D cA 51 ad s.heap S H locs → lv_has ls 5 [(0, .ref (ad 31)), (1, .int v1), (2, .int v2), (3, .int v3)] → L_M_sort_2 post v1 v2 n v3 S → W p l e rm_M_sort s m args below meth c H locs cells slots Q (F0 m 2 ls []) := by
  obtain ⟨hx, hb, hml, hown, hts, hK, hJ⟩ := id C
  intro n
  induction n with
  | zero => intro v3 S H locs ls hI hl h; exact h.elim
  | succ n ih =>
    intro v3 S H locs ls hI hl h
    rw [L_M_sort_2] at h
    refine lv_iload_n hx hb d_M_sort_2 rfl (lv_at hl 3 rfl) ?_
    refine lv_iload_n hx hb d_M_sort_3 rfl (lv_at hl 2 rfl) ?_
    refine lv_icmp_ge (tgt := 61) hx hb d_M_sort_4 (by decide) (fun q => ?_) (fun q => ?_)
    · replace h := h.1 q
      exact hR _ _ hcs S _ _ 61 ls h hI d_M_sort_61
    · replace h := h.2 q
      refine lv_iload_n hx hb d_M_sort_7 rfl (lv_at hl 3 rfl) ?_
      refine lv_istore (lv' := [(4, .int v3), (0, .ref (ad 31)), (1, .int v1), (2, .int v2), (3, .int v3)]) hx hb d_M_sort_8 hl (by decide) rfl (fun ls hl => ?_)
      obtain ⟨k10, h⟩ := h
      refine w_M_sort_10 C hcs _ _ v1 v2 v3 hR (fun S10e H locs ls h hI hl => ?_) k10 v3 S _ _ ls hI (lv_sub hl [1, 2, 3, 4, 0] rfl) h
      obtain ⟨x55, e55⟩ : ∃ y : Int32, y = v3 + 1 := ⟨_, rfl⟩
      replace h := h x55 e55
      refine lv_iinc (v := x55) (lv' := [(3, .int x55), (0, .ref (ad 31)), (1, .int v1), (2, .int v2)]) hx hb d_M_sort_55 hl (k := 3) rfl (by rw [e55]; rfl) (by decide) rfl (fun ls hl => ?_)
      refine lv_goto (tgt := 2) hx hb d_M_sort_58 (by decide) ?_
      exact ih x55 S10e _ _ ls hI (lv_sub hl [1, 2, 3, 0] rfl) h
set_option maxHeartbeats 4000000 in
set_option maxRecDepth 100000 in
theorem c_M_sort (v1 : Int32) (v2 : Int32) (S : zS) (post : zS → Prop) (h : P_M_sort v1 v2 S post) : z_ctv l D cA 51 ad y_M_sort b_M_sort 5 none rm_M_sort [.ref (ad 31), .int v1, .int v2] S post := by
  refine z_metv (av := [.ref (ad 31), .int v1, .int v2]) (by decide) (Nat.le_of_ble_eq_true rfl) ⟨rfl, rfl⟩ (fun p e s m args below meth c Q ls C hcs hl hI hR => ?_)
  obtain ⟨hx, hb, hml, hown, hts, hK, hJ⟩ := id C
  unfold P_M_sort at h
  have hl : lv_has ls 5 [(0, .ref (ad 31)), (1, .int v1), (2, .int v2)] := hl
  refine lv_iload_n hx hb d_M_sort_0 rfl (lv_at hl 1 rfl) ?_
  refine lv_istore_n (lv' := [(3, .int v1), (0, .ref (ad 31)), (1, .int v1), (2, .int v2)]) hx hb d_M_sort_1 rfl hl (by decide) rfl (fun ls hl => ?_)
  obtain ⟨k2, h⟩ := h
  refine w_M_sort_2 C hcs _ v1 v2 hR k2 v1 S _ _ ls hI (lv_sub hl [1, 2, 3, 0] rfl) h
set_option maxHeartbeats 4000000 in
set_option maxRecDepth 100000 in
theorem w_M_parts_30 (C : z_CT p s m args c R_M b_M_parts 9 D cA 51 ad) (hcs : cells ≤ rm_M_parts.cells ∧ slots ≤ rm_M_parts.slots) (post : Int32 → zS → Prop) (K11 : Int32 → Int32 → Int32 → Int32 → zS → Prop) (v1 : Int32) (v2 : Int32) (v3 : Int32) (v4 : Int32) (v5 : Int32) (v6 : Int32) (t0 : Int32) (hR : z_Ri p l e rm_M_parts s m args below meth c Q b_M_parts D cA 51 ad post) (kK11 : ∀ (v3 : Int32) (v4 : Int32) (v5 : Int32) (v6 : Int32) (S : zS) (H : Heap) (locs : List Loc) (ls : Array Slot), K11 v3 v4 v5 v6 S → z_I D cA 51 ad s.heap S H locs → lv_has ls 9 [(0, .ref (ad 31)), (1, .int v1), (2, .int v2), (3, .int v3), (4, .int v4), (5, .int v5), (6, .int v6)] → W p l e rm_M_parts s m args below meth c H locs cells slots Q (F0 m 11 ls [])) (S : zS) (H : Heap) (locs : List Loc) (ls : Array Slot) (hI : z_I D cA 51 ad s.heap S H locs) (hl : lv_has ls 9 [(0, .ref (ad 31)), (1, .int v1), (2, .int v2), (3, .int v3), (4, .int v4), (5, .int v5), (6, .int v6)]) (h : J_M_parts_30 post K11 v1 v2 v3 v4 v5 v6 t0 S) : W p l e rm_M_parts s m args below meth c H locs cells slots Q (F0 m 30 ls [.int t0]) := by
  obtain ⟨hx, hb, hml, hown, hts, hK, hJ⟩ := id C
  unfold J_M_parts_30 at h
  refine lv_istore (lv' := [(7, .int t0), (0, .ref (ad 31)), (1, .int v1), (2, .int v2), (3, .int v3), (4, .int v4), (5, .int v5), (6, .int v6)]) hx hb d_M_parts_30 hl (by decide) rfl (fun ls hl => ?_)
  refine lv_aload_n hx hb d_M_parts_32 rfl (lv_at hl 1 rfl) ?_
  refine lv_iload hx hb d_M_parts_33 (lv_at hl 7 rfl) ?_
  refine lv_bipush (v := 24) hx hb d_M_parts_35 (by decide) ?_
  refine lv_irem hx hb d_M_parts_37 (by decide) ?_
  refine lv_iload hx hb d_M_parts_38 (lv_at hl 0 rfl) ?_
  refine lv_iload_n hx hb d_M_parts_40 rfl (lv_at hl 2 rfl) ?_
  refine lv_iload_n hx hb d_M_parts_41 rfl (lv_at hl 3 rfl) ?_
  refine z_callVi C hI 31 (by decide) kd_31 cl_M (As := [.int (v6 - v6 / 24 * 24), .int t0, .int v1, .int v2]) (rest := []) (c_M_gap (v6 - v6 / 24 * 24) t0 v1 v2 _ _ h) wc_M_gap k_ml_M_158 rfl rfl (Nat.le_of_ble_eq_true rfl) (Nat.le_of_ble_eq_true rfl) hcs hl.1 (Nat.le_of_ble_eq_true rfl) rfl d_M_parts_42 (fun r42 S42 H locs h hI => ?_)
  refine lv_istore (lv' := [(8, .int r42), (7, .int t0), (0, .ref (ad 31)), (1, .int v1), (2, .int v2), (3, .int v3), (4, .int v4), (5, .int v5), (6, .int v6)]) hx hb d_M_parts_45 hl (by decide) rfl (fun ls hl => ?_)
  refine lv_iload hx hb d_M_parts_47 (lv_at hl 0 rfl) ?_
  refine lv_iload_n hx hb d_M_parts_49 rfl (lv_at hl 5 rfl) ?_
  refine lv_icmp_le (tgt := 67) hx hb d_M_parts_50 (by decide) (fun q => ?_) (fun q => ?_)
  · replace h := h.1 q
    obtain ⟨x67, e67⟩ : ∃ y : Int32, y = v6 + 1 := ⟨_, rfl⟩
    replace h := h x67 e67
    refine lv_iinc (v := x67) (lv' := [(6, .int x67), (8, .int r42), (7, .int t0), (0, .ref (ad 31)), (1, .int v1), (2, .int v2), (3, .int v3), (4, .int v4), (5, .int v5)]) hx hb d_M_parts_67 hl (k := 8) rfl (by rw [e67]; rfl) (by decide) rfl (fun ls hl => ?_)
    refine lv_goto (tgt := 11) hx hb d_M_parts_70 (by decide) ?_
    exact kK11 v3 v4 v5 x67 S42 _ _ ls h hI (lv_sub hl [3, 4, 5, 6, 7, 8, 0] rfl)
  · replace h := h.2 q
    refine lv_iload hx hb d_M_parts_53 (lv_at hl 0 rfl) ?_
    refine lv_istore_n (lv' := [(3, .int r42), (8, .int r42), (7, .int t0), (0, .ref (ad 31)), (1, .int v1), (2, .int v2), (4, .int v4), (5, .int v5), (6, .int v6)]) hx hb d_M_parts_55 rfl hl (by decide) rfl (fun ls hl => ?_)
    refine lv_iload hx hb d_M_parts_56 (lv_at hl 8 rfl) ?_
    refine lv_bipush (v := 24) hx hb d_M_parts_58 (by decide) ?_
    refine lv_irem hx hb d_M_parts_60 (by decide) ?_
    refine lv_topi (fun x61 e61 => ?_)
    replace h := h x61 e61
    refine lv_istore (lv' := [(4, .int x61), (3, .int r42), (8, .int r42), (7, .int t0), (0, .ref (ad 31)), (1, .int v1), (2, .int v2), (5, .int v5), (6, .int v6)]) hx hb d_M_parts_61 hl (by decide) rfl (fun ls hl => ?_)
    refine lv_iload hx hb d_M_parts_63 (lv_at hl 3 rfl) ?_
    refine lv_istore (lv' := [(5, .int t0), (4, .int x61), (3, .int r42), (8, .int r42), (7, .int t0), (0, .ref (ad 31)), (1, .int v1), (2, .int v2), (6, .int v6)]) hx hb d_M_parts_65 hl (by decide) rfl (fun ls hl => ?_)
    obtain ⟨x67, e67⟩ : ∃ y : Int32, y = v6 + 1 := ⟨_, rfl⟩
    replace h := h x67 e67
    refine lv_iinc (v := x67) (lv' := [(6, .int x67), (5, .int t0), (4, .int x61), (3, .int r42), (8, .int r42), (7, .int t0), (0, .ref (ad 31)), (1, .int v1), (2, .int v2)]) hx hb d_M_parts_67 hl (k := 8) rfl (by rw [e67]; rfl) (by decide) rfl (fun ls hl => ?_)
    refine lv_goto (tgt := 11) hx hb d_M_parts_70 (by decide) ?_
    exact kK11 r42 x61 t0 x67 S42 _ _ ls h hI (lv_sub hl [6, 7, 8, 3, 2, 1, 0] rfl)
set_option maxHeartbeats 4000000 in
set_option maxRecDepth 100000 in
theorem w_M_parts_11 (C : z_CT p s m args c R_M b_M_parts 9 D cA 51 ad) (hcs : cells ≤ rm_M_parts.cells ∧ slots ≤ rm_M_parts.slots) (post : Int32 → zS → Prop) (K73 : Int32 → Int32 → Int32 → zS → Prop) (v1 : Int32) (v2 : Int32) (hR : z_Ri p l e rm_M_parts s m args below meth c Q b_M_parts D cA 51 ad post) (kK73 : ∀ (v3 : Int32) (v4 : Int32) (v5 : Int32) (S : zS) (H : Heap) (locs : List Loc) (ls : Array Slot), K73 v3 v4 v5 S → z_I D cA 51 ad s.heap S H locs → lv_has ls 9 [(0, .ref (ad 31)), (1, .int v1), (2, .int v2), (3, .int v3), (4, .int v4), (5, .int v5)] → W p l e rm_M_parts s m args below meth c H locs cells slots Q (F0 m 73 ls [])) : ∀ (n : Nat) (v3 : Int32) (v4 : Int32) (v5 : Int32) (v6 : Int32) (S : zS) (H : Heap) (locs : List Loc) (ls : Array Slot), z_I D cA 51 ad s.heap S H locs → lv_has ls 9 [(0, .ref (ad 31)), (1, .int v1), (2, .int v2), (3, .int v3), (4, .int v4), (5, .int v5), (6, .int v6)] → L_M_parts_11 post K73 v1 v2 n v3 v4 v5 v6 S → W p l e rm_M_parts s m args below meth c H locs cells slots Q (F0 m 11 ls []) := by
  obtain ⟨hx, hb, hml, hown, hts, hK, hJ⟩ := id C
  intro n
  induction n with
  | zero => intro v3 v4 v5 v6 S H locs ls hI hl h; exact h.elim
  | succ n ih =>
    intro v3 v4 v5 v6 S H locs ls hI hl h
    rw [L_M_parts_11] at h
    refine lv_iload hx hb d_M_parts_11 (lv_at hl 6 rfl) ?_
    refine lv_bipush (v := 48) hx hb d_M_parts_13 (by decide) ?_
    refine lv_icmp_ge (tgt := 73) hx hb d_M_parts_15 (by decide) (fun q => ?_) (fun q => ?_)
    · replace h := h.1 q
      exact kK73 v3 v4 v5 S _ _ ls h hI (lv_sub hl [0, 1, 2, 3, 4, 5] rfl)
    · replace h := h.2 q
      refine lv_iload hx hb d_M_parts_18 (lv_at hl 6 rfl) ?_
      refine lv_bipush (v := 24) hx hb d_M_parts_20 (by decide) ?_
      refine lv_icmp_lt (tgt := 29) hx hb d_M_parts_22 (by decide) (fun q => ?_) (fun q => ?_)
      · replace h := h.1 q
        refine lv_iconst (v := 0) hx hb d_M_parts_29 (by decide) ?_
        exact w_M_parts_30 C hcs _ _ v1 v2 v3 v4 v5 v6 0 hR (fun v3 v4 v5 v6 S H locs ls h hI hl => ih v3 v4 v5 v6 S H locs ls hI hl h) S _ _ ls hI (lv_sub hl [0, 1, 2, 3, 4, 5, 6] rfl) h
      · replace h := h.2 q
        refine lv_iconst (v := 1) hx hb d_M_parts_25 (by decide) ?_
        refine lv_goto (tgt := 30) hx hb d_M_parts_26 (by decide) ?_
        exact w_M_parts_30 C hcs _ _ v1 v2 v3 v4 v5 v6 1 hR (fun v3 v4 v5 v6 S H locs ls h hI hl => ih v3 v4 v5 v6 S H locs ls hI hl h) S _ _ ls hI (lv_sub hl [0, 1, 2, 3, 4, 5, 6] rfl) h
set_option maxHeartbeats 4000000 in
set_option maxRecDepth 100000 in
theorem w_M_parts_86 (C : z_CT p s m args c R_M b_M_parts 9 D cA 51 ad) (hcs : cells ≤ rm_M_parts.cells ∧ slots ≤ rm_M_parts.slots) (post : Int32 → zS → Prop) (v2 : Int32) (v4 : Int32) (v5 : Int32) (hR : z_Ri p l e rm_M_parts s m args below meth c Q b_M_parts D cA 51 ad post) : ∀ (n : Nat) (v6 : Int32) (v7 : Int32) (S : zS) (H : Heap) (locs : List Loc) (ls : Array Slot), z_I D cA 51 ad s.heap S H locs → lv_has ls 9 [(0, .ref (ad 31)), (2, .int v2), (4, .int v4), (5, .int v5), (6, .int v6), (7, .int v7)] → L_M_parts_86 post v2 v4 v5 n v6 v7 S → W p l e rm_M_parts s m args below meth c H locs cells slots Q (F0 m 86 ls []) := by
  obtain ⟨hx, hb, hml, hown, hts, hK, hJ⟩ := id C
  intro n
  induction n with
  | zero => intro v6 v7 S H locs ls hI hl h; exact h.elim
  | succ n ih =>
    intro v6 v7 S H locs ls hI hl h
    rw [L_M_parts_86] at h
    refine lv_iload hx hb d_M_parts_86 (lv_at hl 5 rfl) ?_
    refine lv_iload_n hx hb d_M_parts_88 rfl (lv_at hl 1 rfl) ?_
    refine lv_icmp_ge (tgt := 127) hx hb d_M_parts_89 (by decide) (fun q => ?_) (fun q => ?_)
    · replace h := h.1 q
      refine lv_iload hx hb d_M_parts_127 (lv_at hl 4 rfl) ?_
      exact hR _ _ hcs v6 S _ _ 129 ls h hI d_M_parts_129
    · replace h := h.2 q
      refine lv_aload_n hx hb d_M_parts_92 rfl (lv_at hl 0 rfl) ?_
      refine lv_aload_n hx hb d_M_parts_93 rfl (lv_at hl 0 rfl) ?_
      refine z_getR C hI 31 (by decide) kd_31 cl_M iw_M 18 (by decide) k_fl_M_51 rfl d_M_parts_94 ?_
      refine lv_iload hx hb d_M_parts_97 (lv_at hl 5 rfl) ?_
      obtain ⟨h1, h⟩ := h
      refine z_ild C hI 44 (by decide) kd_44 h1 d_M_parts_99 ?_
      refine lv_iload hx hb d_M_parts_100 (lv_at hl 3 rfl) ?_
      refine z_callVi C hI 31 (by decide) kd_31 cl_M (As := [.int (S 44 (z_ix v7)), .int v5]) (rest := []) (c_M_high (S 44 (z_ix v7)) v5 _ _ h) wc_M_high k_ml_M_148 rfl rfl (Nat.le_of_ble_eq_true rfl) (Nat.le_of_ble_eq_true rfl) hcs hl.1 (Nat.le_of_ble_eq_true rfl) rfl d_M_parts_102 (fun r102 S102 H locs h hI => ?_)
      refine lv_iload hx hb d_M_parts_105 (lv_at hl 2 rfl) ?_
      refine lv_icmp_ge (tgt := 121) hx hb d_M_parts_107 (by decide) (fun q => ?_) (fun q => ?_)
      · replace h := h.1 q
        obtain ⟨x121, e121⟩ : ∃ y : Int32, y = v7 + 1 := ⟨_, rfl⟩
        replace h := h x121 e121
        refine lv_iinc (v := x121) (lv' := [(7, .int x121), (0, .ref (ad 31)), (2, .int v2), (4, .int v4), (5, .int v5), (6, .int v6)]) hx hb d_M_parts_121 hl (k := 5) rfl (by rw [e121]; rfl) (by decide) rfl (fun ls hl => ?_)
        refine lv_goto (tgt := 86) hx hb d_M_parts_124 (by decide) ?_
        exact ih v6 x121 S102 _ _ ls hI (lv_sub hl [1, 2, 3, 4, 5, 0] rfl) h
      · replace h := h.2 q
        refine lv_aload_n hx hb d_M_parts_110 rfl (lv_at hl 0 rfl) ?_
        refine lv_iload hx hb d_M_parts_111 (lv_at hl 5 rfl) ?_
        refine lv_iload hx hb d_M_parts_113 (lv_at hl 4 rfl) ?_
        refine z_callVv C hI 31 (by decide) kd_31 cl_M (As := [.int v7, .int v6]) (rest := []) (c_M_swap v7 v6 _ _ h) wc_M_swap k_ml_M_154 rfl rfl (Nat.le_of_ble_eq_true rfl) (Nat.le_of_ble_eq_true rfl) hcs hl.1 (Nat.le_of_ble_eq_true rfl) rfl d_M_parts_115 (fun S115 H locs h hI => ?_)
        obtain ⟨x118, e118⟩ : ∃ y : Int32, y = v6 + 1 := ⟨_, rfl⟩
        replace h := h x118 e118
        refine lv_iinc (v := x118) (lv' := [(6, .int x118), (0, .ref (ad 31)), (2, .int v2), (4, .int v4), (5, .int v5), (7, .int v7)]) hx hb d_M_parts_118 hl (k := 4) rfl (by rw [e118]; rfl) (by decide) rfl (fun ls hl => ?_)
        obtain ⟨x121, e121⟩ : ∃ y : Int32, y = v7 + 1 := ⟨_, rfl⟩
        replace h := h x121 e121
        refine lv_iinc (v := x121) (lv' := [(7, .int x121), (6, .int x118), (0, .ref (ad 31)), (2, .int v2), (4, .int v4), (5, .int v5)]) hx hb d_M_parts_121 hl (k := 5) rfl (by rw [e121]; rfl) (by decide) rfl (fun ls hl => ?_)
        refine lv_goto (tgt := 86) hx hb d_M_parts_124 (by decide) ?_
        exact ih x118 x121 S115 _ _ ls hI (lv_sub hl [2, 3, 4, 5, 1, 0] rfl) h
set_option maxHeartbeats 4000000 in
set_option maxRecDepth 100000 in
theorem c_M_parts (v1 : Int32) (v2 : Int32) (S : zS) (post : Int32 → zS → Prop) (h : P_M_parts v1 v2 S post) : z_cti l D cA 51 ad y_M_parts b_M_parts 9 (some .int) rm_M_parts [.ref (ad 31), .int v1, .int v2] S post := by
  refine z_meti (av := [.ref (ad 31), .int v1, .int v2]) (by decide) (Nat.le_of_ble_eq_true rfl) ⟨rfl, rfl⟩ (fun p e s m args below meth c Q ls C hcs hl hI hR => ?_)
  obtain ⟨hx, hb, hml, hown, hts, hK, hJ⟩ := id C
  unfold P_M_parts at h
  have hl : lv_has ls 9 [(0, .ref (ad 31)), (1, .int v1), (2, .int v2)] := hl
  refine lv_iconst (v := (-1)) hx hb d_M_parts_0 (by decide) ?_
  refine lv_istore_n (lv' := [(3, .int (-1)), (0, .ref (ad 31)), (1, .int v1), (2, .int v2)]) hx hb d_M_parts_1 rfl hl (by decide) rfl (fun ls hl => ?_)
  refine lv_iconst (v := 0) hx hb d_M_parts_2 (by decide) ?_
  refine lv_istore (lv' := [(4, .int 0), (3, .int (-1)), (0, .ref (ad 31)), (1, .int v1), (2, .int v2)]) hx hb d_M_parts_3 hl (by decide) rfl (fun ls hl => ?_)
  refine lv_iconst (v := 0) hx hb d_M_parts_5 (by decide) ?_
  refine lv_istore (lv' := [(5, .int 0), (4, .int 0), (3, .int (-1)), (0, .ref (ad 31)), (1, .int v1), (2, .int v2)]) hx hb d_M_parts_6 hl (by decide) rfl (fun ls hl => ?_)
  refine lv_iconst (v := 0) hx hb d_M_parts_8 (by decide) ?_
  refine lv_istore (lv' := [(6, .int 0), (5, .int 0), (4, .int 0), (3, .int (-1)), (0, .ref (ad 31)), (1, .int v1), (2, .int v2)]) hx hb d_M_parts_9 hl (by decide) rfl (fun ls hl => ?_)
  obtain ⟨k11, h⟩ := h
  refine w_M_parts_11 C hcs _ _ v1 v2 hR (fun v3_11e v4_11e v5_11e S11e H locs ls h hI hl => ?_) k11 (-1) 0 0 0 S _ _ ls hI (lv_sub hl [4, 5, 6, 3, 2, 1, 0] rfl) h
  refine lv_iload_n hx hb d_M_parts_73 rfl (lv_at hl 3 rfl) ?_
  refine lv_iconst (v := (-1)) hx hb d_M_parts_74 (by decide) ?_
  refine lv_icmp_ne (tgt := 80) hx hb d_M_parts_75 (by decide) (fun q => ?_) (fun q => ?_)
  · replace h := h.1 q
    refine lv_iload_n hx hb d_M_parts_80 rfl (lv_at hl 1 rfl) ?_
    refine lv_istore (lv' := [(6, .int v1), (0, .ref (ad 31)), (1, .int v1), (2, .int v2), (3, .int v3_11e), (4, .int v4_11e), (5, .int v5_11e)]) hx hb d_M_parts_81 hl (by decide) rfl (fun ls hl => ?_)
    refine lv_iload_n hx hb d_M_parts_83 rfl (lv_at hl 2 rfl) ?_
    refine lv_istore (lv' := [(7, .int v1), (6, .int v1), (0, .ref (ad 31)), (1, .int v1), (2, .int v2), (3, .int v3_11e), (4, .int v4_11e), (5, .int v5_11e)]) hx hb d_M_parts_84 hl (by decide) rfl (fun ls hl => ?_)
    obtain ⟨k86, h⟩ := h
    refine w_M_parts_86 C hcs _ v2 v4_11e v5_11e hR k86 v1 v1 S11e _ _ ls hI (lv_sub hl [2, 4, 6, 7, 1, 0] rfl) h
  · replace h := h.2 q
    refine lv_iload_n hx hb d_M_parts_78 rfl (lv_at hl 2 rfl) ?_
    exact hR _ _ hcs v2 S11e _ _ 79 ls h hI d_M_parts_79
set_option maxHeartbeats 4000000 in
set_option maxRecDepth 100000 in
theorem w_M_takeOrder_2 (C : z_CT p s m args c R_M b_M_takeOrder 5 D cA 51 ad) (hcs : cells ≤ rm_M_takeOrder.cells ∧ slots ≤ rm_M_takeOrder.slots) (post : zS → Prop) (K23 : zS → Prop) (hR : z_Rv p l e rm_M_takeOrder s m args below meth c Q b_M_takeOrder D cA 51 ad post) (kK23 : ∀ (S : zS) (H : Heap) (locs : List Loc) (ls : Array Slot), K23 S → z_I D cA 51 ad s.heap S H locs → lv_has ls 5 [(0, .ref (ad 31))] → W p l e rm_M_takeOrder s m args below meth c H locs cells slots Q (F0 m 23 ls [])) : ∀ (n : Nat) (v1 : Int32) (S : zS) (H : Heap) (locs : List Loc) (ls : Array Slot), z_I D cA 51 ad s.heap S H locs → lv_has ls 5 [(0, .ref (ad 31)), (1, .int v1)] → L_M_takeOrder_2 post K23 n v1 S → W p l e rm_M_takeOrder s m args below meth c H locs cells slots Q (F0 m 2 ls []) := by
  obtain ⟨hx, hb, hml, hown, hts, hK, hJ⟩ := id C
  intro n
  induction n with
  | zero => intro v1 S H locs ls hI hl h; exact h.elim
  | succ n ih =>
    intro v1 S H locs ls hI hl h
    rw [L_M_takeOrder_2] at h
    refine lv_iload_n hx hb d_M_takeOrder_2 rfl (lv_at hl 1 rfl) ?_
    refine lv_aload_n hx hb d_M_takeOrder_3 rfl (lv_at hl 0 rfl) ?_
    refine z_getI C hI 31 (by decide) kd_31 cl_M iw_M 12 (by decide) k_fl_M_116 rfl d_M_takeOrder_4 ?_
    refine lv_icmp_ge (tgt := 23) hx hb d_M_takeOrder_7 (by decide) (fun q => ?_) (fun q => ?_)
    · replace h := h.1 q
      exact kK23 S _ _ ls h hI (lv_sub hl [0] rfl)
    · replace h := h.2 q
      refine lv_aload_n hx hb d_M_takeOrder_10 rfl (lv_at hl 0 rfl) ?_
      refine z_getR C hI 31 (by decide) kd_31 cl_M iw_M 18 (by decide) k_fl_M_51 rfl d_M_takeOrder_11 ?_
      refine lv_iload_n hx hb d_M_takeOrder_14 rfl (lv_at hl 1 rfl) ?_
      refine lv_iload_n hx hb d_M_takeOrder_15 rfl (lv_at hl 1 rfl) ?_
      obtain ⟨h1, h⟩ := h
      refine z_ist C hI 44 (by decide) kd_44 h1 d_M_takeOrder_16 (fun S16 eS H locs hI => ?_)
      replace h := h S16 eS
      obtain ⟨x17, e17⟩ : ∃ y : Int32, y = v1 + 1 := ⟨_, rfl⟩
      replace h := h x17 e17
      refine lv_iinc (v := x17) (lv' := [(1, .int x17), (0, .ref (ad 31))]) hx hb d_M_takeOrder_17 hl (k := 1) rfl (by rw [e17]; rfl) (by decide) rfl (fun ls hl => ?_)
      refine lv_goto (tgt := 2) hx hb d_M_takeOrder_20 (by decide) ?_
      exact ih x17 S16 _ _ ls hI (lv_sub hl [1, 0] rfl) h
set_option maxHeartbeats 4000000 in
set_option maxRecDepth 100000 in
theorem w_M_takeOrder_80 (C : z_CT p s m args c R_M b_M_takeOrder 5 D cA 51 ad) (hcs : cells ≤ rm_M_takeOrder.cells ∧ slots ≤ rm_M_takeOrder.slots) (post : zS → Prop) (K42 : Int32 → zS → Prop) (v1 : Int32) (v2 : Int32) (v3 : Int32) (t0 : Int32) (hR : z_Rv p l e rm_M_takeOrder s m args below meth c Q b_M_takeOrder D cA 51 ad post) (kK42 : ∀ (v1 : Int32) (S : zS) (H : Heap) (locs : List Loc) (ls : Array Slot), K42 v1 S → z_I D cA 51 ad s.heap S H locs → lv_has ls 5 [(0, .ref (ad 31)), (1, .int v1)] → W p l e rm_M_takeOrder s m args below meth c H locs cells slots Q (F0 m 42 ls [])) (S : zS) (H : Heap) (locs : List Loc) (ls : Array Slot) (hI : z_I D cA 51 ad s.heap S H locs) (hl : lv_has ls 5 [(0, .ref (ad 31)), (1, .int v1), (2, .int v2), (3, .int v3)]) (h : J_M_takeOrder_80 post K42 v1 v2 v3 t0 S) : W p l e rm_M_takeOrder s m args below meth c H locs cells slots Q (F0 m 80 ls [.int t0]) := by
  obtain ⟨hx, hb, hml, hown, hts, hK, hJ⟩ := id C
  unfold J_M_takeOrder_80 at h
  refine lv_istore (lv' := [(4, .int t0), (0, .ref (ad 31)), (1, .int v1), (2, .int v2), (3, .int v3)]) hx hb d_M_takeOrder_80 hl (by decide) rfl (fun ls hl => ?_)
  refine lv_iload hx hb d_M_takeOrder_82 (lv_at hl 0 rfl) ?_
  refine lv_iload_n hx hb d_M_takeOrder_84 rfl (lv_at hl 4 rfl) ?_
  refine lv_icmp_ne (tgt := 97) hx hb d_M_takeOrder_85 (by decide) (fun q => ?_) (fun q => ?_)
  · replace h := h.1 q
    refine lv_aload_n hx hb d_M_takeOrder_97 rfl (lv_at hl 1 rfl) ?_
    refine z_getR C hI 31 (by decide) kd_31 cl_M iw_M 25 (by decide) k_fl_M_63 rfl d_M_takeOrder_98 ?_
    refine lv_iload_n hx hb d_M_takeOrder_101 rfl (lv_at hl 2 rfl) ?_
    refine lv_iload_n hx hb d_M_takeOrder_102 rfl (lv_at hl 3 rfl) ?_
    obtain ⟨h1, h⟩ := h
    refine z_ist C hI 48 (by decide) kd_48 h1 d_M_takeOrder_103 (fun S103 eS H locs hI => ?_)
    replace h := h S103 eS
    refine lv_aload_n hx hb d_M_takeOrder_104 rfl (lv_at hl 1 rfl) ?_
    refine z_getR C hI 31 (by decide) kd_31 cl_M iw_M 26 (by decide) k_fl_M_66 rfl d_M_takeOrder_105 ?_
    refine lv_iload_n hx hb d_M_takeOrder_108 rfl (lv_at hl 2 rfl) ?_
    refine lv_iload hx hb d_M_takeOrder_109 (lv_at hl 0 rfl) ?_
    obtain ⟨h1, h⟩ := h
    refine z_ist C hI 49 (by decide) kd_49 h1 d_M_takeOrder_111 (fun S111 eS H locs hI => ?_)
    replace h := h S111 eS
    refine lv_aload_n hx hb d_M_takeOrder_112 rfl (lv_at hl 1 rfl) ?_
    refine z_getR C hI 31 (by decide) kd_31 cl_M iw_M 25 (by decide) k_fl_M_63 rfl d_M_takeOrder_113 ?_
    refine lv_iload_n hx hb d_M_takeOrder_116 rfl (lv_at hl 2 rfl) ?_
    refine lv_iconst (v := 1) hx hb d_M_takeOrder_117 (by decide) ?_
    refine lv_iadd hx hb d_M_takeOrder_118 ?_
    refine lv_iload hx hb d_M_takeOrder_119 (lv_at hl 0 rfl) ?_
    obtain ⟨h1, h⟩ := h
    refine z_ist C hI 48 (by decide) kd_48 h1 d_M_takeOrder_121 (fun S121 eS H locs hI => ?_)
    replace h := h S121 eS
    refine lv_aload_n hx hb d_M_takeOrder_122 rfl (lv_at hl 1 rfl) ?_
    refine z_getR C hI 31 (by decide) kd_31 cl_M iw_M 26 (by decide) k_fl_M_66 rfl d_M_takeOrder_123 ?_
    refine lv_iload_n hx hb d_M_takeOrder_126 rfl (lv_at hl 2 rfl) ?_
    refine lv_iconst (v := 1) hx hb d_M_takeOrder_127 (by decide) ?_
    refine lv_iadd hx hb d_M_takeOrder_128 ?_
    refine lv_iload_n hx hb d_M_takeOrder_129 rfl (lv_at hl 4 rfl) ?_
    obtain ⟨h1, h⟩ := h
    refine z_ist C hI 49 (by decide) kd_49 h1 d_M_takeOrder_130 (fun S130 eS H locs hI => ?_)
    replace h := h S130 eS
    refine lv_iload_n hx hb d_M_takeOrder_131 rfl (lv_at hl 2 rfl) ?_
    refine lv_iconst (v := 2) hx hb d_M_takeOrder_132 (by decide) ?_
    refine lv_iadd hx hb d_M_takeOrder_133 ?_
    refine lv_topi (fun x134 e134 => ?_)
    replace h := h x134 e134
    refine lv_istore_n (lv' := [(1, .int x134), (4, .int t0), (0, .ref (ad 31)), (2, .int v2), (3, .int v3)]) hx hb d_M_takeOrder_134 rfl hl (by decide) rfl (fun ls hl => ?_)
    refine lv_goto (tgt := 42) hx hb d_M_takeOrder_135 (by decide) ?_
    exact kK42 x134 S130 _ _ ls h hI (lv_sub hl [2, 0] rfl)
  · replace h := h.2 q
    refine lv_aload_n hx hb d_M_takeOrder_88 rfl (lv_at hl 1 rfl) ?_
    refine lv_iload_n hx hb d_M_takeOrder_89 rfl (lv_at hl 3 rfl) ?_
    refine lv_iload_n hx hb d_M_takeOrder_90 rfl (lv_at hl 4 rfl) ?_
    refine z_callVv C hI 31 (by decide) kd_31 cl_M (As := [.int v2, .int v3]) (rest := []) (c_M_sort v2 v3 _ _ h) wc_M_sort k_ml_M_165 rfl rfl (Nat.le_of_ble_eq_true rfl) (Nat.le_of_ble_eq_true rfl) hcs hl.1 (Nat.le_of_ble_eq_true rfl) rfl d_M_takeOrder_91 (fun S91 H locs h hI => ?_)
    refine lv_goto (tgt := 135) hx hb d_M_takeOrder_94 (by decide) ?_
    refine lv_goto (tgt := 42) hx hb d_M_takeOrder_135 (by decide) ?_
    exact kK42 v1 S91 _ _ ls h hI (lv_sub hl [1, 2] rfl)
set_option maxHeartbeats 4000000 in
set_option maxRecDepth 100000 in
theorem w_M_takeOrder_42 (C : z_CT p s m args c R_M b_M_takeOrder 5 D cA 51 ad) (hcs : cells ≤ rm_M_takeOrder.cells ∧ slots ≤ rm_M_takeOrder.slots) (post : zS → Prop) (hR : z_Rv p l e rm_M_takeOrder s m args below meth c Q b_M_takeOrder D cA 51 ad post) : ∀ (n : Nat) (v1 : Int32) (S : zS) (H : Heap) (locs : List Loc) (ls : Array Slot), z_I D cA 51 ad s.heap S H locs → lv_has ls 5 [(0, .ref (ad 31)), (1, .int v1)] → L_M_takeOrder_42 post n v1 S → W p l e rm_M_takeOrder s m args below meth c H locs cells slots Q (F0 m 42 ls []) := by
  obtain ⟨hx, hb, hml, hown, hts, hK, hJ⟩ := id C
  intro n
  induction n with
  | zero => intro v1 S H locs ls hI hl h; exact h.elim
  | succ n ih =>
    intro v1 S H locs ls hI hl h
    rw [L_M_takeOrder_42] at h
    refine lv_iload_n hx hb d_M_takeOrder_42 rfl (lv_at hl 1 rfl) ?_
    refine lv_if_le (tgt := 138) hx hb d_M_takeOrder_43 (by decide) (fun q => ?_) (fun q => ?_)
    · replace h := h.1 q
      exact hR _ _ hcs S _ _ 138 ls h hI d_M_takeOrder_138
    · replace h := h.2 q
      obtain ⟨x46, e46⟩ : ∃ y : Int32, y = v1 + (-1) := ⟨_, rfl⟩
      replace h := h x46 e46
      refine lv_iinc (v := x46) (lv' := [(1, .int x46), (0, .ref (ad 31))]) hx hb d_M_takeOrder_46 hl (k := 1) rfl (by rw [e46]; rfl) (by decide) rfl (fun ls hl => ?_)
      refine lv_aload_n hx hb d_M_takeOrder_49 rfl (lv_at hl 1 rfl) ?_
      refine z_getR C hI 31 (by decide) kd_31 cl_M iw_M 25 (by decide) k_fl_M_63 rfl d_M_takeOrder_50 ?_
      refine lv_iload_n hx hb d_M_takeOrder_53 rfl (lv_at hl 0 rfl) ?_
      obtain ⟨h1, h⟩ := h
      refine z_ild C hI 48 (by decide) kd_48 h1 d_M_takeOrder_54 ?_
      refine lv_topi (fun x55 e55 => ?_)
      replace h := h x55 e55
      refine lv_istore_n (lv' := [(2, .int x55), (1, .int x46), (0, .ref (ad 31))]) hx hb d_M_takeOrder_55 rfl hl (by decide) rfl (fun ls hl => ?_)
      refine lv_aload_n hx hb d_M_takeOrder_56 rfl (lv_at hl 2 rfl) ?_
      refine z_getR C hI 31 (by decide) kd_31 cl_M iw_M 26 (by decide) k_fl_M_66 rfl d_M_takeOrder_57 ?_
      refine lv_iload_n hx hb d_M_takeOrder_60 rfl (lv_at hl 1 rfl) ?_
      obtain ⟨h1, h⟩ := h
      refine z_ild C hI 49 (by decide) kd_49 h1 d_M_takeOrder_61 ?_
      refine lv_topi (fun x62 e62 => ?_)
      replace h := h x62 e62
      refine lv_istore_n (lv' := [(3, .int x62), (2, .int x55), (1, .int x46), (0, .ref (ad 31))]) hx hb d_M_takeOrder_62 rfl hl (by decide) rfl (fun ls hl => ?_)
      refine lv_iload_n hx hb d_M_takeOrder_63 rfl (lv_at hl 0 rfl) ?_
      refine lv_iload_n hx hb d_M_takeOrder_64 rfl (lv_at hl 1 rfl) ?_
      refine lv_isub hx hb d_M_takeOrder_65 ?_
      refine lv_iconst (v := 1) hx hb d_M_takeOrder_66 (by decide) ?_
      refine lv_icmp_le (tgt := 79) hx hb d_M_takeOrder_67 (by decide) (fun q => ?_) (fun q => ?_)
      · replace h := h.1 q
        refine lv_iload_n hx hb d_M_takeOrder_79 rfl (lv_at hl 0 rfl) ?_
        exact w_M_takeOrder_80 C hcs _ _ x46 x55 x62 x62 hR (fun v1 S H locs ls h hI hl => ih v1 S H locs ls hI hl h) S _ _ ls hI (lv_sub hl [3, 2, 1, 0] rfl) h
      · replace h := h.2 q
        refine lv_aload_n hx hb d_M_takeOrder_70 rfl (lv_at hl 3 rfl) ?_
        refine lv_iload_n hx hb d_M_takeOrder_71 rfl (lv_at hl 1 rfl) ?_
        refine lv_iload_n hx hb d_M_takeOrder_72 rfl (lv_at hl 0 rfl) ?_
        refine z_callVi C hI 31 (by decide) kd_31 cl_M (As := [.int x55, .int x62]) (rest := []) (c_M_parts x55 x62 _ _ h) wc_M_parts k_ml_M_162 rfl rfl (Nat.le_of_ble_eq_true rfl) (Nat.le_of_ble_eq_true rfl) hcs hl.1 (Nat.le_of_ble_eq_true rfl) rfl d_M_takeOrder_73 (fun r73 S73 H locs h hI => ?_)
        refine lv_goto (tgt := 80) hx hb d_M_takeOrder_76 (by decide) ?_
        exact w_M_takeOrder_80 C hcs _ _ x46 x55 x62 r73 hR (fun v1 S H locs ls h hI hl => ih v1 S H locs ls hI hl h) S73 _ _ ls hI (lv_sub hl [3, 2, 1, 0] rfl) h
set_option maxHeartbeats 4000000 in
set_option maxRecDepth 100000 in
theorem c_M_takeOrder (S : zS) (post : zS → Prop) (h : P_M_takeOrder S post) : z_ctv l D cA 51 ad y_M_takeOrder b_M_takeOrder 5 none rm_M_takeOrder [.ref (ad 31)] S post := by
  refine z_metv (av := [.ref (ad 31)]) (by decide) (Nat.le_of_ble_eq_true rfl) ⟨rfl, rfl⟩ (fun p e s m args below meth c Q ls C hcs hl hI hR => ?_)
  obtain ⟨hx, hb, hml, hown, hts, hK, hJ⟩ := id C
  unfold P_M_takeOrder at h
  have hl : lv_has ls 5 [(0, .ref (ad 31))] := hl
  refine lv_iconst (v := 0) hx hb d_M_takeOrder_0 (by decide) ?_
  refine lv_istore_n (lv' := [(1, .int 0), (0, .ref (ad 31))]) hx hb d_M_takeOrder_1 rfl hl (by decide) rfl (fun ls hl => ?_)
  obtain ⟨k2, h⟩ := h
  refine w_M_takeOrder_2 C hcs _ _ hR (fun S2e H locs ls h hI hl => ?_) k2 0 S _ _ ls hI (lv_sub hl [1, 0] rfl) h
  refine lv_iconst (v := 1) hx hb d_M_takeOrder_23 (by decide) ?_
  refine lv_istore_n (lv' := [(1, .int 1), (0, .ref (ad 31))]) hx hb d_M_takeOrder_24 rfl hl (by decide) rfl (fun ls hl => ?_)
  refine lv_aload_n hx hb d_M_takeOrder_25 rfl (lv_at hl 1 rfl) ?_
  refine z_getR C hI 31 (by decide) kd_31 cl_M iw_M 25 (by decide) k_fl_M_63 rfl d_M_takeOrder_26 ?_
  refine lv_iconst (v := 0) hx hb d_M_takeOrder_29 (by decide) ?_
  refine lv_iconst (v := 0) hx hb d_M_takeOrder_30 (by decide) ?_
  obtain ⟨h1, h⟩ := h
  refine z_ist C hI 48 (by decide) kd_48 h1 d_M_takeOrder_31 (fun S31 eS H locs hI => ?_)
  replace h := h S31 eS
  refine lv_aload_n hx hb d_M_takeOrder_32 rfl (lv_at hl 1 rfl) ?_
  refine z_getR C hI 31 (by decide) kd_31 cl_M iw_M 26 (by decide) k_fl_M_66 rfl d_M_takeOrder_33 ?_
  refine lv_iconst (v := 0) hx hb d_M_takeOrder_36 (by decide) ?_
  refine lv_aload_n hx hb d_M_takeOrder_37 rfl (lv_at hl 1 rfl) ?_
  refine z_getI C hI 31 (by decide) kd_31 cl_M iw_M 12 (by decide) k_fl_M_116 rfl d_M_takeOrder_38 ?_
  obtain ⟨h1, h⟩ := h
  refine z_ist C hI 49 (by decide) kd_49 h1 d_M_takeOrder_41 (fun S41 eS H locs hI => ?_)
  replace h := h S41 eS
  obtain ⟨k42, h⟩ := h
  refine w_M_takeOrder_42 C hcs _ hR k42 1 S41 _ _ ls hI (lv_sub hl [1, 0] rfl) h
set_option maxHeartbeats 4000000 in
set_option maxRecDepth 100000 in
theorem w_M_run_26 (C : z_CT p s m args c R_M b_M_run 3 D cA 51 ad) (hcs : cells ≤ rm_M_run.cells ∧ slots ≤ rm_M_run.slots) (post : Int32 → zS → Prop) (v1 : Int32) (v2 : Int32) (t0 : Int32) (hR : z_Ri p l e rm_M_run s m args below meth c Q b_M_run D cA 51 ad post) (S : zS) (H : Heap) (locs : List Loc) (ls : Array Slot) (hI : z_I D cA 51 ad s.heap S H locs) (hl : lv_has ls 3 [(0, .ref (ad 31)), (1, .int v1), (2, .int v2)]) (h : J_M_run_26 post v1 v2 t0 S) : W p l e rm_M_run s m args below meth c H locs cells slots Q (F0 m 26 ls [.int t0, .ref (ad 31)]) := by
  obtain ⟨hx, hb, hml, hown, hts, hK, hJ⟩ := id C
  unfold J_M_run_26 at h
  refine lv_iconst (v := 1) hx hb d_M_run_26 (by decide) ?_
  refine lv_iconst (v := 1) hx hb d_M_run_27 (by decide) ?_
  refine z_callVi C hI 31 (by decide) kd_31 cl_M (As := [.int t0, .int 1, .int 1]) (rest := []) (c_M_goes t0 1 1 _ _ h) wc_M_goes k_ml_M_90 rfl rfl (Nat.le_of_ble_eq_true rfl) (Nat.le_of_ble_eq_true rfl) hcs hl.1 (Nat.le_of_ble_eq_true rfl) rfl d_M_run_28 (fun r28 S28 H locs h hI => ?_)
  refine lv_if_ne (tgt := 36) hx hb d_M_run_31 (by decide) (fun q => ?_) (fun q => ?_)
  · replace h := h.1 q
    refine lv_aload_n hx hb d_M_run_36 rfl (lv_at hl 0 rfl) ?_
    refine lv_iload_n hx hb d_M_run_37 rfl (lv_at hl 1 rfl) ?_
    refine lv_iload_n hx hb d_M_run_38 rfl (lv_at hl 2 rfl) ?_
    refine z_callVv C hI 31 (by decide) kd_31 cl_M (As := [.int v1, .int v2]) (rest := []) (c_M_takeInk v1 v2 _ _ h) wc_M_takeInk k_ml_M_168 rfl rfl (Nat.le_of_ble_eq_true rfl) (Nat.le_of_ble_eq_true rfl) hcs hl.1 (Nat.le_of_ble_eq_true rfl) rfl d_M_run_39 (fun S39 H locs h hI => ?_)
    refine lv_aload_n hx hb d_M_run_42 rfl (lv_at hl 0 rfl) ?_
    refine z_callVv C hI 31 (by decide) kd_31 cl_M (As := []) (rest := []) (c_M_takeParts _ _ h) wc_M_takeParts k_ml_M_171 rfl rfl (Nat.le_of_ble_eq_true rfl) (Nat.le_of_ble_eq_true rfl) hcs hl.1 (Nat.le_of_ble_eq_true rfl) rfl d_M_run_43 (fun S43 H locs h hI => ?_)
    refine lv_aload_n hx hb d_M_run_46 rfl (lv_at hl 0 rfl) ?_
    refine z_callVv C hI 31 (by decide) kd_31 cl_M (As := []) (rest := []) (c_M_takeCovers _ _ h) wc_M_takeCovers k_ml_M_174 rfl rfl (Nat.le_of_ble_eq_true rfl) (Nat.le_of_ble_eq_true rfl) hcs hl.1 (Nat.le_of_ble_eq_true rfl) rfl d_M_run_47 (fun S47 H locs h hI => ?_)
    refine lv_aload_n hx hb d_M_run_50 rfl (lv_at hl 0 rfl) ?_
    refine z_callVv C hI 31 (by decide) kd_31 cl_M (As := []) (rest := []) (c_M_takeStrips _ _ h) wc_M_takeStrips k_ml_M_177 rfl rfl (Nat.le_of_ble_eq_true rfl) (Nat.le_of_ble_eq_true rfl) hcs hl.1 (Nat.le_of_ble_eq_true rfl) rfl d_M_run_51 (fun S51 H locs h hI => ?_)
    refine lv_aload_n hx hb d_M_run_54 rfl (lv_at hl 0 rfl) ?_
    refine z_callVv C hI 31 (by decide) kd_31 cl_M (As := []) (rest := []) (c_M_takeCells _ _ h) wc_M_takeCells k_ml_M_180 rfl rfl (Nat.le_of_ble_eq_true rfl) (Nat.le_of_ble_eq_true rfl) hcs hl.1 (Nat.le_of_ble_eq_true rfl) rfl d_M_run_55 (fun S55 H locs h hI => ?_)
    refine lv_aload_n hx hb d_M_run_58 rfl (lv_at hl 0 rfl) ?_
    refine z_callVv C hI 31 (by decide) kd_31 cl_M (As := []) (rest := []) (c_M_takeOrder _ _ h) wc_M_takeOrder k_ml_M_183 rfl rfl (Nat.le_of_ble_eq_true rfl) (Nat.le_of_ble_eq_true rfl) hcs hl.1 (Nat.le_of_ble_eq_true rfl) rfl d_M_run_59 (fun S59 H locs h hI => ?_)
    refine lv_aload_n hx hb d_M_run_62 rfl (lv_at hl 0 rfl) ?_
    refine lv_iconst (v := 1) hx hb d_M_run_63 (by decide) ?_
    refine z_putZ C hI 31 (by decide) kd_31 cl_M iw_M ty_M ty_M_ok n_M 5 (by decide) k_fl_M_94 rfl rfl rfl (by decide) d_M_run_64 (fun S64 eS H locs hI => ?_)
    replace h := h S64 eS
    refine lv_aload_n hx hb d_M_run_67 rfl (lv_at hl 0 rfl) ?_
    refine z_getI C hI 31 (by decide) kd_31 cl_M iw_M 12 (by decide) k_fl_M_116 rfl d_M_run_68 ?_
    exact hR _ _ hcs (S64 31 12) S64 _ _ 71 ls h hI d_M_run_71
  · replace h := h.2 q
    refine lv_iconst (v := 0) hx hb d_M_run_34 (by decide) ?_
    exact hR _ _ hcs 0 S28 _ _ 35 ls h hI d_M_run_35
set_option maxHeartbeats 4000000 in
set_option maxRecDepth 100000 in
theorem w_M_run_25 (C : z_CT p s m args c R_M b_M_run 3 D cA 51 ad) (hcs : cells ≤ rm_M_run.cells ∧ slots ≤ rm_M_run.slots) (post : Int32 → zS → Prop) (v1 : Int32) (v2 : Int32) (hR : z_Ri p l e rm_M_run s m args below meth c Q b_M_run D cA 51 ad post) (S : zS) (H : Heap) (locs : List Loc) (ls : Array Slot) (hI : z_I D cA 51 ad s.heap S H locs) (hl : lv_has ls 3 [(0, .ref (ad 31)), (1, .int v1), (2, .int v2)]) (h : J_M_run_25 post v1 v2 S) : W p l e rm_M_run s m args below meth c H locs cells slots Q (F0 m 25 ls [.ref (ad 31)]) := by
  obtain ⟨hx, hb, hml, hown, hts, hK, hJ⟩ := id C
  unfold J_M_run_25 at h
  refine lv_iconst (v := 0) hx hb d_M_run_25 (by decide) ?_
  exact w_M_run_26 C hcs _ v1 v2 0 hR S _ _ ls hI (lv_sub hl [0, 1, 2] rfl) h
set_option maxHeartbeats 4000000 in
set_option maxRecDepth 100000 in
theorem c_M_run (v1 : Int32) (v2 : Int32) (S : zS) (post : Int32 → zS → Prop) (h : P_M_run v1 v2 S post) : z_cti l D cA 51 ad y_M_run b_M_run 3 (some .int) rm_M_run [.ref (ad 31), .int v1, .int v2] S post := by
  refine z_meti (av := [.ref (ad 31), .int v1, .int v2]) (by decide) (Nat.le_of_ble_eq_true rfl) ⟨rfl, rfl⟩ (fun p e s m args below meth c Q ls C hcs hl hI hR => ?_)
  obtain ⟨hx, hb, hml, hown, hts, hK, hJ⟩ := id C
  unfold P_M_run at h
  have hl : lv_has ls 3 [(0, .ref (ad 31)), (1, .int v1), (2, .int v2)] := hl
  refine lv_aload_n hx hb d_M_run_0 rfl (lv_at hl 0 rfl) ?_
  refine lv_iload_n hx hb d_M_run_1 rfl (lv_at hl 1 rfl) ?_
  refine lv_iconst (v := 0) hx hb d_M_run_2 (by decide) ?_
  refine lv_bipush (v := 24) hx hb d_M_run_3 (by decide) ?_
  refine z_callSi C hI (As := [.int v1, .int 0, .int 24]) (rest := [.ref (ad 31)]) (c_M_in v1 0 24 _ _ h) wc_M_in k_ml_M_82 rfl rfl (Nat.le_of_ble_eq_true rfl) (Nat.le_of_ble_eq_true rfl) hcs hl.1 (Nat.le_of_ble_eq_true rfl) rfl d_M_run_5 (fun r5 S5 H locs h hI => ?_)
  refine lv_if_eq (tgt := 25) hx hb d_M_run_8 (by decide) (fun q => ?_) (fun q => ?_)
  · replace h := h.1 q
    exact w_M_run_25 C hcs _ v1 v2 hR S5 _ _ ls hI (lv_sub hl [0, 1, 2] rfl) h
  · replace h := h.2 q
    refine lv_iload_n hx hb d_M_run_11 rfl (lv_at hl 2 rfl) ?_
    refine lv_iconst (v := 0) hx hb d_M_run_12 (by decide) ?_
    refine lv_bipush (v := 24) hx hb d_M_run_13 (by decide) ?_
    refine z_callSi C hI (As := [.int v2, .int 0, .int 24]) (rest := [.ref (ad 31)]) (c_M_in v2 0 24 _ _ h) wc_M_in k_ml_M_82 rfl rfl (Nat.le_of_ble_eq_true rfl) (Nat.le_of_ble_eq_true rfl) hcs hl.1 (Nat.le_of_ble_eq_true rfl) rfl d_M_run_15 (fun r15 S15 H locs h hI => ?_)
    refine lv_if_eq (tgt := 25) hx hb d_M_run_18 (by decide) (fun q => ?_) (fun q => ?_)
    · replace h := h.1 q
      exact w_M_run_25 C hcs _ v1 v2 hR S15 _ _ ls hI (lv_sub hl [0, 1, 2] rfl) h
    · replace h := h.2 q
      refine lv_iconst (v := 1) hx hb d_M_run_21 (by decide) ?_
      refine lv_goto (tgt := 26) hx hb d_M_run_22 (by decide) ?_
      exact w_M_run_26 C hcs _ v1 v2 1 hR S15 _ _ ls hI (lv_sub hl [0, 1, 2] rfl) h
set_option maxHeartbeats 4000000 in
set_option maxRecDepth 100000 in
theorem w_M_lines_70 (C : z_CT p s m args c R_M b_M_lines 6 D cA 51 ad) (hcs : cells ≤ rm_M_lines.cells ∧ slots ≤ rm_M_lines.slots) (post : Int32 → zS → Prop) (K12 : Int32 → Int32 → Int32 → zS → Prop) (v1 : Int32) (v4 : Int32) (v5 : Int32) (t0 : Int32) (hR : z_Ri p l e rm_M_lines s m args below meth c Q b_M_lines D cA 51 ad post) (kK12 : ∀ (v2 : Int32) (v3 : Int32) (v4 : Int32) (S : zS) (H : Heap) (locs : List Loc) (ls : Array Slot), K12 v2 v3 v4 S → z_I D cA 51 ad s.heap S H locs → lv_has ls 6 [(0, .ref (ad 31)), (1, .int v1), (2, .int v2), (3, .int v3), (4, .int v4)] → W p l e rm_M_lines s m args below meth c H locs cells slots Q (F0 m 12 ls [])) (S : zS) (H : Heap) (locs : List Loc) (ls : Array Slot) (hI : z_I D cA 51 ad s.heap S H locs) (hl : lv_has ls 6 [(0, .ref (ad 31)), (1, .int v1), (4, .int v4), (5, .int v5)]) (h : J_M_lines_70 post K12 v1 v4 v5 t0 S) : W p l e rm_M_lines s m args below meth c H locs cells slots Q (F0 m 70 ls [.int t0]) := by
  obtain ⟨hx, hb, hml, hown, hts, hK, hJ⟩ := id C
  unfold J_M_lines_70 at h
  refine lv_istore_n (lv' := [(2, .int t0), (0, .ref (ad 31)), (1, .int v1), (4, .int v4), (5, .int v5)]) hx hb d_M_lines_70 rfl hl (by decide) rfl (fun ls hl => ?_)
  refine lv_iload hx hb d_M_lines_71 (lv_at hl 4 rfl) ?_
  refine lv_istore_n (lv' := [(3, .int v5), (2, .int t0), (0, .ref (ad 31)), (1, .int v1), (4, .int v4), (5, .int v5)]) hx hb d_M_lines_73 rfl hl (by decide) rfl (fun ls hl => ?_)
  obtain ⟨x74, e74⟩ : ∃ y : Int32, y = v4 + 1 := ⟨_, rfl⟩
  replace h := h x74 e74
  refine lv_iinc (v := x74) (lv' := [(4, .int x74), (3, .int v5), (2, .int t0), (0, .ref (ad 31)), (1, .int v1), (5, .int v5)]) hx hb d_M_lines_74 hl (k := 4) rfl (by rw [e74]; rfl) (by decide) rfl (fun ls hl => ?_)
  refine lv_goto (tgt := 12) hx hb d_M_lines_77 (by decide) ?_
  exact kK12 t0 v5 x74 S _ _ ls h hI (lv_sub hl [3, 4, 2, 1, 0] rfl)
set_option maxHeartbeats 4000000 in
set_option maxRecDepth 100000 in
theorem w_M_lines_69 (C : z_CT p s m args c R_M b_M_lines 6 D cA 51 ad) (hcs : cells ≤ rm_M_lines.cells ∧ slots ≤ rm_M_lines.slots) (post : Int32 → zS → Prop) (K12 : Int32 → Int32 → Int32 → zS → Prop) (v1 : Int32) (v2 : Int32) (v4 : Int32) (v5 : Int32) (hR : z_Ri p l e rm_M_lines s m args below meth c Q b_M_lines D cA 51 ad post) (kK12 : ∀ (v2 : Int32) (v3 : Int32) (v4 : Int32) (S : zS) (H : Heap) (locs : List Loc) (ls : Array Slot), K12 v2 v3 v4 S → z_I D cA 51 ad s.heap S H locs → lv_has ls 6 [(0, .ref (ad 31)), (1, .int v1), (2, .int v2), (3, .int v3), (4, .int v4)] → W p l e rm_M_lines s m args below meth c H locs cells slots Q (F0 m 12 ls [])) (S : zS) (H : Heap) (locs : List Loc) (ls : Array Slot) (hI : z_I D cA 51 ad s.heap S H locs) (hl : lv_has ls 6 [(0, .ref (ad 31)), (1, .int v1), (2, .int v2), (4, .int v4), (5, .int v5)]) (h : J_M_lines_69 post K12 v1 v2 v4 v5 S) : W p l e rm_M_lines s m args below meth c H locs cells slots Q (F0 m 69 ls []) := by
  obtain ⟨hx, hb, hml, hown, hts, hK, hJ⟩ := id C
  unfold J_M_lines_69 at h
  refine lv_iload_n hx hb d_M_lines_69 rfl (lv_at hl 2 rfl) ?_
  exact w_M_lines_70 C hcs _ _ v1 v4 v5 v2 hR kK12 S _ _ ls hI (lv_sub hl [0, 1, 3, 4] rfl) h
set_option maxHeartbeats 4000000 in
set_option maxRecDepth 100000 in
theorem w_M_lines_52 (C : z_CT p s m args c R_M b_M_lines 6 D cA 51 ad) (hcs : cells ≤ rm_M_lines.cells ∧ slots ≤ rm_M_lines.slots) (post : Int32 → zS → Prop) (K12 : Int32 → Int32 → Int32 → zS → Prop) (v1 : Int32) (v2 : Int32) (v3 : Int32) (v4 : Int32) (t0 : Int32) (hR : z_Ri p l e rm_M_lines s m args below meth c Q b_M_lines D cA 51 ad post) (kK12 : ∀ (v2 : Int32) (v3 : Int32) (v4 : Int32) (S : zS) (H : Heap) (locs : List Loc) (ls : Array Slot), K12 v2 v3 v4 S → z_I D cA 51 ad s.heap S H locs → lv_has ls 6 [(0, .ref (ad 31)), (1, .int v1), (2, .int v2), (3, .int v3), (4, .int v4)] → W p l e rm_M_lines s m args below meth c H locs cells slots Q (F0 m 12 ls [])) (S : zS) (H : Heap) (locs : List Loc) (ls : Array Slot) (hI : z_I D cA 51 ad s.heap S H locs) (hl : lv_has ls 6 [(0, .ref (ad 31)), (1, .int v1), (2, .int v2), (3, .int v3), (4, .int v4)]) (h : J_M_lines_52 post K12 v1 v2 v3 v4 t0 S) : W p l e rm_M_lines s m args below meth c H locs cells slots Q (F0 m 52 ls [.int t0]) := by
  obtain ⟨hx, hb, hml, hown, hts, hK, hJ⟩ := id C
  unfold J_M_lines_52 at h
  refine lv_istore (lv' := [(5, .int t0), (0, .ref (ad 31)), (1, .int v1), (2, .int v2), (3, .int v3), (4, .int v4)]) hx hb d_M_lines_52 hl (by decide) rfl (fun ls hl => ?_)
  refine lv_iload hx hb d_M_lines_54 (lv_at hl 0 rfl) ?_
  refine lv_if_eq (tgt := 69) hx hb d_M_lines_56 (by decide) (fun q => ?_) (fun q => ?_)
  · replace h := h.1 q
    exact w_M_lines_69 C hcs _ _ v1 v2 v4 t0 hR kK12 S _ _ ls hI (lv_sub hl [1, 2, 3, 5, 0] rfl) h
  · replace h := h.2 q
    refine lv_iload_n hx hb d_M_lines_59 rfl (lv_at hl 4 rfl) ?_
    refine lv_if_ne (tgt := 69) hx hb d_M_lines_60 (by decide) (fun q => ?_) (fun q => ?_)
    · replace h := h.1 q
      exact w_M_lines_69 C hcs _ _ v1 v2 v4 t0 hR kK12 S _ _ ls hI (lv_sub hl [1, 2, 3, 5, 0] rfl) h
    · replace h := h.2 q
      refine lv_iload_n hx hb d_M_lines_63 rfl (lv_at hl 3 rfl) ?_
      refine lv_iconst (v := 1) hx hb d_M_lines_64 (by decide) ?_
      refine lv_iadd hx hb d_M_lines_65 ?_
      refine lv_goto (tgt := 70) hx hb d_M_lines_66 (by decide) ?_
      exact w_M_lines_70 C hcs _ _ v1 v4 t0 (v2 + 1) hR kK12 S _ _ ls hI (lv_sub hl [1, 2, 5, 0] rfl) h
set_option maxHeartbeats 4000000 in
set_option maxRecDepth 100000 in
theorem w_M_lines_12 (C : z_CT p s m args c R_M b_M_lines 6 D cA 51 ad) (hcs : cells ≤ rm_M_lines.cells ∧ slots ≤ rm_M_lines.slots) (post : Int32 → zS → Prop) (v1 : Int32) (hR : z_Ri p l e rm_M_lines s m args below meth c Q b_M_lines D cA 51 ad post) : ∀ (n : Nat) (v2 : Int32) (v3 : Int32) (v4 : Int32) (S : zS) (H : Heap) (locs : List Loc) (ls : Array Slot), z_I D cA 51 ad s.heap S H locs → lv_has ls 6 [(0, .ref (ad 31)), (1, .int v1), (2, .int v2), (3, .int v3), (4, .int v4)] → L_M_lines_12 post v1 n v2 v3 v4 S → W p l e rm_M_lines s m args below meth c H locs cells slots Q (F0 m 12 ls []) := by
  obtain ⟨hx, hb, hml, hown, hts, hK, hJ⟩ := id C
  intro n
  induction n with
  | zero => intro v2 v3 v4 S H locs ls hI hl h; exact h.elim
  | succ n ih =>
    intro v2 v3 v4 S H locs ls hI hl h
    rw [L_M_lines_12] at h
    refine lv_iload hx hb d_M_lines_12 (lv_at hl 4 rfl) ?_
    refine lv_aload_n hx hb d_M_lines_14 rfl (lv_at hl 0 rfl) ?_
    refine z_getR C hI 31 (by decide) kd_31 cl_M iw_M 16 (by decide) k_fl_M_45 rfl d_M_lines_15 ?_
    refine lv_iload_n hx hb d_M_lines_18 rfl (lv_at hl 1 rfl) ?_
    obtain ⟨h1, h⟩ := h
    refine z_ild C hI 42 (by decide) kd_42 h1 d_M_lines_19 ?_
    refine lv_icmp_gt (tgt := 80) hx hb d_M_lines_20 (by decide) (fun q => ?_) (fun q => ?_)
    · replace h := h.1 q
      refine lv_iload_n hx hb d_M_lines_80 rfl (lv_at hl 2 rfl) ?_
      exact hR _ _ hcs v2 S _ _ 81 ls h hI d_M_lines_81
    · replace h := h.2 q
      refine lv_aload_n hx hb d_M_lines_23 rfl (lv_at hl 0 rfl) ?_
      refine lv_aload_n hx hb d_M_lines_24 rfl (lv_at hl 0 rfl) ?_
      refine z_getR C hI 31 (by decide) kd_31 cl_M iw_M 13 (by decide) k_fl_M_36 rfl d_M_lines_25 ?_
      refine lv_iload_n hx hb d_M_lines_28 rfl (lv_at hl 1 rfl) ?_
      obtain ⟨h1, h⟩ := h
      refine z_ild C hI 39 (by decide) kd_39 h1 d_M_lines_29 ?_
      refine lv_iload hx hb d_M_lines_30 (lv_at hl 4 rfl) ?_
      refine lv_aload_n hx hb d_M_lines_32 rfl (lv_at hl 0 rfl) ?_
      refine z_getR C hI 31 (by decide) kd_31 cl_M iw_M 15 (by decide) k_fl_M_42 rfl d_M_lines_33 ?_
      refine lv_iload_n hx hb d_M_lines_36 rfl (lv_at hl 1 rfl) ?_
      obtain ⟨h1, h⟩ := h
      refine z_ild C hI 41 (by decide) kd_41 h1 d_M_lines_37 ?_
      refine lv_iload hx hb d_M_lines_38 (lv_at hl 4 rfl) ?_
      refine lv_iload_n hx hb d_M_lines_40 rfl (lv_at hl 1 rfl) ?_
      refine z_callVi C hI 31 (by decide) kd_31 cl_M (As := [.int (S 39 (z_ix v1)), .int v4, .int (S 41 (z_ix v1)), .int v4, .int v1]) (rest := []) (c_M_cleanIn (S 39 (z_ix v1)) v4 (S 41 (z_ix v1)) v4 v1 _ _ h) wc_M_cleanIn k_ml_M_123 rfl rfl (Nat.le_of_ble_eq_true rfl) (Nat.le_of_ble_eq_true rfl) hcs hl.1 (Nat.le_of_ble_eq_true rfl) rfl d_M_lines_41 (fun r41 S41 H locs h hI => ?_)
      refine lv_if_le (tgt := 51) hx hb d_M_lines_44 (by decide) (fun q => ?_) (fun q => ?_)
      · replace h := h.1 q
        refine lv_iconst (v := 0) hx hb d_M_lines_51 (by decide) ?_
        exact w_M_lines_52 C hcs _ _ v1 v2 v3 v4 0 hR (fun v2 v3 v4 S H locs ls h hI hl => ih v2 v3 v4 S H locs ls hI hl h) S41 _ _ ls hI (lv_sub hl [0, 1, 2, 3, 4] rfl) h
      · replace h := h.2 q
        refine lv_iconst (v := 1) hx hb d_M_lines_47 (by decide) ?_
        refine lv_goto (tgt := 52) hx hb d_M_lines_48 (by decide) ?_
        exact w_M_lines_52 C hcs _ _ v1 v2 v3 v4 1 hR (fun v2 v3 v4 S H locs ls h hI hl => ih v2 v3 v4 S H locs ls hI hl h) S41 _ _ ls hI (lv_sub hl [0, 1, 2, 3, 4] rfl) h
set_option maxHeartbeats 4000000 in
set_option maxRecDepth 100000 in
theorem c_M_lines (v1 : Int32) (S : zS) (post : Int32 → zS → Prop) (h : P_M_lines v1 S post) : z_cti l D cA 51 ad y_M_lines b_M_lines 6 (some .int) rm_M_lines [.ref (ad 31), .int v1] S post := by
  refine z_meti (av := [.ref (ad 31), .int v1]) (by decide) (Nat.le_of_ble_eq_true rfl) ⟨rfl, rfl⟩ (fun p e s m args below meth c Q ls C hcs hl hI hR => ?_)
  obtain ⟨hx, hb, hml, hown, hts, hK, hJ⟩ := id C
  unfold P_M_lines at h
  have hl : lv_has ls 6 [(0, .ref (ad 31)), (1, .int v1)] := hl
  refine lv_iconst (v := 0) hx hb d_M_lines_0 (by decide) ?_
  refine lv_istore_n (lv' := [(2, .int 0), (0, .ref (ad 31)), (1, .int v1)]) hx hb d_M_lines_1 rfl hl (by decide) rfl (fun ls hl => ?_)
  refine lv_iconst (v := 0) hx hb d_M_lines_2 (by decide) ?_
  refine lv_istore_n (lv' := [(3, .int 0), (2, .int 0), (0, .ref (ad 31)), (1, .int v1)]) hx hb d_M_lines_3 rfl hl (by decide) rfl (fun ls hl => ?_)
  refine lv_aload_n hx hb d_M_lines_4 rfl (lv_at hl 2 rfl) ?_
  refine z_getR C hI 31 (by decide) kd_31 cl_M iw_M 14 (by decide) k_fl_M_39 rfl d_M_lines_5 ?_
  refine lv_iload_n hx hb d_M_lines_8 rfl (lv_at hl 3 rfl) ?_
  obtain ⟨h1, h⟩ := h
  refine z_ild C hI 40 (by decide) kd_40 h1 d_M_lines_9 ?_
  refine lv_topi (fun x10 e10 => ?_)
  replace h := h x10 e10
  refine lv_istore (lv' := [(4, .int x10), (3, .int 0), (2, .int 0), (0, .ref (ad 31)), (1, .int v1)]) hx hb d_M_lines_10 hl (by decide) rfl (fun ls hl => ?_)
  obtain ⟨k12, h⟩ := h
  refine w_M_lines_12 C hcs _ v1 hR k12 0 0 x10 S _ _ ls hI (lv_sub hl [3, 4, 2, 1, 0] rfl) h
set_option maxHeartbeats 4000000 in
set_option maxRecDepth 100000 in
theorem w_M_inkOf_15 (C : z_CT p s m args c R_M b_M_inkOf 5 D cA 51 ad) (hcs : cells ≤ rm_M_inkOf.cells ∧ slots ≤ rm_M_inkOf.slots) (post : Int32 → zS → Prop) (K54 : Int32 → zS → Prop) (v1 : Int32) (v3 : Int32) (hR : z_Ri p l e rm_M_inkOf s m args below meth c Q b_M_inkOf D cA 51 ad post) (kK54 : ∀ (v2 : Int32) (S : zS) (H : Heap) (locs : List Loc) (ls : Array Slot), K54 v2 S → z_I D cA 51 ad s.heap S H locs → lv_has ls 5 [(0, .ref (ad 31)), (1, .int v1), (2, .int v2), (3, .int v3)] → W p l e rm_M_inkOf s m args below meth c H locs cells slots Q (F0 m 54 ls [])) : ∀ (n : Nat) (v2 : Int32) (v4 : Int32) (S : zS) (H : Heap) (locs : List Loc) (ls : Array Slot), z_I D cA 51 ad s.heap S H locs → lv_has ls 5 [(0, .ref (ad 31)), (1, .int v1), (2, .int v2), (3, .int v3), (4, .int v4)] → L_M_inkOf_15 post K54 v1 v3 n v2 v4 S → W p l e rm_M_inkOf s m args below meth c H locs cells slots Q (F0 m 15 ls []) := by
  obtain ⟨hx, hb, hml, hown, hts, hK, hJ⟩ := id C
  intro n
  induction n with
  | zero => intro v2 v4 S H locs ls hI hl h; exact h.elim
  | succ n ih =>
    intro v2 v4 S H locs ls hI hl h
    rw [L_M_inkOf_15] at h
    refine lv_iload hx hb d_M_inkOf_15 (lv_at hl 4 rfl) ?_
    refine lv_aload_n hx hb d_M_inkOf_17 rfl (lv_at hl 0 rfl) ?_
    refine z_getI C hI 31 (by decide) kd_31 cl_M iw_M 1 (by decide) k_fl_M_73 rfl d_M_inkOf_18 ?_
    refine lv_icmp_ge (tgt := 54) hx hb d_M_inkOf_21 (by decide) (fun q => ?_) (fun q => ?_)
    · replace h := h.1 q
      exact kK54 v2 S _ _ ls h hI (lv_sub hl [0, 1, 2, 3] rfl)
    · replace h := h.2 q
      refine lv_aload_n hx hb d_M_inkOf_24 rfl (lv_at hl 0 rfl) ?_
      refine z_getR C hI 31 (by decide) kd_31 cl_M iw_M 11 (by decide) k_fl_M_33 rfl d_M_inkOf_25 ?_
      refine lv_bipush (v := 24) hx hb d_M_inkOf_28 (by decide) ?_
      refine lv_iload_n hx hb d_M_inkOf_30 rfl (lv_at hl 3 rfl) ?_
      refine lv_imul hx hb d_M_inkOf_31 ?_
      refine lv_iload hx hb d_M_inkOf_32 (lv_at hl 4 rfl) ?_
      refine lv_iadd hx hb d_M_inkOf_34 ?_
      obtain ⟨h1, h⟩ := h
      refine z_ild C hI 38 (by decide) kd_38 h1 d_M_inkOf_35 ?_
      refine lv_iload_n hx hb d_M_inkOf_36 rfl (lv_at hl 1 rfl) ?_
      refine lv_icmp_ne (tgt := 46) hx hb d_M_inkOf_37 (by decide) (fun q => ?_) (fun q => ?_)
      · replace h := h.1 q
        refine lv_iload_n hx hb d_M_inkOf_46 rfl (lv_at hl 2 rfl) ?_
        refine lv_istore_n (lv' := [(2, .int v2), (0, .ref (ad 31)), (1, .int v1), (3, .int v3), (4, .int v4)]) hx hb d_M_inkOf_47 rfl hl (by decide) rfl (fun ls hl => ?_)
        obtain ⟨x48, e48⟩ : ∃ y : Int32, y = v4 + 1 := ⟨_, rfl⟩
        replace h := h x48 e48
        refine lv_iinc (v := x48) (lv' := [(4, .int x48), (2, .int v2), (0, .ref (ad 31)), (1, .int v1), (3, .int v3)]) hx hb d_M_inkOf_48 hl (k := 4) rfl (by rw [e48]; rfl) (by decide) rfl (fun ls hl => ?_)
        refine lv_goto (tgt := 15) hx hb d_M_inkOf_51 (by decide) ?_
        exact ih v2 x48 S _ _ ls hI (lv_sub hl [2, 3, 1, 4, 0] rfl) h
      · replace h := h.2 q
        refine lv_iload_n hx hb d_M_inkOf_40 rfl (lv_at hl 2 rfl) ?_
        refine lv_iconst (v := 1) hx hb d_M_inkOf_41 (by decide) ?_
        refine lv_iadd hx hb d_M_inkOf_42 ?_
        refine lv_goto (tgt := 47) hx hb d_M_inkOf_43 (by decide) ?_
        refine lv_topi (fun x47 e47 => ?_)
        replace h := h x47 e47
        refine lv_istore_n (lv' := [(2, .int x47), (0, .ref (ad 31)), (1, .int v1), (3, .int v3), (4, .int v4)]) hx hb d_M_inkOf_47 rfl hl (by decide) rfl (fun ls hl => ?_)
        obtain ⟨x48, e48⟩ : ∃ y : Int32, y = v4 + 1 := ⟨_, rfl⟩
        replace h := h x48 e48
        refine lv_iinc (v := x48) (lv' := [(4, .int x48), (2, .int x47), (0, .ref (ad 31)), (1, .int v1), (3, .int v3)]) hx hb d_M_inkOf_48 hl (k := 4) rfl (by rw [e48]; rfl) (by decide) rfl (fun ls hl => ?_)
        refine lv_goto (tgt := 15) hx hb d_M_inkOf_51 (by decide) ?_
        exact ih x47 x48 S _ _ ls hI (lv_sub hl [2, 3, 1, 4, 0] rfl) h
set_option maxHeartbeats 4000000 in
set_option maxRecDepth 100000 in
theorem w_M_inkOf_4 (C : z_CT p s m args c R_M b_M_inkOf 5 D cA 51 ad) (hcs : cells ≤ rm_M_inkOf.cells ∧ slots ≤ rm_M_inkOf.slots) (post : Int32 → zS → Prop) (v1 : Int32) (hR : z_Ri p l e rm_M_inkOf s m args below meth c Q b_M_inkOf D cA 51 ad post) : ∀ (n : Nat) (v2 : Int32) (v3 : Int32) (S : zS) (H : Heap) (locs : List Loc) (ls : Array Slot), z_I D cA 51 ad s.heap S H locs → lv_has ls 5 [(0, .ref (ad 31)), (1, .int v1), (2, .int v2), (3, .int v3)] → L_M_inkOf_4 post v1 n v2 v3 S → W p l e rm_M_inkOf s m args below meth c H locs cells slots Q (F0 m 4 ls []) := by
  obtain ⟨hx, hb, hml, hown, hts, hK, hJ⟩ := id C
  intro n
  induction n with
  | zero => intro v2 v3 S H locs ls hI hl h; exact h.elim
  | succ n ih =>
    intro v2 v3 S H locs ls hI hl h
    rw [L_M_inkOf_4] at h
    refine lv_iload_n hx hb d_M_inkOf_4 rfl (lv_at hl 3 rfl) ?_
    refine lv_aload_n hx hb d_M_inkOf_5 rfl (lv_at hl 0 rfl) ?_
    refine z_getI C hI 31 (by decide) kd_31 cl_M iw_M 2 (by decide) k_fl_M_76 rfl d_M_inkOf_6 ?_
    refine lv_icmp_ge (tgt := 60) hx hb d_M_inkOf_9 (by decide) (fun q => ?_) (fun q => ?_)
    · replace h := h.1 q
      refine lv_iload_n hx hb d_M_inkOf_60 rfl (lv_at hl 2 rfl) ?_
      exact hR _ _ hcs v2 S _ _ 61 ls h hI d_M_inkOf_61
    · replace h := h.2 q
      refine lv_iconst (v := 0) hx hb d_M_inkOf_12 (by decide) ?_
      refine lv_istore (lv' := [(4, .int 0), (0, .ref (ad 31)), (1, .int v1), (2, .int v2), (3, .int v3)]) hx hb d_M_inkOf_13 hl (by decide) rfl (fun ls hl => ?_)
      obtain ⟨k15, h⟩ := h
      refine w_M_inkOf_15 C hcs _ _ v1 v3 hR (fun v2_15e S15e H locs ls h hI hl => ?_) k15 v2 0 S _ _ ls hI (lv_sub hl [1, 2, 3, 4, 0] rfl) h
      obtain ⟨x54, e54⟩ : ∃ y : Int32, y = v3 + 1 := ⟨_, rfl⟩
      replace h := h x54 e54
      refine lv_iinc (v := x54) (lv' := [(3, .int x54), (0, .ref (ad 31)), (1, .int v1), (2, .int v2_15e)]) hx hb d_M_inkOf_54 hl (k := 3) rfl (by rw [e54]; rfl) (by decide) rfl (fun ls hl => ?_)
      refine lv_goto (tgt := 4) hx hb d_M_inkOf_57 (by decide) ?_
      exact ih v2_15e x54 S15e _ _ ls hI (lv_sub hl [1, 2, 3, 0] rfl) h
set_option maxHeartbeats 4000000 in
set_option maxRecDepth 100000 in
theorem c_M_inkOf (v1 : Int32) (S : zS) (post : Int32 → zS → Prop) (h : P_M_inkOf v1 S post) : z_cti l D cA 51 ad y_M_inkOf b_M_inkOf 5 (some .int) rm_M_inkOf [.ref (ad 31), .int v1] S post := by
  refine z_meti (av := [.ref (ad 31), .int v1]) (by decide) (Nat.le_of_ble_eq_true rfl) ⟨rfl, rfl⟩ (fun p e s m args below meth c Q ls C hcs hl hI hR => ?_)
  obtain ⟨hx, hb, hml, hown, hts, hK, hJ⟩ := id C
  unfold P_M_inkOf at h
  have hl : lv_has ls 5 [(0, .ref (ad 31)), (1, .int v1)] := hl
  refine lv_iconst (v := 0) hx hb d_M_inkOf_0 (by decide) ?_
  refine lv_istore_n (lv' := [(2, .int 0), (0, .ref (ad 31)), (1, .int v1)]) hx hb d_M_inkOf_1 rfl hl (by decide) rfl (fun ls hl => ?_)
  refine lv_iconst (v := 0) hx hb d_M_inkOf_2 (by decide) ?_
  refine lv_istore_n (lv' := [(3, .int 0), (2, .int 0), (0, .ref (ad 31)), (1, .int v1)]) hx hb d_M_inkOf_3 rfl hl (by decide) rfl (fun ls hl => ?_)
  obtain ⟨k4, h⟩ := h
  refine w_M_inkOf_4 C hcs _ v1 hR k4 0 0 S _ _ ls hI (lv_sub hl [2, 3, 1, 0] rfl) h
end ZW
