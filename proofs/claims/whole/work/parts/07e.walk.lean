section ZW
variable {p : Program} {l : Launch} {e : Env} {s : State} {m : MethodId} {args : Array Value} {below : List Frame} {meth : Method} {c : Code} {cells slots : Nat} {Q : State → Prop} {D : va_G} {cA : Nat → ClassId} {n : Nat} {ad : Nat → Nat}
set_option maxHeartbeats 4000000 in
set_option maxRecDepth 100000 in
theorem w_M_group_13 (C : z_CT p s m args c R_M b_M_group 7 D cA 51 ad) (hcs : cells ≤ rm_M_group.cells ∧ slots ≤ rm_M_group.slots) (post : zS → Prop) (K66 : zS → Prop) (v1 : Int32) (v2 : Int32) (v3 : Int32) (hR : z_Rv p l e rm_M_group s m args below meth c Q b_M_group D cA 51 ad post) (kK66 : ∀ (S : zS) (H : Heap) (locs : List Loc) (ls : Array Slot), K66 S → z_I D cA 51 ad s.heap S H locs → lv_has ls 7 [(0, .ref (ad 31)), (1, .int v1), (2, .int v2), (3, .int v3)] → W p l e rm_M_group s m args below meth c H locs cells slots Q (F0 m 66 ls [])) : ∀ (n : Nat) (v4 : Int32) (S : zS) (H : Heap) (locs : List Loc) (ls : Array Slot), z_I D cA 51 ad s.heap S H locs → lv_has ls 7 [(0, .ref (ad 31)), (1, .int v1), (2, .int v2), (3, .int v3), (4, .int v4)] → L_M_group_13 post K66 v1 v2 v3 n v4 S → W p l e rm_M_group s m args below meth c H locs cells slots Q (F0 m 13 ls []) := by
  obtain ⟨hx, hb, hml, hown, hts, hK, hJ⟩ := id C
  intro n
  induction n with
  | zero => intro v4 S H locs ls hI hl h; exact h.elim
  | succ n ih =>
    intro v4 S H locs ls hI hl h
    rw [L_M_group_13] at h
    refine lv_iload hx hb d_M_group_13 (lv_at hl 4 rfl) ?_
    refine lv_aload_n hx hb d_M_group_15 rfl (lv_at hl 0 rfl) ?_
    refine z_getI C hI 31 (by decide) kd_31 cl_M iw_M 1 (by decide) k_fl_M_73 rfl d_M_group_16 ?_
    refine lv_icmp_ge (tgt := 66) hx hb d_M_group_19 (by decide) (fun q => ?_) (fun q => ?_)
    · replace h := h.1 q
      exact kK66 S _ _ ls h hI (lv_sub hl [0, 1, 2, 3] rfl)
    · replace h := h.2 q
      refine lv_aload_n hx hb d_M_group_22 rfl (lv_at hl 0 rfl) ?_
      refine z_getR C hI 31 (by decide) kd_31 cl_M iw_M 10 (by decide) k_fl_M_29 rfl d_M_group_23 ?_
      refine lv_bipush (v := 24) hx hb d_M_group_26 (by decide) ?_
      refine lv_iload_n hx hb d_M_group_28 rfl (lv_at hl 3 rfl) ?_
      refine lv_imul hx hb d_M_group_29 ?_
      refine lv_iload hx hb d_M_group_30 (lv_at hl 4 rfl) ?_
      refine lv_iadd hx hb d_M_group_32 ?_
      refine lv_aload_n hx hb d_M_group_33 rfl (lv_at hl 0 rfl) ?_
      refine lv_iload_n hx hb d_M_group_34 rfl (lv_at hl 1 rfl) ?_
      refine lv_bipush (v := 24) hx hb d_M_group_35 (by decide) ?_
      refine lv_iload_n hx hb d_M_group_37 rfl (lv_at hl 3 rfl) ?_
      refine lv_imul hx hb d_M_group_38 ?_
      refine lv_iload hx hb d_M_group_39 (lv_at hl 4 rfl) ?_
      refine lv_iadd hx hb d_M_group_41 ?_
      refine z_callVi C hI 31 (by decide) kd_31 cl_M (As := [.int v1, .int ((24 * v3) + v4)]) (rest := [.int ((24 * v3) + v4), .ref (ad 37)]) (c_M_is v1 ((24 * v3) + v4) _ _ h) wc_M_is k_ml_M_98 rfl rfl (Nat.le_of_ble_eq_true rfl) (Nat.le_of_ble_eq_true rfl) hcs hl.1 (Nat.le_of_ble_eq_true rfl) rfl d_M_group_42 (fun r42 S42 H locs h hI => ?_)
      refine lv_if_eq (tgt := 58) hx hb d_M_group_45 (by decide) (fun q => ?_) (fun q => ?_)
      · replace h := h.1 q
        refine lv_iconst (v := (-1)) hx hb d_M_group_58 (by decide) ?_
        obtain ⟨h1, h⟩ := h
        refine z_ist C hI 37 (by decide) kd_37 h1 d_M_group_59 (fun S59 eS H locs hI => ?_)
        replace h := h S59 eS
        obtain ⟨x60, e60⟩ : ∃ y : Int32, y = v4 + 1 := ⟨_, rfl⟩
        replace h := h x60 e60
        refine lv_iinc (v := x60) (lv' := [(4, .int x60), (0, .ref (ad 31)), (1, .int v1), (2, .int v2), (3, .int v3)]) hx hb d_M_group_60 hl (k := 4) rfl (by rw [e60]; rfl) (by decide) rfl (fun ls hl => ?_)
        refine lv_goto (tgt := 13) hx hb d_M_group_63 (by decide) ?_
        exact ih x60 S59 _ _ ls hI (lv_sub hl [1, 2, 3, 4, 0] rfl) h
      · replace h := h.2 q
        refine lv_bipush (v := 24) hx hb d_M_group_48 (by decide) ?_
        refine lv_iload_n hx hb d_M_group_50 rfl (lv_at hl 3 rfl) ?_
        refine lv_imul hx hb d_M_group_51 ?_
        refine lv_iload hx hb d_M_group_52 (lv_at hl 4 rfl) ?_
        refine lv_iadd hx hb d_M_group_54 ?_
        refine lv_goto (tgt := 59) hx hb d_M_group_55 (by decide) ?_
        obtain ⟨h1, h⟩ := h
        refine z_ist C hI 37 (by decide) kd_37 h1 d_M_group_59 (fun S59 eS H locs hI => ?_)
        replace h := h S59 eS
        obtain ⟨x60, e60⟩ : ∃ y : Int32, y = v4 + 1 := ⟨_, rfl⟩
        replace h := h x60 e60
        refine lv_iinc (v := x60) (lv' := [(4, .int x60), (0, .ref (ad 31)), (1, .int v1), (2, .int v2), (3, .int v3)]) hx hb d_M_group_60 hl (k := 4) rfl (by rw [e60]; rfl) (by decide) rfl (fun ls hl => ?_)
        refine lv_goto (tgt := 13) hx hb d_M_group_63 (by decide) ?_
        exact ih x60 S59 _ _ ls hI (lv_sub hl [1, 2, 3, 4, 0] rfl) h
set_option maxHeartbeats 4000000 in
set_option maxRecDepth 100000 in
theorem w_M_group_2 (C : z_CT p s m args c R_M b_M_group 7 D cA 51 ad) (hcs : cells ≤ rm_M_group.cells ∧ slots ≤ rm_M_group.slots) (post : zS → Prop) (K72 : zS → Prop) (v1 : Int32) (v2 : Int32) (hR : z_Rv p l e rm_M_group s m args below meth c Q b_M_group D cA 51 ad post) (kK72 : ∀ (S : zS) (H : Heap) (locs : List Loc) (ls : Array Slot), K72 S → z_I D cA 51 ad s.heap S H locs → lv_has ls 7 [(0, .ref (ad 31)), (2, .int v2)] → W p l e rm_M_group s m args below meth c H locs cells slots Q (F0 m 72 ls [])) : ∀ (n : Nat) (v3 : Int32) (S : zS) (H : Heap) (locs : List Loc) (ls : Array Slot), z_I D cA 51 ad s.heap S H locs → lv_has ls 7 [(0, .ref (ad 31)), (1, .int v1), (2, .int v2), (3, .int v3)] → L_M_group_2 post K72 v1 v2 n v3 S → W p l e rm_M_group s m args below meth c H locs cells slots Q (F0 m 2 ls []) := by
  obtain ⟨hx, hb, hml, hown, hts, hK, hJ⟩ := id C
  intro n
  induction n with
  | zero => intro v3 S H locs ls hI hl h; exact h.elim
  | succ n ih =>
    intro v3 S H locs ls hI hl h
    rw [L_M_group_2] at h
    refine lv_iload_n hx hb d_M_group_2 rfl (lv_at hl 3 rfl) ?_
    refine lv_aload_n hx hb d_M_group_3 rfl (lv_at hl 0 rfl) ?_
    refine z_getI C hI 31 (by decide) kd_31 cl_M iw_M 2 (by decide) k_fl_M_76 rfl d_M_group_4 ?_
    refine lv_icmp_ge (tgt := 72) hx hb d_M_group_7 (by decide) (fun q => ?_) (fun q => ?_)
    · replace h := h.1 q
      exact kK72 S _ _ ls h hI (lv_sub hl [0, 2] rfl)
    · replace h := h.2 q
      refine lv_iconst (v := 0) hx hb d_M_group_10 (by decide) ?_
      refine lv_istore (lv' := [(4, .int 0), (0, .ref (ad 31)), (1, .int v1), (2, .int v2), (3, .int v3)]) hx hb d_M_group_11 hl (by decide) rfl (fun ls hl => ?_)
      obtain ⟨k13, h⟩ := h
      refine w_M_group_13 C hcs _ _ v1 v2 v3 hR (fun S13e H locs ls h hI hl => ?_) k13 0 S _ _ ls hI (lv_sub hl [1, 2, 3, 4, 0] rfl) h
      obtain ⟨x66, e66⟩ : ∃ y : Int32, y = v3 + 1 := ⟨_, rfl⟩
      replace h := h x66 e66
      refine lv_iinc (v := x66) (lv' := [(3, .int x66), (0, .ref (ad 31)), (1, .int v1), (2, .int v2)]) hx hb d_M_group_66 hl (k := 3) rfl (by rw [e66]; rfl) (by decide) rfl (fun ls hl => ?_)
      refine lv_goto (tgt := 2) hx hb d_M_group_69 (by decide) ?_
      exact ih x66 S13e _ _ ls hI (lv_sub hl [1, 2, 3, 0] rfl) h
set_option maxHeartbeats 4000000 in
set_option maxRecDepth 100000 in
theorem w_M_group_152 (C : z_CT p s m args c R_M b_M_group 7 D cA 51 ad) (hcs : cells ≤ rm_M_group.cells ∧ slots ≤ rm_M_group.slots) (post : zS → Prop) (K86 : Int32 → Int32 → zS → Prop) (v2 : Int32) (v4 : Int32) (v5 : Int32) (hR : z_Rv p l e rm_M_group s m args below meth c Q b_M_group D cA 51 ad post) (kK86 : ∀ (v3 : Int32) (v5 : Int32) (S : zS) (H : Heap) (locs : List Loc) (ls : Array Slot), K86 v3 v5 S → z_I D cA 51 ad s.heap S H locs → lv_has ls 7 [(0, .ref (ad 31)), (2, .int v2), (3, .int v3), (4, .int v4), (5, .int v5)] → W p l e rm_M_group s m args below meth c H locs cells slots Q (F0 m 86 ls [])) (S : zS) (H : Heap) (locs : List Loc) (ls : Array Slot) (hI : z_I D cA 51 ad s.heap S H locs) (hl : lv_has ls 7 [(0, .ref (ad 31)), (2, .int v2), (4, .int v4), (5, .int v5)]) (h : J_M_group_152 post K86 v2 v4 v5 S) : W p l e rm_M_group s m args below meth c H locs cells slots Q (F0 m 152 ls []) := by
  obtain ⟨hx, hb, hml, hown, hts, hK, hJ⟩ := id C
  unfold J_M_group_152 at h
  refine lv_iconst (v := 1) hx hb d_M_group_152 (by decide) ?_
  refine lv_goto (tgt := 157) hx hb d_M_group_153 (by decide) ?_
  refine lv_istore_n (lv' := [(3, .int 1), (0, .ref (ad 31)), (2, .int v2), (4, .int v4), (5, .int v5)]) hx hb d_M_group_157 rfl hl (by decide) rfl (fun ls hl => ?_)
  obtain ⟨x158, e158⟩ : ∃ y : Int32, y = v5 + 1 := ⟨_, rfl⟩
  replace h := h x158 e158
  refine lv_iinc (v := x158) (lv' := [(5, .int x158), (3, .int 1), (0, .ref (ad 31)), (2, .int v2), (4, .int v4)]) hx hb d_M_group_158 hl (k := 4) rfl (by rw [e158]; rfl) (by decide) rfl (fun ls hl => ?_)
  refine lv_goto (tgt := 86) hx hb d_M_group_161 (by decide) ?_
  exact kK86 1 x158 S _ _ ls h hI (lv_sub hl [2, 3, 1, 4, 0] rfl)
set_option maxHeartbeats 4000000 in
set_option maxRecDepth 100000 in
theorem w_M_group_124 (C : z_CT p s m args c R_M b_M_group 7 D cA 51 ad) (hcs : cells ≤ rm_M_group.cells ∧ slots ≤ rm_M_group.slots) (post : zS → Prop) (K86 : Int32 → Int32 → zS → Prop) (v2 : Int32) (v3 : Int32) (v4 : Int32) (v5 : Int32) (t0 : Int32) (hR : z_Rv p l e rm_M_group s m args below meth c Q b_M_group D cA 51 ad post) (kK86 : ∀ (v3 : Int32) (v5 : Int32) (S : zS) (H : Heap) (locs : List Loc) (ls : Array Slot), K86 v3 v5 S → z_I D cA 51 ad s.heap S H locs → lv_has ls 7 [(0, .ref (ad 31)), (2, .int v2), (3, .int v3), (4, .int v4), (5, .int v5)] → W p l e rm_M_group s m args below meth c H locs cells slots Q (F0 m 86 ls [])) (S : zS) (H : Heap) (locs : List Loc) (ls : Array Slot) (hI : z_I D cA 51 ad s.heap S H locs) (hl : lv_has ls 7 [(0, .ref (ad 31)), (2, .int v2), (3, .int v3), (4, .int v4), (5, .int v5)]) (h : J_M_group_124 post K86 v2 v3 v4 v5 t0 S) : W p l e rm_M_group s m args below meth c H locs cells slots Q (F0 m 124 ls [.int t0]) := by
  obtain ⟨hx, hb, hml, hown, hts, hK, hJ⟩ := id C
  unfold J_M_group_124 at h
  refine lv_istore (lv' := [(6, .int t0), (0, .ref (ad 31)), (2, .int v2), (3, .int v3), (4, .int v4), (5, .int v5)]) hx hb d_M_group_124 hl (by decide) rfl (fun ls hl => ?_)
  refine lv_aload_n hx hb d_M_group_126 rfl (lv_at hl 1 rfl) ?_
  refine lv_iload hx hb d_M_group_127 (lv_at hl 0 rfl) ?_
  refine lv_aload_n hx hb d_M_group_129 rfl (lv_at hl 1 rfl) ?_
  refine z_getI C hI 31 (by decide) kd_31 cl_M iw_M 1 (by decide) k_fl_M_73 rfl d_M_group_130 ?_
  obtain ⟨h1, h⟩ := h
  refine lv_irem hx hb d_M_group_133 h1 ?_
  refine lv_iload hx hb d_M_group_134 (lv_at hl 0 rfl) ?_
  refine lv_aload_n hx hb d_M_group_136 rfl (lv_at hl 1 rfl) ?_
  refine z_getI C hI 31 (by decide) kd_31 cl_M iw_M 1 (by decide) k_fl_M_73 rfl d_M_group_137 ?_
  obtain ⟨h1, h⟩ := h
  refine lv_idiv hx hb d_M_group_140 h1 ?_
  refine lv_iload_n hx hb d_M_group_141 rfl (lv_at hl 2 rfl) ?_
  refine z_callVi C hI 31 (by decide) kd_31 cl_M (As := [.int (t0 - t0 / (S 31 1) * (S 31 1)), .int (t0 / (S 31 1)), .int v2]) (rest := []) (c_M_settles (t0 - t0 / (S 31 1) * (S 31 1)) (t0 / (S 31 1)) v2 _ _ h) wc_M_settles k_ml_M_101 rfl rfl (Nat.le_of_ble_eq_true rfl) (Nat.le_of_ble_eq_true rfl) hcs hl.1 (Nat.le_of_ble_eq_true rfl) rfl d_M_group_142 (fun r142 S142 H locs h hI => ?_)
  refine lv_if_ne (tgt := 152) hx hb d_M_group_145 (by decide) (fun q => ?_) (fun q => ?_)
  · replace h := h.1 q
    exact w_M_group_152 C hcs _ _ v2 v4 v5 hR kK86 S142 _ _ ls hI (lv_sub hl [1, 2, 4, 5] rfl) h
  · replace h := h.2 q
    refine lv_iload_n hx hb d_M_group_148 rfl (lv_at hl 3 rfl) ?_
    refine lv_if_eq (tgt := 156) hx hb d_M_group_149 (by decide) (fun q => ?_) (fun q => ?_)
    · replace h := h.1 q
      refine lv_iconst (v := 0) hx hb d_M_group_156 (by decide) ?_
      refine lv_istore_n (lv' := [(3, .int 0), (6, .int t0), (0, .ref (ad 31)), (2, .int v2), (4, .int v4), (5, .int v5)]) hx hb d_M_group_157 rfl hl (by decide) rfl (fun ls hl => ?_)
      obtain ⟨x158, e158⟩ : ∃ y : Int32, y = v5 + 1 := ⟨_, rfl⟩
      replace h := h x158 e158
      refine lv_iinc (v := x158) (lv' := [(5, .int x158), (3, .int 0), (6, .int t0), (0, .ref (ad 31)), (2, .int v2), (4, .int v4)]) hx hb d_M_group_158 hl (k := 5) rfl (by rw [e158]; rfl) (by decide) rfl (fun ls hl => ?_)
      refine lv_goto (tgt := 86) hx hb d_M_group_161 (by decide) ?_
      exact kK86 0 x158 S142 _ _ ls h hI (lv_sub hl [3, 4, 1, 5, 0] rfl)
    · replace h := h.2 q
      exact w_M_group_152 C hcs _ _ v2 v4 v5 hR kK86 S142 _ _ ls hI (lv_sub hl [1, 2, 4, 5] rfl) h
set_option maxHeartbeats 4000000 in
set_option maxRecDepth 100000 in
theorem w_M_group_86 (C : z_CT p s m args c R_M b_M_group 7 D cA 51 ad) (hcs : cells ≤ rm_M_group.cells ∧ slots ≤ rm_M_group.slots) (post : zS → Prop) (K164 : Int32 → zS → Prop) (v2 : Int32) (v4 : Int32) (hR : z_Rv p l e rm_M_group s m args below meth c Q b_M_group D cA 51 ad post) (kK164 : ∀ (v3 : Int32) (S : zS) (H : Heap) (locs : List Loc) (ls : Array Slot), K164 v3 S → z_I D cA 51 ad s.heap S H locs → lv_has ls 7 [(0, .ref (ad 31)), (2, .int v2), (3, .int v3), (4, .int v4)] → W p l e rm_M_group s m args below meth c H locs cells slots Q (F0 m 164 ls [])) : ∀ (n : Nat) (v3 : Int32) (v5 : Int32) (S : zS) (H : Heap) (locs : List Loc) (ls : Array Slot), z_I D cA 51 ad s.heap S H locs → lv_has ls 7 [(0, .ref (ad 31)), (2, .int v2), (3, .int v3), (4, .int v4), (5, .int v5)] → L_M_group_86 post K164 v2 v4 n v3 v5 S → W p l e rm_M_group s m args below meth c H locs cells slots Q (F0 m 86 ls []) := by
  obtain ⟨hx, hb, hml, hown, hts, hK, hJ⟩ := id C
  intro n
  induction n with
  | zero => intro v3 v5 S H locs ls hI hl h; exact h.elim
  | succ n ih =>
    intro v3 v5 S H locs ls hI hl h
    rw [L_M_group_86] at h
    refine lv_iload hx hb d_M_group_86 (lv_at hl 4 rfl) ?_
    refine lv_aload_n hx hb d_M_group_88 rfl (lv_at hl 0 rfl) ?_
    refine z_getI C hI 31 (by decide) kd_31 cl_M iw_M 1 (by decide) k_fl_M_73 rfl d_M_group_89 ?_
    refine lv_aload_n hx hb d_M_group_92 rfl (lv_at hl 0 rfl) ?_
    refine z_getI C hI 31 (by decide) kd_31 cl_M iw_M 2 (by decide) k_fl_M_76 rfl d_M_group_93 ?_
    refine lv_imul hx hb d_M_group_96 ?_
    refine lv_icmp_ge (tgt := 164) hx hb d_M_group_97 (by decide) (fun q => ?_) (fun q => ?_)
    · replace h := h.1 q
      exact kK164 v3 S _ _ ls h hI (lv_sub hl [0, 1, 2, 3] rfl)
    · replace h := h.2 q
      refine lv_iload hx hb d_M_group_100 (lv_at hl 3 rfl) ?_
      refine lv_if_eq (tgt := 110) hx hb d_M_group_102 (by decide) (fun q => ?_) (fun q => ?_)
      · replace h := h.1 q
        refine lv_aload_n hx hb d_M_group_110 rfl (lv_at hl 0 rfl) ?_
        refine z_getI C hI 31 (by decide) kd_31 cl_M iw_M 1 (by decide) k_fl_M_73 rfl d_M_group_111 ?_
        refine lv_aload_n hx hb d_M_group_114 rfl (lv_at hl 0 rfl) ?_
        refine z_getI C hI 31 (by decide) kd_31 cl_M iw_M 2 (by decide) k_fl_M_76 rfl d_M_group_115 ?_
        refine lv_imul hx hb d_M_group_118 ?_
        refine lv_iconst (v := 1) hx hb d_M_group_119 (by decide) ?_
        refine lv_isub hx hb d_M_group_120 ?_
        refine lv_iload hx hb d_M_group_121 (lv_at hl 4 rfl) ?_
        refine lv_isub hx hb d_M_group_123 ?_
        exact w_M_group_124 C hcs _ _ v2 v3 v4 v5 ((((S 31 1) * (S 31 2)) - 1) - v5) hR (fun v3 v5 S H locs ls h hI hl => ih v3 v5 S H locs ls hI hl h) S _ _ ls hI (lv_sub hl [0, 1, 2, 3, 4] rfl) h
      · replace h := h.2 q
        refine lv_iload hx hb d_M_group_105 (lv_at hl 4 rfl) ?_
        refine lv_goto (tgt := 124) hx hb d_M_group_107 (by decide) ?_
        exact w_M_group_124 C hcs _ _ v2 v3 v4 v5 v5 hR (fun v3 v5 S H locs ls h hI hl => ih v3 v5 S H locs ls hI hl h) S _ _ ls hI (lv_sub hl [0, 1, 2, 3, 4] rfl) h
set_option maxHeartbeats 4000000 in
set_option maxRecDepth 100000 in
theorem w_M_group_77 (C : z_CT p s m args c R_M b_M_group 7 D cA 51 ad) (hcs : cells ≤ rm_M_group.cells ∧ slots ≤ rm_M_group.slots) (post : zS → Prop) (v2 : Int32) (hR : z_Rv p l e rm_M_group s m args below meth c Q b_M_group D cA 51 ad post) : ∀ (n : Nat) (v3 : Int32) (v4 : Int32) (S : zS) (H : Heap) (locs : List Loc) (ls : Array Slot), z_I D cA 51 ad s.heap S H locs → lv_has ls 7 [(0, .ref (ad 31)), (2, .int v2), (3, .int v3), (4, .int v4)] → L_M_group_77 post v2 n v3 v4 S → W p l e rm_M_group s m args below meth c H locs cells slots Q (F0 m 77 ls []) := by
  obtain ⟨hx, hb, hml, hown, hts, hK, hJ⟩ := id C
  intro n
  induction n with
  | zero => intro v3 v4 S H locs ls hI hl h; exact h.elim
  | succ n ih =>
    intro v3 v4 S H locs ls hI hl h
    rw [L_M_group_77] at h
    refine lv_iload_n hx hb d_M_group_77 rfl (lv_at hl 2 rfl) ?_
    refine lv_if_eq (tgt := 179) hx hb d_M_group_78 (by decide) (fun q => ?_) (fun q => ?_)
    · replace h := h.1 q
      exact hR _ _ hcs S _ _ 179 ls h hI d_M_group_179
    · replace h := h.2 q
      refine lv_iconst (v := 0) hx hb d_M_group_81 (by decide) ?_
      refine lv_istore_n (lv' := [(3, .int 0), (0, .ref (ad 31)), (2, .int v2), (4, .int v4)]) hx hb d_M_group_82 rfl hl (by decide) rfl (fun ls hl => ?_)
      refine lv_iconst (v := 0) hx hb d_M_group_83 (by decide) ?_
      refine lv_istore (lv' := [(5, .int 0), (3, .int 0), (0, .ref (ad 31)), (2, .int v2), (4, .int v4)]) hx hb d_M_group_84 hl (by decide) rfl (fun ls hl => ?_)
      obtain ⟨k86, h⟩ := h
      refine w_M_group_86 C hcs _ _ v2 v4 hR (fun v3_86e S86e H locs ls h hI hl => ?_) k86 0 0 S _ _ ls hI (lv_sub hl [2, 3, 1, 4, 0] rfl) h
      refine lv_iload hx hb d_M_group_164 (lv_at hl 3 rfl) ?_
      refine lv_if_ne (tgt := 173) hx hb d_M_group_166 (by decide) (fun q => ?_) (fun q => ?_)
      · replace h := h.1 q
        refine lv_iconst (v := 0) hx hb d_M_group_173 (by decide) ?_
        refine lv_istore (lv' := [(4, .int 0), (0, .ref (ad 31)), (2, .int v2), (3, .int v3_86e)]) hx hb d_M_group_174 hl (by decide) rfl (fun ls hl => ?_)
        refine lv_goto (tgt := 77) hx hb d_M_group_176 (by decide) ?_
        exact ih v3_86e 0 S86e _ _ ls hI (lv_sub hl [1, 2, 3, 0] rfl) h
      · replace h := h.2 q
        refine lv_iconst (v := 1) hx hb d_M_group_169 (by decide) ?_
        refine lv_goto (tgt := 174) hx hb d_M_group_170 (by decide) ?_
        refine lv_istore (lv' := [(4, .int 1), (0, .ref (ad 31)), (2, .int v2), (3, .int v3_86e)]) hx hb d_M_group_174 hl (by decide) rfl (fun ls hl => ?_)
        refine lv_goto (tgt := 77) hx hb d_M_group_176 (by decide) ?_
        exact ih v3_86e 1 S86e _ _ ls hI (lv_sub hl [1, 2, 3, 0] rfl) h
set_option maxHeartbeats 4000000 in
set_option maxRecDepth 100000 in
theorem c_M_group (v1 : Int32) (v2 : Int32) (S : zS) (post : zS → Prop) (h : P_M_group v1 v2 S post) : z_ctv l D cA 51 ad y_M_group b_M_group 7 none rm_M_group [.ref (ad 31), .int v1, .int v2] S post := by
  refine z_metv (av := [.ref (ad 31), .int v1, .int v2]) (by decide) (Nat.le_of_ble_eq_true rfl) ⟨rfl, rfl⟩ (fun p e s m args below meth c Q ls C hcs hl hI hR => ?_)
  obtain ⟨hx, hb, hml, hown, hts, hK, hJ⟩ := id C
  unfold P_M_group at h
  have hl : lv_has ls 7 [(0, .ref (ad 31)), (1, .int v1), (2, .int v2)] := hl
  refine lv_iconst (v := 0) hx hb d_M_group_0 (by decide) ?_
  refine lv_istore_n (lv' := [(3, .int 0), (0, .ref (ad 31)), (1, .int v1), (2, .int v2)]) hx hb d_M_group_1 rfl hl (by decide) rfl (fun ls hl => ?_)
  obtain ⟨k2, h⟩ := h
  refine w_M_group_2 C hcs _ _ v1 v2 hR (fun S2e H locs ls h hI hl => ?_) k2 0 S _ _ ls hI (lv_sub hl [1, 2, 3, 0] rfl) h
  refine lv_iconst (v := 1) hx hb d_M_group_72 (by decide) ?_
  refine lv_istore_n (lv' := [(3, .int 1), (0, .ref (ad 31)), (2, .int v2)]) hx hb d_M_group_73 rfl hl (by decide) rfl (fun ls hl => ?_)
  refine lv_iconst (v := 1) hx hb d_M_group_74 (by decide) ?_
  refine lv_istore (lv' := [(4, .int 1), (3, .int 1), (0, .ref (ad 31)), (2, .int v2)]) hx hb d_M_group_75 hl (by decide) rfl (fun ls hl => ?_)
  obtain ⟨k77, h⟩ := h
  refine w_M_group_77 C hcs _ v2 hR k77 1 1 S2e _ _ ls hI (lv_sub hl [2, 3, 1, 0] rfl) h
set_option maxHeartbeats 4000000 in
set_option maxRecDepth 100000 in
theorem w_M_sizeOf_15 (C : z_CT p s m args c R_M b_M_sizeOf 5 D cA 51 ad) (hcs : cells ≤ rm_M_sizeOf.cells ∧ slots ≤ rm_M_sizeOf.slots) (post : Int32 → zS → Prop) (K54 : Int32 → zS → Prop) (v1 : Int32) (v3 : Int32) (hR : z_Ri p l e rm_M_sizeOf s m args below meth c Q b_M_sizeOf D cA 51 ad post) (kK54 : ∀ (v2 : Int32) (S : zS) (H : Heap) (locs : List Loc) (ls : Array Slot), K54 v2 S → z_I D cA 51 ad s.heap S H locs → lv_has ls 5 [(0, .ref (ad 31)), (1, .int v1), (2, .int v2), (3, .int v3)] → W p l e rm_M_sizeOf s m args below meth c H locs cells slots Q (F0 m 54 ls [])) : ∀ (n : Nat) (v2 : Int32) (v4 : Int32) (S : zS) (H : Heap) (locs : List Loc) (ls : Array Slot), z_I D cA 51 ad s.heap S H locs → lv_has ls 5 [(0, .ref (ad 31)), (1, .int v1), (2, .int v2), (3, .int v3), (4, .int v4)] → L_M_sizeOf_15 post K54 v1 v3 n v2 v4 S → W p l e rm_M_sizeOf s m args below meth c H locs cells slots Q (F0 m 15 ls []) := by
  obtain ⟨hx, hb, hml, hown, hts, hK, hJ⟩ := id C
  intro n
  induction n with
  | zero => intro v2 v4 S H locs ls hI hl h; exact h.elim
  | succ n ih =>
    intro v2 v4 S H locs ls hI hl h
    rw [L_M_sizeOf_15] at h
    refine lv_iload hx hb d_M_sizeOf_15 (lv_at hl 4 rfl) ?_
    refine lv_aload_n hx hb d_M_sizeOf_17 rfl (lv_at hl 0 rfl) ?_
    refine z_getI C hI 31 (by decide) kd_31 cl_M iw_M 1 (by decide) k_fl_M_73 rfl d_M_sizeOf_18 ?_
    refine lv_icmp_ge (tgt := 54) hx hb d_M_sizeOf_21 (by decide) (fun q => ?_) (fun q => ?_)
    · replace h := h.1 q
      exact kK54 v2 S _ _ ls h hI (lv_sub hl [0, 1, 2, 3] rfl)
    · replace h := h.2 q
      refine lv_aload_n hx hb d_M_sizeOf_24 rfl (lv_at hl 0 rfl) ?_
      refine z_getR C hI 31 (by decide) kd_31 cl_M iw_M 10 (by decide) k_fl_M_29 rfl d_M_sizeOf_25 ?_
      refine lv_bipush (v := 24) hx hb d_M_sizeOf_28 (by decide) ?_
      refine lv_iload_n hx hb d_M_sizeOf_30 rfl (lv_at hl 3 rfl) ?_
      refine lv_imul hx hb d_M_sizeOf_31 ?_
      refine lv_iload hx hb d_M_sizeOf_32 (lv_at hl 4 rfl) ?_
      refine lv_iadd hx hb d_M_sizeOf_34 ?_
      obtain ⟨h1, h⟩ := h
      refine z_ild C hI 37 (by decide) kd_37 h1 d_M_sizeOf_35 ?_
      refine lv_iload_n hx hb d_M_sizeOf_36 rfl (lv_at hl 1 rfl) ?_
      refine lv_icmp_ne (tgt := 46) hx hb d_M_sizeOf_37 (by decide) (fun q => ?_) (fun q => ?_)
      · replace h := h.1 q
        refine lv_iload_n hx hb d_M_sizeOf_46 rfl (lv_at hl 2 rfl) ?_
        refine lv_istore_n (lv' := [(2, .int v2), (0, .ref (ad 31)), (1, .int v1), (3, .int v3), (4, .int v4)]) hx hb d_M_sizeOf_47 rfl hl (by decide) rfl (fun ls hl => ?_)
        obtain ⟨x48, e48⟩ : ∃ y : Int32, y = v4 + 1 := ⟨_, rfl⟩
        replace h := h x48 e48
        refine lv_iinc (v := x48) (lv' := [(4, .int x48), (2, .int v2), (0, .ref (ad 31)), (1, .int v1), (3, .int v3)]) hx hb d_M_sizeOf_48 hl (k := 4) rfl (by rw [e48]; rfl) (by decide) rfl (fun ls hl => ?_)
        refine lv_goto (tgt := 15) hx hb d_M_sizeOf_51 (by decide) ?_
        exact ih v2 x48 S _ _ ls hI (lv_sub hl [2, 3, 1, 4, 0] rfl) h
      · replace h := h.2 q
        refine lv_iload_n hx hb d_M_sizeOf_40 rfl (lv_at hl 2 rfl) ?_
        refine lv_iconst (v := 1) hx hb d_M_sizeOf_41 (by decide) ?_
        refine lv_iadd hx hb d_M_sizeOf_42 ?_
        refine lv_goto (tgt := 47) hx hb d_M_sizeOf_43 (by decide) ?_
        refine lv_topi (fun x47 e47 => ?_)
        replace h := h x47 e47
        refine lv_istore_n (lv' := [(2, .int x47), (0, .ref (ad 31)), (1, .int v1), (3, .int v3), (4, .int v4)]) hx hb d_M_sizeOf_47 rfl hl (by decide) rfl (fun ls hl => ?_)
        obtain ⟨x48, e48⟩ : ∃ y : Int32, y = v4 + 1 := ⟨_, rfl⟩
        replace h := h x48 e48
        refine lv_iinc (v := x48) (lv' := [(4, .int x48), (2, .int x47), (0, .ref (ad 31)), (1, .int v1), (3, .int v3)]) hx hb d_M_sizeOf_48 hl (k := 4) rfl (by rw [e48]; rfl) (by decide) rfl (fun ls hl => ?_)
        refine lv_goto (tgt := 15) hx hb d_M_sizeOf_51 (by decide) ?_
        exact ih x47 x48 S _ _ ls hI (lv_sub hl [2, 3, 1, 4, 0] rfl) h
set_option maxHeartbeats 4000000 in
set_option maxRecDepth 100000 in
theorem w_M_sizeOf_4 (C : z_CT p s m args c R_M b_M_sizeOf 5 D cA 51 ad) (hcs : cells ≤ rm_M_sizeOf.cells ∧ slots ≤ rm_M_sizeOf.slots) (post : Int32 → zS → Prop) (v1 : Int32) (hR : z_Ri p l e rm_M_sizeOf s m args below meth c Q b_M_sizeOf D cA 51 ad post) : ∀ (n : Nat) (v2 : Int32) (v3 : Int32) (S : zS) (H : Heap) (locs : List Loc) (ls : Array Slot), z_I D cA 51 ad s.heap S H locs → lv_has ls 5 [(0, .ref (ad 31)), (1, .int v1), (2, .int v2), (3, .int v3)] → L_M_sizeOf_4 post v1 n v2 v3 S → W p l e rm_M_sizeOf s m args below meth c H locs cells slots Q (F0 m 4 ls []) := by
  obtain ⟨hx, hb, hml, hown, hts, hK, hJ⟩ := id C
  intro n
  induction n with
  | zero => intro v2 v3 S H locs ls hI hl h; exact h.elim
  | succ n ih =>
    intro v2 v3 S H locs ls hI hl h
    rw [L_M_sizeOf_4] at h
    refine lv_iload_n hx hb d_M_sizeOf_4 rfl (lv_at hl 3 rfl) ?_
    refine lv_aload_n hx hb d_M_sizeOf_5 rfl (lv_at hl 0 rfl) ?_
    refine z_getI C hI 31 (by decide) kd_31 cl_M iw_M 2 (by decide) k_fl_M_76 rfl d_M_sizeOf_6 ?_
    refine lv_icmp_ge (tgt := 60) hx hb d_M_sizeOf_9 (by decide) (fun q => ?_) (fun q => ?_)
    · replace h := h.1 q
      refine lv_iload_n hx hb d_M_sizeOf_60 rfl (lv_at hl 2 rfl) ?_
      exact hR _ _ hcs v2 S _ _ 61 ls h hI d_M_sizeOf_61
    · replace h := h.2 q
      refine lv_iconst (v := 0) hx hb d_M_sizeOf_12 (by decide) ?_
      refine lv_istore (lv' := [(4, .int 0), (0, .ref (ad 31)), (1, .int v1), (2, .int v2), (3, .int v3)]) hx hb d_M_sizeOf_13 hl (by decide) rfl (fun ls hl => ?_)
      obtain ⟨k15, h⟩ := h
      refine w_M_sizeOf_15 C hcs _ _ v1 v3 hR (fun v2_15e S15e H locs ls h hI hl => ?_) k15 v2 0 S _ _ ls hI (lv_sub hl [1, 2, 3, 4, 0] rfl) h
      obtain ⟨x54, e54⟩ : ∃ y : Int32, y = v3 + 1 := ⟨_, rfl⟩
      replace h := h x54 e54
      refine lv_iinc (v := x54) (lv' := [(3, .int x54), (0, .ref (ad 31)), (1, .int v1), (2, .int v2_15e)]) hx hb d_M_sizeOf_54 hl (k := 3) rfl (by rw [e54]; rfl) (by decide) rfl (fun ls hl => ?_)
      refine lv_goto (tgt := 4) hx hb d_M_sizeOf_57 (by decide) ?_
      exact ih v2_15e x54 S15e _ _ ls hI (lv_sub hl [1, 2, 3, 0] rfl) h
set_option maxHeartbeats 4000000 in
set_option maxRecDepth 100000 in
theorem c_M_sizeOf (v1 : Int32) (S : zS) (post : Int32 → zS → Prop) (h : P_M_sizeOf v1 S post) : z_cti l D cA 51 ad y_M_sizeOf b_M_sizeOf 5 (some .int) rm_M_sizeOf [.ref (ad 31), .int v1] S post := by
  refine z_meti (av := [.ref (ad 31), .int v1]) (by decide) (Nat.le_of_ble_eq_true rfl) ⟨rfl, rfl⟩ (fun p e s m args below meth c Q ls C hcs hl hI hR => ?_)
  obtain ⟨hx, hb, hml, hown, hts, hK, hJ⟩ := id C
  unfold P_M_sizeOf at h
  have hl : lv_has ls 5 [(0, .ref (ad 31)), (1, .int v1)] := hl
  refine lv_iconst (v := 0) hx hb d_M_sizeOf_0 (by decide) ?_
  refine lv_istore_n (lv' := [(2, .int 0), (0, .ref (ad 31)), (1, .int v1)]) hx hb d_M_sizeOf_1 rfl hl (by decide) rfl (fun ls hl => ?_)
  refine lv_iconst (v := 0) hx hb d_M_sizeOf_2 (by decide) ?_
  refine lv_istore_n (lv' := [(3, .int 0), (2, .int 0), (0, .ref (ad 31)), (1, .int v1)]) hx hb d_M_sizeOf_3 rfl hl (by decide) rfl (fun ls hl => ?_)
  obtain ⟨k4, h⟩ := h
  refine w_M_sizeOf_4 C hcs _ v1 hR k4 0 0 S _ _ ls hI (lv_sub hl [2, 3, 1, 0] rfl) h
set_option maxHeartbeats 4000000 in
set_option maxRecDepth 100000 in
theorem w_M_inGap_6 (C : z_CT p s m args c R_M b_M_inGap 9 D cA 51 ad) (hcs : cells ≤ rm_M_inGap.cells ∧ slots ≤ rm_M_inGap.slots) (post : Int32 → zS → Prop) (K49 : Int32 → Int32 → zS → Prop) (v3 : Int32) (v4 : Int32) (v5 : Int32) (hR : z_Rz p l e rm_M_inGap s m args below meth c Q b_M_inGap D cA 51 ad post) (kK49 : ∀ (v6 : Int32) (v7 : Int32) (S : zS) (H : Heap) (locs : List Loc) (ls : Array Slot), K49 v6 v7 S → z_I D cA 51 ad s.heap S H locs → lv_has ls 9 [(0, .ref (ad 31)), (3, .int v3), (4, .int v4), (5, .int v5), (6, .int v6), (7, .int v7)] → W p l e rm_M_inGap s m args below meth c H locs cells slots Q (F0 m 49 ls [])) : ∀ (n : Nat) (v6 : Int32) (v7 : Int32) (S : zS) (H : Heap) (locs : List Loc) (ls : Array Slot), z_I D cA 51 ad s.heap S H locs → lv_has ls 9 [(0, .ref (ad 31)), (3, .int v3), (4, .int v4), (5, .int v5), (6, .int v6), (7, .int v7)] → L_M_inGap_6 post K49 v3 v4 v5 n v6 v7 S → W p l e rm_M_inGap s m args below meth c H locs cells slots Q (F0 m 6 ls []) := by
  obtain ⟨hx, hb, hml, hown, hts, hK, hJ⟩ := id C
  intro n
  induction n with
  | zero => intro v6 v7 S H locs ls hI hl h; exact h.elim
  | succ n ih =>
    intro v6 v7 S H locs ls hI hl h
    rw [L_M_inGap_6] at h
    refine lv_aload_n hx hb d_M_inGap_6 rfl (lv_at hl 0 rfl) ?_
    refine lv_iload hx hb d_M_inGap_7 (lv_at hl 4 rfl) ?_
    refine lv_iload hx hb d_M_inGap_9 (lv_at hl 5 rfl) ?_
    refine z_callVi C hI 31 (by decide) kd_31 cl_M (As := [.int v6, .int v7]) (rest := []) (c_M_isSample v6 v7 _ _ h) wc_M_isSample k_ml_M_86 rfl rfl (Nat.le_of_ble_eq_true rfl) (Nat.le_of_ble_eq_true rfl) hcs hl.1 (Nat.le_of_ble_eq_true rfl) rfl d_M_inGap_11 (fun r11 S11 H locs h hI => ?_)
    refine lv_if_eq (tgt := 49) hx hb d_M_inGap_14 (by decide) (fun q => ?_) (fun q => ?_)
    · replace h := h.1 q
      exact kK49 v6 v7 S11 _ _ ls h hI (lv_sub hl [0, 1, 2, 3, 4, 5] rfl)
    · replace h := h.2 q
      refine lv_aload_n hx hb d_M_inGap_17 rfl (lv_at hl 0 rfl) ?_
      refine z_getR C hI 31 (by decide) kd_31 cl_M iw_M 7 (by decide) k_fl_M_20 rfl d_M_inGap_18 ?_
      refine lv_bipush (v := 24) hx hb d_M_inGap_21 (by decide) ?_
      refine lv_iload hx hb d_M_inGap_23 (lv_at hl 5 rfl) ?_
      refine lv_imul hx hb d_M_inGap_25 ?_
      refine lv_iload hx hb d_M_inGap_26 (lv_at hl 4 rfl) ?_
      refine lv_iadd hx hb d_M_inGap_28 ?_
      obtain ⟨h1, h⟩ := h
      refine z_zld C hI 34 (by decide) kd_34 h1 d_M_inGap_29 ?_
      refine lv_if_ne (tgt := 49) hx hb d_M_inGap_30 (by decide) (fun q => ?_) (fun q => ?_)
      · replace h := h.1 q
        exact kK49 v6 v7 S11 _ _ ls h hI (lv_sub hl [0, 1, 2, 3, 4, 5] rfl)
      · replace h := h.2 q
        refine lv_iload hx hb d_M_inGap_33 (lv_at hl 4 rfl) ?_
        refine lv_iload_n hx hb d_M_inGap_35 rfl (lv_at hl 1 rfl) ?_
        refine lv_isub hx hb d_M_inGap_36 ?_
        refine lv_topi (fun x37 e37 => ?_)
        replace h := h x37 e37
        refine lv_istore (lv' := [(6, .int x37), (0, .ref (ad 31)), (3, .int v3), (4, .int v4), (5, .int v5), (7, .int v7)]) hx hb d_M_inGap_37 hl (by decide) rfl (fun ls hl => ?_)
        refine lv_iload hx hb d_M_inGap_39 (lv_at hl 5 rfl) ?_
        refine lv_iload hx hb d_M_inGap_41 (lv_at hl 3 rfl) ?_
        refine lv_isub hx hb d_M_inGap_43 ?_
        refine lv_topi (fun x44 e44 => ?_)
        replace h := h x44 e44
        refine lv_istore (lv' := [(7, .int x44), (6, .int x37), (0, .ref (ad 31)), (3, .int v3), (4, .int v4), (5, .int v5)]) hx hb d_M_inGap_44 hl (by decide) rfl (fun ls hl => ?_)
        refine lv_goto (tgt := 6) hx hb d_M_inGap_46 (by decide) ?_
        exact ih x37 x44 S11 _ _ ls hI (lv_sub hl [2, 3, 4, 5, 1, 0] rfl) h
set_option maxHeartbeats 4000000 in
set_option maxRecDepth 100000 in
theorem w_M_inGap_78 (C : z_CT p s m args c R_M b_M_inGap 9 D cA 51 ad) (hcs : cells ≤ rm_M_inGap.cells ∧ slots ≤ rm_M_inGap.slots) (post : Int32 → zS → Prop) (K124 : Int32 → Int32 → Int32 → zS → Prop) (v3 : Int32) (v4 : Int32) (v5 : Int32) (hR : z_Rz p l e rm_M_inGap s m args below meth c Q b_M_inGap D cA 51 ad post) (kK124 : ∀ (v6 : Int32) (v7 : Int32) (v8 : Int32) (S : zS) (H : Heap) (locs : List Loc) (ls : Array Slot), K124 v6 v7 v8 S → z_I D cA 51 ad s.heap S H locs → lv_has ls 9 [(0, .ref (ad 31)), (5, .int v5), (6, .int v6), (7, .int v7), (8, .int v8)] → W p l e rm_M_inGap s m args below meth c H locs cells slots Q (F0 m 124 ls [])) : ∀ (n : Nat) (v6 : Int32) (v7 : Int32) (v8 : Int32) (S : zS) (H : Heap) (locs : List Loc) (ls : Array Slot), z_I D cA 51 ad s.heap S H locs → lv_has ls 9 [(0, .ref (ad 31)), (3, .int v3), (4, .int v4), (5, .int v5), (6, .int v6), (7, .int v7), (8, .int v8)] → L_M_inGap_78 post K124 v3 v4 v5 n v6 v7 v8 S → W p l e rm_M_inGap s m args below meth c H locs cells slots Q (F0 m 78 ls []) := by
  obtain ⟨hx, hb, hml, hown, hts, hK, hJ⟩ := id C
  intro n
  induction n with
  | zero => intro v6 v7 v8 S H locs ls hI hl h; exact h.elim
  | succ n ih =>
    intro v6 v7 v8 S H locs ls hI hl h
    rw [L_M_inGap_78] at h
    refine lv_aload_n hx hb d_M_inGap_78 rfl (lv_at hl 0 rfl) ?_
    refine lv_iload hx hb d_M_inGap_79 (lv_at hl 4 rfl) ?_
    refine lv_iload hx hb d_M_inGap_81 (lv_at hl 5 rfl) ?_
    refine z_callVi C hI 31 (by decide) kd_31 cl_M (As := [.int v6, .int v7]) (rest := []) (c_M_isSample v6 v7 _ _ h) wc_M_isSample k_ml_M_86 rfl rfl (Nat.le_of_ble_eq_true rfl) (Nat.le_of_ble_eq_true rfl) hcs hl.1 (Nat.le_of_ble_eq_true rfl) rfl d_M_inGap_83 (fun r83 S83 H locs h hI => ?_)
    refine lv_if_eq (tgt := 124) hx hb d_M_inGap_86 (by decide) (fun q => ?_) (fun q => ?_)
    · replace h := h.1 q
      exact kK124 v6 v7 v8 S83 _ _ ls h hI (lv_sub hl [0, 3, 4, 5, 6] rfl)
    · replace h := h.2 q
      refine lv_aload_n hx hb d_M_inGap_89 rfl (lv_at hl 0 rfl) ?_
      refine z_getR C hI 31 (by decide) kd_31 cl_M iw_M 7 (by decide) k_fl_M_20 rfl d_M_inGap_90 ?_
      refine lv_bipush (v := 24) hx hb d_M_inGap_93 (by decide) ?_
      refine lv_iload hx hb d_M_inGap_95 (lv_at hl 5 rfl) ?_
      refine lv_imul hx hb d_M_inGap_97 ?_
      refine lv_iload hx hb d_M_inGap_98 (lv_at hl 4 rfl) ?_
      refine lv_iadd hx hb d_M_inGap_100 ?_
      obtain ⟨h1, h⟩ := h
      refine z_zld C hI 34 (by decide) kd_34 h1 d_M_inGap_101 ?_
      refine lv_if_ne (tgt := 124) hx hb d_M_inGap_102 (by decide) (fun q => ?_) (fun q => ?_)
      · replace h := h.1 q
        exact kK124 v6 v7 v8 S83 _ _ ls h hI (lv_sub hl [0, 3, 4, 5, 6] rfl)
      · replace h := h.2 q
        obtain ⟨x105, e105⟩ : ∃ y : Int32, y = v8 + 1 := ⟨_, rfl⟩
        replace h := h x105 e105
        refine lv_iinc (v := x105) (lv' := [(8, .int x105), (0, .ref (ad 31)), (3, .int v3), (4, .int v4), (5, .int v5), (6, .int v6), (7, .int v7)]) hx hb d_M_inGap_105 hl (k := 6) rfl (by rw [e105]; rfl) (by decide) rfl (fun ls hl => ?_)
        refine lv_iload hx hb d_M_inGap_108 (lv_at hl 5 rfl) ?_
        refine lv_iload_n hx hb d_M_inGap_110 rfl (lv_at hl 2 rfl) ?_
        refine lv_iadd hx hb d_M_inGap_111 ?_
        refine lv_topi (fun x112 e112 => ?_)
        replace h := h x112 e112
        refine lv_istore (lv' := [(6, .int x112), (8, .int x105), (0, .ref (ad 31)), (3, .int v3), (4, .int v4), (5, .int v5), (7, .int v7)]) hx hb d_M_inGap_112 hl (by decide) rfl (fun ls hl => ?_)
        refine lv_iload hx hb d_M_inGap_114 (lv_at hl 6 rfl) ?_
        refine lv_iload hx hb d_M_inGap_116 (lv_at hl 4 rfl) ?_
        refine lv_iadd hx hb d_M_inGap_118 ?_
        refine lv_topi (fun x119 e119 => ?_)
        replace h := h x119 e119
        refine lv_istore (lv' := [(7, .int x119), (6, .int x112), (8, .int x105), (0, .ref (ad 31)), (3, .int v3), (4, .int v4), (5, .int v5)]) hx hb d_M_inGap_119 hl (by decide) rfl (fun ls hl => ?_)
        refine lv_goto (tgt := 78) hx hb d_M_inGap_121 (by decide) ?_
        exact ih x112 x119 x105 S83 _ _ ls hI (lv_sub hl [3, 4, 5, 6, 1, 0, 2] rfl) h
set_option maxHeartbeats 4000000 in
set_option maxRecDepth 100000 in
theorem w_M_inGap_124 (C : z_CT p s m args c R_M b_M_inGap 9 D cA 51 ad) (hcs : cells ≤ rm_M_inGap.cells ∧ slots ≤ rm_M_inGap.slots) (post : Int32 → zS → Prop) (v5 : Int32) (v6 : Int32) (v7 : Int32) (v8 : Int32) (hR : z_Rz p l e rm_M_inGap s m args below meth c Q b_M_inGap D cA 51 ad post) (S : zS) (H : Heap) (locs : List Loc) (ls : Array Slot) (hI : z_I D cA 51 ad s.heap S H locs) (hl : lv_has ls 9 [(0, .ref (ad 31)), (5, .int v5), (6, .int v6), (7, .int v7), (8, .int v8)]) (h : J_M_inGap_124 post v5 v6 v7 v8 S) : W p l e rm_M_inGap s m args below meth c H locs cells slots Q (F0 m 124 ls []) := by
  obtain ⟨hx, hb, hml, hown, hts, hK, hJ⟩ := id C
  unfold J_M_inGap_124 at h
  refine lv_aload_n hx hb d_M_inGap_124 rfl (lv_at hl 0 rfl) ?_
  refine lv_iload hx hb d_M_inGap_125 (lv_at hl 2 rfl) ?_
  refine lv_iload hx hb d_M_inGap_127 (lv_at hl 3 rfl) ?_
  refine z_callVi C hI 31 (by decide) kd_31 cl_M (As := [.int v6, .int v7]) (rest := []) (c_M_isSample v6 v7 _ _ h) wc_M_isSample k_ml_M_86 rfl rfl (Nat.le_of_ble_eq_true rfl) (Nat.le_of_ble_eq_true rfl) hcs hl.1 (Nat.le_of_ble_eq_true rfl) rfl d_M_inGap_129 (fun r129 S129 H locs h hI => ?_)
  refine lv_if_eq (tgt := 146) hx hb d_M_inGap_132 (by decide) (fun q => ?_) (fun q => ?_)
  · replace h := h.1 q
    refine lv_iconst (v := 0) hx hb d_M_inGap_146 (by decide) ?_
    exact hR _ _ hcs 0 S129 _ _ 147 ls (by decide) h hI d_M_inGap_147
  · replace h := h.2 q
    refine lv_iload hx hb d_M_inGap_135 (lv_at hl 4 rfl) ?_
    refine lv_iload hx hb d_M_inGap_137 (lv_at hl 1 rfl) ?_
    refine lv_icmp_gt (tgt := 146) hx hb d_M_inGap_139 (by decide) (fun q => ?_) (fun q => ?_)
    · replace h := h.1 q
      refine lv_iconst (v := 0) hx hb d_M_inGap_146 (by decide) ?_
      exact hR _ _ hcs 0 S129 _ _ 147 ls (by decide) h hI d_M_inGap_147
    · replace h := h.2 q
      refine lv_iconst (v := 1) hx hb d_M_inGap_142 (by decide) ?_
      refine lv_goto (tgt := 147) hx hb d_M_inGap_143 (by decide) ?_
      exact hR _ _ hcs 1 S129 _ _ 147 ls (by decide) h hI d_M_inGap_147
set_option maxHeartbeats 4000000 in
set_option maxRecDepth 100000 in
theorem w_M_inGap_49 (C : z_CT p s m args c R_M b_M_inGap 9 D cA 51 ad) (hcs : cells ≤ rm_M_inGap.cells ∧ slots ≤ rm_M_inGap.slots) (post : Int32 → zS → Prop) (v3 : Int32) (v4 : Int32) (v5 : Int32) (v6 : Int32) (v7 : Int32) (hR : z_Rz p l e rm_M_inGap s m args below meth c Q b_M_inGap D cA 51 ad post) (S : zS) (H : Heap) (locs : List Loc) (ls : Array Slot) (hI : z_I D cA 51 ad s.heap S H locs) (hl : lv_has ls 9 [(0, .ref (ad 31)), (3, .int v3), (4, .int v4), (5, .int v5), (6, .int v6), (7, .int v7)]) (h : J_M_inGap_49 post v3 v4 v5 v6 v7 S) : W p l e rm_M_inGap s m args below meth c H locs cells slots Q (F0 m 49 ls []) := by
  obtain ⟨hx, hb, hml, hown, hts, hK, hJ⟩ := id C
  unfold J_M_inGap_49 at h
  refine lv_aload_n hx hb d_M_inGap_49 rfl (lv_at hl 0 rfl) ?_
  refine lv_iload hx hb d_M_inGap_50 (lv_at hl 4 rfl) ?_
  refine lv_iload hx hb d_M_inGap_52 (lv_at hl 5 rfl) ?_
  refine z_callVi C hI 31 (by decide) kd_31 cl_M (As := [.int v6, .int v7]) (rest := []) (c_M_isSample v6 v7 _ _ h) wc_M_isSample k_ml_M_86 rfl rfl (Nat.le_of_ble_eq_true rfl) (Nat.le_of_ble_eq_true rfl) hcs hl.1 (Nat.le_of_ble_eq_true rfl) rfl d_M_inGap_54 (fun r54 S54 H locs h hI => ?_)
  refine lv_if_ne (tgt := 62) hx hb d_M_inGap_57 (by decide) (fun q => ?_) (fun q => ?_)
  · replace h := h.1 q
    refine lv_iconst (v := 0) hx hb d_M_inGap_62 (by decide) ?_
    refine lv_istore (lv' := [(8, .int 0), (0, .ref (ad 31)), (3, .int v3), (4, .int v4), (5, .int v5), (6, .int v6), (7, .int v7)]) hx hb d_M_inGap_63 hl (by decide) rfl (fun ls hl => ?_)
    refine lv_iload hx hb d_M_inGap_65 (lv_at hl 5 rfl) ?_
    refine lv_iload_n hx hb d_M_inGap_67 rfl (lv_at hl 2 rfl) ?_
    refine lv_iadd hx hb d_M_inGap_68 ?_
    refine lv_topi (fun x69 e69 => ?_)
    replace h := h x69 e69
    refine lv_istore (lv' := [(6, .int x69), (8, .int 0), (0, .ref (ad 31)), (3, .int v3), (4, .int v4), (5, .int v5), (7, .int v7)]) hx hb d_M_inGap_69 hl (by decide) rfl (fun ls hl => ?_)
    refine lv_iload hx hb d_M_inGap_71 (lv_at hl 6 rfl) ?_
    refine lv_iload hx hb d_M_inGap_73 (lv_at hl 4 rfl) ?_
    refine lv_iadd hx hb d_M_inGap_75 ?_
    refine lv_topi (fun x76 e76 => ?_)
    replace h := h x76 e76
    refine lv_istore (lv' := [(7, .int x76), (6, .int x69), (8, .int 0), (0, .ref (ad 31)), (3, .int v3), (4, .int v4), (5, .int v5)]) hx hb d_M_inGap_76 hl (by decide) rfl (fun ls hl => ?_)
    obtain ⟨k78, h⟩ := h
    refine w_M_inGap_78 C hcs _ _ v3 v4 v5 hR (fun v6_78e v7_78e v8_78e S78e H locs ls h hI hl => ?_) k78 x69 x76 0 S54 _ _ ls hI (lv_sub hl [3, 4, 5, 6, 1, 0, 2] rfl) h
    exact w_M_inGap_124 C hcs _ v5 v6_78e v7_78e v8_78e hR S78e _ _ ls hI (lv_sub hl [0, 1, 2, 3, 4] rfl) h
  · replace h := h.2 q
    refine lv_iconst (v := 0) hx hb d_M_inGap_60 (by decide) ?_
    exact hR _ _ hcs 0 S54 _ _ 61 ls (by decide) h hI d_M_inGap_61
set_option maxHeartbeats 4000000 in
set_option maxRecDepth 100000 in
theorem c_M_inGap (v1 : Int32) (v2 : Int32) (v3 : Int32) (v4 : Int32) (v5 : Int32) (S : zS) (post : Int32 → zS → Prop) (h : P_M_inGap v1 v2 v3 v4 v5 S post) : z_cti l D cA 51 ad y_M_inGap b_M_inGap 9 (some .boolean) rm_M_inGap [.ref (ad 31), .int v1, .int v2, .int v3, .int v4, .int v5] S post := by
  refine z_metz (av := [.ref (ad 31), .int v1, .int v2, .int v3, .int v4, .int v5]) (by decide) (Nat.le_of_ble_eq_true rfl) ⟨rfl, rfl⟩ (fun p e s m args below meth c Q ls C hcs hl hI hR => ?_)
  obtain ⟨hx, hb, hml, hown, hts, hK, hJ⟩ := id C
  unfold P_M_inGap at h
  have hl : lv_has ls 9 [(0, .ref (ad 31)), (1, .int v1), (2, .int v2), (3, .int v3), (4, .int v4), (5, .int v5)] := hl
  refine lv_iload_n hx hb d_M_inGap_0 rfl (lv_at hl 1 rfl) ?_
  refine lv_istore (lv' := [(6, .int v1), (0, .ref (ad 31)), (1, .int v1), (2, .int v2), (3, .int v3), (4, .int v4), (5, .int v5)]) hx hb d_M_inGap_1 hl (by decide) rfl (fun ls hl => ?_)
  refine lv_iload_n hx hb d_M_inGap_3 rfl (lv_at hl 3 rfl) ?_
  refine lv_istore (lv' := [(7, .int v2), (6, .int v1), (0, .ref (ad 31)), (1, .int v1), (2, .int v2), (3, .int v3), (4, .int v4), (5, .int v5)]) hx hb d_M_inGap_4 hl (by decide) rfl (fun ls hl => ?_)
  obtain ⟨k6, h⟩ := h
  refine w_M_inGap_6 C hcs _ _ v3 v4 v5 hR (fun v6_6e v7_6e S6e H locs ls h hI hl => ?_) k6 v1 v2 S _ _ ls hI (lv_sub hl [2, 5, 6, 7, 1, 0] rfl) h
  exact w_M_inGap_49 C hcs _ v3 v4 v5 v6_6e v7_6e hR S6e _ _ ls hI (lv_sub hl [0, 1, 2, 3, 4, 5] rfl) h
set_option maxHeartbeats 4000000 in
set_option maxRecDepth 100000 in
theorem w_M_takeInk_76 (C : z_CT p s m args c R_M b_M_takeInk 6 D cA 51 ad) (hcs : cells ≤ rm_M_takeInk.cells ∧ slots ≤ rm_M_takeInk.slots) (post : zS → Prop) (K19 : Int32 → zS → Prop) (v1 : Int32) (v2 : Int32) (v3 : Int32) (v4 : Int32) (v5 : Int32) (t0 : Int32) (t1 : Int32) (hR : z_Rv p l e rm_M_takeInk s m args below meth c Q b_M_takeInk D cA 51 ad post) (kK19 : ∀ (v4 : Int32) (S : zS) (H : Heap) (locs : List Loc) (ls : Array Slot), K19 v4 S → z_I D cA 51 ad s.heap S H locs → lv_has ls 6 [(0, .ref (ad 31)), (1, .int v1), (2, .int v2), (3, .int v3), (4, .int v4)] → W p l e rm_M_takeInk s m args below meth c H locs cells slots Q (F0 m 19 ls [])) (S : zS) (H : Heap) (locs : List Loc) (ls : Array Slot) (hI : z_I D cA 51 ad s.heap S H locs) (hl : lv_has ls 6 [(0, .ref (ad 31)), (1, .int v1), (2, .int v2), (3, .int v3), (4, .int v4), (5, .int v5)]) (h : J_M_takeInk_76 post K19 v1 v2 v3 v4 v5 t0 t1 S) : W p l e rm_M_takeInk s m args below meth c H locs cells slots Q (F0 m 76 ls [.int t0, .int t1, .ref (ad 33)]) := by
  obtain ⟨hx, hb, hml, hown, hts, hK, hJ⟩ := id C
  unfold J_M_takeInk_76 at h
  obtain ⟨h1, h⟩ := h
  obtain ⟨h2, h⟩ := h
  refine z_zst C hI 33 (by decide) kd_33 h1 h2 d_M_takeInk_76 (fun S76 eS H locs hI => ?_)
  replace h := h S76 eS
  refine lv_aload_n hx hb d_M_takeInk_77 rfl (lv_at hl 0 rfl) ?_
  refine z_getR C hI 31 (by decide) kd_31 cl_M iw_M 7 (by decide) k_fl_M_20 rfl d_M_takeInk_78 ?_
  refine lv_iload hx hb d_M_takeInk_81 (lv_at hl 5 rfl) ?_
  refine lv_aload_n hx hb d_M_takeInk_83 rfl (lv_at hl 0 rfl) ?_
  refine z_getR C hI 31 (by decide) kd_31 cl_M iw_M 3 (by decide) k_fl_M_7 rfl d_M_takeInk_84 ?_
  refine lv_iload hx hb d_M_takeInk_87 (lv_at hl 5 rfl) ?_
  obtain ⟨h1, h⟩ := h
  refine z_zld C hI 32 (by decide) kd_32 h1 d_M_takeInk_89 ?_
  refine lv_if_eq (tgt := 107) hx hb d_M_takeInk_90 (by decide) (fun q => ?_) (fun q => ?_)
  · replace h := h.1 q
    refine lv_iconst (v := 0) hx hb d_M_takeInk_107 (by decide) ?_
    obtain ⟨h1, h⟩ := h
    refine z_zst C hI 34 (by decide) kd_34 h1 (by decide) d_M_takeInk_108 (fun S108 eS H locs hI => ?_)
    replace h := h S108 eS
    obtain ⟨x109, e109⟩ : ∃ y : Int32, y = v4 + 1 := ⟨_, rfl⟩
    replace h := h x109 e109
    refine lv_iinc (v := x109) (lv' := [(4, .int x109), (0, .ref (ad 31)), (1, .int v1), (2, .int v2), (3, .int v3), (5, .int v5)]) hx hb d_M_takeInk_109 hl (k := 4) rfl (by rw [e109]; rfl) (by decide) rfl (fun ls hl => ?_)
    refine lv_goto (tgt := 19) hx hb d_M_takeInk_112 (by decide) ?_
    exact kK19 x109 S108 _ _ ls h hI (lv_sub hl [1, 2, 3, 4, 0] rfl)
  · replace h := h.2 q
    refine lv_aload_n hx hb d_M_takeInk_93 rfl (lv_at hl 0 rfl) ?_
    refine z_getR C hI 31 (by decide) kd_31 cl_M iw_M 6 (by decide) k_fl_M_17 rfl d_M_takeInk_94 ?_
    refine lv_iload hx hb d_M_takeInk_97 (lv_at hl 5 rfl) ?_
    obtain ⟨h1, h⟩ := h
    refine z_zld C hI 33 (by decide) kd_33 h1 d_M_takeInk_99 ?_
    refine lv_if_ne (tgt := 107) hx hb d_M_takeInk_100 (by decide) (fun q => ?_) (fun q => ?_)
    · replace h := h.1 q
      refine lv_iconst (v := 0) hx hb d_M_takeInk_107 (by decide) ?_
      obtain ⟨h1, h⟩ := h
      refine z_zst C hI 34 (by decide) kd_34 h1 (by decide) d_M_takeInk_108 (fun S108 eS H locs hI => ?_)
      replace h := h S108 eS
      obtain ⟨x109, e109⟩ : ∃ y : Int32, y = v4 + 1 := ⟨_, rfl⟩
      replace h := h x109 e109
      refine lv_iinc (v := x109) (lv' := [(4, .int x109), (0, .ref (ad 31)), (1, .int v1), (2, .int v2), (3, .int v3), (5, .int v5)]) hx hb d_M_takeInk_109 hl (k := 4) rfl (by rw [e109]; rfl) (by decide) rfl (fun ls hl => ?_)
      refine lv_goto (tgt := 19) hx hb d_M_takeInk_112 (by decide) ?_
      exact kK19 x109 S108 _ _ ls h hI (lv_sub hl [1, 2, 3, 4, 0] rfl)
    · replace h := h.2 q
      refine lv_iconst (v := 1) hx hb d_M_takeInk_103 (by decide) ?_
      refine lv_goto (tgt := 108) hx hb d_M_takeInk_104 (by decide) ?_
      obtain ⟨h1, h⟩ := h
      refine z_zst C hI 34 (by decide) kd_34 h1 (by decide) d_M_takeInk_108 (fun S108 eS H locs hI => ?_)
      replace h := h S108 eS
      obtain ⟨x109, e109⟩ : ∃ y : Int32, y = v4 + 1 := ⟨_, rfl⟩
      replace h := h x109 e109
      refine lv_iinc (v := x109) (lv' := [(4, .int x109), (0, .ref (ad 31)), (1, .int v1), (2, .int v2), (3, .int v3), (5, .int v5)]) hx hb d_M_takeInk_109 hl (k := 4) rfl (by rw [e109]; rfl) (by decide) rfl (fun ls hl => ?_)
      refine lv_goto (tgt := 19) hx hb d_M_takeInk_112 (by decide) ?_
      exact kK19 x109 S108 _ _ ls h hI (lv_sub hl [1, 2, 3, 4, 0] rfl)
set_option maxHeartbeats 4000000 in
set_option maxRecDepth 100000 in
theorem w_M_takeInk_75 (C : z_CT p s m args c R_M b_M_takeInk 6 D cA 51 ad) (hcs : cells ≤ rm_M_takeInk.cells ∧ slots ≤ rm_M_takeInk.slots) (post : zS → Prop) (K19 : Int32 → zS → Prop) (v1 : Int32) (v2 : Int32) (v3 : Int32) (v4 : Int32) (v5 : Int32) (t0 : Int32) (hR : z_Rv p l e rm_M_takeInk s m args below meth c Q b_M_takeInk D cA 51 ad post) (kK19 : ∀ (v4 : Int32) (S : zS) (H : Heap) (locs : List Loc) (ls : Array Slot), K19 v4 S → z_I D cA 51 ad s.heap S H locs → lv_has ls 6 [(0, .ref (ad 31)), (1, .int v1), (2, .int v2), (3, .int v3), (4, .int v4)] → W p l e rm_M_takeInk s m args below meth c H locs cells slots Q (F0 m 19 ls [])) (S : zS) (H : Heap) (locs : List Loc) (ls : Array Slot) (hI : z_I D cA 51 ad s.heap S H locs) (hl : lv_has ls 6 [(0, .ref (ad 31)), (1, .int v1), (2, .int v2), (3, .int v3), (4, .int v4), (5, .int v5)]) (h : J_M_takeInk_75 post K19 v1 v2 v3 v4 v5 t0 S) : W p l e rm_M_takeInk s m args below meth c H locs cells slots Q (F0 m 75 ls [.int t0, .ref (ad 33)]) := by
  obtain ⟨hx, hb, hml, hown, hts, hK, hJ⟩ := id C
  unfold J_M_takeInk_75 at h
  refine lv_iconst (v := 0) hx hb d_M_takeInk_75 (by decide) ?_
  exact w_M_takeInk_76 C hcs _ _ v1 v2 v3 v4 v5 0 t0 hR kK19 S _ _ ls hI (lv_sub hl [0, 1, 2, 3, 4, 5] rfl) h
set_option maxHeartbeats 4000000 in
set_option maxRecDepth 100000 in
theorem w_M_takeInk_19 (C : z_CT p s m args c R_M b_M_takeInk 6 D cA 51 ad) (hcs : cells ≤ rm_M_takeInk.cells ∧ slots ≤ rm_M_takeInk.slots) (post : zS → Prop) (K115 : zS → Prop) (v1 : Int32) (v2 : Int32) (v3 : Int32) (hR : z_Rv p l e rm_M_takeInk s m args below meth c Q b_M_takeInk D cA 51 ad post) (kK115 : ∀ (S : zS) (H : Heap) (locs : List Loc) (ls : Array Slot), K115 S → z_I D cA 51 ad s.heap S H locs → lv_has ls 6 [(0, .ref (ad 31)), (1, .int v1), (2, .int v2), (3, .int v3)] → W p l e rm_M_takeInk s m args below meth c H locs cells slots Q (F0 m 115 ls [])) : ∀ (n : Nat) (v4 : Int32) (S : zS) (H : Heap) (locs : List Loc) (ls : Array Slot), z_I D cA 51 ad s.heap S H locs → lv_has ls 6 [(0, .ref (ad 31)), (1, .int v1), (2, .int v2), (3, .int v3), (4, .int v4)] → L_M_takeInk_19 post K115 v1 v2 v3 n v4 S → W p l e rm_M_takeInk s m args below meth c H locs cells slots Q (F0 m 19 ls []) := by
  obtain ⟨hx, hb, hml, hown, hts, hK, hJ⟩ := id C
  intro n
  induction n with
  | zero => intro v4 S H locs ls hI hl h; exact h.elim
  | succ n ih =>
    intro v4 S H locs ls hI hl h
    rw [L_M_takeInk_19] at h
    refine lv_iload hx hb d_M_takeInk_19 (lv_at hl 4 rfl) ?_
    refine lv_aload_n hx hb d_M_takeInk_21 rfl (lv_at hl 0 rfl) ?_
    refine z_getI C hI 31 (by decide) kd_31 cl_M iw_M 1 (by decide) k_fl_M_73 rfl d_M_takeInk_22 ?_
    refine lv_icmp_ge (tgt := 115) hx hb d_M_takeInk_25 (by decide) (fun q => ?_) (fun q => ?_)
    · replace h := h.1 q
      exact kK115 S _ _ ls h hI (lv_sub hl [0, 1, 2, 3] rfl)
    · replace h := h.2 q
      refine lv_bipush (v := 24) hx hb d_M_takeInk_28 (by decide) ?_
      refine lv_iload_n hx hb d_M_takeInk_30 rfl (lv_at hl 3 rfl) ?_
      refine lv_imul hx hb d_M_takeInk_31 ?_
      refine lv_iload hx hb d_M_takeInk_32 (lv_at hl 4 rfl) ?_
      refine lv_iadd hx hb d_M_takeInk_34 ?_
      refine lv_topi (fun x35 e35 => ?_)
      replace h := h x35 e35
      refine lv_istore (lv' := [(5, .int x35), (0, .ref (ad 31)), (1, .int v1), (2, .int v2), (3, .int v3), (4, .int v4)]) hx hb d_M_takeInk_35 hl (by decide) rfl (fun ls hl => ?_)
      refine lv_aload_n hx hb d_M_takeInk_37 rfl (lv_at hl 1 rfl) ?_
      refine z_getR C hI 31 (by decide) kd_31 cl_M iw_M 6 (by decide) k_fl_M_17 rfl d_M_takeInk_38 ?_
      refine lv_iload hx hb d_M_takeInk_41 (lv_at hl 0 rfl) ?_
      refine lv_aload_n hx hb d_M_takeInk_43 rfl (lv_at hl 1 rfl) ?_
      refine z_getR C hI 31 (by decide) kd_31 cl_M iw_M 3 (by decide) k_fl_M_7 rfl d_M_takeInk_44 ?_
      refine lv_iload hx hb d_M_takeInk_47 (lv_at hl 0 rfl) ?_
      obtain ⟨h1, h⟩ := h
      refine z_zld C hI 32 (by decide) kd_32 h1 d_M_takeInk_49 ?_
      refine lv_if_eq (tgt := 75) hx hb d_M_takeInk_50 (by decide) (fun q => ?_) (fun q => ?_)
      · replace h := h.1 q
        exact w_M_takeInk_75 C hcs _ _ v1 v2 v3 v4 x35 x35 hR (fun v4 S H locs ls h hI hl => ih v4 S H locs ls hI hl h) S _ _ ls hI (lv_sub hl [1, 2, 3, 4, 5, 0] rfl) h
      · replace h := h.2 q
        refine lv_aload_n hx hb d_M_takeInk_53 rfl (lv_at hl 1 rfl) ?_
        refine lv_aload_n hx hb d_M_takeInk_54 rfl (lv_at hl 1 rfl) ?_
        refine z_getR C hI 31 (by decide) kd_31 cl_M iw_M 10 (by decide) k_fl_M_29 rfl d_M_takeInk_55 ?_
        refine lv_iload hx hb d_M_takeInk_58 (lv_at hl 0 rfl) ?_
        obtain ⟨h1, h⟩ := h
        refine z_ild C hI 37 (by decide) kd_37 h1 d_M_takeInk_60 ?_
        refine z_callVi C hI 31 (by decide) kd_31 cl_M (As := [.int (S 37 (z_ix x35))]) (rest := [.int x35, .ref (ad 33)]) (c_M_sizeOf (S 37 (z_ix x35)) _ _ h) wc_M_sizeOf k_ml_M_109 rfl rfl (Nat.le_of_ble_eq_true rfl) (Nat.le_of_ble_eq_true rfl) hcs hl.1 (Nat.le_of_ble_eq_true rfl) rfl d_M_takeInk_61 (fun r61 S61 H locs h hI => ?_)
        refine lv_aload_n hx hb d_M_takeInk_64 rfl (lv_at hl 1 rfl) ?_
        refine z_getI C hI 31 (by decide) kd_31 cl_M iw_M 4 (by decide) k_fl_M_13 rfl d_M_takeInk_65 ?_
        refine lv_icmp_ge (tgt := 75) hx hb d_M_takeInk_68 (by decide) (fun q => ?_) (fun q => ?_)
        · replace h := h.1 q
          exact w_M_takeInk_75 C hcs _ _ v1 v2 v3 v4 x35 x35 hR (fun v4 S H locs ls h hI hl => ih v4 S H locs ls hI hl h) S61 _ _ ls hI (lv_sub hl [1, 2, 3, 4, 5, 0] rfl) h
        · replace h := h.2 q
          refine lv_iconst (v := 1) hx hb d_M_takeInk_71 (by decide) ?_
          refine lv_goto (tgt := 76) hx hb d_M_takeInk_72 (by decide) ?_
          exact w_M_takeInk_76 C hcs _ _ v1 v2 v3 v4 x35 1 x35 hR (fun v4 S H locs ls h hI hl => ih v4 S H locs ls hI hl h) S61 _ _ ls hI (lv_sub hl [1, 2, 3, 4, 5, 0] rfl) h
set_option maxHeartbeats 4000000 in
set_option maxRecDepth 100000 in
theorem w_M_takeInk_8 (C : z_CT p s m args c R_M b_M_takeInk 6 D cA 51 ad) (hcs : cells ≤ rm_M_takeInk.cells ∧ slots ≤ rm_M_takeInk.slots) (post : zS → Prop) (K121 : zS → Prop) (v1 : Int32) (v2 : Int32) (hR : z_Rv p l e rm_M_takeInk s m args below meth c Q b_M_takeInk D cA 51 ad post) (kK121 : ∀ (S : zS) (H : Heap) (locs : List Loc) (ls : Array Slot), K121 S → z_I D cA 51 ad s.heap S H locs → lv_has ls 6 [(0, .ref (ad 31)), (1, .int v1), (2, .int v2)] → W p l e rm_M_takeInk s m args below meth c H locs cells slots Q (F0 m 121 ls [])) : ∀ (n : Nat) (v3 : Int32) (S : zS) (H : Heap) (locs : List Loc) (ls : Array Slot), z_I D cA 51 ad s.heap S H locs → lv_has ls 6 [(0, .ref (ad 31)), (1, .int v1), (2, .int v2), (3, .int v3)] → L_M_takeInk_8 post K121 v1 v2 n v3 S → W p l e rm_M_takeInk s m args below meth c H locs cells slots Q (F0 m 8 ls []) := by
  obtain ⟨hx, hb, hml, hown, hts, hK, hJ⟩ := id C
  intro n
  induction n with
  | zero => intro v3 S H locs ls hI hl h; exact h.elim
  | succ n ih =>
    intro v3 S H locs ls hI hl h
    rw [L_M_takeInk_8] at h
    refine lv_iload_n hx hb d_M_takeInk_8 rfl (lv_at hl 3 rfl) ?_
    refine lv_aload_n hx hb d_M_takeInk_9 rfl (lv_at hl 0 rfl) ?_
    refine z_getI C hI 31 (by decide) kd_31 cl_M iw_M 2 (by decide) k_fl_M_76 rfl d_M_takeInk_10 ?_
    refine lv_icmp_ge (tgt := 121) hx hb d_M_takeInk_13 (by decide) (fun q => ?_) (fun q => ?_)
    · replace h := h.1 q
      exact kK121 S _ _ ls h hI (lv_sub hl [0, 1, 2] rfl)
    · replace h := h.2 q
      refine lv_iconst (v := 0) hx hb d_M_takeInk_16 (by decide) ?_
      refine lv_istore (lv' := [(4, .int 0), (0, .ref (ad 31)), (1, .int v1), (2, .int v2), (3, .int v3)]) hx hb d_M_takeInk_17 hl (by decide) rfl (fun ls hl => ?_)
      obtain ⟨k19, h⟩ := h
      refine w_M_takeInk_19 C hcs _ _ v1 v2 v3 hR (fun S19e H locs ls h hI hl => ?_) k19 0 S _ _ ls hI (lv_sub hl [1, 2, 3, 4, 0] rfl) h
      obtain ⟨x115, e115⟩ : ∃ y : Int32, y = v3 + 1 := ⟨_, rfl⟩
      replace h := h x115 e115
      refine lv_iinc (v := x115) (lv' := [(3, .int x115), (0, .ref (ad 31)), (1, .int v1), (2, .int v2)]) hx hb d_M_takeInk_115 hl (k := 3) rfl (by rw [e115]; rfl) (by decide) rfl (fun ls hl => ?_)
      refine lv_goto (tgt := 8) hx hb d_M_takeInk_118 (by decide) ?_
      exact ih x115 S19e _ _ ls hI (lv_sub hl [1, 2, 3, 0] rfl) h
set_option maxHeartbeats 4000000 in
set_option maxRecDepth 100000 in
theorem w_M_takeInk_195 (C : z_CT p s m args c R_M b_M_takeInk 6 D cA 51 ad) (hcs : cells ≤ rm_M_takeInk.cells ∧ slots ≤ rm_M_takeInk.slots) (post : zS → Prop) (K134 : Int32 → zS → Prop) (v1 : Int32) (v2 : Int32) (v3 : Int32) (v4 : Int32) (t0 : Int32) (hR : z_Rv p l e rm_M_takeInk s m args below meth c Q b_M_takeInk D cA 51 ad post) (kK134 : ∀ (v4 : Int32) (S : zS) (H : Heap) (locs : List Loc) (ls : Array Slot), K134 v4 S → z_I D cA 51 ad s.heap S H locs → lv_has ls 6 [(0, .ref (ad 31)), (1, .int v1), (2, .int v2), (3, .int v3), (4, .int v4)] → W p l e rm_M_takeInk s m args below meth c H locs cells slots Q (F0 m 134 ls [])) (S : zS) (H : Heap) (locs : List Loc) (ls : Array Slot) (hI : z_I D cA 51 ad s.heap S H locs) (hl : lv_has ls 6 [(0, .ref (ad 31)), (1, .int v1), (2, .int v2), (3, .int v3), (4, .int v4)]) (h : J_M_takeInk_195 post K134 v1 v2 v3 v4 t0 S) : W p l e rm_M_takeInk s m args below meth c H locs cells slots Q (F0 m 195 ls [.int t0, .ref (ad 35)]) := by
  obtain ⟨hx, hb, hml, hown, hts, hK, hJ⟩ := id C
  unfold J_M_takeInk_195 at h
  refine lv_iconst (v := 1) hx hb d_M_takeInk_195 (by decide) ?_
  refine lv_goto (tgt := 200) hx hb d_M_takeInk_196 (by decide) ?_
  obtain ⟨h1, h⟩ := h
  refine z_zst C hI 35 (by decide) kd_35 h1 (by decide) d_M_takeInk_200 (fun S200 eS H locs hI => ?_)
  replace h := h S200 eS
  obtain ⟨x201, e201⟩ : ∃ y : Int32, y = v4 + 1 := ⟨_, rfl⟩
  replace h := h x201 e201
  refine lv_iinc (v := x201) (lv' := [(4, .int x201), (0, .ref (ad 31)), (1, .int v1), (2, .int v2), (3, .int v3)]) hx hb d_M_takeInk_201 hl (k := 4) rfl (by rw [e201]; rfl) (by decide) rfl (fun ls hl => ?_)
  refine lv_goto (tgt := 134) hx hb d_M_takeInk_204 (by decide) ?_
  exact kK134 x201 S200 _ _ ls h hI (lv_sub hl [1, 2, 3, 4, 0] rfl)
set_option maxHeartbeats 4000000 in
set_option maxRecDepth 100000 in
theorem w_M_takeInk_134 (C : z_CT p s m args c R_M b_M_takeInk 6 D cA 51 ad) (hcs : cells ≤ rm_M_takeInk.cells ∧ slots ≤ rm_M_takeInk.slots) (post : zS → Prop) (K207 : zS → Prop) (v1 : Int32) (v2 : Int32) (v3 : Int32) (hR : z_Rv p l e rm_M_takeInk s m args below meth c Q b_M_takeInk D cA 51 ad post) (kK207 : ∀ (S : zS) (H : Heap) (locs : List Loc) (ls : Array Slot), K207 S → z_I D cA 51 ad s.heap S H locs → lv_has ls 6 [(0, .ref (ad 31)), (1, .int v1), (2, .int v2), (3, .int v3)] → W p l e rm_M_takeInk s m args below meth c H locs cells slots Q (F0 m 207 ls [])) : ∀ (n : Nat) (v4 : Int32) (S : zS) (H : Heap) (locs : List Loc) (ls : Array Slot), z_I D cA 51 ad s.heap S H locs → lv_has ls 6 [(0, .ref (ad 31)), (1, .int v1), (2, .int v2), (3, .int v3), (4, .int v4)] → L_M_takeInk_134 post K207 v1 v2 v3 n v4 S → W p l e rm_M_takeInk s m args below meth c H locs cells slots Q (F0 m 134 ls []) := by
  obtain ⟨hx, hb, hml, hown, hts, hK, hJ⟩ := id C
  intro n
  induction n with
  | zero => intro v4 S H locs ls hI hl h; exact h.elim
  | succ n ih =>
    intro v4 S H locs ls hI hl h
    rw [L_M_takeInk_134] at h
    refine lv_iload hx hb d_M_takeInk_134 (lv_at hl 4 rfl) ?_
    refine lv_aload_n hx hb d_M_takeInk_136 rfl (lv_at hl 0 rfl) ?_
    refine z_getI C hI 31 (by decide) kd_31 cl_M iw_M 1 (by decide) k_fl_M_73 rfl d_M_takeInk_137 ?_
    refine lv_icmp_ge (tgt := 207) hx hb d_M_takeInk_140 (by decide) (fun q => ?_) (fun q => ?_)
    · replace h := h.1 q
      exact kK207 S _ _ ls h hI (lv_sub hl [0, 1, 2, 3] rfl)
    · replace h := h.2 q
      refine lv_aload_n hx hb d_M_takeInk_143 rfl (lv_at hl 0 rfl) ?_
      refine z_getR C hI 31 (by decide) kd_31 cl_M iw_M 8 (by decide) k_fl_M_23 rfl d_M_takeInk_144 ?_
      refine lv_bipush (v := 24) hx hb d_M_takeInk_147 (by decide) ?_
      refine lv_iload_n hx hb d_M_takeInk_149 rfl (lv_at hl 3 rfl) ?_
      refine lv_imul hx hb d_M_takeInk_150 ?_
      refine lv_iload hx hb d_M_takeInk_151 (lv_at hl 4 rfl) ?_
      refine lv_iadd hx hb d_M_takeInk_153 ?_
      refine lv_aload_n hx hb d_M_takeInk_154 rfl (lv_at hl 0 rfl) ?_
      refine z_getR C hI 31 (by decide) kd_31 cl_M iw_M 7 (by decide) k_fl_M_20 rfl d_M_takeInk_155 ?_
      refine lv_bipush (v := 24) hx hb d_M_takeInk_158 (by decide) ?_
      refine lv_iload_n hx hb d_M_takeInk_160 rfl (lv_at hl 3 rfl) ?_
      refine lv_imul hx hb d_M_takeInk_161 ?_
      refine lv_iload hx hb d_M_takeInk_162 (lv_at hl 4 rfl) ?_
      refine lv_iadd hx hb d_M_takeInk_164 ?_
      obtain ⟨h1, h⟩ := h
      refine z_zld C hI 34 (by decide) kd_34 h1 d_M_takeInk_165 ?_
      refine lv_if_ne (tgt := 195) hx hb d_M_takeInk_166 (by decide) (fun q => ?_) (fun q => ?_)
      · replace h := h.1 q
        exact w_M_takeInk_195 C hcs _ _ v1 v2 v3 v4 ((24 * v3) + v4) hR (fun v4 S H locs ls h hI hl => ih v4 S H locs ls hI hl h) S _ _ ls hI (lv_sub hl [0, 1, 2, 3, 4] rfl) h
      · replace h := h.2 q
        refine lv_aload_n hx hb d_M_takeInk_169 rfl (lv_at hl 0 rfl) ?_
        refine lv_iload hx hb d_M_takeInk_170 (lv_at hl 4 rfl) ?_
        refine lv_iload_n hx hb d_M_takeInk_172 rfl (lv_at hl 3 rfl) ?_
        refine lv_iconst (v := 1) hx hb d_M_takeInk_173 (by decide) ?_
        refine lv_iconst (v := 0) hx hb d_M_takeInk_174 (by decide) ?_
        refine lv_iload_n hx hb d_M_takeInk_175 rfl (lv_at hl 1 rfl) ?_
        refine z_callVi C hI 31 (by decide) kd_31 cl_M (As := [.int v4, .int v3, .int 1, .int 0, .int v1]) (rest := [.int ((24 * v3) + v4), .ref (ad 35)]) (c_M_inGap v4 v3 1 0 v1 _ _ h) wc_M_inGap k_ml_M_112 rfl rfl (Nat.le_of_ble_eq_true rfl) (Nat.le_of_ble_eq_true rfl) hcs hl.1 (Nat.le_of_ble_eq_true rfl) rfl d_M_takeInk_176 (fun r176 S176 H locs h hI => ?_)
        refine lv_if_ne (tgt := 195) hx hb d_M_takeInk_179 (by decide) (fun q => ?_) (fun q => ?_)
        · replace h := h.1 q
          exact w_M_takeInk_195 C hcs _ _ v1 v2 v3 v4 ((24 * v3) + v4) hR (fun v4 S H locs ls h hI hl => ih v4 S H locs ls hI hl h) S176 _ _ ls hI (lv_sub hl [0, 1, 2, 3, 4] rfl) h
        · replace h := h.2 q
          refine lv_aload_n hx hb d_M_takeInk_182 rfl (lv_at hl 0 rfl) ?_
          refine lv_iload hx hb d_M_takeInk_183 (lv_at hl 4 rfl) ?_
          refine lv_iload_n hx hb d_M_takeInk_185 rfl (lv_at hl 3 rfl) ?_
          refine lv_iconst (v := 0) hx hb d_M_takeInk_186 (by decide) ?_
          refine lv_iconst (v := 1) hx hb d_M_takeInk_187 (by decide) ?_
          refine lv_iload_n hx hb d_M_takeInk_188 rfl (lv_at hl 2 rfl) ?_
          refine z_callVi C hI 31 (by decide) kd_31 cl_M (As := [.int v4, .int v3, .int 0, .int 1, .int v2]) (rest := [.int ((24 * v3) + v4), .ref (ad 35)]) (c_M_inGap v4 v3 0 1 v2 _ _ h) wc_M_inGap k_ml_M_112 rfl rfl (Nat.le_of_ble_eq_true rfl) (Nat.le_of_ble_eq_true rfl) hcs hl.1 (Nat.le_of_ble_eq_true rfl) rfl d_M_takeInk_189 (fun r189 S189 H locs h hI => ?_)
          refine lv_if_eq (tgt := 199) hx hb d_M_takeInk_192 (by decide) (fun q => ?_) (fun q => ?_)
          · replace h := h.1 q
            refine lv_iconst (v := 0) hx hb d_M_takeInk_199 (by decide) ?_
            obtain ⟨h1, h⟩ := h
            refine z_zst C hI 35 (by decide) kd_35 h1 (by decide) d_M_takeInk_200 (fun S200 eS H locs hI => ?_)
            replace h := h S200 eS
            obtain ⟨x201, e201⟩ : ∃ y : Int32, y = v4 + 1 := ⟨_, rfl⟩
            replace h := h x201 e201
            refine lv_iinc (v := x201) (lv' := [(4, .int x201), (0, .ref (ad 31)), (1, .int v1), (2, .int v2), (3, .int v3)]) hx hb d_M_takeInk_201 hl (k := 4) rfl (by rw [e201]; rfl) (by decide) rfl (fun ls hl => ?_)
            refine lv_goto (tgt := 134) hx hb d_M_takeInk_204 (by decide) ?_
            exact ih x201 S200 _ _ ls hI (lv_sub hl [1, 2, 3, 4, 0] rfl) h
          · replace h := h.2 q
            exact w_M_takeInk_195 C hcs _ _ v1 v2 v3 v4 ((24 * v3) + v4) hR (fun v4 S H locs ls h hI hl => ih v4 S H locs ls hI hl h) S189 _ _ ls hI (lv_sub hl [0, 1, 2, 3, 4] rfl) h
set_option maxHeartbeats 4000000 in
set_option maxRecDepth 100000 in
theorem w_M_takeInk_123 (C : z_CT p s m args c R_M b_M_takeInk 6 D cA 51 ad) (hcs : cells ≤ rm_M_takeInk.cells ∧ slots ≤ rm_M_takeInk.slots) (post : zS → Prop) (v1 : Int32) (v2 : Int32) (hR : z_Rv p l e rm_M_takeInk s m args below meth c Q b_M_takeInk D cA 51 ad post) : ∀ (n : Nat) (v3 : Int32) (S : zS) (H : Heap) (locs : List Loc) (ls : Array Slot), z_I D cA 51 ad s.heap S H locs → lv_has ls 6 [(0, .ref (ad 31)), (1, .int v1), (2, .int v2), (3, .int v3)] → L_M_takeInk_123 post v1 v2 n v3 S → W p l e rm_M_takeInk s m args below meth c H locs cells slots Q (F0 m 123 ls []) := by
  obtain ⟨hx, hb, hml, hown, hts, hK, hJ⟩ := id C
  intro n
  induction n with
  | zero => intro v3 S H locs ls hI hl h; exact h.elim
  | succ n ih =>
    intro v3 S H locs ls hI hl h
    rw [L_M_takeInk_123] at h
    refine lv_iload_n hx hb d_M_takeInk_123 rfl (lv_at hl 3 rfl) ?_
    refine lv_aload_n hx hb d_M_takeInk_124 rfl (lv_at hl 0 rfl) ?_
    refine z_getI C hI 31 (by decide) kd_31 cl_M iw_M 2 (by decide) k_fl_M_76 rfl d_M_takeInk_125 ?_
    refine lv_icmp_ge (tgt := 213) hx hb d_M_takeInk_128 (by decide) (fun q => ?_) (fun q => ?_)
    · replace h := h.1 q
      exact hR _ _ hcs S _ _ 213 ls h hI d_M_takeInk_213
    · replace h := h.2 q
      refine lv_iconst (v := 0) hx hb d_M_takeInk_131 (by decide) ?_
      refine lv_istore (lv' := [(4, .int 0), (0, .ref (ad 31)), (1, .int v1), (2, .int v2), (3, .int v3)]) hx hb d_M_takeInk_132 hl (by decide) rfl (fun ls hl => ?_)
      obtain ⟨k134, h⟩ := h
      refine w_M_takeInk_134 C hcs _ _ v1 v2 v3 hR (fun S134e H locs ls h hI hl => ?_) k134 0 S _ _ ls hI (lv_sub hl [1, 2, 3, 4, 0] rfl) h
      obtain ⟨x207, e207⟩ : ∃ y : Int32, y = v3 + 1 := ⟨_, rfl⟩
      replace h := h x207 e207
      refine lv_iinc (v := x207) (lv' := [(3, .int x207), (0, .ref (ad 31)), (1, .int v1), (2, .int v2)]) hx hb d_M_takeInk_207 hl (k := 3) rfl (by rw [e207]; rfl) (by decide) rfl (fun ls hl => ?_)
      refine lv_goto (tgt := 123) hx hb d_M_takeInk_210 (by decide) ?_
      exact ih x207 S134e _ _ ls hI (lv_sub hl [1, 2, 3, 0] rfl) h
set_option maxHeartbeats 4000000 in
set_option maxRecDepth 100000 in
theorem c_M_takeInk (v1 : Int32) (v2 : Int32) (S : zS) (post : zS → Prop) (h : P_M_takeInk v1 v2 S post) : z_ctv l D cA 51 ad y_M_takeInk b_M_takeInk 6 none rm_M_takeInk [.ref (ad 31), .int v1, .int v2] S post := by
  refine z_metv (av := [.ref (ad 31), .int v1, .int v2]) (by decide) (Nat.le_of_ble_eq_true rfl) ⟨rfl, rfl⟩ (fun p e s m args below meth c Q ls C hcs hl hI hR => ?_)
  obtain ⟨hx, hb, hml, hown, hts, hK, hJ⟩ := id C
  unfold P_M_takeInk at h
  have hl : lv_has ls 6 [(0, .ref (ad 31)), (1, .int v1), (2, .int v2)] := hl
  refine lv_aload_n hx hb d_M_takeInk_0 rfl (lv_at hl 0 rfl) ?_
  refine lv_iconst (v := 0) hx hb d_M_takeInk_1 (by decide) ?_
  refine lv_iconst (v := 1) hx hb d_M_takeInk_2 (by decide) ?_
  refine z_callVv C hI 31 (by decide) kd_31 cl_M (As := [.int 0, .int 1]) (rest := []) (c_M_group 0 1 _ _ h) wc_M_group k_ml_M_105 rfl rfl (Nat.le_of_ble_eq_true rfl) (Nat.le_of_ble_eq_true rfl) hcs hl.1 (Nat.le_of_ble_eq_true rfl) rfl d_M_takeInk_3 (fun S3 H locs h hI => ?_)
  refine lv_iconst (v := 0) hx hb d_M_takeInk_6 (by decide) ?_
  refine lv_istore_n (lv' := [(3, .int 0), (0, .ref (ad 31)), (1, .int v1), (2, .int v2)]) hx hb d_M_takeInk_7 rfl hl (by decide) rfl (fun ls hl => ?_)
  obtain ⟨k8, h⟩ := h
  refine w_M_takeInk_8 C hcs _ _ v1 v2 hR (fun S8e H locs ls h hI hl => ?_) k8 0 S3 _ _ ls hI (lv_sub hl [1, 2, 3, 0] rfl) h
  refine lv_iconst (v := 0) hx hb d_M_takeInk_121 (by decide) ?_
  refine lv_istore_n (lv' := [(3, .int 0), (0, .ref (ad 31)), (1, .int v1), (2, .int v2)]) hx hb d_M_takeInk_122 rfl hl (by decide) rfl (fun ls hl => ?_)
  obtain ⟨k123, h⟩ := h
  refine w_M_takeInk_123 C hcs _ v1 v2 hR k123 0 S8e _ _ ls hI (lv_sub hl [1, 2, 3, 0] rfl) h
set_option maxHeartbeats 4000000 in
set_option maxRecDepth 100000 in
theorem w_M_cleanIn_60 (C : z_CT p s m args c R_M b_M_cleanIn 10 D cA 51 ad) (hcs : cells ≤ rm_M_cleanIn.cells ∧ slots ≤ rm_M_cleanIn.slots) (post : Int32 → zS → Prop) (K16 : Int32 → Int32 → zS → Prop) (v1 : Int32) (v3 : Int32) (v4 : Int32) (v5 : Int32) (v6 : Int32) (v7 : Int32) (v8 : Int32) (hR : z_Ri p l e rm_M_cleanIn s m args below meth c Q b_M_cleanIn D cA 51 ad post) (kK16 : ∀ (v6 : Int32) (v8 : Int32) (S : zS) (H : Heap) (locs : List Loc) (ls : Array Slot), K16 v6 v8 S → z_I D cA 51 ad s.heap S H locs → lv_has ls 10 [(0, .ref (ad 31)), (1, .int v1), (3, .int v3), (4, .int v4), (5, .int v5), (6, .int v6), (7, .int v7), (8, .int v8)] → W p l e rm_M_cleanIn s m args below meth c H locs cells slots Q (F0 m 16 ls [])) (S : zS) (H : Heap) (locs : List Loc) (ls : Array Slot) (hI : z_I D cA 51 ad s.heap S H locs) (hl : lv_has ls 10 [(0, .ref (ad 31)), (1, .int v1), (3, .int v3), (4, .int v4), (5, .int v5), (6, .int v6), (7, .int v7), (8, .int v8)]) (h : J_M_cleanIn_60 post K16 v1 v3 v4 v5 v6 v7 v8 S) : W p l e rm_M_cleanIn s m args below meth c H locs cells slots Q (F0 m 60 ls []) := by
  obtain ⟨hx, hb, hml, hown, hts, hK, hJ⟩ := id C
  unfold J_M_cleanIn_60 at h
  refine lv_iload hx hb d_M_cleanIn_60 (lv_at hl 5 rfl) ?_
  refine lv_iconst (v := 1) hx hb d_M_cleanIn_62 (by decide) ?_
  refine lv_iadd hx hb d_M_cleanIn_63 ?_
  refine lv_goto (tgt := 69) hx hb d_M_cleanIn_64 (by decide) ?_
  refine lv_topi (fun x69 e69 => ?_)
  replace h := h x69 e69
  refine lv_istore (lv' := [(6, .int x69), (0, .ref (ad 31)), (1, .int v1), (3, .int v3), (4, .int v4), (5, .int v5), (7, .int v7), (8, .int v8)]) hx hb d_M_cleanIn_69 hl (by decide) rfl (fun ls hl => ?_)
  obtain ⟨x71, e71⟩ : ∃ y : Int32, y = v8 + 1 := ⟨_, rfl⟩
  replace h := h x71 e71
  refine lv_iinc (v := x71) (lv' := [(8, .int x71), (6, .int x69), (0, .ref (ad 31)), (1, .int v1), (3, .int v3), (4, .int v4), (5, .int v5), (7, .int v7)]) hx hb d_M_cleanIn_71 hl (k := 7) rfl (by rw [e71]; rfl) (by decide) rfl (fun ls hl => ?_)
  refine lv_goto (tgt := 16) hx hb d_M_cleanIn_74 (by decide) ?_
  exact kK16 x69 x71 S _ _ ls h hI (lv_sub hl [2, 3, 4, 5, 6, 1, 7, 0] rfl)
set_option maxHeartbeats 4000000 in
set_option maxRecDepth 100000 in
theorem w_M_cleanIn_16 (C : z_CT p s m args c R_M b_M_cleanIn 10 D cA 51 ad) (hcs : cells ≤ rm_M_cleanIn.cells ∧ slots ≤ rm_M_cleanIn.slots) (post : Int32 → zS → Prop) (K77 : Int32 → zS → Prop) (v1 : Int32) (v3 : Int32) (v4 : Int32) (v5 : Int32) (v7 : Int32) (hR : z_Ri p l e rm_M_cleanIn s m args below meth c Q b_M_cleanIn D cA 51 ad post) (kK77 : ∀ (v6 : Int32) (S : zS) (H : Heap) (locs : List Loc) (ls : Array Slot), K77 v6 S → z_I D cA 51 ad s.heap S H locs → lv_has ls 10 [(0, .ref (ad 31)), (1, .int v1), (3, .int v3), (4, .int v4), (5, .int v5), (6, .int v6), (7, .int v7)] → W p l e rm_M_cleanIn s m args below meth c H locs cells slots Q (F0 m 77 ls [])) : ∀ (n : Nat) (v6 : Int32) (v8 : Int32) (S : zS) (H : Heap) (locs : List Loc) (ls : Array Slot), z_I D cA 51 ad s.heap S H locs → lv_has ls 10 [(0, .ref (ad 31)), (1, .int v1), (3, .int v3), (4, .int v4), (5, .int v5), (6, .int v6), (7, .int v7), (8, .int v8)] → L_M_cleanIn_16 post K77 v1 v3 v4 v5 v7 n v6 v8 S → W p l e rm_M_cleanIn s m args below meth c H locs cells slots Q (F0 m 16 ls []) := by
  obtain ⟨hx, hb, hml, hown, hts, hK, hJ⟩ := id C
  intro n
  induction n with
  | zero => intro v6 v8 S H locs ls hI hl h; exact h.elim
  | succ n ih =>
    intro v6 v8 S H locs ls hI hl h
    rw [L_M_cleanIn_16] at h
    refine lv_iload hx hb d_M_cleanIn_16 (lv_at hl 7 rfl) ?_
    refine lv_iload_n hx hb d_M_cleanIn_18 rfl (lv_at hl 2 rfl) ?_
    refine lv_icmp_gt (tgt := 77) hx hb d_M_cleanIn_19 (by decide) (fun q => ?_) (fun q => ?_)
    · replace h := h.1 q
      exact kK77 v6 S _ _ ls h hI (lv_sub hl [0, 1, 2, 3, 4, 5, 6] rfl)
    · replace h := h.2 q
      refine lv_bipush (v := 24) hx hb d_M_cleanIn_22 (by decide) ?_
      refine lv_iload hx hb d_M_cleanIn_24 (lv_at hl 6 rfl) ?_
      refine lv_imul hx hb d_M_cleanIn_26 ?_
      refine lv_iload hx hb d_M_cleanIn_27 (lv_at hl 7 rfl) ?_
      refine lv_iadd hx hb d_M_cleanIn_29 ?_
      refine lv_topi (fun x30 e30 => ?_)
      replace h := h x30 e30
      refine lv_istore (lv' := [(9, .int x30), (0, .ref (ad 31)), (1, .int v1), (3, .int v3), (4, .int v4), (5, .int v5), (6, .int v6), (7, .int v7), (8, .int v8)]) hx hb d_M_cleanIn_30 hl (by decide) rfl (fun ls hl => ?_)
      refine lv_aload_n hx hb d_M_cleanIn_32 rfl (lv_at hl 1 rfl) ?_
      refine z_getR C hI 31 (by decide) kd_31 cl_M iw_M 7 (by decide) k_fl_M_20 rfl d_M_cleanIn_33 ?_
      refine lv_iload hx hb d_M_cleanIn_36 (lv_at hl 0 rfl) ?_
      obtain ⟨h1, h⟩ := h
      refine z_zld C hI 34 (by decide) kd_34 h1 d_M_cleanIn_38 ?_
      refine lv_if_eq (tgt := 67) hx hb d_M_cleanIn_39 (by decide) (fun q => ?_) (fun q => ?_)
      · replace h := h.1 q
        refine lv_iload hx hb d_M_cleanIn_67 (lv_at hl 6 rfl) ?_
        refine lv_istore (lv' := [(6, .int v6), (9, .int x30), (0, .ref (ad 31)), (1, .int v1), (3, .int v3), (4, .int v4), (5, .int v5), (7, .int v7), (8, .int v8)]) hx hb d_M_cleanIn_69 hl (by decide) rfl (fun ls hl => ?_)
        obtain ⟨x71, e71⟩ : ∃ y : Int32, y = v8 + 1 := ⟨_, rfl⟩
        replace h := h x71 e71
        refine lv_iinc (v := x71) (lv' := [(8, .int x71), (6, .int v6), (9, .int x30), (0, .ref (ad 31)), (1, .int v1), (3, .int v3), (4, .int v4), (5, .int v5), (7, .int v7)]) hx hb d_M_cleanIn_71 hl (k := 8) rfl (by rw [e71]; rfl) (by decide) rfl (fun ls hl => ?_)
        refine lv_goto (tgt := 16) hx hb d_M_cleanIn_74 (by decide) ?_
        exact ih v6 x71 S _ _ ls hI (lv_sub hl [3, 4, 5, 6, 7, 1, 8, 0] rfl) h
      · replace h := h.2 q
        refine lv_iload hx hb d_M_cleanIn_42 (lv_at hl 5 rfl) ?_
        refine lv_iconst (v := (-1)) hx hb d_M_cleanIn_44 (by decide) ?_
        refine lv_icmp_eq (tgt := 60) hx hb d_M_cleanIn_45 (by decide) (fun q => ?_) (fun q => ?_)
        · replace h := h.1 q
          exact w_M_cleanIn_60 C hcs _ _ v1 v3 v4 v5 v6 v7 v8 hR (fun v6 v8 S H locs ls h hI hl => ih v6 v8 S H locs ls hI hl h) S _ _ ls hI (lv_sub hl [1, 2, 3, 4, 5, 6, 7, 8] rfl) h
        · replace h := h.2 q
          refine lv_aload_n hx hb d_M_cleanIn_48 rfl (lv_at hl 1 rfl) ?_
          refine z_getR C hI 31 (by decide) kd_31 cl_M iw_M 11 (by decide) k_fl_M_33 rfl d_M_cleanIn_49 ?_
          refine lv_iload hx hb d_M_cleanIn_52 (lv_at hl 0 rfl) ?_
          obtain ⟨h1, h⟩ := h
          refine z_ild C hI 38 (by decide) kd_38 h1 d_M_cleanIn_54 ?_
          refine lv_iload hx hb d_M_cleanIn_55 (lv_at hl 5 rfl) ?_
          refine lv_icmp_ne (tgt := 67) hx hb d_M_cleanIn_57 (by decide) (fun q => ?_) (fun q => ?_)
          · replace h := h.1 q
            refine lv_iload hx hb d_M_cleanIn_67 (lv_at hl 6 rfl) ?_
            refine lv_istore (lv' := [(6, .int v6), (9, .int x30), (0, .ref (ad 31)), (1, .int v1), (3, .int v3), (4, .int v4), (5, .int v5), (7, .int v7), (8, .int v8)]) hx hb d_M_cleanIn_69 hl (by decide) rfl (fun ls hl => ?_)
            obtain ⟨x71, e71⟩ : ∃ y : Int32, y = v8 + 1 := ⟨_, rfl⟩
            replace h := h x71 e71
            refine lv_iinc (v := x71) (lv' := [(8, .int x71), (6, .int v6), (9, .int x30), (0, .ref (ad 31)), (1, .int v1), (3, .int v3), (4, .int v4), (5, .int v5), (7, .int v7)]) hx hb d_M_cleanIn_71 hl (k := 8) rfl (by rw [e71]; rfl) (by decide) rfl (fun ls hl => ?_)
            refine lv_goto (tgt := 16) hx hb d_M_cleanIn_74 (by decide) ?_
            exact ih v6 x71 S _ _ ls hI (lv_sub hl [3, 4, 5, 6, 7, 1, 8, 0] rfl) h
          · replace h := h.2 q
            exact w_M_cleanIn_60 C hcs _ _ v1 v3 v4 v5 v6 v7 v8 hR (fun v6 v8 S H locs ls h hI hl => ih v6 v8 S H locs ls hI hl h) S _ _ ls hI (lv_sub hl [1, 2, 3, 4, 5, 6, 7, 8] rfl) h
set_option maxHeartbeats 4000000 in
set_option maxRecDepth 100000 in
theorem w_M_cleanIn_6 (C : z_CT p s m args c R_M b_M_cleanIn 10 D cA 51 ad) (hcs : cells ≤ rm_M_cleanIn.cells ∧ slots ≤ rm_M_cleanIn.slots) (post : Int32 → zS → Prop) (v1 : Int32) (v3 : Int32) (v4 : Int32) (v5 : Int32) (hR : z_Ri p l e rm_M_cleanIn s m args below meth c Q b_M_cleanIn D cA 51 ad post) : ∀ (n : Nat) (v6 : Int32) (v7 : Int32) (S : zS) (H : Heap) (locs : List Loc) (ls : Array Slot), z_I D cA 51 ad s.heap S H locs → lv_has ls 10 [(0, .ref (ad 31)), (1, .int v1), (3, .int v3), (4, .int v4), (5, .int v5), (6, .int v6), (7, .int v7)] → L_M_cleanIn_6 post v1 v3 v4 v5 n v6 v7 S → W p l e rm_M_cleanIn s m args below meth c H locs cells slots Q (F0 m 6 ls []) := by
  obtain ⟨hx, hb, hml, hown, hts, hK, hJ⟩ := id C
  intro n
  induction n with
  | zero => intro v6 v7 S H locs ls hI hl h; exact h.elim
  | succ n ih =>
    intro v6 v7 S H locs ls hI hl h
    rw [L_M_cleanIn_6] at h
    refine lv_iload hx hb d_M_cleanIn_6 (lv_at hl 6 rfl) ?_
    refine lv_iload hx hb d_M_cleanIn_8 (lv_at hl 3 rfl) ?_
    refine lv_icmp_gt (tgt := 83) hx hb d_M_cleanIn_10 (by decide) (fun q => ?_) (fun q => ?_)
    · replace h := h.1 q
      refine lv_iload hx hb d_M_cleanIn_83 (lv_at hl 5 rfl) ?_
      exact hR _ _ hcs v6 S _ _ 85 ls h hI d_M_cleanIn_85
    · replace h := h.2 q
      refine lv_iload_n hx hb d_M_cleanIn_13 rfl (lv_at hl 1 rfl) ?_
      refine lv_istore (lv' := [(8, .int v1), (0, .ref (ad 31)), (1, .int v1), (3, .int v3), (4, .int v4), (5, .int v5), (6, .int v6), (7, .int v7)]) hx hb d_M_cleanIn_14 hl (by decide) rfl (fun ls hl => ?_)
      obtain ⟨k16, h⟩ := h
      refine w_M_cleanIn_16 C hcs _ _ v1 v3 v4 v5 v7 hR (fun v6_16e S16e H locs ls h hI hl => ?_) k16 v6 v1 S _ _ ls hI (lv_sub hl [1, 2, 3, 4, 5, 6, 7, 0] rfl) h
      obtain ⟨x77, e77⟩ : ∃ y : Int32, y = v7 + 1 := ⟨_, rfl⟩
      replace h := h x77 e77
      refine lv_iinc (v := x77) (lv' := [(7, .int x77), (0, .ref (ad 31)), (1, .int v1), (3, .int v3), (4, .int v4), (5, .int v5), (6, .int v6_16e)]) hx hb d_M_cleanIn_77 hl (k := 6) rfl (by rw [e77]; rfl) (by decide) rfl (fun ls hl => ?_)
      refine lv_goto (tgt := 6) hx hb d_M_cleanIn_80 (by decide) ?_
      exact ih v6_16e x77 S16e _ _ ls hI (lv_sub hl [1, 2, 3, 4, 5, 6, 0] rfl) h
set_option maxHeartbeats 4000000 in
set_option maxRecDepth 100000 in
theorem c_M_cleanIn (v1 : Int32) (v2 : Int32) (v3 : Int32) (v4 : Int32) (v5 : Int32) (S : zS) (post : Int32 → zS → Prop) (h : P_M_cleanIn v1 v2 v3 v4 v5 S post) : z_cti l D cA 51 ad y_M_cleanIn b_M_cleanIn 10 (some .int) rm_M_cleanIn [.ref (ad 31), .int v1, .int v2, .int v3, .int v4, .int v5] S post := by
  refine z_meti (av := [.ref (ad 31), .int v1, .int v2, .int v3, .int v4, .int v5]) (by decide) (Nat.le_of_ble_eq_true rfl) ⟨rfl, rfl⟩ (fun p e s m args below meth c Q ls C hcs hl hI hR => ?_)
  obtain ⟨hx, hb, hml, hown, hts, hK, hJ⟩ := id C
  unfold P_M_cleanIn at h
  have hl : lv_has ls 10 [(0, .ref (ad 31)), (1, .int v1), (2, .int v2), (3, .int v3), (4, .int v4), (5, .int v5)] := hl
  refine lv_iconst (v := 0) hx hb d_M_cleanIn_0 (by decide) ?_
  refine lv_istore (lv' := [(6, .int 0), (0, .ref (ad 31)), (1, .int v1), (2, .int v2), (3, .int v3), (4, .int v4), (5, .int v5)]) hx hb d_M_cleanIn_1 hl (by decide) rfl (fun ls hl => ?_)
  refine lv_iload_n hx hb d_M_cleanIn_3 rfl (lv_at hl 3 rfl) ?_
  refine lv_istore (lv' := [(7, .int v2), (6, .int 0), (0, .ref (ad 31)), (1, .int v1), (2, .int v2), (3, .int v3), (4, .int v4), (5, .int v5)]) hx hb d_M_cleanIn_4 hl (by decide) rfl (fun ls hl => ?_)
  obtain ⟨k6, h⟩ := h
  refine w_M_cleanIn_6 C hcs _ v1 v3 v4 v5 hR k6 0 v2 S _ _ ls hI (lv_sub hl [2, 3, 5, 6, 7, 1, 0] rfl) h
end ZW
