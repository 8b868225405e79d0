section ZW
variable {p : Program} {l : Launch} {e : Env} {s : State} {m : MethodId} {args : Array Value} {below : List Frame} {meth : Method} {c : Code} {cells slots : Nat} {Q : State → Prop} {D : va_G} {cA : Nat → ClassId} {n : Nat} {ad : Nat → Nat}
set_option maxHeartbeats 4000000 in
set_option maxRecDepth 100000 in
theorem w_M_parts_30 (C : z_CT p s m args c R_M b_M_parts 9 D cA 51 ad) (hcs : cells ≤ rm_M_parts.cells ∧ slots ≤ rm_M_parts.slots) (post : Int32 → zS → Prop) (K11 : Int32 → Int32 → Int32 → Int32 → zS → Prop) (v1 : Int32) (v2 : Int32) (v3 : Int32) (v4 : Int32) (v5 : Int32) (v6 : Int32) (t0 : Int32) (hR : z_Ri p l e rm_M_parts s m args below meth c Q b_M_parts D cA 51 ad post) (kK11 : ∀ (v3 : Int32) (v4 : Int32) (v5 : Int32) (v6 : Int32) (S : zS) (H : Heap) (locs : List Loc) (ls : Array Slot), K11 v3 v4 v5 v6 S → z_I D cA 51 ad s.heap S H locs → lv_has ls 9 [(0, .ref (ad 31)), (1, .int v1), (2, .int v2), (3, .int v3), (4, .int v4), (5, .int v5), (6, .int v6)] → W p l e rm_M_parts s m args below meth c H locs cells slots Q (F0 m 11 ls [])) (S : zS) (H : Heap) (locs : List Loc) (ls : Array Slot) (hI : z_I D cA 51 ad s.heap S H locs) (hl : lv_has ls 9 [(0, .ref (ad 31)), (1, .int v1), (2, .int v2), (3, .int v3), (4, .int v4), (5, .int v5), (6, .int v6)]) (h : J_M_parts_30 post K11 v1 v2 v3 v4 v5 v6 t0 S) : W p l e rm_M_parts s m args below meth c H locs cells slots Q (F0 m 30 ls [.int t0]) := by
  obtain ⟨hx, hb, hml, hown, hts, hK, hJ⟩ := id C
  unfold J_M_parts_30 at h
  refine lv_istore (lv' := [(7, .int t0), (0, .ref (ad 31)), (1, .int v1), (2, .int v2), (3, .int v3), (4, .int v4), (5, .int v5), (6, .int v6)]) hx hb d_M_parts_30 hl (by decide) rfl (fun ls hl => ?_)
  refine lv_aload_n hx hb d_M_parts_32 rfl (lv_at hl 1 rfl) ?_
  refine lv_iload hx hb d_M_parts_33 (lv_at hl 7 rfl) ?_
  refine lv_bipush (v := 24) hx hb d_M_parts_35 (by decide) ?_
  refine lv_irem hx hb d_M_parts_37 (by decide) ?_
  refine lv_iload hx hb d_M_parts_38 (lv_at hl 0 rfl) ?_
  refine lv_iload_n hx hb d_M_parts_40 rfl (lv_at hl 2 rfl) ?_
  refine lv_iload_n hx hb d_M_parts_41 rfl (lv_at hl 3 rfl) ?_
  refine z_callVi C hI 31 (by decide) kd_31 cl_M (As := [.int (v6 - v6 / 24 * 24), .int t0, .int v1, .int v2]) (rest := []) (c_M_gap (v6 - v6 / 24 * 24) t0 v1 v2 _ _ h) wc_M_gap k_ml_M_158 rfl rfl (Nat.le_of_ble_eq_true rfl) (Nat.le_of_ble_eq_true rfl) hcs hl.1 (Nat.le_of_ble_eq_true rfl) rfl d_M_parts_42 (fun r42 S42 H locs h hI => ?_)
  refine lv_istore (lv' := [(8, .int r42), (7, .int t0), (0, .ref (ad 31)), (1, .int v1), (2, .int v2), (3, .int v3), (4, .int v4), (5, .int v5), (6, .int v6)]) hx hb d_M_parts_45 hl (by decide) rfl (fun ls hl => ?_)
  refine lv_iload hx hb d_M_parts_47 (lv_at hl 0 rfl) ?_
  refine lv_iload_n hx hb d_M_parts_49 rfl (lv_at hl 5 rfl) ?_
  refine lv_icmp_le (tgt := 67) hx hb d_M_parts_50 (by decide) (fun q => ?_) (fun q => ?_)
  · replace h := h.1 q
    obtain ⟨x67, e67⟩ : ∃ y : Int32, y = v6 + 1 := ⟨_, rfl⟩
    replace h := h x67 e67
    refine lv_iinc (v := x67) (lv' := [(6, .int x67), (8, .int r42), (7, .int t0), (0, .ref (ad 31)), (1, .int v1), (2, .int v2), (3, .int v3), (4, .int v4), (5, .int v5)]) hx hb d_M_parts_67 hl (k := 8) rfl (by rw [e67]; rfl) (by decide) rfl (fun ls hl => ?_)
    refine lv_goto (tgt := 11) hx hb d_M_parts_70 (by decide) ?_
    exact kK11 v3 v4 v5 x67 S42 _ _ ls h hI (lv_sub hl [3, 4, 5, 6, 7, 8, 0] rfl)
  · replace h := h.2 q
    refine lv_iload hx hb d_M_parts_53 (lv_at hl 0 rfl) ?_
    refine lv_istore_n (lv' := [(3, .int r42), (8, .int r42), (7, .int t0), (0, .ref (ad 31)), (1, .int v1), (2, .int v2), (4, .int v4), (5, .int v5), (6, .int v6)]) hx hb d_M_parts_55 rfl hl (by decide) rfl (fun ls hl => ?_)
    refine lv_iload hx hb d_M_parts_56 (lv_at hl 8 rfl) ?_
    refine lv_bipush (v := 24) hx hb d_M_parts_58 (by decide) ?_
    refine lv_irem hx hb d_M_parts_60 (by decide) ?_
    refine lv_topi (fun x61 e61 => ?_)
    replace h := h x61 e61
    refine lv_istore (lv' := [(4, .int x61), (3, .int r42), (8, .int r42), (7, .int t0), (0, .ref (ad 31)), (1, .int v1), (2, .int v2), (5, .int v5), (6, .int v6)]) hx hb d_M_parts_61 hl (by decide) rfl (fun ls hl => ?_)
    refine lv_iload hx hb d_M_parts_63 (lv_at hl 3 rfl) ?_
    refine lv_istore (lv' := [(5, .int t0), (4, .int x61), (3, .int r42), (8, .int r42), (7, .int t0), (0, .ref (ad 31)), (1, .int v1), (2, .int v2), (6, .int v6)]) hx hb d_M_parts_65 hl (by decide) rfl (fun ls hl => ?_)
    obtain ⟨x67, e67⟩ : ∃ y : Int32, y = v6 + 1 := ⟨_, rfl⟩
    replace h := h x67 e67
    refine lv_iinc (v := x67) (lv' := [(6, .int x67), (5, .int t0), (4, .int x61), (3, .int r42), (8, .int r42), (7, .int t0), (0, .ref (ad 31)), (1, .int v1), (2, .int v2)]) hx hb d_M_parts_67 hl (k := 8) rfl (by rw [e67]; rfl) (by decide) rfl (fun ls hl => ?_)
    refine lv_goto (tgt := 11) hx hb d_M_parts_70 (by decide) ?_
    exact kK11 r42 x61 t0 x67 S42 _ _ ls h hI (lv_sub hl [6, 7, 8, 3, 2, 1, 0] rfl)
set_option maxHeartbeats 4000000 in
set_option maxRecDepth 100000 in
theorem w_M_parts_11 (C : z_CT p s m args c R_M b_M_parts 9 D cA 51 ad) (hcs : cells ≤ rm_M_parts.cells ∧ slots ≤ rm_M_parts.slots) (post : Int32 → zS → Prop) (K73 : Int32 → Int32 → Int32 → zS → Prop) (v1 : Int32) (v2 : Int32) (hR : z_Ri p l e rm_M_parts s m args below meth c Q b_M_parts D cA 51 ad post) (kK73 : ∀ (v3 : Int32) (v4 : Int32) (v5 : Int32) (S : zS) (H : Heap) (locs : List Loc) (ls : Array Slot), K73 v3 v4 v5 S → z_I D cA 51 ad s.heap S H locs → lv_has ls 9 [(0, .ref (ad 31)), (1, .int v1), (2, .int v2), (3, .int v3), (4, .int v4), (5, .int v5)] → W p l e rm_M_parts s m args below meth c H locs cells slots Q (F0 m 73 ls [])) : ∀ (n : Nat) (v3 : Int32) (v4 : Int32) (v5 : Int32) (v6 : Int32) (S : zS) (H : Heap) (locs : List Loc) (ls : Array Slot), z_I D cA 51 ad s.heap S H locs → lv_has ls 9 [(0, .ref (ad 31)), (1, .int v1), (2, .int v2), (3, .int v3), (4, .int v4), (5, .int v5), (6, .int v6)] → L_M_parts_11 post K73 v1 v2 n v3 v4 v5 v6 S → W p l e rm_M_parts s m args below meth c H locs cells slots Q (F0 m 11 ls []) := by
  obtain ⟨hx, hb, hml, hown, hts, hK, hJ⟩ := id C
  intro n
  induction n with
  | zero => intro v3 v4 v5 v6 S H locs ls hI hl h; exact h.elim
  | succ n ih =>
    intro v3 v4 v5 v6 S H locs ls hI hl h
    rw [L_M_parts_11] at h
    refine lv_iload hx hb d_M_parts_11 (lv_at hl 6 rfl) ?_
    refine lv_bipush (v := 48) hx hb d_M_parts_13 (by decide) ?_
    refine lv_icmp_ge (tgt := 73) hx hb d_M_parts_15 (by decide) (fun q => ?_) (fun q => ?_)
    · replace h := h.1 q
      exact kK73 v3 v4 v5 S _ _ ls h hI (lv_sub hl [0, 1, 2, 3, 4, 5] rfl)
    · replace h := h.2 q
      refine lv_iload hx hb d_M_parts_18 (lv_at hl 6 rfl) ?_
      refine lv_bipush (v := 24) hx hb d_M_parts_20 (by decide) ?_
      refine lv_icmp_lt (tgt := 29) hx hb d_M_parts_22 (by decide) (fun q => ?_) (fun q => ?_)
      · replace h := h.1 q
        refine lv_iconst (v := 0) hx hb d_M_parts_29 (by decide) ?_
        exact w_M_parts_30 C hcs _ _ v1 v2 v3 v4 v5 v6 0 hR (fun v3 v4 v5 v6 S H locs ls h hI hl => ih v3 v4 v5 v6 S H locs ls hI hl h) S _ _ ls hI (lv_sub hl [0, 1, 2, 3, 4, 5, 6] rfl) h
      · replace h := h.2 q
        refine lv_iconst (v := 1) hx hb d_M_parts_25 (by decide) ?_
        refine lv_goto (tgt := 30) hx hb d_M_parts_26 (by decide) ?_
        exact w_M_parts_30 C hcs _ _ v1 v2 v3 v4 v5 v6 1 hR (fun v3 v4 v5 v6 S H locs ls h hI hl => ih v3 v4 v5 v6 S H locs ls hI hl h) S _ _ ls hI (lv_sub hl [0, 1, 2, 3, 4, 5, 6] rfl) h
set_option maxHeartbeats 4000000 in
set_option maxRecDepth 100000 in
theorem w_M_parts_86 (C : z_CT p s m args c R_M b_M_parts 9 D cA 51 ad) (hcs : cells ≤ rm_M_parts.cells ∧ slots ≤ rm_M_parts.slots) (post : Int32 → zS → Prop) (v2 : Int32) (v4 : Int32) (v5 : Int32) (hR : z_Ri p l e rm_M_parts s m args below meth c Q b_M_parts D cA 51 ad post) : ∀ (n : Nat) (v6 : Int32) (v7 : Int32) (S : zS) (H : Heap) (locs : List Loc) (ls : Array Slot), z_I D cA 51 ad s.heap S H locs → lv_has ls 9 [(0, .ref (ad 31)), (2, .int v2), (4, .int v4), (5, .int v5), (6, .int v6), (7, .int v7)] → L_M_parts_86 post v2 v4 v5 n v6 v7 S → W p l e rm_M_parts s m args below meth c H locs cells slots Q (F0 m 86 ls []) := by
  obtain ⟨hx, hb, hml, hown, hts, hK, hJ⟩ := id C
  intro n
  induction n with
  | zero => intro v6 v7 S H locs ls hI hl h; exact h.elim
  | succ n ih =>
    intro v6 v7 S H locs ls hI hl h
    rw [L_M_parts_86] at h
    refine lv_iload hx hb d_M_parts_86 (lv_at hl 5 rfl) ?_
    refine lv_iload_n hx hb d_M_parts_88 rfl (lv_at hl 1 rfl) ?_
    refine lv_icmp_ge (tgt := 127) hx hb d_M_parts_89 (by decide) (fun q => ?_) (fun q => ?_)
    · replace h := h.1 q
      refine lv_iload hx hb d_M_parts_127 (lv_at hl 4 rfl) ?_
      exact hR _ _ hcs v6 S _ _ 129 ls h hI d_M_parts_129
    · replace h := h.2 q
      refine lv_aload_n hx hb d_M_parts_92 rfl (lv_at hl 0 rfl) ?_
      refine lv_aload_n hx hb d_M_parts_93 rfl (lv_at hl 0 rfl) ?_
      refine z_getR C hI 31 (by decide) kd_31 cl_M iw_M 18 (by decide) k_fl_M_51 rfl d_M_parts_94 ?_
      refine lv_iload hx hb d_M_parts_97 (lv_at hl 5 rfl) ?_
      obtain ⟨h1, h⟩ := h
      refine z_ild C hI 44 (by decide) kd_44 h1 d_M_parts_99 ?_
      refine lv_iload hx hb d_M_parts_100 (lv_at hl 3 rfl) ?_
      refine z_callVi C hI 31 (by decide) kd_31 cl_M (As := [.int (S 44 (z_ix v7)), .int v5]) (rest := []) (c_M_high (S 44 (z_ix v7)) v5 _ _ h) wc_M_high k_ml_M_148 rfl rfl (Nat.le_of_ble_eq_true rfl) (Nat.le_of_ble_eq_true rfl) hcs hl.1 (Nat.le_of_ble_eq_true rfl) rfl d_M_parts_102 (fun r102 S102 H locs h hI => ?_)
      refine lv_iload hx hb d_M_parts_105 (lv_at hl 2 rfl) ?_
      refine lv_icmp_ge (tgt := 121) hx hb d_M_parts_107 (by decide) (fun q => ?_) (fun q => ?_)
      · replace h := h.1 q
        obtain ⟨x121, e121⟩ : ∃ y : Int32, y = v7 + 1 := ⟨_, rfl⟩
        replace h := h x121 e121
        refine lv_iinc (v := x121) (lv' := [(7, .int x121), (0, .ref (ad 31)), (2, .int v2), (4, .int v4), (5, .int v5), (6, .int v6)]) hx hb d_M_parts_121 hl (k := 5) rfl (by rw [e121]; rfl) (by decide) rfl (fun ls hl => ?_)
        refine lv_goto (tgt := 86) hx hb d_M_parts_124 (by decide) ?_
        exact ih v6 x121 S102 _ _ ls hI (lv_sub hl [1, 2, 3, 4, 5, 0] rfl) h
      · replace h := h.2 q
        refine lv_aload_n hx hb d_M_parts_110 rfl (lv_at hl 0 rfl) ?_
        refine lv_iload hx hb d_M_parts_111 (lv_at hl 5 rfl) ?_
        refine lv_iload hx hb d_M_parts_113 (lv_at hl 4 rfl) ?_
        refine z_callVv C hI 31 (by decide) kd_31 cl_M (As := [.int v7, .int v6]) (rest := []) (c_M_swap v7 v6 _ _ h) wc_M_swap k_ml_M_154 rfl rfl (Nat.le_of_ble_eq_true rfl) (Nat.le_of_ble_eq_true rfl) hcs hl.1 (Nat.le_of_ble_eq_true rfl) rfl d_M_parts_115 (fun S115 H locs h hI => ?_)
        obtain ⟨x118, e118⟩ : ∃ y : Int32, y = v6 + 1 := ⟨_, rfl⟩
        replace h := h x118 e118
        refine lv_iinc (v := x118) (lv' := [(6, .int x118), (0, .ref (ad 31)), (2, .int v2), (4, .int v4), (5, .int v5), (7, .int v7)]) hx hb d_M_parts_118 hl (k := 4) rfl (by rw [e118]; rfl) (by decide) rfl (fun ls hl => ?_)
        obtain ⟨x121, e121⟩ : ∃ y : Int32, y = v7 + 1 := ⟨_, rfl⟩
        replace h := h x121 e121
        refine lv_iinc (v := x121) (lv' := [(7, .int x121), (6, .int x118), (0, .ref (ad 31)), (2, .int v2), (4, .int v4), (5, .int v5)]) hx hb d_M_parts_121 hl (k := 5) rfl (by rw [e121]; rfl) (by decide) rfl (fun ls hl => ?_)
        refine lv_goto (tgt := 86) hx hb d_M_parts_124 (by decide) ?_
        exact ih x118 x121 S115 _ _ ls hI (lv_sub hl [2, 3, 4, 5, 1, 0] rfl) h
set_option maxHeartbeats 4000000 in
set_option maxRecDepth 100000 in
theorem c_M_parts (v1 : Int32) (v2 : Int32) (S : zS) (post : Int32 → zS → Prop) (h : P_M_parts v1 v2 S post) : z_cti l D cA 51 ad y_M_parts b_M_parts 9 (some .int) rm_M_parts [.ref (ad 31), .int v1, .int v2] S post := by
  refine z_meti (av := [.ref (ad 31), .int v1, .int v2]) (by decide) (Nat.le_of_ble_eq_true rfl) ⟨rfl, rfl⟩ (fun p e s m args below meth c Q ls C hcs hl hI hR => ?_)
  obtain ⟨hx, hb, hml, hown, hts, hK, hJ⟩ := id C
  unfold P_M_parts at h
  have hl : lv_has ls 9 [(0, .ref (ad 31)), (1, .int v1), (2, .int v2)] := hl
  refine lv_iconst (v := (-1)) hx hb d_M_parts_0 (by decide) ?_
  refine lv_istore_n (lv' := [(3, .int (-1)), (0, .ref (ad 31)), (1, .int v1), (2, .int v2)]) hx hb d_M_parts_1 rfl hl (by decide) rfl (fun ls hl => ?_)
  refine lv_iconst (v := 0) hx hb d_M_parts_2 (by decide) ?_
  refine lv_istore (lv' := [(4, .int 0), (3, .int (-1)), (0, .ref (ad 31)), (1, .int v1), (2, .int v2)]) hx hb d_M_parts_3 hl (by decide) rfl (fun ls hl => ?_)
  refine lv_iconst (v := 0) hx hb d_M_parts_5 (by decide) ?_
  refine lv_istore (lv' := [(5, .int 0), (4, .int 0), (3, .int (-1)), (0, .ref (ad 31)), (1, .int v1), (2, .int v2)]) hx hb d_M_parts_6 hl (by decide) rfl (fun ls hl => ?_)
  refine lv_iconst (v := 0) hx hb d_M_parts_8 (by decide) ?_
  refine lv_istore (lv' := [(6, .int 0), (5, .int 0), (4, .int 0), (3, .int (-1)), (0, .ref (ad 31)), (1, .int v1), (2, .int v2)]) hx hb d_M_parts_9 hl (by decide) rfl (fun ls hl => ?_)
  obtain ⟨k11, h⟩ := h
  refine w_M_parts_11 C hcs _ _ v1 v2 hR (fun v3_11e v4_11e v5_11e S11e H locs ls h hI hl => ?_) k11 (-1) 0 0 0 S _ _ ls hI (lv_sub hl [4, 5, 6, 3, 2, 1, 0] rfl) h
  refine lv_iload_n hx hb d_M_parts_73 rfl (lv_at hl 3 rfl) ?_
  refine lv_iconst (v := (-1)) hx hb d_M_parts_74 (by decide) ?_
  refine lv_icmp_ne (tgt := 80) hx hb d_M_parts_75 (by decide) (fun q => ?_) (fun q => ?_)
  · replace h := h.1 q
    refine lv_iload_n hx hb d_M_parts_80 rfl (lv_at hl 1 rfl) ?_
    refine lv_istore (lv' := [(6, .int v1), (0, .ref (ad 31)), (1, .int v1), (2, .int v2), (3, .int v3_11e), (4, .int v4_11e), (5, .int v5_11e)]) hx hb d_M_parts_81 hl (by decide) rfl (fun ls hl => ?_)
    refine lv_iload_n hx hb d_M_parts_83 rfl (lv_at hl 2 rfl) ?_
    refine lv_istore (lv' := [(7, .int v1), (6, .int v1), (0, .ref (ad 31)), (1, .int v1), (2, .int v2), (3, .int v3_11e), (4, .int v4_11e), (5, .int v5_11e)]) hx hb d_M_parts_84 hl (by decide) rfl (fun ls hl => ?_)
    obtain ⟨k86, h⟩ := h
    refine w_M_parts_86 C hcs _ v2 v4_11e v5_11e hR k86 v1 v1 S11e _ _ ls hI (lv_sub hl [2, 4, 6, 7, 1, 0] rfl) h
  · replace h := h.2 q
    refine lv_iload_n hx hb d_M_parts_78 rfl (lv_at hl 2 rfl) ?_
    exact hR _ _ hcs v2 S11e _ _ 79 ls h hI d_M_parts_79
set_option maxHeartbeats 4000000 in
set_option maxRecDepth 100000 in
theorem w_M_takeOrder_2 (C : z_CT p s m args c R_M b_M_takeOrder 5 D cA 51 ad) (hcs : cells ≤ rm_M_takeOrder.cells ∧ slots ≤ rm_M_takeOrder.slots) (post : zS → Prop) (K23 : zS → Prop) (hR : z_Rv p l e rm_M_takeOrder s m args below meth c Q b_M_takeOrder D cA 51 ad post) (kK23 : ∀ (S : zS) (H : Heap) (locs : List Loc) (ls : Array Slot), K23 S → z_I D cA 51 ad s.heap S H locs → lv_has ls 5 [(0, .ref (ad 31))] → W p l e rm_M_takeOrder s m args below meth c H locs cells slots Q (F0 m 23 ls [])) : ∀ (n : Nat) (v1 : Int32) (S : zS) (H : Heap) (locs : List Loc) (ls : Array Slot), z_I D cA 51 ad s.heap S H locs → lv_has ls 5 [(0, .ref (ad 31)), (1, .int v1)] → L_M_takeOrder_2 post K23 n v1 S → W p l e rm_M_takeOrder s m args below meth c H locs cells slots Q (F0 m 2 ls []) := by
  obtain ⟨hx, hb, hml, hown, hts, hK, hJ⟩ := id C
  intro n
  induction n with
  | zero => intro v1 S H locs ls hI hl h; exact h.elim
  | succ n ih =>
    intro v1 S H locs ls hI hl h
    rw [L_M_takeOrder_2] at h
    refine lv_iload_n hx hb d_M_takeOrder_2 rfl (lv_at hl 1 rfl) ?_
    refine lv_aload_n hx hb d_M_takeOrder_3 rfl (lv_at hl 0 rfl) ?_
    refine z_getI C hI 31 (by decide) kd_31 cl_M iw_M 12 (by decide) k_fl_M_116 rfl d_M_takeOrder_4 ?_
    refine lv_icmp_ge (tgt := 23) hx hb d_M_takeOrder_7 (by decide) (fun q => ?_) (fun q => ?_)
    · replace h := h.1 q
      exact kK23 S _ _ ls h hI (lv_sub hl [0] rfl)
    · replace h := h.2 q
      refine lv_aload_n hx hb d_M_takeOrder_10 rfl (lv_at hl 0 rfl) ?_
      refine z_getR C hI 31 (by decide) kd_31 cl_M iw_M 18 (by decide) k_fl_M_51 rfl d_M_takeOrder_11 ?_
      refine lv_iload_n hx hb d_M_takeOrder_14 rfl (lv_at hl 1 rfl) ?_
      refine lv_iload_n hx hb d_M_takeOrder_15 rfl (lv_at hl 1 rfl) ?_
      obtain ⟨h1, h⟩ := h
      refine z_ist C hI 44 (by decide) kd_44 h1 d_M_takeOrder_16 (fun S16 eS H locs hI => ?_)
      replace h := h S16 eS
      obtain ⟨x17, e17⟩ : ∃ y : Int32, y = v1 + 1 := ⟨_, rfl⟩
      replace h := h x17 e17
      refine lv_iinc (v := x17) (lv' := [(1, .int x17), (0, .ref (ad 31))]) hx hb d_M_takeOrder_17 hl (k := 1) rfl (by rw [e17]; rfl) (by decide) rfl (fun ls hl => ?_)
      refine lv_goto (tgt := 2) hx hb d_M_takeOrder_20 (by decide) ?_
      exact ih x17 S16 _ _ ls hI (lv_sub hl [1, 0] rfl) h
set_option maxHeartbeats 4000000 in
set_option maxRecDepth 100000 in
theorem w_M_takeOrder_80 (C : z_CT p s m args c R_M b_M_takeOrder 5 D cA 51 ad) (hcs : cells ≤ rm_M_takeOrder.cells ∧ slots ≤ rm_M_takeOrder.slots) (post : zS → Prop) (K42 : Int32 → zS → Prop) (v1 : Int32) (v2 : Int32) (v3 : Int32) (t0 : Int32) (hR : z_Rv p l e rm_M_takeOrder s m args below meth c Q b_M_takeOrder D cA 51 ad post) (kK42 : ∀ (v1 : Int32) (S : zS) (H : Heap) (locs : List Loc) (ls : Array Slot), K42 v1 S → z_I D cA 51 ad s.heap S H locs → lv_has ls 5 [(0, .ref (ad 31)), (1, .int v1)] → W p l e rm_M_takeOrder s m args below meth c H locs cells slots Q (F0 m 42 ls [])) (S : zS) (H : Heap) (locs : List Loc) (ls : Array Slot) (hI : z_I D cA 51 ad s.heap S H locs) (hl : lv_has ls 5 [(0, .ref (ad 31)), (1, .int v1), (2, .int v2), (3, .int v3)]) (h : J_M_takeOrder_80 post K42 v1 v2 v3 t0 S) : W p l e rm_M_takeOrder s m args below meth c H locs cells slots Q (F0 m 80 ls [.int t0]) := by
  obtain ⟨hx, hb, hml, hown, hts, hK, hJ⟩ := id C
  unfold J_M_takeOrder_80 at h
  refine lv_istore (lv' := [(4, .int t0), (0, .ref (ad 31)), (1, .int v1), (2, .int v2), (3, .int v3)]) hx hb d_M_takeOrder_80 hl (by decide) rfl (fun ls hl => ?_)
  refine lv_iload hx hb d_M_takeOrder_82 (lv_at hl 0 rfl) ?_
  refine lv_iload_n hx hb d_M_takeOrder_84 rfl (lv_at hl 4 rfl) ?_
  refine lv_icmp_ne (tgt := 97) hx hb d_M_takeOrder_85 (by decide) (fun q => ?_) (fun q => ?_)
  · replace h := h.1 q
    refine lv_aload_n hx hb d_M_takeOrder_97 rfl (lv_at hl 1 rfl) ?_
    refine z_getR C hI 31 (by decide) kd_31 cl_M iw_M 25 (by decide) k_fl_M_63 rfl d_M_takeOrder_98 ?_
    refine lv_iload_n hx hb d_M_takeOrder_101 rfl (lv_at hl 2 rfl) ?_
    refine lv_iload_n hx hb d_M_takeOrder_102 rfl (lv_at hl 3 rfl) ?_
    obtain ⟨h1, h⟩ := h
    refine z_ist C hI 48 (by decide) kd_48 h1 d_M_takeOrder_103 (fun S103 eS H locs hI => ?_)
    replace h := h S103 eS
    refine lv_aload_n hx hb d_M_takeOrder_104 rfl (lv_at hl 1 rfl) ?_
    refine z_getR C hI 31 (by decide) kd_31 cl_M iw_M 26 (by decide) k_fl_M_66 rfl d_M_takeOrder_105 ?_
    refine lv_iload_n hx hb d_M_takeOrder_108 rfl (lv_at hl 2 rfl) ?_
    refine lv_iload hx hb d_M_takeOrder_109 (lv_at hl 0 rfl) ?_
    obtain ⟨h1, h⟩ := h
    refine z_ist C hI 49 (by decide) kd_49 h1 d_M_takeOrder_111 (fun S111 eS H locs hI => ?_)
    replace h := h S111 eS
    refine lv_aload_n hx hb d_M_takeOrder_112 rfl (lv_at hl 1 rfl) ?_
    refine z_getR C hI 31 (by decide) kd_31 cl_M iw_M 25 (by decide) k_fl_M_63 rfl d_M_takeOrder_113 ?_
    refine lv_iload_n hx hb d_M_takeOrder_116 rfl (lv_at hl 2 rfl) ?_
    refine lv_iconst (v := 1) hx hb d_M_takeOrder_117 (by decide) ?_
    refine lv_iadd hx hb d_M_takeOrder_118 ?_
    refine lv_iload hx hb d_M_takeOrder_119 (lv_at hl 0 rfl) ?_
    obtain ⟨h1, h⟩ := h
    refine z_ist C hI 48 (by decide) kd_48 h1 d_M_takeOrder_121 (fun S121 eS H locs hI => ?_)
    replace h := h S121 eS
    refine lv_aload_n hx hb d_M_takeOrder_122 rfl (lv_at hl 1 rfl) ?_
    refine z_getR C hI 31 (by decide) kd_31 cl_M iw_M 26 (by decide) k_fl_M_66 rfl d_M_takeOrder_123 ?_
    refine lv_iload_n hx hb d_M_takeOrder_126 rfl (lv_at hl 2 rfl) ?_
    refine lv_iconst (v := 1) hx hb d_M_takeOrder_127 (by decide) ?_
    refine lv_iadd hx hb d_M_takeOrder_128 ?_
    refine lv_iload_n hx hb d_M_takeOrder_129 rfl (lv_at hl 4 rfl) ?_
    obtain ⟨h1, h⟩ := h
    refine z_ist C hI 49 (by decide) kd_49 h1 d_M_takeOrder_130 (fun S130 eS H locs hI => ?_)
    replace h := h S130 eS
    refine lv_iload_n hx hb d_M_takeOrder_131 rfl (lv_at hl 2 rfl) ?_
    refine lv_iconst (v := 2) hx hb d_M_takeOrder_132 (by decide) ?_
    refine lv_iadd hx hb d_M_takeOrder_133 ?_
    refine lv_topi (fun x134 e134 => ?_)
    replace h := h x134 e134
    refine lv_istore_n (lv' := [(1, .int x134), (4, .int t0), (0, .ref (ad 31)), (2, .int v2), (3, .int v3)]) hx hb d_M_takeOrder_134 rfl hl (by decide) rfl (fun ls hl => ?_)
    refine lv_goto (tgt := 42) hx hb d_M_takeOrder_135 (by decide) ?_
    exact kK42 x134 S130 _ _ ls h hI (lv_sub hl [2, 0] rfl)
  · replace h := h.2 q
    refine lv_aload_n hx hb d_M_takeOrder_88 rfl (lv_at hl 1 rfl) ?_
    refine lv_iload_n hx hb d_M_takeOrder_89 rfl (lv_at hl 3 rfl) ?_
    refine lv_iload_n hx hb d_M_takeOrder_90 rfl (lv_at hl 4 rfl) ?_
    refine z_callVv C hI 31 (by decide) kd_31 cl_M (As := [.int v2, .int v3]) (rest := []) (c_M_sort v2 v3 _ _ h) wc_M_sort k_ml_M_165 rfl rfl (Nat.le_of_ble_eq_true rfl) (Nat.le_of_ble_eq_true rfl) hcs hl.1 (Nat.le_of_ble_eq_true rfl) rfl d_M_takeOrder_91 (fun S91 H locs h hI => ?_)
    refine lv_goto (tgt := 135) hx hb d_M_takeOrder_94 (by decide) ?_
    refine lv_goto (tgt := 42) hx hb d_M_takeOrder_135 (by decide) ?_
    exact kK42 v1 S91 _ _ ls h hI (lv_sub hl [1, 2] rfl)
set_option maxHeartbeats 4000000 in
set_option maxRecDepth 100000 in
theorem w_M_takeOrder_42 (C : z_CT p s m args c R_M b_M_takeOrder 5 D cA 51 ad) (hcs : cells ≤ rm_M_takeOrder.cells ∧ slots ≤ rm_M_takeOrder.slots) (post : zS → Prop) (hR : z_Rv p l e rm_M_takeOrder s m args below meth c Q b_M_takeOrder D cA 51 ad post) : ∀ (n : Nat) (v1 : Int32) (S : zS) (H : Heap) (locs : List Loc) (ls : Array Slot), z_I D cA 51 ad s.heap S H locs → lv_has ls 5 [(0, .ref (ad 31)), (1, .int v1)] → L_M_takeOrder_42 post n v1 S → W p l e rm_M_takeOrder s m args below meth c H locs cells slots Q (F0 m 42 ls []) := by
  obtain ⟨hx, hb, hml, hown, hts, hK, hJ⟩ := id C
  intro n
  induction n with
  | zero => intro v1 S H locs ls hI hl h; exact h.elim
  | succ n ih =>
    intro v1 S H locs ls hI hl h
    rw [L_M_takeOrder_42] at h
    refine lv_iload_n hx hb d_M_takeOrder_42 rfl (lv_at hl 1 rfl) ?_
    refine lv_if_le (tgt := 138) hx hb d_M_takeOrder_43 (by decide) (fun q => ?_) (fun q => ?_)
    · replace h := h.1 q
      exact hR _ _ hcs S _ _ 138 ls h hI d_M_takeOrder_138
    · replace h := h.2 q
      obtain ⟨x46, e46⟩ : ∃ y : Int32, y = v1 + (-1) := ⟨_, rfl⟩
      replace h := h x46 e46
      refine lv_iinc (v := x46) (lv' := [(1, .int x46), (0, .ref (ad 31))]) hx hb d_M_takeOrder_46 hl (k := 1) rfl (by rw [e46]; rfl) (by decide) rfl (fun ls hl => ?_)
      refine lv_aload_n hx hb d_M_takeOrder_49 rfl (lv_at hl 1 rfl) ?_
      refine z_getR C hI 31 (by decide) kd_31 cl_M iw_M 25 (by decide) k_fl_M_63 rfl d_M_takeOrder_50 ?_
      refine lv_iload_n hx hb d_M_takeOrder_53 rfl (lv_at hl 0 rfl) ?_
      obtain ⟨h1, h⟩ := h
      refine z_ild C hI 48 (by decide) kd_48 h1 d_M_takeOrder_54 ?_
      refine lv_topi (fun x55 e55 => ?_)
      replace h := h x55 e55
      refine lv_istore_n (lv' := [(2, .int x55), (1, .int x46), (0, .ref (ad 31))]) hx hb d_M_takeOrder_55 rfl hl (by decide) rfl (fun ls hl => ?_)
      refine lv_aload_n hx hb d_M_takeOrder_56 rfl (lv_at hl 2 rfl) ?_
      refine z_getR C hI 31 (by decide) kd_31 cl_M iw_M 26 (by decide) k_fl_M_66 rfl d_M_takeOrder_57 ?_
      refine lv_iload_n hx hb d_M_takeOrder_60 rfl (lv_at hl 1 rfl) ?_
      obtain ⟨h1, h⟩ := h
      refine z_ild C hI 49 (by decide) kd_49 h1 d_M_takeOrder_61 ?_
      refine lv_topi (fun x62 e62 => ?_)
      replace h := h x62 e62
      refine lv_istore_n (lv' := [(3, .int x62), (2, .int x55), (1, .int x46), (0, .ref (ad 31))]) hx hb d_M_takeOrder_62 rfl hl (by decide) rfl (fun ls hl => ?_)
      refine lv_iload_n hx hb d_M_takeOrder_63 rfl (lv_at hl 0 rfl) ?_
      refine lv_iload_n hx hb d_M_takeOrder_64 rfl (lv_at hl 1 rfl) ?_
      refine lv_isub hx hb d_M_takeOrder_65 ?_
      refine lv_iconst (v := 1) hx hb d_M_takeOrder_66 (by decide) ?_
      refine lv_icmp_le (tgt := 79) hx hb d_M_takeOrder_67 (by decide) (fun q => ?_) (fun q => ?_)
      · replace h := h.1 q
        refine lv_iload_n hx hb d_M_takeOrder_79 rfl (lv_at hl 0 rfl) ?_
        exact w_M_takeOrder_80 C hcs _ _ x46 x55 x62 x62 hR (fun v1 S H locs ls h hI hl => ih v1 S H locs ls hI hl h) S _ _ ls hI (lv_sub hl [3, 2, 1, 0] rfl) h
      · replace h := h.2 q
        refine lv_aload_n hx hb d_M_takeOrder_70 rfl (lv_at hl 3 rfl) ?_
        refine lv_iload_n hx hb d_M_takeOrder_71 rfl (lv_at hl 1 rfl) ?_
        refine lv_iload_n hx hb d_M_takeOrder_72 rfl (lv_at hl 0 rfl) ?_
        refine z_callVi C hI 31 (by decide) kd_31 cl_M (As := [.int x55, .int x62]) (rest := []) (c_M_parts x55 x62 _ _ h) wc_M_parts k_ml_M_162 rfl rfl (Nat.le_of_ble_eq_true rfl) (Nat.le_of_ble_eq_true rfl) hcs hl.1 (Nat.le_of_ble_eq_true rfl) rfl d_M_takeOrder_73 (fun r73 S73 H locs h hI => ?_)
        refine lv_goto (tgt := 80) hx hb d_M_takeOrder_76 (by decide) ?_
        exact w_M_takeOrder_80 C hcs _ _ x46 x55 x62 r73 hR (fun v1 S H locs ls h hI hl => ih v1 S H locs ls hI hl h) S73 _ _ ls hI (lv_sub hl [3, 2, 1, 0] rfl) h
set_option maxHeartbeats 4000000 in
set_option maxRecDepth 100000 in
theorem c_M_takeOrder (S : zS) (post : zS → Prop) (h : P_M_takeOrder S post) : z_ctv l D cA 51 ad y_M_takeOrder b_M_takeOrder 5 none rm_M_takeOrder [.ref (ad 31)] S post := by
  refine z_metv (av := [.ref (ad 31)]) (by decide) (Nat.le_of_ble_eq_true rfl) ⟨rfl, rfl⟩ (fun p e s m args below meth c Q ls C hcs hl hI hR => ?_)
  obtain ⟨hx, hb, hml, hown, hts, hK, hJ⟩ := id C
  unfold P_M_takeOrder at h
  have hl : lv_has ls 5 [(0, .ref (ad 31))] := hl
  refine lv_iconst (v := 0) hx hb d_M_takeOrder_0 (by decide) ?_
  refine lv_istore_n (lv' := [(1, .int 0), (0, .ref (ad 31))]) hx hb d_M_takeOrder_1 rfl hl (by decide) rfl (fun ls hl => ?_)
  obtain ⟨k2, h⟩ := h
  refine w_M_takeOrder_2 C hcs _ _ hR (fun S2e H locs ls h hI hl => ?_) k2 0 S _ _ ls hI (lv_sub hl [1, 0] rfl) h
  refine lv_iconst (v := 1) hx hb d_M_takeOrder_23 (by decide) ?_
  refine lv_istore_n (lv' := [(1, .int 1), (0, .ref (ad 31))]) hx hb d_M_takeOrder_24 rfl hl (by decide) rfl (fun ls hl => ?_)
  refine lv_aload_n hx hb d_M_takeOrder_25 rfl (lv_at hl 1 rfl) ?_
  refine z_getR C hI 31 (by decide) kd_31 cl_M iw_M 25 (by decide) k_fl_M_63 rfl d_M_takeOrder_26 ?_
  refine lv_iconst (v := 0) hx hb d_M_takeOrder_29 (by decide) ?_
  refine lv_iconst (v := 0) hx hb d_M_takeOrder_30 (by decide) ?_
  obtain ⟨h1, h⟩ := h
  refine z_ist C hI 48 (by decide) kd_48 h1 d_M_takeOrder_31 (fun S31 eS H locs hI => ?_)
  replace h := h S31 eS
  refine lv_aload_n hx hb d_M_takeOrder_32 rfl (lv_at hl 1 rfl) ?_
  refine z_getR C hI 31 (by decide) kd_31 cl_M iw_M 26 (by decide) k_fl_M_66 rfl d_M_takeOrder_33 ?_
  refine lv_iconst (v := 0) hx hb d_M_takeOrder_36 (by decide) ?_
  refine lv_aload_n hx hb d_M_takeOrder_37 rfl (lv_at hl 1 rfl) ?_
  refine z_getI C hI 31 (by decide) kd_31 cl_M iw_M 12 (by decide) k_fl_M_116 rfl d_M_takeOrder_38 ?_
  obtain ⟨h1, h⟩ := h
  refine z_ist C hI 49 (by decide) kd_49 h1 d_M_takeOrder_41 (fun S41 eS H locs hI => ?_)
  replace h := h S41 eS
  obtain ⟨k42, h⟩ := h
  refine w_M_takeOrder_42 C hcs _ hR k42 1 S41 _ _ ls hI (lv_sub hl [1, 0] rfl) h
set_option maxHeartbeats 4000000 in
set_option maxRecDepth 100000 in
theorem w_M_run_26 (C : z_CT p s m args c R_M b_M_run 3 D cA 51 ad) (hcs : cells ≤ rm_M_run.cells ∧ slots ≤ rm_M_run.slots) (post : Int32 → zS → Prop) (v1 : Int32) (v2 : Int32) (t0 : Int32) (hR : z_Ri p l e rm_M_run s m args below meth c Q b_M_run D cA 51 ad post) (S : zS) (H : Heap) (locs : List Loc) (ls : Array Slot) (hI : z_I D cA 51 ad s.heap S H locs) (hl : lv_has ls 3 [(0, .ref (ad 31)), (1, .int v1), (2, .int v2)]) (h : J_M_run_26 post v1 v2 t0 S) : W p l e rm_M_run s m args below meth c H locs cells slots Q (F0 m 26 ls [.int t0, .ref (ad 31)]) := by
  obtain ⟨hx, hb, hml, hown, hts, hK, hJ⟩ := id C
  unfold J_M_run_26 at h
  refine lv_iconst (v := 1) hx hb d_M_run_26 (by decide) ?_
  refine lv_iconst (v := 1) hx hb d_M_run_27 (by decide) ?_
  refine z_callVi C hI 31 (by decide) kd_31 cl_M (As := [.int t0, .int 1, .int 1]) (rest := []) (c_M_goes t0 1 1 _ _ h) wc_M_goes k_ml_M_90 rfl rfl (Nat.le_of_ble_eq_true rfl) (Nat.le_of_ble_eq_true rfl) hcs hl.1 (Nat.le_of_ble_eq_true rfl) rfl d_M_run_28 (fun r28 S28 H locs h hI => ?_)
  refine lv_if_ne (tgt := 36) hx hb d_M_run_31 (by decide) (fun q => ?_) (fun q => ?_)
  · replace h := h.1 q
    refine lv_aload_n hx hb d_M_run_36 rfl (lv_at hl 0 rfl) ?_
    refine lv_iload_n hx hb d_M_run_37 rfl (lv_at hl 1 rfl) ?_
    refine lv_iload_n hx hb d_M_run_38 rfl (lv_at hl 2 rfl) ?_
    refine z_callVv C hI 31 (by decide) kd_31 cl_M (As := [.int v1, .int v2]) (rest := []) (c_M_takeInk v1 v2 _ _ h) wc_M_takeInk k_ml_M_168 rfl rfl (Nat.le_of_ble_eq_true rfl) (Nat.le_of_ble_eq_true rfl) hcs hl.1 (Nat.le_of_ble_eq_true rfl) rfl d_M_run_39 (fun S39 H locs h hI => ?_)
    refine lv_aload_n hx hb d_M_run_42 rfl (lv_at hl 0 rfl) ?_
    refine z_callVv C hI 31 (by decide) kd_31 cl_M (As := []) (rest := []) (c_M_takeParts _ _ h) wc_M_takeParts k_ml_M_171 rfl rfl (Nat.le_of_ble_eq_true rfl) (Nat.le_of_ble_eq_true rfl) hcs hl.1 (Nat.le_of_ble_eq_true rfl) rfl d_M_run_43 (fun S43 H locs h hI => ?_)
    refine lv_aload_n hx hb d_M_run_46 rfl (lv_at hl 0 rfl) ?_
    refine z_callVv C hI 31 (by decide) kd_31 cl_M (As := []) (rest := []) (c_M_takeCovers _ _ h) wc_M_takeCovers k_ml_M_174 rfl rfl (Nat.le_of_ble_eq_true rfl) (Nat.le_of_ble_eq_true rfl) hcs hl.1 (Nat.le_of_ble_eq_true rfl) rfl d_M_run_47 (fun S47 H locs h hI => ?_)
    refine lv_aload_n hx hb d_M_run_50 rfl (lv_at hl 0 rfl) ?_
    refine z_callVv C hI 31 (by decide) kd_31 cl_M (As := []) (rest := []) (c_M_takeStrips _ _ h) wc_M_takeStrips k_ml_M_177 rfl rfl (Nat.le_of_ble_eq_true rfl) (Nat.le_of_ble_eq_true rfl) hcs hl.1 (Nat.le_of_ble_eq_true rfl) rfl d_M_run_51 (fun S51 H locs h hI => ?_)
    refine lv_aload_n hx hb d_M_run_54 rfl (lv_at hl 0 rfl) ?_
    refine z_callVv C hI 31 (by decide) kd_31 cl_M (As := []) (rest := []) (c_M_takeCells _ _ h) wc_M_takeCells k_ml_M_180 rfl rfl (Nat.le_of_ble_eq_true rfl) (Nat.le_of_ble_eq_true rfl) hcs hl.1 (Nat.le_of_ble_eq_true rfl) rfl d_M_run_55 (fun S55 H locs h hI => ?_)
    refine lv_aload_n hx hb d_M_run_58 rfl (lv_at hl 0 rfl) ?_
    refine z_callVv C hI 31 (by decide) kd_31 cl_M (As := []) (rest := []) (c_M_takeOrder _ _ h) wc_M_takeOrder k_ml_M_183 rfl rfl (Nat.le_of_ble_eq_true rfl) (Nat.le_of_ble_eq_true rfl) hcs hl.1 (Nat.le_of_ble_eq_true rfl) rfl d_M_run_59 (fun S59 H locs h hI => ?_)
    refine lv_aload_n hx hb d_M_run_62 rfl (lv_at hl 0 rfl) ?_
    refine lv_iconst (v := 1) hx hb d_M_run_63 (by decide) ?_
    refine z_putZ C hI 31 (by decide) kd_31 cl_M iw_M ty_M ty_M_ok n_M 5 (by decide) k_fl_M_94 rfl rfl rfl (by decide) d_M_run_64 (fun S64 eS H locs hI => ?_)
    replace h := h S64 eS
    refine lv_aload_n hx hb d_M_run_67 rfl (lv_at hl 0 rfl) ?_
    refine z_getI C hI 31 (by decide) kd_31 cl_M iw_M 12 (by decide) k_fl_M_116 rfl d_M_run_68 ?_
    exact hR _ _ hcs (S64 31 12) S64 _ _ 71 ls h hI d_M_run_71
  · replace h := h.2 q
    refine lv_iconst (v := 0) hx hb d_M_run_34 (by decide) ?_
    exact hR _ _ hcs 0 S28 _ _ 35 ls h hI d_M_run_35
set_option maxHeartbeats 4000000 in
set_option maxRecDepth 100000 in
theorem w_M_run_25 (C : z_CT p s m args c R_M b_M_run 3 D cA 51 ad) (hcs : cells ≤ rm_M_run.cells ∧ slots ≤ rm_M_run.slots) (post : Int32 → zS → Prop) (v1 : Int32) (v2 : Int32) (hR : z_Ri p l e rm_M_run s m args below meth c Q b_M_run D cA 51 ad post) (S : zS) (H : Heap) (locs : List Loc) (ls : Array Slot) (hI : z_I D cA 51 ad s.heap S H locs) (hl : lv_has ls 3 [(0, .ref (ad 31)), (1, .int v1), (2, .int v2)]) (h : J_M_run_25 post v1 v2 S) : W p l e rm_M_run s m args below meth c H locs cells slots Q (F0 m 25 ls [.ref (ad 31)]) := by
  obtain ⟨hx, hb, hml, hown, hts, hK, hJ⟩ := id C
  unfold J_M_run_25 at h
  refine lv_iconst (v := 0) hx hb d_M_run_25 (by decide) ?_
  exact w_M_run_26 C hcs _ v1 v2 0 hR S _ _ ls hI (lv_sub hl [0, 1, 2] rfl) h
set_option maxHeartbeats 4000000 in
set_option maxRecDepth 100000 in
theorem c_M_run (v1 : Int32) (v2 : Int32) (S : zS) (post : Int32 → zS → Prop) (h : P_M_run v1 v2 S post) : z_cti l D cA 51 ad y_M_run b_M_run 3 (some .int) rm_M_run [.ref (ad 31), .int v1, .int v2] S post := by
  refine z_meti (av := [.ref (ad 31), .int v1, .int v2]) (by decide) (Nat.le_of_ble_eq_true rfl) ⟨rfl, rfl⟩ (fun p e s m args below meth c Q ls C hcs hl hI hR => ?_)
  obtain ⟨hx, hb, hml, hown, hts, hK, hJ⟩ := id C
  unfold P_M_run at h
  have hl : lv_has ls 3 [(0, .ref (ad 31)), (1, .int v1), (2, .int v2)] := hl
  refine lv_aload_n hx hb d_M_run_0 rfl (lv_at hl 0 rfl) ?_
  refine lv_iload_n hx hb d_M_run_1 rfl (lv_at hl 1 rfl) ?_
  refine lv_iconst (v := 0) hx hb d_M_run_2 (by decide) ?_
  refine lv_bipush (v := 24) hx hb d_M_run_3 (by decide) ?_
  refine z_callSi C hI (As := [.int v1, .int 0, .int 24]) (rest := [.ref (ad 31)]) (c_M_in v1 0 24 _ _ h) wc_M_in k_ml_M_82 rfl rfl (Nat.le_of_ble_eq_true rfl) (Nat.le_of_ble_eq_true rfl) hcs hl.1 (Nat.le_of_ble_eq_true rfl) rfl d_M_run_5 (fun r5 S5 H locs h hI => ?_)
  refine lv_if_eq (tgt := 25) hx hb d_M_run_8 (by decide) (fun q => ?_) (fun q => ?_)
  · replace h := h.1 q
    exact w_M_run_25 C hcs _ v1 v2 hR S5 _ _ ls hI (lv_sub hl [0, 1, 2] rfl) h
  · replace h := h.2 q
    refine lv_iload_n hx hb d_M_run_11 rfl (lv_at hl 2 rfl) ?_
    refine lv_iconst (v := 0) hx hb d_M_run_12 (by decide) ?_
    refine lv_bipush (v := 24) hx hb d_M_run_13 (by decide) ?_
    refine z_callSi C hI (As := [.int v2, .int 0, .int 24]) (rest := [.ref (ad 31)]) (c_M_in v2 0 24 _ _ h) wc_M_in k_ml_M_82 rfl rfl (Nat.le_of_ble_eq_true rfl) (Nat.le_of_ble_eq_true rfl) hcs hl.1 (Nat.le_of_ble_eq_true rfl) rfl d_M_run_15 (fun r15 S15 H locs h hI => ?_)
    refine lv_if_eq (tgt := 25) hx hb d_M_run_18 (by decide) (fun q => ?_) (fun q => ?_)
    · replace h := h.1 q
      exact w_M_run_25 C hcs _ v1 v2 hR S15 _ _ ls hI (lv_sub hl [0, 1, 2] rfl) h
    · replace h := h.2 q
      refine lv_iconst (v := 1) hx hb d_M_run_21 (by decide) ?_
      refine lv_goto (tgt := 26) hx hb d_M_run_22 (by decide) ?_
      exact w_M_run_26 C hcs _ v1 v2 1 hR S15 _ _ ls hI (lv_sub hl [0, 1, 2] rfl) h
set_option maxHeartbeats 4000000 in
set_option maxRecDepth 100000 in
theorem w_M_lines_70 (C : z_CT p s m args c R_M b_M_lines 6 D cA 51 ad) (hcs : cells ≤ rm_M_lines.cells ∧ slots ≤ rm_M_lines.slots) (post : Int32 → zS → Prop) (K12 : Int32 → Int32 → Int32 → zS → Prop) (v1 : Int32) (v4 : Int32) (v5 : Int32) (t0 : Int32) (hR : z_Ri p l e rm_M_lines s m args below meth c Q b_M_lines D cA 51 ad post) (kK12 : ∀ (v2 : Int32) (v3 : Int32) (v4 : Int32) (S : zS) (H : Heap) (locs : List Loc) (ls : Array Slot), K12 v2 v3 v4 S → z_I D cA 51 ad s.heap S H locs → lv_has ls 6 [(0, .ref (ad 31)), (1, .int v1), (2, .int v2), (3, .int v3), (4, .int v4)] → W p l e rm_M_lines s m args below meth c H locs cells slots Q (F0 m 12 ls [])) (S : zS) (H : Heap) (locs : List Loc) (ls : Array Slot) (hI : z_I D cA 51 ad s.heap S H locs) (hl : lv_has ls 6 [(0, .ref (ad 31)), (1, .int v1), (4, .int v4), (5, .int v5)]) (h : J_M_lines_70 post K12 v1 v4 v5 t0 S) : W p l e rm_M_lines s m args below meth c H locs cells slots Q (F0 m 70 ls [.int t0]) := by
  obtain ⟨hx, hb, hml, hown, hts, hK, hJ⟩ := id C
  unfold J_M_lines_70 at h
  refine lv_istore_n (lv' := [(2, .int t0), (0, .ref (ad 31)), (1, .int v1), (4, .int v4), (5, .int v5)]) hx hb d_M_lines_70 rfl hl (by decide) rfl (fun ls hl => ?_)
  refine lv_iload hx hb d_M_lines_71 (lv_at hl 4 rfl) ?_
  refine lv_istore_n (lv' := [(3, .int v5), (2, .int t0), (0, .ref (ad 31)), (1, .int v1), (4, .int v4), (5, .int v5)]) hx hb d_M_lines_73 rfl hl (by decide) rfl (fun ls hl => ?_)
  obtain ⟨x74, e74⟩ : ∃ y : Int32, y = v4 + 1 := ⟨_, rfl⟩
  replace h := h x74 e74
  refine lv_iinc (v := x74) (lv' := [(4, .int x74), (3, .int v5), (2, .int t0), (0, .ref (ad 31)), (1, .int v1), (5, .int v5)]) hx hb d_M_lines_74 hl (k := 4) rfl (by rw [e74]; rfl) (by decide) rfl (fun ls hl => ?_)
  refine lv_goto (tgt := 12) hx hb d_M_lines_77 (by decide) ?_
  exact kK12 t0 v5 x74 S _ _ ls h hI (lv_sub hl [3, 4, 2, 1, 0] rfl)
set_option maxHeartbeats 4000000 in
set_option maxRecDepth 100000 in
theorem w_M_lines_69 (C : z_CT p s m args c R_M b_M_lines 6 D cA 51 ad) (hcs : cells ≤ rm_M_lines.cells ∧ slots ≤ rm_M_lines.slots) (post : Int32 → zS → Prop) (K12 : Int32 → Int32 → Int32 → zS → Prop) (v1 : Int32) (v2 : Int32) (v4 : Int32) (v5 : Int32) (hR : z_Ri p l e rm_M_lines s m args below meth c Q b_M_lines D cA 51 ad post) (kK12 : ∀ (v2 : Int32) (v3 : Int32) (v4 : Int32) (S : zS) (H : Heap) (locs : List Loc) (ls : Array Slot), K12 v2 v3 v4 S → z_I D cA 51 ad s.heap S H locs → lv_has ls 6 [(0, .ref (ad 31)), (1, .int v1), (2, .int v2), (3, .int v3), (4, .int v4)] → W p l e rm_M_lines s m args below meth c H locs cells slots Q (F0 m 12 ls [])) (S : zS) (H : Heap) (locs : List Loc) (ls : Array Slot) (hI : z_I D cA 51 ad s.heap S H locs) (hl : lv_has ls 6 [(0, .ref (ad 31)), (1, .int v1), (2, .int v2), (4, .int v4), (5, .int v5)]) (h : J_M_lines_69 post K12 v1 v2 v4 v5 S) : W p l e rm_M_lines s m args below meth c H locs cells slots Q (F0 m 69 ls []) := by
  obtain ⟨hx, hb, hml, hown, hts, hK, hJ⟩ := id C
  unfold J_M_lines_69 at h
  refine lv_iload_n hx hb d_M_lines_69 rfl (lv_at hl 2 rfl) ?_
  exact w_M_lines_70 C hcs _ _ v1 v4 v5 v2 hR kK12 S _ _ ls hI (lv_sub hl [0, 1, 3, 4] rfl) h
set_option maxHeartbeats 4000000 in
set_option maxRecDepth 100000 in
theorem w_M_lines_52 (C : z_CT p s m args c R_M b_M_lines 6 D cA 51 ad) (hcs : cells ≤ rm_M_lines.cells ∧ slots ≤ rm_M_lines.slots) (post : Int32 → zS → Prop) (K12 : Int32 → Int32 → Int32 → zS → Prop) (v1 : Int32) (v2 : Int32) (v3 : Int32) (v4 : Int32) (t0 : Int32) (hR : z_Ri p l e rm_M_lines s m args below meth c Q b_M_lines D cA 51 ad post) (kK12 : ∀ (v2 : Int32) (v3 : Int32) (v4 : Int32) (S : zS) (H : Heap) (locs : List Loc) (ls : Array Slot), K12 v2 v3 v4 S → z_I D cA 51 ad s.heap S H locs → lv_has ls 6 [(0, .ref (ad 31)), (1, .int v1), (2, .int v2), (3, .int v3), (4, .int v4)] → W p l e rm_M_lines s m args below meth c H locs cells slots Q (F0 m 12 ls [])) (S : zS) (H : Heap) (locs : List Loc) (ls : Array Slot) (hI : z_I D cA 51 ad s.heap S H locs) (hl : lv_has ls 6 [(0, .ref (ad 31)), (1, .int v1), (2, .int v2), (3, .int v3), (4, .int v4)]) (h : J_M_lines_52 post K12 v1 v2 v3 v4 t0 S) : W p l e rm_M_lines s m args below meth c H locs cells slots Q (F0 m 52 ls [.int t0]) := by
  obtain ⟨hx, hb, hml, hown, hts, hK, hJ⟩ := id C
  unfold J_M_lines_52 at h
  refine lv_istore (lv' := [(5, .int t0), (0, .ref (ad 31)), (1, .int v1), (2, .int v2), (3, .int v3), (4, .int v4)]) hx hb d_M_lines_52 hl (by decide) rfl (fun ls hl => ?_)
  refine lv_iload hx hb d_M_lines_54 (lv_at hl 0 rfl) ?_
  refine lv_if_eq (tgt := 69) hx hb d_M_lines_56 (by decide) (fun q => ?_) (fun q => ?_)
  · replace h := h.1 q
    exact w_M_lines_69 C hcs _ _ v1 v2 v4 t0 hR kK12 S _ _ ls hI (lv_sub hl [1, 2, 3, 5, 0] rfl) h
  · replace h := h.2 q
    refine lv_iload_n hx hb d_M_lines_59 rfl (lv_at hl 4 rfl) ?_
    refine lv_if_ne (tgt := 69) hx hb d_M_lines_60 (by decide) (fun q => ?_) (fun q => ?_)
    · replace h := h.1 q
      exact w_M_lines_69 C hcs _ _ v1 v2 v4 t0 hR kK12 S _ _ ls hI (lv_sub hl [1, 2, 3, 5, 0] rfl) h
    · replace h := h.2 q
      refine lv_iload_n hx hb d_M_lines_63 rfl (lv_at hl 3 rfl) ?_
      refine lv_iconst (v := 1) hx hb d_M_lines_64 (by decide) ?_
      refine lv_iadd hx hb d_M_lines_65 ?_
      refine lv_goto (tgt := 70) hx hb d_M_lines_66 (by decide) ?_
      exact w_M_lines_70 C hcs _ _ v1 v4 t0 (v2 + 1) hR kK12 S _ _ ls hI (lv_sub hl [1, 2, 5, 0] rfl) h
set_option maxHeartbeats 4000000 in
set_option maxRecDepth 100000 in
theorem w_M_lines_12 (C : z_CT p s m args c R_M b_M_lines 6 D cA 51 ad) (hcs : cells ≤ rm_M_lines.cells ∧ slots ≤ rm_M_lines.slots) (post : Int32 → zS → Prop) (v1 : Int32) (hR : z_Ri p l e rm_M_lines s m args below meth c Q b_M_lines D cA 51 ad post) : ∀ (n : Nat) (v2 : Int32) (v3 : Int32) (v4 : Int32) (S : zS) (H : Heap) (locs : List Loc) (ls : Array Slot), z_I D cA 51 ad s.heap S H locs → lv_has ls 6 [(0, .ref (ad 31)), (1, .int v1), (2, .int v2), (3, .int v3), (4, .int v4)] → L_M_lines_12 post v1 n v2 v3 v4 S → W p l e rm_M_lines s m args below meth c H locs cells slots Q (F0 m 12 ls []) := by
  obtain ⟨hx, hb, hml, hown, hts, hK, hJ⟩ := id C
  intro n
  induction n with
  | zero => intro v2 v3 v4 S H locs ls hI hl h; exact h.elim
  | succ n ih =>
    intro v2 v3 v4 S H locs ls hI hl h
    rw [L_M_lines_12] at h
    refine lv_iload hx hb d_M_lines_12 (lv_at hl 4 rfl) ?_
    refine lv_aload_n hx hb d_M_lines_14 rfl (lv_at hl 0 rfl) ?_
    refine z_getR C hI 31 (by decide) kd_31 cl_M iw_M 16 (by decide) k_fl_M_45 rfl d_M_lines_15 ?_
    refine lv_iload_n hx hb d_M_lines_18 rfl (lv_at hl 1 rfl) ?_
    obtain ⟨h1, h⟩ := h
    refine z_ild C hI 42 (by decide) kd_42 h1 d_M_lines_19 ?_
    refine lv_icmp_gt (tgt := 80) hx hb d_M_lines_20 (by decide) (fun q => ?_) (fun q => ?_)
    · replace h := h.1 q
      refine lv_iload_n hx hb d_M_lines_80 rfl (lv_at hl 2 rfl) ?_
      exact hR _ _ hcs v2 S _ _ 81 ls h hI d_M_lines_81
    · replace h := h.2 q
      refine lv_aload_n hx hb d_M_lines_23 rfl (lv_at hl 0 rfl) ?_
      refine lv_aload_n hx hb d_M_lines_24 rfl (lv_at hl 0 rfl) ?_
      refine z_getR C hI 31 (by decide) kd_31 cl_M iw_M 13 (by decide) k_fl_M_36 rfl d_M_lines_25 ?_
      refine lv_iload_n hx hb d_M_lines_28 rfl (lv_at hl 1 rfl) ?_
      obtain ⟨h1, h⟩ := h
      refine z_ild C hI 39 (by decide) kd_39 h1 d_M_lines_29 ?_
      refine lv_iload hx hb d_M_lines_30 (lv_at hl 4 rfl) ?_
      refine lv_aload_n hx hb d_M_lines_32 rfl (lv_at hl 0 rfl) ?_
      refine z_getR C hI 31 (by decide) kd_31 cl_M iw_M 15 (by decide) k_fl_M_42 rfl d_M_lines_33 ?_
      refine lv_iload_n hx hb d_M_lines_36 rfl (lv_at hl 1 rfl) ?_
      obtain ⟨h1, h⟩ := h
      refine z_ild C hI 41 (by decide) kd_41 h1 d_M_lines_37 ?_
      refine lv_iload hx hb d_M_lines_38 (lv_at hl 4 rfl) ?_
      refine lv_iload_n hx hb d_M_lines_40 rfl (lv_at hl 1 rfl) ?_
      refine z_callVi C hI 31 (by decide) kd_31 cl_M (As := [.int (S 39 (z_ix v1)), .int v4, .int (S 41 (z_ix v1)), .int v4, .int v1]) (rest := []) (c_M_cleanIn (S 39 (z_ix v1)) v4 (S 41 (z_ix v1)) v4 v1 _ _ h) wc_M_cleanIn k_ml_M_123 rfl rfl (Nat.le_of_ble_eq_true rfl) (Nat.le_of_ble_eq_true rfl) hcs hl.1 (Nat.le_of_ble_eq_true rfl) rfl d_M_lines_41 (fun r41 S41 H locs h hI => ?_)
      refine lv_if_le (tgt := 51) hx hb d_M_lines_44 (by decide) (fun q => ?_) (fun q => ?_)
      · replace h := h.1 q
        refine lv_iconst (v := 0) hx hb d_M_lines_51 (by decide) ?_
        exact w_M_lines_52 C hcs _ _ v1 v2 v3 v4 0 hR (fun v2 v3 v4 S H locs ls h hI hl => ih v2 v3 v4 S H locs ls hI hl h) S41 _ _ ls hI (lv_sub hl [0, 1, 2, 3, 4] rfl) h
      · replace h := h.2 q
        refine lv_iconst (v := 1) hx hb d_M_lines_47 (by decide) ?_
        refine lv_goto (tgt := 52) hx hb d_M_lines_48 (by decide) ?_
        exact w_M_lines_52 C hcs _ _ v1 v2 v3 v4 1 hR (fun v2 v3 v4 S H locs ls h hI hl => ih v2 v3 v4 S H locs ls hI hl h) S41 _ _ ls hI (lv_sub hl [0, 1, 2, 3, 4] rfl) h
set_option maxHeartbeats 4000000 in
set_option maxRecDepth 100000 in
theorem c_M_lines (v1 : Int32) (S : zS) (post : Int32 → zS → Prop) (h : P_M_lines v1 S post) : z_cti l D cA 51 ad y_M_lines b_M_lines 6 (some .int) rm_M_lines [.ref (ad 31), .int v1] S post := by
  refine z_meti (av := [.ref (ad 31), .int v1]) (by decide) (Nat.le_of_ble_eq_true rfl) ⟨rfl, rfl⟩ (fun p e s m args below meth c Q ls C hcs hl hI hR => ?_)
  obtain ⟨hx, hb, hml, hown, hts, hK, hJ⟩ := id C
  unfold P_M_lines at h
  have hl : lv_has ls 6 [(0, .ref (ad 31)), (1, .int v1)] := hl
  refine lv_iconst (v := 0) hx hb d_M_lines_0 (by decide) ?_
  refine lv_istore_n (lv' := [(2, .int 0), (0, .ref (ad 31)), (1, .int v1)]) hx hb d_M_lines_1 rfl hl (by decide) rfl (fun ls hl => ?_)
  refine lv_iconst (v := 0) hx hb d_M_lines_2 (by decide) ?_
  refine lv_istore_n (lv' := [(3, .int 0), (2, .int 0), (0, .ref (ad 31)), (1, .int v1)]) hx hb d_M_lines_3 rfl hl (by decide) rfl (fun ls hl => ?_)
  refine lv_aload_n hx hb d_M_lines_4 rfl (lv_at hl 2 rfl) ?_
  refine z_getR C hI 31 (by decide) kd_31 cl_M iw_M 14 (by decide) k_fl_M_39 rfl d_M_lines_5 ?_
  refine lv_iload_n hx hb d_M_lines_8 rfl (lv_at hl 3 rfl) ?_
  obtain ⟨h1, h⟩ := h
  refine z_ild C hI 40 (by decide) kd_40 h1 d_M_lines_9 ?_
  refine lv_topi (fun x10 e10 => ?_)
  replace h := h x10 e10
  refine lv_istore (lv' := [(4, .int x10), (3, .int 0), (2, .int 0), (0, .ref (ad 31)), (1, .int v1)]) hx hb d_M_lines_10 hl (by decide) rfl (fun ls hl => ?_)
  obtain ⟨k12, h⟩ := h
  refine w_M_lines_12 C hcs _ v1 hR k12 0 0 x10 S _ _ ls hI (lv_sub hl [3, 4, 2, 1, 0] rfl) h
set_option maxHeartbeats 4000000 in
set_option maxRecDepth 100000 in
theorem w_M_inkOf_15 (C : z_CT p s m args c R_M b_M_inkOf 5 D cA 51 ad) (hcs : cells ≤ rm_M_inkOf.cells ∧ slots ≤ rm_M_inkOf.slots) (post : Int32 → zS → Prop) (K54 : Int32 → zS → Prop) (v1 : Int32) (v3 : Int32) (hR : z_Ri p l e rm_M_inkOf s m args below meth c Q b_M_inkOf D cA 51 ad post) (kK54 : ∀ (v2 : Int32) (S : zS) (H : Heap) (locs : List Loc) (ls : Array Slot), K54 v2 S → z_I D cA 51 ad s.heap S H locs → lv_has ls 5 [(0, .ref (ad 31)), (1, .int v1), (2, .int v2), (3, .int v3)] → W p l e rm_M_inkOf s m args below meth c H locs cells slots Q (F0 m 54 ls [])) : ∀ (n : Nat) (v2 : Int32) (v4 : Int32) (S : zS) (H : Heap) (locs : List Loc) (ls : Array Slot), z_I D cA 51 ad s.heap S H locs → lv_has ls 5 [(0, .ref (ad 31)), (1, .int v1), (2, .int v2), (3, .int v3), (4, .int v4)] → L_M_inkOf_15 post K54 v1 v3 n v2 v4 S → W p l e rm_M_inkOf s m args below meth c H locs cells slots Q (F0 m 15 ls []) := by
  obtain ⟨hx, hb, hml, hown, hts, hK, hJ⟩ := id C
  intro n
  induction n with
  | zero => intro v2 v4 S H locs ls hI hl h; exact h.elim
  | succ n ih =>
    intro v2 v4 S H locs ls hI hl h
    rw [L_M_inkOf_15] at h
    refine lv_iload hx hb d_M_inkOf_15 (lv_at hl 4 rfl) ?_
    refine lv_aload_n hx hb d_M_inkOf_17 rfl (lv_at hl 0 rfl) ?_
    refine z_getI C hI 31 (by decide) kd_31 cl_M iw_M 1 (by decide) k_fl_M_73 rfl d_M_inkOf_18 ?_
    refine lv_icmp_ge (tgt := 54) hx hb d_M_inkOf_21 (by decide) (fun q => ?_) (fun q => ?_)
    · replace h := h.1 q
      exact kK54 v2 S _ _ ls h hI (lv_sub hl [0, 1, 2, 3] rfl)
    · replace h := h.2 q
      refine lv_aload_n hx hb d_M_inkOf_24 rfl (lv_at hl 0 rfl) ?_
      refine z_getR C hI 31 (by decide) kd_31 cl_M iw_M 11 (by decide) k_fl_M_33 rfl d_M_inkOf_25 ?_
      refine lv_bipush (v := 24) hx hb d_M_inkOf_28 (by decide) ?_
      refine lv_iload_n hx hb d_M_inkOf_30 rfl (lv_at hl 3 rfl) ?_
      refine lv_imul hx hb d_M_inkOf_31 ?_
      refine lv_iload hx hb d_M_inkOf_32 (lv_at hl 4 rfl) ?_
      refine lv_iadd hx hb d_M_inkOf_34 ?_
      obtain ⟨h1, h⟩ := h
      refine z_ild C hI 38 (by decide) kd_38 h1 d_M_inkOf_35 ?_
      refine lv_iload_n hx hb d_M_inkOf_36 rfl (lv_at hl 1 rfl) ?_
      refine lv_icmp_ne (tgt := 46) hx hb d_M_inkOf_37 (by decide) (fun q => ?_) (fun q => ?_)
      · replace h := h.1 q
        refine lv_iload_n hx hb d_M_inkOf_46 rfl (lv_at hl 2 rfl) ?_
        refine lv_istore_n (lv' := [(2, .int v2), (0, .ref (ad 31)), (1, .int v1), (3, .int v3), (4, .int v4)]) hx hb d_M_inkOf_47 rfl hl (by decide) rfl (fun ls hl => ?_)
        obtain ⟨x48, e48⟩ : ∃ y : Int32, y = v4 + 1 := ⟨_, rfl⟩
        replace h := h x48 e48
        refine lv_iinc (v := x48) (lv' := [(4, .int x48), (2, .int v2), (0, .ref (ad 31)), (1, .int v1), (3, .int v3)]) hx hb d_M_inkOf_48 hl (k := 4) rfl (by rw [e48]; rfl) (by decide) rfl (fun ls hl => ?_)
        refine lv_goto (tgt := 15) hx hb d_M_inkOf_51 (by decide) ?_
        exact ih v2 x48 S _ _ ls hI (lv_sub hl [2, 3, 1, 4, 0] rfl) h
      · replace h := h.2 q
        refine lv_iload_n hx hb d_M_inkOf_40 rfl (lv_at hl 2 rfl) ?_
        refine lv_iconst (v := 1) hx hb d_M_inkOf_41 (by decide) ?_
        refine lv_iadd hx hb d_M_inkOf_42 ?_
        refine lv_goto (tgt := 47) hx hb d_M_inkOf_43 (by decide) ?_
        refine lv_topi (fun x47 e47 => ?_)
        replace h := h x47 e47
        refine lv_istore_n (lv' := [(2, .int x47), (0, .ref (ad 31)), (1, .int v1), (3, .int v3), (4, .int v4)]) hx hb d_M_inkOf_47 rfl hl (by decide) rfl (fun ls hl => ?_)
        obtain ⟨x48, e48⟩ : ∃ y : Int32, y = v4 + 1 := ⟨_, rfl⟩
        replace h := h x48 e48
        refine lv_iinc (v := x48) (lv' := [(4, .int x48), (2, .int x47), (0, .ref (ad 31)), (1, .int v1), (3, .int v3)]) hx hb d_M_inkOf_48 hl (k := 4) rfl (by rw [e48]; rfl) (by decide) rfl (fun ls hl => ?_)
        refine lv_goto (tgt := 15) hx hb d_M_inkOf_51 (by decide) ?_
        exact ih x47 x48 S _ _ ls hI (lv_sub hl [2, 3, 1, 4, 0] rfl) h
set_option maxHeartbeats 4000000 in
set_option maxRecDepth 100000 in
theorem w_M_inkOf_4 (C : z_CT p s m args c R_M b_M_inkOf 5 D cA 51 ad) (hcs : cells ≤ rm_M_inkOf.cells ∧ slots ≤ rm_M_inkOf.slots) (post : Int32 → zS → Prop) (v1 : Int32) (hR : z_Ri p l e rm_M_inkOf s m args below meth c Q b_M_inkOf D cA 51 ad post) : ∀ (n : Nat) (v2 : Int32) (v3 : Int32) (S : zS) (H : Heap) (locs : List Loc) (ls : Array Slot), z_I D cA 51 ad s.heap S H locs → lv_has ls 5 [(0, .ref (ad 31)), (1, .int v1), (2, .int v2), (3, .int v3)] → L_M_inkOf_4 post v1 n v2 v3 S → W p l e rm_M_inkOf s m args below meth c H locs cells slots Q (F0 m 4 ls []) := by
  obtain ⟨hx, hb, hml, hown, hts, hK, hJ⟩ := id C
  intro n
  induction n with
  | zero => intro v2 v3 S H locs ls hI hl h; exact h.elim
  | succ n ih =>
    intro v2 v3 S H locs ls hI hl h
    rw [L_M_inkOf_4] at h
    refine lv_iload_n hx hb d_M_inkOf_4 rfl (lv_at hl 3 rfl) ?_
    refine lv_aload_n hx hb d_M_inkOf_5 rfl (lv_at hl 0 rfl) ?_
    refine z_getI C hI 31 (by decide) kd_31 cl_M iw_M 2 (by decide) k_fl_M_76 rfl d_M_inkOf_6 ?_
    refine lv_icmp_ge (tgt := 60) hx hb d_M_inkOf_9 (by decide) (fun q => ?_) (fun q => ?_)
    · replace h := h.1 q
      refine lv_iload_n hx hb d_M_inkOf_60 rfl (lv_at hl 2 rfl) ?_
      exact hR _ _ hcs v2 S _ _ 61 ls h hI d_M_inkOf_61
    · replace h := h.2 q
      refine lv_iconst (v := 0) hx hb d_M_inkOf_12 (by decide) ?_
      refine lv_istore (lv' := [(4, .int 0), (0, .ref (ad 31)), (1, .int v1), (2, .int v2), (3, .int v3)]) hx hb d_M_inkOf_13 hl (by decide) rfl (fun ls hl => ?_)
      obtain ⟨k15, h⟩ := h
      refine w_M_inkOf_15 C hcs _ _ v1 v3 hR (fun v2_15e S15e H locs ls h hI hl => ?_) k15 v2 0 S _ _ ls hI (lv_sub hl [1, 2, 3, 4, 0] rfl) h
      obtain ⟨x54, e54⟩ : ∃ y : Int32, y = v3 + 1 := ⟨_, rfl⟩
      replace h := h x54 e54
      refine lv_iinc (v := x54) (lv' := [(3, .int x54), (0, .ref (ad 31)), (1, .int v1), (2, .int v2_15e)]) hx hb d_M_inkOf_54 hl (k := 3) rfl (by rw [e54]; rfl) (by decide) rfl (fun ls hl => ?_)
      refine lv_goto (tgt := 4) hx hb d_M_inkOf_57 (by decide) ?_
      exact ih v2_15e x54 S15e _ _ ls hI (lv_sub hl [1, 2, 3, 0] rfl) h
set_option maxHeartbeats 4000000 in
set_option maxRecDepth 100000 in
theorem c_M_inkOf (v1 : Int32) (S : zS) (post : Int32 → zS → Prop) (h : P_M_inkOf v1 S post) : z_cti l D cA 51 ad y_M_inkOf b_M_inkOf 5 (some .int) rm_M_inkOf [.ref (ad 31), .int v1] S post := by
  refine z_meti (av := [.ref (ad 31), .int v1]) (by decide) (Nat.le_of_ble_eq_true rfl) ⟨rfl, rfl⟩ (fun p e s m args below meth c Q ls C hcs hl hI hR => ?_)
  obtain ⟨hx, hb, hml, hown, hts, hK, hJ⟩ := id C
  unfold P_M_inkOf at h
  have hl : lv_has ls 5 [(0, .ref (ad 31)), (1, .int v1)] := hl
  refine lv_iconst (v := 0) hx hb d_M_inkOf_0 (by decide) ?_
  refine lv_istore_n (lv' := [(2, .int 0), (0, .ref (ad 31)), (1, .int v1)]) hx hb d_M_inkOf_1 rfl hl (by decide) rfl (fun ls hl => ?_)
  refine lv_iconst (v := 0) hx hb d_M_inkOf_2 (by decide) ?_
  refine lv_istore_n (lv' := [(3, .int 0), (2, .int 0), (0, .ref (ad 31)), (1, .int v1)]) hx hb d_M_inkOf_3 rfl hl (by decide) rfl (fun ls hl => ?_)
  obtain ⟨k4, h⟩ := h
  refine w_M_inkOf_4 C hcs _ v1 hR k4 0 0 S _ _ ls hI (lv_sub hl [2, 3, 1, 0] rfl) h
set_option maxHeartbeats 4000000 in
set_option maxRecDepth 100000 in
theorem c_M_part (v1 : Int32) (v2 : Int32) (S : zS) (post : Int32 → zS → Prop) (h : P_M_part v1 v2 S post) : z_cti l D cA 51 ad y_M_part b_M_part 3 (some .int) rm_M_part [.ref (ad 31), .int v1, .int v2] S post := by
  refine z_meti (av := [.ref (ad 31), .int v1, .int v2]) (by decide) (Nat.le_of_ble_eq_true rfl) ⟨rfl, rfl⟩ (fun p e s m args below meth c Q ls C hcs hl hI hR => ?_)
  obtain ⟨hx, hb, hml, hown, hts, hK, hJ⟩ := id C
  unfold P_M_part at h
  have hl : lv_has ls 3 [(0, .ref (ad 31)), (1, .int v1), (2, .int v2)] := hl
  refine lv_aload_n hx hb d_M_part_0 rfl (lv_at hl 0 rfl) ?_
  refine lv_aload_n hx hb d_M_part_1 rfl (lv_at hl 0 rfl) ?_
  refine z_getI C hI 31 (by decide) kd_31 cl_M iw_M 5 (by decide) k_fl_M_94 rfl d_M_part_2 ?_
  refine lv_iload_n hx hb d_M_part_5 rfl (lv_at hl 1 rfl) ?_
  refine lv_iconst (v := 0) hx hb d_M_part_6 (by decide) ?_
  refine lv_aload_n hx hb d_M_part_7 rfl (lv_at hl 0 rfl) ?_
  refine z_getI C hI 31 (by decide) kd_31 cl_M iw_M 12 (by decide) k_fl_M_116 rfl d_M_part_8 ?_
  refine lv_iconst (v := 1) hx hb d_M_part_11 (by decide) ?_
  refine lv_isub hx hb d_M_part_12 ?_
  refine z_callSi C hI (As := [.int v1, .int 0, .int ((S 31 12) - 1)]) (rest := [.int (S 31 5), .ref (ad 31)]) (c_M_in v1 0 ((S 31 12) - 1) _ _ h) wc_M_in k_ml_M_82 rfl rfl (Nat.le_of_ble_eq_true rfl) (Nat.le_of_ble_eq_true rfl) hcs hl.1 (Nat.le_of_ble_eq_true rfl) rfl d_M_part_13 (fun r13 S13 H locs h hI => ?_)
  refine lv_iload_n hx hb d_M_part_16 rfl (lv_at hl 2 rfl) ?_
  refine lv_iconst (v := 0) hx hb d_M_part_17 (by decide) ?_
  refine lv_bipush (v := 7) hx hb d_M_part_18 (by decide) ?_
  refine z_callSi C hI (As := [.int v2, .int 0, .int 7]) (rest := [.int r13, .int (S 31 5), .ref (ad 31)]) (c_M_in v2 0 7 _ _ h) wc_M_in k_ml_M_82 rfl rfl (Nat.le_of_ble_eq_true rfl) (Nat.le_of_ble_eq_true rfl) hcs hl.1 (Nat.le_of_ble_eq_true rfl) rfl d_M_part_20 (fun r20 S20 H locs h hI => ?_)
  refine z_callVi C hI 31 (by decide) kd_31 cl_M (As := [.int (S 31 5), .int r13, .int r20]) (rest := []) (c_M_goes (S 31 5) r13 r20 _ _ h) wc_M_goes k_ml_M_90 rfl rfl (Nat.le_of_ble_eq_true rfl) (Nat.le_of_ble_eq_true rfl) hcs hl.1 (Nat.le_of_ble_eq_true rfl) rfl d_M_part_23 (fun r23 S23 H locs h hI => ?_)
  refine lv_if_ne (tgt := 31) hx hb d_M_part_26 (by decide) (fun q => ?_) (fun q => ?_)
  · replace h := h.1 q
    refine lv_iload_n hx hb d_M_part_31 rfl (lv_at hl 2 rfl) ?_
    by_cases q : v2 = 0
    · replace h := h.1 q
      refine lv_tableIn (tgt := 76) hx hb d_M_part_32 (by rw [q]; decide) (by rw [q]; decide) (by rw [q]; rfl) (by decide) ?_
      refine lv_aload_n hx hb d_M_part_76 rfl (lv_at hl 0 rfl) ?_
      refine z_getR C hI 31 (by decide) kd_31 cl_M iw_M 13 (by decide) k_fl_M_36 rfl d_M_part_77 ?_
      refine lv_iload_n hx hb d_M_part_80 rfl (lv_at hl 1 rfl) ?_
      obtain ⟨h1, h⟩ := h
      refine z_ild C hI 39 (by decide) kd_39 h1 d_M_part_81 ?_
      exact hR _ _ hcs (S23 39 (z_ix v1)) S23 _ _ 82 ls h hI d_M_part_82
    replace h := h.2
    have q0 := q
    clear q
    by_cases q : v2 = 1
    · replace h := h.1 q
      refine lv_tableIn (tgt := 83) hx hb d_M_part_32 (by rw [q]; decide) (by rw [q]; decide) (by rw [q]; rfl) (by decide) ?_
      refine lv_aload_n hx hb d_M_part_83 rfl (lv_at hl 0 rfl) ?_
      refine z_getR C hI 31 (by decide) kd_31 cl_M iw_M 14 (by decide) k_fl_M_39 rfl d_M_part_84 ?_
      refine lv_iload_n hx hb d_M_part_87 rfl (lv_at hl 1 rfl) ?_
      obtain ⟨h1, h⟩ := h
      refine z_ild C hI 40 (by decide) kd_40 h1 d_M_part_88 ?_
      exact hR _ _ hcs (S23 40 (z_ix v1)) S23 _ _ 89 ls h hI d_M_part_89
    replace h := h.2
    have q1 := q
    clear q
    by_cases q : v2 = 2
    · replace h := h.1 q
      refine lv_tableIn (tgt := 90) hx hb d_M_part_32 (by rw [q]; decide) (by rw [q]; decide) (by rw [q]; rfl) (by decide) ?_
      refine lv_aload_n hx hb d_M_part_90 rfl (lv_at hl 0 rfl) ?_
      refine z_getR C hI 31 (by decide) kd_31 cl_M iw_M 15 (by decide) k_fl_M_42 rfl d_M_part_91 ?_
      refine lv_iload_n hx hb d_M_part_94 rfl (lv_at hl 1 rfl) ?_
      obtain ⟨h1, h⟩ := h
      refine z_ild C hI 41 (by decide) kd_41 h1 d_M_part_95 ?_
      refine lv_aload_n hx hb d_M_part_96 rfl (lv_at hl 0 rfl) ?_
      refine z_getR C hI 31 (by decide) kd_31 cl_M iw_M 13 (by decide) k_fl_M_36 rfl d_M_part_97 ?_
      refine lv_iload_n hx hb d_M_part_100 rfl (lv_at hl 1 rfl) ?_
      obtain ⟨h1, h⟩ := h
      refine z_ild C hI 39 (by decide) kd_39 h1 d_M_part_101 ?_
      refine lv_isub hx hb d_M_part_102 ?_
      refine lv_iconst (v := 1) hx hb d_M_part_103 (by decide) ?_
      refine lv_iadd hx hb d_M_part_104 ?_
      exact hR _ _ hcs (((S23 41 (z_ix v1)) - (S23 39 (z_ix v1))) + 1) S23 _ _ 105 ls h hI d_M_part_105
    replace h := h.2
    have q2 := q
    clear q
    by_cases q : v2 = 3
    · replace h := h.1 q
      refine lv_tableIn (tgt := 106) hx hb d_M_part_32 (by rw [q]; decide) (by rw [q]; decide) (by rw [q]; rfl) (by decide) ?_
      refine lv_aload_n hx hb d_M_part_106 rfl (lv_at hl 0 rfl) ?_
      refine z_getR C hI 31 (by decide) kd_31 cl_M iw_M 16 (by decide) k_fl_M_45 rfl d_M_part_107 ?_
      refine lv_iload_n hx hb d_M_part_110 rfl (lv_at hl 1 rfl) ?_
      obtain ⟨h1, h⟩ := h
      refine z_ild C hI 42 (by decide) kd_42 h1 d_M_part_111 ?_
      refine lv_aload_n hx hb d_M_part_112 rfl (lv_at hl 0 rfl) ?_
      refine z_getR C hI 31 (by decide) kd_31 cl_M iw_M 14 (by decide) k_fl_M_39 rfl d_M_part_113 ?_
      refine lv_iload_n hx hb d_M_part_116 rfl (lv_at hl 1 rfl) ?_
      obtain ⟨h1, h⟩ := h
      refine z_ild C hI 40 (by decide) kd_40 h1 d_M_part_117 ?_
      refine lv_isub hx hb d_M_part_118 ?_
      refine lv_iconst (v := 1) hx hb d_M_part_119 (by decide) ?_
      refine lv_iadd hx hb d_M_part_120 ?_
      exact hR _ _ hcs (((S23 42 (z_ix v1)) - (S23 40 (z_ix v1))) + 1) S23 _ _ 121 ls h hI d_M_part_121
    replace h := h.2
    have q3 := q
    clear q
    by_cases q : v2 = 4
    · replace h := h.1 q
      refine lv_tableIn (tgt := 122) hx hb d_M_part_32 (by rw [q]; decide) (by rw [q]; decide) (by rw [q]; rfl) (by decide) ?_
      refine lv_aload_n hx hb d_M_part_122 rfl (lv_at hl 0 rfl) ?_
      refine lv_iconst (v := 0) hx hb d_M_part_123 (by decide) ?_
      refine lv_iconst (v := 0) hx hb d_M_part_124 (by decide) ?_
      refine lv_aload_n hx hb d_M_part_125 rfl (lv_at hl 0 rfl) ?_
      refine z_getI C hI 31 (by decide) kd_31 cl_M iw_M 1 (by decide) k_fl_M_73 rfl d_M_part_126 ?_
      refine lv_iconst (v := 1) hx hb d_M_part_129 (by decide) ?_
      refine lv_isub hx hb d_M_part_130 ?_
      refine lv_aload_n hx hb d_M_part_131 rfl (lv_at hl 0 rfl) ?_
      refine z_getI C hI 31 (by decide) kd_31 cl_M iw_M 2 (by decide) k_fl_M_76 rfl d_M_part_132 ?_
      refine lv_iconst (v := 1) hx hb d_M_part_135 (by decide) ?_
      refine lv_isub hx hb d_M_part_136 ?_
      refine lv_iload_n hx hb d_M_part_137 rfl (lv_at hl 1 rfl) ?_
      refine z_callVi C hI 31 (by decide) kd_31 cl_M (As := [.int 0, .int 0, .int ((S23 31 1) - 1), .int ((S23 31 2) - 1), .int v1]) (rest := []) (c_M_cleanIn 0 0 ((S23 31 1) - 1) ((S23 31 2) - 1) v1 _ _ h) wc_M_cleanIn k_ml_M_123 rfl rfl (Nat.le_of_ble_eq_true rfl) (Nat.le_of_ble_eq_true rfl) hcs hl.1 (Nat.le_of_ble_eq_true rfl) rfl d_M_part_138 (fun r138 S138 H locs h hI => ?_)
      exact hR _ _ hcs r138 S138 _ _ 141 ls h hI d_M_part_141
    replace h := h.2
    have q4 := q
    clear q
    by_cases q : v2 = 5
    · replace h := h.1 q
      refine lv_tableIn (tgt := 142) hx hb d_M_part_32 (by rw [q]; decide) (by rw [q]; decide) (by rw [q]; rfl) (by decide) ?_
      refine lv_aload_n hx hb d_M_part_142 rfl (lv_at hl 0 rfl) ?_
      refine z_getR C hI 31 (by decide) kd_31 cl_M iw_M 17 (by decide) k_fl_M_48 rfl d_M_part_143 ?_
      refine lv_iload_n hx hb d_M_part_146 rfl (lv_at hl 1 rfl) ?_
      obtain ⟨h1, h⟩ := h
      refine z_ild C hI 43 (by decide) kd_43 h1 d_M_part_147 ?_
      exact hR _ _ hcs (S23 43 (z_ix v1)) S23 _ _ 148 ls h hI d_M_part_148
    replace h := h.2
    have q5 := q
    clear q
    by_cases q : v2 = 6
    · replace h := h.1 q
      refine lv_tableIn (tgt := 149) hx hb d_M_part_32 (by rw [q]; decide) (by rw [q]; decide) (by rw [q]; rfl) (by decide) ?_
      refine lv_aload_n hx hb d_M_part_149 rfl (lv_at hl 0 rfl) ?_
      refine lv_iload_n hx hb d_M_part_150 rfl (lv_at hl 1 rfl) ?_
      refine z_callVi C hI 31 (by decide) kd_31 cl_M (As := [.int v1]) (rest := []) (c_M_lines v1 _ _ h) wc_M_lines k_ml_M_186 rfl rfl (Nat.le_of_ble_eq_true rfl) (Nat.le_of_ble_eq_true rfl) hcs hl.1 (Nat.le_of_ble_eq_true rfl) rfl d_M_part_151 (fun r151 S151 H locs h hI => ?_)
      exact hR _ _ hcs r151 S151 _ _ 154 ls h hI d_M_part_154
    replace h := h.2
    have q6 := q
    clear q
    replace h := h q0 q1 q2 q3 q4 q5 q6
    refine lv_tableOut (tgt := 155) hx hb d_M_part_32 (by have a0 := lv_neT (a := 0) q0 (by decide); have a1 := lv_neT (a := 1) q1 (by decide); have a2 := lv_neT (a := 2) q2 (by decide); have a3 := lv_neT (a := 3) q3 (by decide); have a4 := lv_neT (a := 4) q4 (by decide); have a5 := lv_neT (a := 5) q5 (by decide); have a6 := lv_neT (a := 6) q6 (by decide); omega) (by decide) ?_
    refine lv_aload_n hx hb d_M_part_155 rfl (lv_at hl 0 rfl) ?_
    refine lv_iload_n hx hb d_M_part_156 rfl (lv_at hl 1 rfl) ?_
    refine z_callVi C hI 31 (by decide) kd_31 cl_M (As := [.int v1]) (rest := []) (c_M_inkOf v1 _ _ h) wc_M_inkOf k_ml_M_189 rfl rfl (Nat.le_of_ble_eq_true rfl) (Nat.le_of_ble_eq_true rfl) hcs hl.1 (Nat.le_of_ble_eq_true rfl) rfl d_M_part_157 (fun r157 S157 H locs h hI => ?_)
    exact hR _ _ hcs r157 S157 _ _ 160 ls h hI d_M_part_160
  · replace h := h.2 q
    refine lv_iconst (v := 0) hx hb d_M_part_29 (by decide) ?_
    exact hR _ _ hcs 0 S23 _ _ 30 ls h hI d_M_part_30
set_option maxHeartbeats 4000000 in
set_option maxRecDepth 100000 in
theorem c_M_partOf (v1 : Int32) (v2 : Int32) (S : zS) (post : Int32 → zS → Prop) (h : P_M_partOf v1 v2 S post) : z_cti l D cA 51 ad y_M_partOf b_M_partOf 3 (some .int) rm_M_partOf [.ref (ad 31), .int v1, .int v2] S post := by
  refine z_meti (av := [.ref (ad 31), .int v1, .int v2]) (by decide) (Nat.le_of_ble_eq_true rfl) ⟨rfl, rfl⟩ (fun p e s m args below meth c Q ls C hcs hl hI hR => ?_)
  obtain ⟨hx, hb, hml, hown, hts, hK, hJ⟩ := id C
  unfold P_M_partOf at h
  have hl : lv_has ls 3 [(0, .ref (ad 31)), (1, .int v1), (2, .int v2)] := hl
  refine lv_aload_n hx hb d_M_partOf_0 rfl (lv_at hl 0 rfl) ?_
  refine lv_aload_n hx hb d_M_partOf_1 rfl (lv_at hl 0 rfl) ?_
  refine z_getI C hI 31 (by decide) kd_31 cl_M iw_M 5 (by decide) k_fl_M_94 rfl d_M_partOf_2 ?_
  refine lv_aload_n hx hb d_M_partOf_5 rfl (lv_at hl 0 rfl) ?_
  refine lv_iload_n hx hb d_M_partOf_6 rfl (lv_at hl 1 rfl) ?_
  refine lv_iload_n hx hb d_M_partOf_7 rfl (lv_at hl 2 rfl) ?_
  refine z_callVi C hI 31 (by decide) kd_31 cl_M (As := [.int v1, .int v2]) (rest := [.int (S 31 5), .ref (ad 31)]) (c_M_isSample v1 v2 _ _ h) wc_M_isSample k_ml_M_86 rfl rfl (Nat.le_of_ble_eq_true rfl) (Nat.le_of_ble_eq_true rfl) hcs hl.1 (Nat.le_of_ble_eq_true rfl) rfl d_M_partOf_8 (fun r8 S8 H locs h hI => ?_)
  refine lv_iconst (v := 1) hx hb d_M_partOf_11 (by decide) ?_
  refine z_callVi C hI 31 (by decide) kd_31 cl_M (As := [.int (S 31 5), .int r8, .int 1]) (rest := []) (c_M_goes (S 31 5) r8 1 _ _ h) wc_M_goes k_ml_M_90 rfl rfl (Nat.le_of_ble_eq_true rfl) (Nat.le_of_ble_eq_true rfl) hcs hl.1 (Nat.le_of_ble_eq_true rfl) rfl d_M_partOf_12 (fun r12 S12 H locs h hI => ?_)
  refine lv_if_eq (tgt := 32) hx hb d_M_partOf_15 (by decide) (fun q => ?_) (fun q => ?_)
  · replace h := h.1 q
    refine lv_iconst (v := 0) hx hb d_M_partOf_32 (by decide) ?_
    exact hR _ _ hcs 0 S12 _ _ 33 ls h hI d_M_partOf_33
  · replace h := h.2 q
    refine lv_aload_n hx hb d_M_partOf_18 rfl (lv_at hl 0 rfl) ?_
    refine z_getR C hI 31 (by decide) kd_31 cl_M iw_M 11 (by decide) k_fl_M_33 rfl d_M_partOf_19 ?_
    refine lv_bipush (v := 24) hx hb d_M_partOf_22 (by decide) ?_
    refine lv_iload_n hx hb d_M_partOf_24 rfl (lv_at hl 2 rfl) ?_
    refine lv_imul hx hb d_M_partOf_25 ?_
    refine lv_iload_n hx hb d_M_partOf_26 rfl (lv_at hl 1 rfl) ?_
    refine lv_iadd hx hb d_M_partOf_27 ?_
    obtain ⟨h1, h⟩ := h
    refine z_ild C hI 38 (by decide) kd_38 h1 d_M_partOf_28 ?_
    refine lv_goto (tgt := 33) hx hb d_M_partOf_29 (by decide) ?_
    exact hR _ _ hcs (S12 38 (z_ix ((24 * v2) + v1))) S12 _ _ 33 ls h hI d_M_partOf_33
set_option maxHeartbeats 4000000 in
set_option maxRecDepth 100000 in
theorem w_M_line_109 (C : z_CT p s m args c R_M b_M_line 8 D cA 51 ad) (hcs : cells ≤ rm_M_line.cells ∧ slots ≤ rm_M_line.slots) (post : Int32 → zS → Prop) (K150 : Int32 → zS → Prop) (v1 : Int32) (v3 : Int32) (v5 : Int32) (v6 : Int32) (hR : z_Ri p l e rm_M_line s m args below meth c Q b_M_line D cA 51 ad post) (kK150 : ∀ (v7 : Int32) (S : zS) (H : Heap) (locs : List Loc) (ls : Array Slot), K150 v7 S → z_I D cA 51 ad s.heap S H locs → lv_has ls 8 [(0, .ref (ad 31)), (1, .int v1), (3, .int v3), (5, .int v5), (6, .int v6), (7, .int v7)] → W p l e rm_M_line s m args below meth c H locs cells slots Q (F0 m 150 ls [])) : ∀ (n : Nat) (v7 : Int32) (S : zS) (H : Heap) (locs : List Loc) (ls : Array Slot), z_I D cA 51 ad s.heap S H locs → lv_has ls 8 [(0, .ref (ad 31)), (1, .int v1), (3, .int v3), (5, .int v5), (6, .int v6), (7, .int v7)] → L_M_line_109 post K150 v1 v3 v5 v6 n v7 S → W p l e rm_M_line s m args below meth c H locs cells slots Q (F0 m 109 ls []) := by
  obtain ⟨hx, hb, hml, hown, hts, hK, hJ⟩ := id C
  intro n
  induction n with
  | zero => intro v7 S H locs ls hI hl h; exact h.elim
  | succ n ih =>
    intro v7 S H locs ls hI hl h
    rw [L_M_line_109] at h
    refine lv_iload hx hb d_M_line_109 (lv_at hl 5 rfl) ?_
    refine lv_aload_n hx hb d_M_line_111 rfl (lv_at hl 0 rfl) ?_
    refine z_getR C hI 31 (by decide) kd_31 cl_M iw_M 16 (by decide) k_fl_M_45 rfl d_M_line_112 ?_
    refine lv_iload_n hx hb d_M_line_115 rfl (lv_at hl 1 rfl) ?_
    obtain ⟨h1, h⟩ := h
    refine z_ild C hI 42 (by decide) kd_42 h1 d_M_line_116 ?_
    refine lv_icmp_gt (tgt := 150) hx hb d_M_line_117 (by decide) (fun q => ?_) (fun q => ?_)
    · replace h := h.1 q
      exact kK150 v7 S _ _ ls h hI (lv_sub hl [0, 1, 2, 3, 4, 5] rfl)
    · replace h := h.2 q
      refine lv_aload_n hx hb d_M_line_120 rfl (lv_at hl 0 rfl) ?_
      refine lv_aload_n hx hb d_M_line_121 rfl (lv_at hl 0 rfl) ?_
      refine z_getR C hI 31 (by decide) kd_31 cl_M iw_M 13 (by decide) k_fl_M_36 rfl d_M_line_122 ?_
      refine lv_iload_n hx hb d_M_line_125 rfl (lv_at hl 1 rfl) ?_
      obtain ⟨h1, h⟩ := h
      refine z_ild C hI 39 (by decide) kd_39 h1 d_M_line_126 ?_
      refine lv_iload hx hb d_M_line_127 (lv_at hl 5 rfl) ?_
      refine lv_aload_n hx hb d_M_line_129 rfl (lv_at hl 0 rfl) ?_
      refine z_getR C hI 31 (by decide) kd_31 cl_M iw_M 15 (by decide) k_fl_M_42 rfl d_M_line_130 ?_
      refine lv_iload_n hx hb d_M_line_133 rfl (lv_at hl 1 rfl) ?_
      obtain ⟨h1, h⟩ := h
      refine z_ild C hI 41 (by decide) kd_41 h1 d_M_line_134 ?_
      refine lv_iload hx hb d_M_line_135 (lv_at hl 5 rfl) ?_
      refine lv_iload_n hx hb d_M_line_137 rfl (lv_at hl 1 rfl) ?_
      refine z_callVi C hI 31 (by decide) kd_31 cl_M (As := [.int (S 39 (z_ix v1)), .int v7, .int (S 41 (z_ix v1)), .int v7, .int v1]) (rest := []) (c_M_cleanIn (S 39 (z_ix v1)) v7 (S 41 (z_ix v1)) v7 v1 _ _ h) wc_M_cleanIn k_ml_M_123 rfl rfl (Nat.le_of_ble_eq_true rfl) (Nat.le_of_ble_eq_true rfl) hcs hl.1 (Nat.le_of_ble_eq_true rfl) rfl d_M_line_138 (fun r138 S138 H locs h hI => ?_)
      refine lv_if_le (tgt := 150) hx hb d_M_line_141 (by decide) (fun q => ?_) (fun q => ?_)
      · replace h := h.1 q
        exact kK150 v7 S138 _ _ ls h hI (lv_sub hl [0, 1, 2, 3, 4, 5] rfl)
      · replace h := h.2 q
        obtain ⟨x144, e144⟩ : ∃ y : Int32, y = v7 + 1 := ⟨_, rfl⟩
        replace h := h x144 e144
        refine lv_iinc (v := x144) (lv' := [(7, .int x144), (0, .ref (ad 31)), (1, .int v1), (3, .int v3), (5, .int v5), (6, .int v6)]) hx hb d_M_line_144 hl (k := 5) rfl (by rw [e144]; rfl) (by decide) rfl (fun ls hl => ?_)
        refine lv_goto (tgt := 109) hx hb d_M_line_147 (by decide) ?_
        exact ih x144 S138 _ _ ls hI (lv_sub hl [1, 2, 3, 4, 5, 0] rfl) h
set_option maxHeartbeats 4000000 in
set_option maxRecDepth 100000 in
theorem w_M_line_150 (C : z_CT p s m args c R_M b_M_line 8 D cA 51 ad) (hcs : cells ≤ rm_M_line.cells ∧ slots ≤ rm_M_line.slots) (post : Int32 → zS → Prop) (K75 : Int32 → Int32 → zS → Prop) (K155 : Int32 → Int32 → zS → Prop) (v1 : Int32) (v3 : Int32) (v5 : Int32) (v6 : Int32) (v7 : Int32) (hR : z_Ri p l e rm_M_line s m args below meth c Q b_M_line D cA 51 ad post) (kK75 : ∀ (v5 : Int32) (v6 : Int32) (S : zS) (H : Heap) (locs : List Loc) (ls : Array Slot), K75 v5 v6 S → z_I D cA 51 ad s.heap S H locs → lv_has ls 8 [(0, .ref (ad 31)), (1, .int v1), (3, .int v3), (5, .int v5), (6, .int v6)] → W p l e rm_M_line s m args below meth c H locs cells slots Q (F0 m 75 ls [])) (kK155 : ∀ (v6 : Int32) (v7 : Int32) (S : zS) (H : Heap) (locs : List Loc) (ls : Array Slot), K155 v6 v7 S → z_I D cA 51 ad s.heap S H locs → lv_has ls 8 [(3, .int v3), (6, .int v6), (7, .int v7)] → W p l e rm_M_line s m args below meth c H locs cells slots Q (F0 m 155 ls [])) (S : zS) (H : Heap) (locs : List Loc) (ls : Array Slot) (hI : z_I D cA 51 ad s.heap S H locs) (hl : lv_has ls 8 [(0, .ref (ad 31)), (1, .int v1), (3, .int v3), (5, .int v5), (6, .int v6), (7, .int v7)]) (h : J_M_line_150 post K75 K155 v1 v3 v5 v6 v7 S) : W p l e rm_M_line s m args below meth c H locs cells slots Q (F0 m 150 ls []) := by
  obtain ⟨hx, hb, hml, hown, hts, hK, hJ⟩ := id C
  unfold J_M_line_150 at h
  refine lv_iload hx hb d_M_line_150 (lv_at hl 3 rfl) ?_
  refine lv_if_ne (tgt := 170) hx hb d_M_line_152 (by decide) (fun q => ?_) (fun q => ?_)
  · replace h := h.1 q
    obtain ⟨x170, e170⟩ : ∃ y : Int32, y = v5 + (-1) := ⟨_, rfl⟩
    replace h := h x170 e170
    refine lv_iinc (v := x170) (lv' := [(5, .int x170), (0, .ref (ad 31)), (1, .int v1), (3, .int v3), (6, .int v6), (7, .int v7)]) hx hb d_M_line_170 hl (k := 3) rfl (by rw [e170]; rfl) (by decide) rfl (fun ls hl => ?_)
    refine lv_iload hx hb d_M_line_173 (lv_at hl 5 rfl) ?_
    refine lv_istore (lv' := [(6, .int v7), (5, .int x170), (0, .ref (ad 31)), (1, .int v1), (3, .int v3), (7, .int v7)]) hx hb d_M_line_175 hl (by decide) rfl (fun ls hl => ?_)
    refine lv_goto (tgt := 75) hx hb d_M_line_177 (by decide) ?_
    exact kK75 x170 v7 S _ _ ls h hI (lv_sub hl [2, 3, 4, 1, 0] rfl)
  · replace h := h.2 q
    exact kK155 v6 v7 S _ _ ls h hI (lv_sub hl [2, 4, 5] rfl)
set_option maxHeartbeats 4000000 in
set_option maxRecDepth 100000 in
theorem w_M_line_75 (C : z_CT p s m args c R_M b_M_line 8 D cA 51 ad) (hcs : cells ≤ rm_M_line.cells ∧ slots ≤ rm_M_line.slots) (post : Int32 → zS → Prop) (K155 : Int32 → Int32 → zS → Prop) (v1 : Int32) (v3 : Int32) (hR : z_Ri p l e rm_M_line s m args below meth c Q b_M_line D cA 51 ad post) (kK155 : ∀ (v6 : Int32) (v7 : Int32) (S : zS) (H : Heap) (locs : List Loc) (ls : Array Slot), K155 v6 v7 S → z_I D cA 51 ad s.heap S H locs → lv_has ls 8 [(3, .int v3), (6, .int v6), (7, .int v7)] → W p l e rm_M_line s m args below meth c H locs cells slots Q (F0 m 155 ls [])) : ∀ (n : Nat) (v5 : Int32) (v6 : Int32) (S : zS) (H : Heap) (locs : List Loc) (ls : Array Slot), z_I D cA 51 ad s.heap S H locs → lv_has ls 8 [(0, .ref (ad 31)), (1, .int v1), (3, .int v3), (5, .int v5), (6, .int v6)] → L_M_line_75 post K155 v1 v3 n v5 v6 S → W p l e rm_M_line s m args below meth c H locs cells slots Q (F0 m 75 ls []) := by
  obtain ⟨hx, hb, hml, hown, hts, hK, hJ⟩ := id C
  intro n
  induction n with
  | zero => intro v5 v6 S H locs ls hI hl h; exact h.elim
  | succ n ih =>
    intro v5 v6 S H locs ls hI hl h
    rw [L_M_line_75] at h
    refine lv_aload_n hx hb d_M_line_75 rfl (lv_at hl 0 rfl) ?_
    refine lv_aload_n hx hb d_M_line_76 rfl (lv_at hl 0 rfl) ?_
    refine z_getR C hI 31 (by decide) kd_31 cl_M iw_M 13 (by decide) k_fl_M_36 rfl d_M_line_77 ?_
    refine lv_iload_n hx hb d_M_line_80 rfl (lv_at hl 1 rfl) ?_
    obtain ⟨h1, h⟩ := h
    refine z_ild C hI 39 (by decide) kd_39 h1 d_M_line_81 ?_
    refine lv_iload hx hb d_M_line_82 (lv_at hl 4 rfl) ?_
    refine lv_aload_n hx hb d_M_line_84 rfl (lv_at hl 0 rfl) ?_
    refine z_getR C hI 31 (by decide) kd_31 cl_M iw_M 15 (by decide) k_fl_M_42 rfl d_M_line_85 ?_
    refine lv_iload_n hx hb d_M_line_88 rfl (lv_at hl 1 rfl) ?_
    obtain ⟨h1, h⟩ := h
    refine z_ild C hI 41 (by decide) kd_41 h1 d_M_line_89 ?_
    refine lv_iload hx hb d_M_line_90 (lv_at hl 4 rfl) ?_
    refine lv_iload_n hx hb d_M_line_92 rfl (lv_at hl 1 rfl) ?_
    refine z_callVi C hI 31 (by decide) kd_31 cl_M (As := [.int (S 39 (z_ix v1)), .int v6, .int (S 41 (z_ix v1)), .int v6, .int v1]) (rest := []) (c_M_cleanIn (S 39 (z_ix v1)) v6 (S 41 (z_ix v1)) v6 v1 _ _ h) wc_M_cleanIn k_ml_M_123 rfl rfl (Nat.le_of_ble_eq_true rfl) (Nat.le_of_ble_eq_true rfl) hcs hl.1 (Nat.le_of_ble_eq_true rfl) rfl d_M_line_93 (fun r93 S93 H locs h hI => ?_)
    refine lv_if_ne (tgt := 105) hx hb d_M_line_96 (by decide) (fun q => ?_) (fun q => ?_)
    · replace h := h.1 q
      refine lv_iload hx hb d_M_line_105 (lv_at hl 4 rfl) ?_
      refine lv_istore (lv' := [(7, .int v6), (0, .ref (ad 31)), (1, .int v1), (3, .int v3), (5, .int v5), (6, .int v6)]) hx hb d_M_line_107 hl (by decide) rfl (fun ls hl => ?_)
      obtain ⟨k109, h⟩ := h
      refine w_M_line_109 C hcs _ _ v1 v3 v5 v6 hR (fun v7_109e S109e H locs ls h hI hl => ?_) k109 v6 S93 _ _ ls hI (lv_sub hl [1, 2, 3, 4, 5, 0] rfl) h
      exact w_M_line_150 C hcs _ _ _ v1 v3 v5 v6 v7_109e hR (fun v5 v6 S H locs ls h hI hl => ih v5 v6 S H locs ls hI hl h) kK155 S109e _ _ ls hI (lv_sub hl [0, 1, 2, 3, 4, 5] rfl) h
    · replace h := h.2 q
      obtain ⟨x99, e99⟩ : ∃ y : Int32, y = v6 + 1 := ⟨_, rfl⟩
      replace h := h x99 e99
      refine lv_iinc (v := x99) (lv' := [(6, .int x99), (0, .ref (ad 31)), (1, .int v1), (3, .int v3), (5, .int v5)]) hx hb d_M_line_99 hl (k := 4) rfl (by rw [e99]; rfl) (by decide) rfl (fun ls hl => ?_)
      refine lv_goto (tgt := 75) hx hb d_M_line_102 (by decide) ?_
      exact ih v5 x99 S93 _ _ ls hI (lv_sub hl [1, 2, 3, 4, 0] rfl) h
set_option maxHeartbeats 4000000 in
set_option maxRecDepth 100000 in
theorem w_M_line_41 (C : z_CT p s m args c R_M b_M_line 8 D cA 51 ad) (hcs : cells ≤ rm_M_line.cells ∧ slots ≤ rm_M_line.slots) (post : Int32 → zS → Prop) (v1 : Int32) (v2 : Int32) (v3 : Int32) (t0 : Int32) (hR : z_Ri p l e rm_M_line s m args below meth c Q b_M_line D cA 51 ad post) (S : zS) (H : Heap) (locs : List Loc) (ls : Array Slot) (hI : z_I D cA 51 ad s.heap S H locs) (hl : lv_has ls 8 [(0, .ref (ad 31)), (1, .int v1), (2, .int v2), (3, .int v3)]) (h : J_M_line_41 post v1 v2 v3 t0 S) : W p l e rm_M_line s m args below meth c H locs cells slots Q (F0 m 41 ls [.int t0]) := by
  obtain ⟨hx, hb, hml, hown, hts, hK, hJ⟩ := id C
  unfold J_M_line_41 at h
  refine lv_istore (lv' := [(4, .int t0), (0, .ref (ad 31)), (1, .int v1), (2, .int v2), (3, .int v3)]) hx hb d_M_line_41 hl (by decide) rfl (fun ls hl => ?_)
  refine lv_aload_n hx hb d_M_line_43 rfl (lv_at hl 1 rfl) ?_
  refine lv_aload_n hx hb d_M_line_44 rfl (lv_at hl 1 rfl) ?_
  refine z_getI C hI 31 (by decide) kd_31 cl_M iw_M 5 (by decide) k_fl_M_94 rfl d_M_line_45 ?_
  refine lv_iload hx hb d_M_line_48 (lv_at hl 0 rfl) ?_
  refine lv_iload_n hx hb d_M_line_50 rfl (lv_at hl 4 rfl) ?_
  refine lv_iconst (v := 0) hx hb d_M_line_51 (by decide) ?_
  refine lv_iconst (v := 1) hx hb d_M_line_52 (by decide) ?_
  refine z_callSi C hI (As := [.int v3, .int 0, .int 1]) (rest := [.int t0, .int (S 31 5), .ref (ad 31)]) (c_M_in v3 0 1 _ _ h) wc_M_in k_ml_M_82 rfl rfl (Nat.le_of_ble_eq_true rfl) (Nat.le_of_ble_eq_true rfl) hcs hl.1 (Nat.le_of_ble_eq_true rfl) rfl d_M_line_53 (fun r53 S53 H locs h hI => ?_)
  refine z_callVi C hI 31 (by decide) kd_31 cl_M (As := [.int (S 31 5), .int t0, .int r53]) (rest := []) (c_M_goes (S 31 5) t0 r53 _ _ h) wc_M_goes k_ml_M_90 rfl rfl (Nat.le_of_ble_eq_true rfl) (Nat.le_of_ble_eq_true rfl) hcs hl.1 (Nat.le_of_ble_eq_true rfl) rfl d_M_line_56 (fun r56 S56 H locs h hI => ?_)
  refine lv_if_ne (tgt := 64) hx hb d_M_line_59 (by decide) (fun q => ?_) (fun q => ?_)
  · replace h := h.1 q
    refine lv_iload_n hx hb d_M_line_64 rfl (lv_at hl 3 rfl) ?_
    refine lv_istore (lv' := [(5, .int v2), (4, .int t0), (0, .ref (ad 31)), (1, .int v1), (2, .int v2), (3, .int v3)]) hx hb d_M_line_65 hl (by decide) rfl (fun ls hl => ?_)
    refine lv_aload_n hx hb d_M_line_67 rfl (lv_at hl 2 rfl) ?_
    refine z_getR C hI 31 (by decide) kd_31 cl_M iw_M 14 (by decide) k_fl_M_39 rfl d_M_line_68 ?_
    refine lv_iload_n hx hb d_M_line_71 rfl (lv_at hl 3 rfl) ?_
    obtain ⟨h1, h⟩ := h
    refine z_ild C hI 40 (by decide) kd_40 h1 d_M_line_72 ?_
    refine lv_topi (fun x73 e73 => ?_)
    replace h := h x73 e73
    refine lv_istore (lv' := [(6, .int x73), (5, .int v2), (4, .int t0), (0, .ref (ad 31)), (1, .int v1), (2, .int v2), (3, .int v3)]) hx hb d_M_line_73 hl (by decide) rfl (fun ls hl => ?_)
    obtain ⟨k75, h⟩ := h
    refine w_M_line_75 C hcs _ _ v1 v3 hR (fun v6_75e v7_75e S75e H locs ls h hI hl => ?_) k75 v2 x73 S56 _ _ ls hI (lv_sub hl [3, 4, 6, 1, 0] rfl) h
    refine lv_iload_n hx hb d_M_line_155 rfl (lv_at hl 0 rfl) ?_
    refine lv_if_ne (tgt := 164) hx hb d_M_line_156 (by decide) (fun q => ?_) (fun q => ?_)
    · replace h := h.1 q
      refine lv_iload hx hb d_M_line_164 (lv_at hl 2 rfl) ?_
      refine lv_iload hx hb d_M_line_166 (lv_at hl 1 rfl) ?_
      refine lv_isub hx hb d_M_line_168 ?_
      exact hR _ _ hcs (v7_75e - v6_75e) S75e _ _ 169 ls h hI d_M_line_169
    · replace h := h.2 q
      refine lv_iload hx hb d_M_line_159 (lv_at hl 1 rfl) ?_
      refine lv_goto (tgt := 169) hx hb d_M_line_161 (by decide) ?_
      exact hR _ _ hcs v6_75e S75e _ _ 169 ls h hI d_M_line_169
  · replace h := h.2 q
    refine lv_iconst (v := 0) hx hb d_M_line_62 (by decide) ?_
    exact hR _ _ hcs 0 S56 _ _ 63 ls h hI d_M_line_63
set_option maxHeartbeats 4000000 in
set_option maxRecDepth 100000 in
theorem w_M_line_40 (C : z_CT p s m args c R_M b_M_line 8 D cA 51 ad) (hcs : cells ≤ rm_M_line.cells ∧ slots ≤ rm_M_line.slots) (post : Int32 → zS → Prop) (v1 : Int32) (v2 : Int32) (v3 : Int32) (hR : z_Ri p l e rm_M_line s m args below meth c Q b_M_line D cA 51 ad post) (S : zS) (H : Heap) (locs : List Loc) (ls : Array Slot) (hI : z_I D cA 51 ad s.heap S H locs) (hl : lv_has ls 8 [(0, .ref (ad 31)), (1, .int v1), (2, .int v2), (3, .int v3)]) (h : J_M_line_40 post v1 v2 v3 S) : W p l e rm_M_line s m args below meth c H locs cells slots Q (F0 m 40 ls []) := by
  obtain ⟨hx, hb, hml, hown, hts, hK, hJ⟩ := id C
  unfold J_M_line_40 at h
  refine lv_iconst (v := 0) hx hb d_M_line_40 (by decide) ?_
  exact w_M_line_41 C hcs _ v1 v2 v3 0 hR S _ _ ls hI (lv_sub hl [0, 1, 2, 3] rfl) h
set_option maxHeartbeats 4000000 in
set_option maxRecDepth 100000 in
theorem c_M_line (v1 : Int32) (v2 : Int32) (v3 : Int32) (S : zS) (post : Int32 → zS → Prop) (h : P_M_line v1 v2 v3 S post) : z_cti l D cA 51 ad y_M_line b_M_line 8 (some .int) rm_M_line [.ref (ad 31), .int v1, .int v2, .int v3] S post := by
  refine z_meti (av := [.ref (ad 31), .int v1, .int v2, .int v3]) (by decide) (Nat.le_of_ble_eq_true rfl) ⟨rfl, rfl⟩ (fun p e s m args below meth c Q ls C hcs hl hI hR => ?_)
  obtain ⟨hx, hb, hml, hown, hts, hK, hJ⟩ := id C
  unfold P_M_line at h
  have hl : lv_has ls 8 [(0, .ref (ad 31)), (1, .int v1), (2, .int v2), (3, .int v3)] := hl
  refine lv_aload_n hx hb d_M_line_0 rfl (lv_at hl 0 rfl) ?_
  refine z_getI C hI 31 (by decide) kd_31 cl_M iw_M 5 (by decide) k_fl_M_94 rfl d_M_line_1 ?_
  refine lv_if_eq (tgt := 40) hx hb d_M_line_4 (by decide) (fun q => ?_) (fun q => ?_)
  · replace h := h.1 q
    exact w_M_line_40 C hcs _ v1 v2 v3 hR S _ _ ls hI (lv_sub hl [0, 1, 2, 3] rfl) h
  · replace h := h.2 q
    refine lv_iload_n hx hb d_M_line_7 rfl (lv_at hl 1 rfl) ?_
    refine lv_iconst (v := 0) hx hb d_M_line_8 (by decide) ?_
    refine lv_aload_n hx hb d_M_line_9 rfl (lv_at hl 0 rfl) ?_
    refine z_getI C hI 31 (by decide) kd_31 cl_M iw_M 12 (by decide) k_fl_M_116 rfl d_M_line_10 ?_
    refine lv_iconst (v := 1) hx hb d_M_line_13 (by decide) ?_
    refine lv_isub hx hb d_M_line_14 ?_
    refine z_callSi C hI (As := [.int v1, .int 0, .int ((S 31 12) - 1)]) (rest := []) (c_M_in v1 0 ((S 31 12) - 1) _ _ h) wc_M_in k_ml_M_82 rfl rfl (Nat.le_of_ble_eq_true rfl) (Nat.le_of_ble_eq_true rfl) hcs hl.1 (Nat.le_of_ble_eq_true rfl) rfl d_M_line_15 (fun r15 S15 H locs h hI => ?_)
    refine lv_if_eq (tgt := 40) hx hb d_M_line_18 (by decide) (fun q => ?_) (fun q => ?_)
    · replace h := h.1 q
      exact w_M_line_40 C hcs _ v1 v2 v3 hR S15 _ _ ls hI (lv_sub hl [0, 1, 2, 3] rfl) h
    · replace h := h.2 q
      refine lv_iload_n hx hb d_M_line_21 rfl (lv_at hl 2 rfl) ?_
      refine lv_iconst (v := 0) hx hb d_M_line_22 (by decide) ?_
      refine lv_aload_n hx hb d_M_line_23 rfl (lv_at hl 0 rfl) ?_
      refine lv_iload_n hx hb d_M_line_24 rfl (lv_at hl 1 rfl) ?_
      refine z_callVi C hI 31 (by decide) kd_31 cl_M (As := [.int v1]) (rest := [.int 0, .int v2]) (c_M_lines v1 _ _ h) wc_M_lines k_ml_M_186 rfl rfl (Nat.le_of_ble_eq_true rfl) (Nat.le_of_ble_eq_true rfl) hcs hl.1 (Nat.le_of_ble_eq_true rfl) rfl d_M_line_25 (fun r25 S25 H locs h hI => ?_)
      refine lv_iconst (v := 1) hx hb d_M_line_28 (by decide) ?_
      refine lv_isub hx hb d_M_line_29 ?_
      refine z_callSi C hI (As := [.int v2, .int 0, .int (r25 - 1)]) (rest := []) (c_M_in v2 0 (r25 - 1) _ _ h) wc_M_in k_ml_M_82 rfl rfl (Nat.le_of_ble_eq_true rfl) (Nat.le_of_ble_eq_true rfl) hcs hl.1 (Nat.le_of_ble_eq_true rfl) rfl d_M_line_30 (fun r30 S30 H locs h hI => ?_)
      refine lv_if_eq (tgt := 40) hx hb d_M_line_33 (by decide) (fun q => ?_) (fun q => ?_)
      · replace h := h.1 q
        exact w_M_line_40 C hcs _ v1 v2 v3 hR S30 _ _ ls hI (lv_sub hl [0, 1, 2, 3] rfl) h
      · replace h := h.2 q
        refine lv_iconst (v := 1) hx hb d_M_line_36 (by decide) ?_
        refine lv_goto (tgt := 41) hx hb d_M_line_37 (by decide) ?_
        exact w_M_line_41 C hcs _ v1 v2 v3 1 hR S30 _ _ ls hI (lv_sub hl [0, 1, 2, 3] rfl) h
set_option maxHeartbeats 4000000 in
set_option maxRecDepth 100000 in
theorem c_M_order (v1 : Int32) (S : zS) (post : Int32 → zS → Prop) (h : P_M_order v1 S post) : z_cti l D cA 51 ad y_M_order b_M_order 2 (some .int) rm_M_order [.ref (ad 31), .int v1] S post := by
  refine z_meti (av := [.ref (ad 31), .int v1]) (by decide) (Nat.le_of_ble_eq_true rfl) ⟨rfl, rfl⟩ (fun p e s m args below meth c Q ls C hcs hl hI hR => ?_)
  obtain ⟨hx, hb, hml, hown, hts, hK, hJ⟩ := id C
  unfold P_M_order at h
  have hl : lv_has ls 2 [(0, .ref (ad 31)), (1, .int v1)] := hl
  refine lv_aload_n hx hb d_M_order_0 rfl (lv_at hl 0 rfl) ?_
  refine lv_aload_n hx hb d_M_order_1 rfl (lv_at hl 0 rfl) ?_
  refine z_getI C hI 31 (by decide) kd_31 cl_M iw_M 5 (by decide) k_fl_M_94 rfl d_M_order_2 ?_
  refine lv_iload_n hx hb d_M_order_5 rfl (lv_at hl 1 rfl) ?_
  refine lv_iconst (v := 0) hx hb d_M_order_6 (by decide) ?_
  refine lv_aload_n hx hb d_M_order_7 rfl (lv_at hl 0 rfl) ?_
  refine z_getI C hI 31 (by decide) kd_31 cl_M iw_M 12 (by decide) k_fl_M_116 rfl d_M_order_8 ?_
  refine lv_iconst (v := 1) hx hb d_M_order_11 (by decide) ?_
  refine lv_isub hx hb d_M_order_12 ?_
  refine z_callSi C hI (As := [.int v1, .int 0, .int ((S 31 12) - 1)]) (rest := [.int (S 31 5), .ref (ad 31)]) (c_M_in v1 0 ((S 31 12) - 1) _ _ h) wc_M_in k_ml_M_82 rfl rfl (Nat.le_of_ble_eq_true rfl) (Nat.le_of_ble_eq_true rfl) hcs hl.1 (Nat.le_of_ble_eq_true rfl) rfl d_M_order_13 (fun r13 S13 H locs h hI => ?_)
  refine lv_iconst (v := 1) hx hb d_M_order_16 (by decide) ?_
  refine z_callVi C hI 31 (by decide) kd_31 cl_M (As := [.int (S 31 5), .int r13, .int 1]) (rest := []) (c_M_goes (S 31 5) r13 1 _ _ h) wc_M_goes k_ml_M_90 rfl rfl (Nat.le_of_ble_eq_true rfl) (Nat.le_of_ble_eq_true rfl) hcs hl.1 (Nat.le_of_ble_eq_true rfl) rfl d_M_order_17 (fun r17 S17 H locs h hI => ?_)
  refine lv_if_eq (tgt := 32) hx hb d_M_order_20 (by decide) (fun q => ?_) (fun q => ?_)
  · replace h := h.1 q
    refine lv_iconst (v := 0) hx hb d_M_order_32 (by decide) ?_
    exact hR _ _ hcs 0 S17 _ _ 33 ls h hI d_M_order_33
  · replace h := h.2 q
    refine lv_aload_n hx hb d_M_order_23 rfl (lv_at hl 0 rfl) ?_
    refine z_getR C hI 31 (by decide) kd_31 cl_M iw_M 18 (by decide) k_fl_M_51 rfl d_M_order_24 ?_
    refine lv_iload_n hx hb d_M_order_27 rfl (lv_at hl 1 rfl) ?_
    obtain ⟨h1, h⟩ := h
    refine z_ild C hI 44 (by decide) kd_44 h1 d_M_order_28 ?_
    refine lv_goto (tgt := 33) hx hb d_M_order_29 (by decide) ?_
    exact hR _ _ hcs (S17 44 (z_ix v1)) S17 _ _ 33 ls h hI d_M_order_33
set_option maxHeartbeats 4000000 in
set_option maxRecDepth 100000 in
theorem c_M_cover (v1 : Int32) (v2 : Int32) (S : zS) (post : Int32 → zS → Prop) (h : P_M_cover v1 v2 S post) : z_cti l D cA 51 ad y_M_cover b_M_cover 3 (some .int) rm_M_cover [.ref (ad 31), .int v1, .int v2] S post := by
  refine z_meti (av := [.ref (ad 31), .int v1, .int v2]) (by decide) (Nat.le_of_ble_eq_true rfl) ⟨rfl, rfl⟩ (fun p e s m args below meth c Q ls C hcs hl hI hR => ?_)
  obtain ⟨hx, hb, hml, hown, hts, hK, hJ⟩ := id C
  unfold P_M_cover at h
  have hl : lv_has ls 3 [(0, .ref (ad 31)), (1, .int v1), (2, .int v2)] := hl
  refine lv_aload_n hx hb d_M_cover_0 rfl (lv_at hl 0 rfl) ?_
  refine lv_aload_n hx hb d_M_cover_1 rfl (lv_at hl 0 rfl) ?_
  refine z_getI C hI 31 (by decide) kd_31 cl_M iw_M 5 (by decide) k_fl_M_94 rfl d_M_cover_2 ?_
  refine lv_iload_n hx hb d_M_cover_5 rfl (lv_at hl 1 rfl) ?_
  refine lv_iconst (v := 0) hx hb d_M_cover_6 (by decide) ?_
  refine lv_aload_n hx hb d_M_cover_7 rfl (lv_at hl 0 rfl) ?_
  refine z_getI C hI 31 (by decide) kd_31 cl_M iw_M 19 (by decide) k_fl_M_127 rfl d_M_cover_8 ?_
  refine lv_iconst (v := 1) hx hb d_M_cover_11 (by decide) ?_
  refine lv_isub hx hb d_M_cover_12 ?_
  refine z_callSi C hI (As := [.int v1, .int 0, .int ((S 31 19) - 1)]) (rest := [.int (S 31 5), .ref (ad 31)]) (c_M_in v1 0 ((S 31 19) - 1) _ _ h) wc_M_in k_ml_M_82 rfl rfl (Nat.le_of_ble_eq_true rfl) (Nat.le_of_ble_eq_true rfl) hcs hl.1 (Nat.le_of_ble_eq_true rfl) rfl d_M_cover_13 (fun r13 S13 H locs h hI => ?_)
  refine lv_iload_n hx hb d_M_cover_16 rfl (lv_at hl 2 rfl) ?_
  refine lv_iconst (v := 0) hx hb d_M_cover_17 (by decide) ?_
  refine lv_iconst (v := 3) hx hb d_M_cover_18 (by decide) ?_
  refine z_callSi C hI (As := [.int v2, .int 0, .int 3]) (rest := [.int r13, .int (S 31 5), .ref (ad 31)]) (c_M_in v2 0 3 _ _ h) wc_M_in k_ml_M_82 rfl rfl (Nat.le_of_ble_eq_true rfl) (Nat.le_of_ble_eq_true rfl) hcs hl.1 (Nat.le_of_ble_eq_true rfl) rfl d_M_cover_19 (fun r19 S19 H locs h hI => ?_)
  refine z_callVi C hI 31 (by decide) kd_31 cl_M (As := [.int (S 31 5), .int r13, .int r19]) (rest := []) (c_M_goes (S 31 5) r13 r19 _ _ h) wc_M_goes k_ml_M_90 rfl rfl (Nat.le_of_ble_eq_true rfl) (Nat.le_of_ble_eq_true rfl) hcs hl.1 (Nat.le_of_ble_eq_true rfl) rfl d_M_cover_22 (fun r22 S22 H locs h hI => ?_)
  refine lv_if_eq (tgt := 41) hx hb d_M_cover_25 (by decide) (fun q => ?_) (fun q => ?_)
  · replace h := h.1 q
    refine lv_iconst (v := 0) hx hb d_M_cover_41 (by decide) ?_
    exact hR _ _ hcs 0 S22 _ _ 42 ls h hI d_M_cover_42
  · replace h := h.2 q
    refine lv_aload_n hx hb d_M_cover_28 rfl (lv_at hl 0 rfl) ?_
    refine z_getR C hI 31 (by decide) kd_31 cl_M iw_M 20 (by decide) k_fl_M_54 rfl d_M_cover_29 ?_
    refine lv_iconst (v := 4) hx hb d_M_cover_32 (by decide) ?_
    refine lv_iload_n hx hb d_M_cover_33 rfl (lv_at hl 1 rfl) ?_
    refine lv_imul hx hb d_M_cover_34 ?_
    refine lv_iload_n hx hb d_M_cover_35 rfl (lv_at hl 2 rfl) ?_
    refine lv_iadd hx hb d_M_cover_36 ?_
    obtain ⟨h1, h⟩ := h
    refine z_ild C hI 45 (by decide) kd_45 h1 d_M_cover_37 ?_
    refine lv_goto (tgt := 42) hx hb d_M_cover_38 (by decide) ?_
    exact hR _ _ hcs (S22 45 (z_ix ((4 * v1) + v2))) S22 _ _ 42 ls h hI d_M_cover_42
end ZW
