section ZW
variable {p : Program} {l : Launch} {e : Env} {s : State} {m : MethodId} {args : Array Value} {below : List Frame} {meth : Method} {c : Code} {cells slots : Nat} {Q : State → Prop} {D : va_G} {cA : Nat → ClassId} {n : Nat} {ad : Nat → Nat}
set_option maxHeartbeats 4000000 in
set_option maxRecDepth 100000 in
theorem w_P_smear_2 (C : z_CT p s m args c R_P b_P_smear 4 D cA 51 ad) (hcs : cells ≤ rm_P_smear.cells ∧ slots ≤ rm_P_smear.slots) (post : zS → Prop) (K30 : zS → Prop) (v1 : Int32) (v2 : Int32) (hR : z_Rv p l e rm_P_smear s m args below meth c Q b_P_smear D cA 51 ad post) (kK30 : ∀ (S : zS) (H : Heap) (locs : List Loc) (ls : Array Slot), K30 S → z_I D cA 51 ad s.heap S H locs → lv_has ls 4 [(0, .ref (ad 0)), (2, .int v2)] → W p l e rm_P_smear s m args below meth c H locs cells slots Q (F0 m 30 ls [])) : ∀ (n : Nat) (v3 : Int32) (S : zS) (H : Heap) (locs : List Loc) (ls : Array Slot), z_I D cA 51 ad s.heap S H locs → lv_has ls 4 [(0, .ref (ad 0)), (1, .int v1), (2, .int v2), (3, .int v3)] → L_P_smear_2 post K30 v1 v2 n v3 S → W p l e rm_P_smear s m args below meth c H locs cells slots Q (F0 m 2 ls []) := by
  obtain ⟨hx, hb, hml, hown, hts, hK, hJ⟩ := id C
  intro n
  induction n with
  | zero => intro v3 S H locs ls hI hl h; exact h.elim
  | succ n ih =>
    intro v3 S H locs ls hI hl h
    rw [L_P_smear_2] at h
    refine lv_iload_n hx hb d_P_smear_2 rfl (lv_at hl 3 rfl) ?_
    refine lv_aload_n hx hb d_P_smear_3 rfl (lv_at hl 0 rfl) ?_
    refine z_getI C hI 0 (by decide) kd_0 cl_P iw_P 1 (by decide) k_fl_P_31 rfl d_P_smear_4 ?_
    refine lv_icmp_ge (tgt := 30) hx hb d_P_smear_7 (by decide) (fun q => ?_) (fun q => ?_)
    · replace h := h.1 q
      exact kK30 S _ _ ls h hI (lv_sub hl [0, 2] rfl)
    · replace h := h.2 q
      refine lv_aload_n hx hb d_P_smear_10 rfl (lv_at hl 0 rfl) ?_
      refine lv_iload_n hx hb d_P_smear_11 rfl (lv_at hl 3 rfl) ?_
      refine lv_bipush (v := 24) hx hb d_P_smear_12 (by decide) ?_
      refine lv_imul hx hb d_P_smear_14 ?_
      refine lv_iconst (v := 1) hx hb d_P_smear_15 (by decide) ?_
      refine lv_aload_n hx hb d_P_smear_16 rfl (lv_at hl 0 rfl) ?_
      refine z_getI C hI 0 (by decide) kd_0 cl_P iw_P 0 (by decide) k_fl_P_27 rfl d_P_smear_17 ?_
      refine lv_iload_n hx hb d_P_smear_20 rfl (lv_at hl 1 rfl) ?_
      refine z_callVv C hI 0 (by decide) kd_0 cl_P (As := [.int (v3 * 24), .int 1, .int (S 0 0), .int v1]) (rest := []) (c_P_smearAlong (v3 * 24) 1 (S 0 0) v1 _ _ h) wc_P_smearAlong k_ml_P_195 rfl rfl (Nat.le_of_ble_eq_true rfl) (Nat.le_of_ble_eq_true rfl) hcs hl.1 (Nat.le_of_ble_eq_true rfl) rfl d_P_smear_21 (fun S21 H locs h hI => ?_)
      obtain ⟨x24, e24⟩ : ∃ y : Int32, y = v3 + 1 := ⟨_, rfl⟩
      replace h := h x24 e24
      refine lv_iinc (v := x24) (lv' := [(3, .int x24), (0, .ref (ad 0)), (1, .int v1), (2, .int v2)]) hx hb d_P_smear_24 hl (k := 3) rfl (by rw [e24]; rfl) (by decide) rfl (fun ls hl => ?_)
      refine lv_goto (tgt := 2) hx hb d_P_smear_27 (by decide) ?_
      exact ih x24 S21 _ _ ls hI (lv_sub hl [1, 2, 3, 0] rfl) h
set_option maxHeartbeats 4000000 in
set_option maxRecDepth 100000 in
theorem w_P_smear_32 (C : z_CT p s m args c R_P b_P_smear 4 D cA 51 ad) (hcs : cells ≤ rm_P_smear.cells ∧ slots ≤ rm_P_smear.slots) (post : zS → Prop) (v2 : Int32) (hR : z_Rv p l e rm_P_smear s m args below meth c Q b_P_smear D cA 51 ad post) : ∀ (n : Nat) (v3 : Int32) (S : zS) (H : Heap) (locs : List Loc) (ls : Array Slot), z_I D cA 51 ad s.heap S H locs → lv_has ls 4 [(0, .ref (ad 0)), (2, .int v2), (3, .int v3)] → L_P_smear_32 post v2 n v3 S → W p l e rm_P_smear s m args below meth c H locs cells slots Q (F0 m 32 ls []) := by
  obtain ⟨hx, hb, hml, hown, hts, hK, hJ⟩ := id C
  intro n
  induction n with
  | zero => intro v3 S H locs ls hI hl h; exact h.elim
  | succ n ih =>
    intro v3 S H locs ls hI hl h
    rw [L_P_smear_32] at h
    refine lv_iload_n hx hb d_P_smear_32 rfl (lv_at hl 2 rfl) ?_
    refine lv_aload_n hx hb d_P_smear_33 rfl (lv_at hl 0 rfl) ?_
    refine z_getI C hI 0 (by decide) kd_0 cl_P iw_P 0 (by decide) k_fl_P_27 rfl d_P_smear_34 ?_
    refine lv_icmp_ge (tgt := 58) hx hb d_P_smear_37 (by decide) (fun q => ?_) (fun q => ?_)
    · replace h := h.1 q
      exact hR _ _ hcs S _ _ 58 ls h hI d_P_smear_58
    · replace h := h.2 q
      refine lv_aload_n hx hb d_P_smear_40 rfl (lv_at hl 0 rfl) ?_
      refine lv_iload_n hx hb d_P_smear_41 rfl (lv_at hl 2 rfl) ?_
      refine lv_bipush (v := 24) hx hb d_P_smear_42 (by decide) ?_
      refine lv_aload_n hx hb d_P_smear_44 rfl (lv_at hl 0 rfl) ?_
      refine z_getI C hI 0 (by decide) kd_0 cl_P iw_P 1 (by decide) k_fl_P_31 rfl d_P_smear_45 ?_
      refine lv_iload_n hx hb d_P_smear_48 rfl (lv_at hl 1 rfl) ?_
      refine z_callVv C hI 0 (by decide) kd_0 cl_P (As := [.int v3, .int 24, .int (S 0 1), .int v2]) (rest := []) (c_P_smearAlong v3 24 (S 0 1) v2 _ _ h) wc_P_smearAlong k_ml_P_195 rfl rfl (Nat.le_of_ble_eq_true rfl) (Nat.le_of_ble_eq_true rfl) hcs hl.1 (Nat.le_of_ble_eq_true rfl) rfl d_P_smear_49 (fun S49 H locs h hI => ?_)
      obtain ⟨x52, e52⟩ : ∃ y : Int32, y = v3 + 1 := ⟨_, rfl⟩
      replace h := h x52 e52
      refine lv_iinc (v := x52) (lv' := [(3, .int x52), (0, .ref (ad 0)), (2, .int v2)]) hx hb d_P_smear_52 hl (k := 2) rfl (by rw [e52]; rfl) (by decide) rfl (fun ls hl => ?_)
      refine lv_goto (tgt := 32) hx hb d_P_smear_55 (by decide) ?_
      exact ih x52 S49 _ _ ls hI (lv_sub hl [1, 2, 0] rfl) h
set_option maxHeartbeats 4000000 in
set_option maxRecDepth 100000 in
theorem c_P_smear (v1 : Int32) (v2 : Int32) (S : zS) (post : zS → Prop) (h : P_P_smear v1 v2 S post) : z_ctv l D cA 51 ad y_P_smear b_P_smear 4 none rm_P_smear [.ref (ad 0), .int v1, .int v2] S post := by
  refine z_metv (av := [.ref (ad 0), .int v1, .int v2]) (by decide) (Nat.le_of_ble_eq_true rfl) ⟨rfl, rfl⟩ (fun p e s m args below meth c Q ls C hcs hl hI hR => ?_)
  obtain ⟨hx, hb, hml, hown, hts, hK, hJ⟩ := id C
  unfold P_P_smear at h
  have hl : lv_has ls 4 [(0, .ref (ad 0)), (1, .int v1), (2, .int v2)] := hl
  refine lv_iconst (v := 0) hx hb d_P_smear_0 (by decide) ?_
  refine lv_istore_n (lv' := [(3, .int 0), (0, .ref (ad 0)), (1, .int v1), (2, .int v2)]) hx hb d_P_smear_1 rfl hl (by decide) rfl (fun ls hl => ?_)
  obtain ⟨k2, h⟩ := h
  refine w_P_smear_2 C hcs _ _ v1 v2 hR (fun S2e H locs ls h hI hl => ?_) k2 0 S _ _ ls hI (lv_sub hl [1, 2, 3, 0] rfl) h
  refine lv_iconst (v := 0) hx hb d_P_smear_30 (by decide) ?_
  refine lv_istore_n (lv' := [(3, .int 0), (0, .ref (ad 0)), (2, .int v2)]) hx hb d_P_smear_31 rfl hl (by decide) rfl (fun ls hl => ?_)
  obtain ⟨k32, h⟩ := h
  refine w_P_smear_32 C hcs _ v2 hR k32 0 S2e _ _ ls hI (lv_sub hl [1, 2, 0] rfl) h
set_option maxHeartbeats 4000000 in
set_option maxRecDepth 100000 in
theorem w_C_measure_48 (C : z_CT p s m args c R_C b_C_measure 6 D cA 51 ad) (hcs : cells ≤ rm_C_measure.cells ∧ slots ≤ rm_C_measure.slots) (post : zS → Prop) (K20 : Int32 → Int32 → zS → Prop) (v2 : Int32) (v4 : Int32) (v5 : Int32) (t0 : Int32) (hR : z_Rv p l e rm_C_measure s m args below meth c Q b_C_measure D cA 51 ad post) (kK20 : ∀ (v3 : Int32) (v4 : Int32) (S : zS) (H : Heap) (locs : List Loc) (ls : Array Slot), K20 v3 v4 S → z_I D cA 51 ad s.heap S H locs → lv_has ls 6 [(0, .ref (ad 21)), (1, .ref (ad 3)), (2, .int v2), (3, .int v3), (4, .int v4)] → W p l e rm_C_measure s m args below meth c H locs cells slots Q (F0 m 20 ls [])) (S : zS) (H : Heap) (locs : List Loc) (ls : Array Slot) (hI : z_I D cA 51 ad s.heap S H locs) (hl : lv_has ls 6 [(0, .ref (ad 21)), (1, .ref (ad 3)), (2, .int v2), (4, .int v4), (5, .int v5)]) (h : J_C_measure_48 post K20 v2 v4 v5 t0 S) : W p l e rm_C_measure s m args below meth c H locs cells slots Q (F0 m 48 ls [.int t0]) := by
  obtain ⟨hx, hb, hml, hown, hts, hK, hJ⟩ := id C
  unfold J_C_measure_48 at h
  refine lv_istore_n (lv' := [(3, .int t0), (0, .ref (ad 21)), (1, .ref (ad 3)), (2, .int v2), (4, .int v4), (5, .int v5)]) hx hb d_C_measure_48 rfl hl (by decide) rfl (fun ls hl => ?_)
  refine lv_aload_n hx hb d_C_measure_49 rfl (lv_at hl 1 rfl) ?_
  refine z_getR C hI 21 (by decide) kd_21 cl_C iw_C 5 (by decide) k_fl_C_24 rfl d_C_measure_50 ?_
  refine lv_iload hx hb d_C_measure_53 (lv_at hl 5 rfl) ?_
  refine lv_iload_n hx hb d_C_measure_55 rfl (lv_at hl 0 rfl) ?_
  obtain ⟨h1, h⟩ := h
  refine z_ist C hI 26 (by decide) kd_26 h1 d_C_measure_56 (fun S56 eS H locs hI => ?_)
  replace h := h S56 eS
  obtain ⟨x57, e57⟩ : ∃ y : Int32, y = v4 + (-1) := ⟨_, rfl⟩
  replace h := h x57 e57
  refine lv_iinc (v := x57) (lv' := [(4, .int x57), (3, .int t0), (0, .ref (ad 21)), (1, .ref (ad 3)), (2, .int v2), (5, .int v5)]) hx hb d_C_measure_57 hl (k := 4) rfl (by rw [e57]; rfl) (by decide) rfl (fun ls hl => ?_)
  refine lv_goto (tgt := 20) hx hb d_C_measure_60 (by decide) ?_
  exact kK20 t0 x57 S56 _ _ ls h hI (lv_sub hl [2, 3, 4, 1, 0] rfl)
set_option maxHeartbeats 4000000 in
set_option maxRecDepth 100000 in
theorem w_C_measure_20 (C : z_CT p s m args c R_C b_C_measure 6 D cA 51 ad) (hcs : cells ≤ rm_C_measure.cells ∧ slots ≤ rm_C_measure.slots) (post : zS → Prop) (K63 : zS → Prop) (v2 : Int32) (hR : z_Rv p l e rm_C_measure s m args below meth c Q b_C_measure D cA 51 ad post) (kK63 : ∀ (S : zS) (H : Heap) (locs : List Loc) (ls : Array Slot), K63 S → z_I D cA 51 ad s.heap S H locs → lv_has ls 6 [(0, .ref (ad 21)), (1, .ref (ad 3)), (2, .int v2)] → W p l e rm_C_measure s m args below meth c H locs cells slots Q (F0 m 63 ls [])) : ∀ (n : Nat) (v3 : Int32) (v4 : Int32) (S : zS) (H : Heap) (locs : List Loc) (ls : Array Slot), z_I D cA 51 ad s.heap S H locs → lv_has ls 6 [(0, .ref (ad 21)), (1, .ref (ad 3)), (2, .int v2), (3, .int v3), (4, .int v4)] → L_C_measure_20 post K63 v2 n v3 v4 S → W p l e rm_C_measure s m args below meth c H locs cells slots Q (F0 m 20 ls []) := by
  obtain ⟨hx, hb, hml, hown, hts, hK, hJ⟩ := id C
  intro n
  induction n with
  | zero => intro v3 v4 S H locs ls hI hl h; exact h.elim
  | succ n ih =>
    intro v3 v4 S H locs ls hI hl h
    rw [L_C_measure_20] at h
    refine lv_iload hx hb d_C_measure_20 (lv_at hl 4 rfl) ?_
    refine lv_if_lt (tgt := 63) hx hb d_C_measure_22 (by decide) (fun q => ?_) (fun q => ?_)
    · replace h := h.1 q
      exact kK63 S _ _ ls h hI (lv_sub hl [0, 1, 2] rfl)
    · replace h := h.2 q
      refine lv_iload_n hx hb d_C_measure_25 rfl (lv_at hl 2 rfl) ?_
      refine lv_bipush (v := 24) hx hb d_C_measure_26 (by decide) ?_
      refine lv_imul hx hb d_C_measure_28 ?_
      refine lv_iload hx hb d_C_measure_29 (lv_at hl 4 rfl) ?_
      refine lv_iadd hx hb d_C_measure_31 ?_
      refine lv_topi (fun x32 e32 => ?_)
      replace h := h x32 e32
      refine lv_istore (lv' := [(5, .int x32), (0, .ref (ad 21)), (1, .ref (ad 3)), (2, .int v2), (3, .int v3), (4, .int v4)]) hx hb d_C_measure_32 hl (by decide) rfl (fun ls hl => ?_)
      refine lv_aload_n hx hb d_C_measure_34 rfl (lv_at hl 2 rfl) ?_
      refine lv_iload hx hb d_C_measure_35 (lv_at hl 0 rfl) ?_
      obtain ⟨h1, h⟩ := h
      refine z_zld C hI 3 (by decide) kd_3 h1 d_C_measure_37 ?_
      refine lv_if_eq (tgt := 45) hx hb d_C_measure_38 (by decide) (fun q => ?_) (fun q => ?_)
      · replace h := h.1 q
        refine lv_iload_n hx hb d_C_measure_45 rfl (lv_at hl 4 rfl) ?_
        refine lv_iconst (v := 1) hx hb d_C_measure_46 (by decide) ?_
        refine lv_iadd hx hb d_C_measure_47 ?_
        exact w_C_measure_48 C hcs _ _ v2 v4 x32 (v3 + 1) hR (fun v3 v4 S H locs ls h hI hl => ih v3 v4 S H locs ls hI hl h) S _ _ ls hI (lv_sub hl [1, 2, 3, 5, 0] rfl) h
      · replace h := h.2 q
        refine lv_iconst (v := 0) hx hb d_C_measure_41 (by decide) ?_
        refine lv_goto (tgt := 48) hx hb d_C_measure_42 (by decide) ?_
        exact w_C_measure_48 C hcs _ _ v2 v4 x32 0 hR (fun v3 v4 S H locs ls h hI hl => ih v3 v4 S H locs ls hI hl h) S _ _ ls hI (lv_sub hl [1, 2, 3, 5, 0] rfl) h
set_option maxHeartbeats 4000000 in
set_option maxRecDepth 100000 in
theorem w_C_measure_2 (C : z_CT p s m args c R_C b_C_measure 6 D cA 51 ad) (hcs : cells ≤ rm_C_measure.cells ∧ slots ≤ rm_C_measure.slots) (post : zS → Prop) (hR : z_Rv p l e rm_C_measure s m args below meth c Q b_C_measure D cA 51 ad post) : ∀ (n : Nat) (v2 : Int32) (S : zS) (H : Heap) (locs : List Loc) (ls : Array Slot), z_I D cA 51 ad s.heap S H locs → lv_has ls 6 [(0, .ref (ad 21)), (1, .ref (ad 3)), (2, .int v2)] → L_C_measure_2 post n v2 S → W p l e rm_C_measure s m args below meth c H locs cells slots Q (F0 m 2 ls []) := by
  obtain ⟨hx, hb, hml, hown, hts, hK, hJ⟩ := id C
  intro n
  induction n with
  | zero => intro v2 S H locs ls hI hl h; exact h.elim
  | succ n ih =>
    intro v2 S H locs ls hI hl h
    rw [L_C_measure_2] at h
    refine lv_iload_n hx hb d_C_measure_2 rfl (lv_at hl 2 rfl) ?_
    refine lv_aload_n hx hb d_C_measure_3 rfl (lv_at hl 0 rfl) ?_
    refine z_getI C hI 21 (by decide) kd_21 cl_C iw_C 7 (by decide) k_fl_C_31 rfl d_C_measure_4 ?_
    refine lv_icmp_ge (tgt := 69) hx hb d_C_measure_7 (by decide) (fun q => ?_) (fun q => ?_)
    · replace h := h.1 q
      exact hR _ _ hcs S _ _ 69 ls h hI d_C_measure_69
    · replace h := h.2 q
      refine lv_iconst (v := 0) hx hb d_C_measure_10 (by decide) ?_
      refine lv_istore_n (lv' := [(3, .int 0), (0, .ref (ad 21)), (1, .ref (ad 3)), (2, .int v2)]) hx hb d_C_measure_11 rfl hl (by decide) rfl (fun ls hl => ?_)
      refine lv_aload_n hx hb d_C_measure_12 rfl (lv_at hl 1 rfl) ?_
      refine z_getI C hI 21 (by decide) kd_21 cl_C iw_C 6 (by decide) k_fl_C_27 rfl d_C_measure_13 ?_
      refine lv_iconst (v := 1) hx hb d_C_measure_16 (by decide) ?_
      refine lv_isub hx hb d_C_measure_17 ?_
      refine lv_topi (fun x18 e18 => ?_)
      replace h := h x18 e18
      refine lv_istore (lv' := [(4, .int x18), (3, .int 0), (0, .ref (ad 21)), (1, .ref (ad 3)), (2, .int v2)]) hx hb d_C_measure_18 hl (by decide) rfl (fun ls hl => ?_)
      obtain ⟨k20, h⟩ := h
      refine w_C_measure_20 C hcs _ _ v2 hR (fun S20e H locs ls h hI hl => ?_) k20 0 x18 S _ _ ls hI (lv_sub hl [2, 3, 4, 1, 0] rfl) h
      obtain ⟨x63, e63⟩ : ∃ y : Int32, y = v2 + 1 := ⟨_, rfl⟩
      replace h := h x63 e63
      refine lv_iinc (v := x63) (lv' := [(2, .int x63), (0, .ref (ad 21)), (1, .ref (ad 3))]) hx hb d_C_measure_63 hl (k := 2) rfl (by rw [e63]; rfl) (by decide) rfl (fun ls hl => ?_)
      refine lv_goto (tgt := 2) hx hb d_C_measure_66 (by decide) ?_
      exact ih x63 S20e _ _ ls hI (lv_sub hl [1, 2, 0] rfl) h
set_option maxHeartbeats 4000000 in
set_option maxRecDepth 100000 in
theorem c_C_measure (S : zS) (post : zS → Prop) (h : P_C_measure S post) : z_ctv l D cA 51 ad y_C_measure b_C_measure 6 none rm_C_measure [.ref (ad 21), .ref (ad 3)] S post := by
  refine z_metv (av := [.ref (ad 21), .ref (ad 3)]) (by decide) (Nat.le_of_ble_eq_true rfl) ⟨rfl, rfl⟩ (fun p e s m args below meth c Q ls C hcs hl hI hR => ?_)
  obtain ⟨hx, hb, hml, hown, hts, hK, hJ⟩ := id C
  unfold P_C_measure at h
  have hl : lv_has ls 6 [(0, .ref (ad 21)), (1, .ref (ad 3))] := hl
  refine lv_iconst (v := 0) hx hb d_C_measure_0 (by decide) ?_
  refine lv_istore_n (lv' := [(2, .int 0), (0, .ref (ad 21)), (1, .ref (ad 3))]) hx hb d_C_measure_1 rfl hl (by decide) rfl (fun ls hl => ?_)
  obtain ⟨k2, h⟩ := h
  refine w_C_measure_2 C hcs _ hR k2 0 S _ _ ls hI (lv_sub hl [1, 2, 0] rfl) h
set_option maxHeartbeats 4000000 in
set_option maxRecDepth 100000 in
theorem w_C_growFrom_11 (C : z_CT p s m args c R_C b_C_growFrom 6 D cA 51 ad) (hcs : cells ≤ rm_C_growFrom.cells ∧ slots ≤ rm_C_growFrom.slots) (post : zS → Prop) (v1 : Int32) (v2 : Int32) (v3 : Int32) (hR : z_Rv p l e rm_C_growFrom s m args below meth c Q b_C_growFrom D cA 51 ad post) : ∀ (n : Nat) (v4 : Int32) (v5 : Int32) (S : zS) (H : Heap) (locs : List Loc) (ls : Array Slot), z_I D cA 51 ad s.heap S H locs → lv_has ls 6 [(0, .ref (ad 21)), (1, .int v1), (2, .int v2), (3, .int v3), (4, .int v4), (5, .int v5)] → L_C_growFrom_11 post v1 v2 v3 n v4 v5 S → W p l e rm_C_growFrom s m args below meth c H locs cells slots Q (F0 m 11 ls []) := by
  obtain ⟨hx, hb, hml, hown, hts, hK, hJ⟩ := id C
  intro n
  induction n with
  | zero => intro v4 v5 S H locs ls hI hl h; exact h.elim
  | succ n ih =>
    intro v4 v5 S H locs ls hI hl h
    rw [L_C_growFrom_11] at h
    refine lv_iload hx hb d_C_growFrom_11 (lv_at hl 5 rfl) ?_
    refine lv_aload_n hx hb d_C_growFrom_13 rfl (lv_at hl 0 rfl) ?_
    refine z_getI C hI 21 (by decide) kd_21 cl_C iw_C 7 (by decide) k_fl_C_31 rfl d_C_growFrom_14 ?_
    refine lv_iload_n hx hb d_C_growFrom_17 rfl (lv_at hl 3 rfl) ?_
    refine lv_isub hx hb d_C_growFrom_18 ?_
    refine lv_icmp_gt (tgt := 119) hx hb d_C_growFrom_19 (by decide) (fun q => ?_) (fun q => ?_)
    · replace h := h.1 q
      exact hR _ _ hcs S _ _ 119 ls h hI d_C_growFrom_119
    · replace h := h.2 q
      refine lv_iload hx hb d_C_growFrom_22 (lv_at hl 4 rfl) ?_
      refine lv_aload_n hx hb d_C_growFrom_24 rfl (lv_at hl 0 rfl) ?_
      refine z_getR C hI 21 (by decide) kd_21 cl_C iw_C 5 (by decide) k_fl_C_24 rfl d_C_growFrom_25 ?_
      refine lv_iload_n hx hb d_C_growFrom_28 rfl (lv_at hl 3 rfl) ?_
      refine lv_iload hx hb d_C_growFrom_29 (lv_at hl 5 rfl) ?_
      refine lv_iadd hx hb d_C_growFrom_31 ?_
      refine lv_iconst (v := 1) hx hb d_C_growFrom_32 (by decide) ?_
      refine lv_isub hx hb d_C_growFrom_33 ?_
      refine lv_bipush (v := 24) hx hb d_C_growFrom_34 (by decide) ?_
      refine lv_imul hx hb d_C_growFrom_36 ?_
      refine lv_iload_n hx hb d_C_growFrom_37 rfl (lv_at hl 2 rfl) ?_
      refine lv_iadd hx hb d_C_growFrom_38 ?_
      obtain ⟨h1, h⟩ := h
      refine z_ild C hI 26 (by decide) kd_26 h1 d_C_growFrom_39 ?_
      refine z_mmin C hl.1 k_ml_C_55 (Nat.le_of_ble_eq_true rfl) (Nat.le_of_ble_eq_true rfl) hcs d_C_growFrom_40 ?_
      refine lv_topi (fun x43 e43 => ?_)
      replace h := h x43 e43
      refine lv_istore (lv' := [(4, .int x43), (0, .ref (ad 21)), (1, .int v1), (2, .int v2), (3, .int v3), (5, .int v5)]) hx hb d_C_growFrom_43 hl (by decide) rfl (fun ls hl => ?_)
      refine lv_iload hx hb d_C_growFrom_45 (lv_at hl 0 rfl) ?_
      refine lv_aload_n hx hb d_C_growFrom_47 rfl (lv_at hl 1 rfl) ?_
      refine z_getI C hI 21 (by decide) kd_21 cl_C iw_C 7 (by decide) k_fl_C_31 rfl d_C_growFrom_48 ?_
      refine lv_iload_n hx hb d_C_growFrom_51 rfl (lv_at hl 4 rfl) ?_
      refine lv_isub hx hb d_C_growFrom_52 ?_
      refine lv_imul hx hb d_C_growFrom_53 ?_
      refine lv_aload_n hx hb d_C_growFrom_54 rfl (lv_at hl 1 rfl) ?_
      refine z_getI C hI 21 (by decide) kd_21 cl_C iw_C 8 (by decide) k_fl_C_45 rfl d_C_growFrom_55 ?_
      refine lv_icmp_gt (tgt := 62) hx hb d_C_growFrom_58 (by decide) (fun q => ?_) (fun q => ?_)
      · replace h := h.1 q
        refine lv_iload hx hb d_C_growFrom_62 (lv_at hl 0 rfl) ?_
        refine lv_iload hx hb d_C_growFrom_64 (lv_at hl 5 rfl) ?_
        refine lv_imul hx hb d_C_growFrom_66 ?_
        refine lv_aload_n hx hb d_C_growFrom_67 rfl (lv_at hl 1 rfl) ?_
        refine z_getI C hI 21 (by decide) kd_21 cl_C iw_C 8 (by decide) k_fl_C_45 rfl d_C_growFrom_68 ?_
        refine lv_icmp_le (tgt := 113) hx hb d_C_growFrom_71 (by decide) (fun q => ?_) (fun q => ?_)
        · replace h := h.1 q
          obtain ⟨x113, e113⟩ : ∃ y : Int32, y = v5 + 1 := ⟨_, rfl⟩
          replace h := h x113 e113
          refine lv_iinc (v := x113) (lv' := [(5, .int x113), (4, .int x43), (0, .ref (ad 21)), (1, .int v1), (2, .int v2), (3, .int v3)]) hx hb d_C_growFrom_113 hl (k := 5) rfl (by rw [e113]; rfl) (by decide) rfl (fun ls hl => ?_)
          refine lv_goto (tgt := 11) hx hb d_C_growFrom_116 (by decide) ?_
          exact ih x43 x113 S _ _ ls hI (lv_sub hl [2, 3, 4, 5, 1, 0] rfl) h
        · replace h := h.2 q
          refine lv_aload_n hx hb d_C_growFrom_74 rfl (lv_at hl 1 rfl) ?_
          refine lv_iload hx hb d_C_growFrom_75 (lv_at hl 0 rfl) ?_
          refine lv_iload hx hb d_C_growFrom_77 (lv_at hl 5 rfl) ?_
          refine lv_imul hx hb d_C_growFrom_79 ?_
          refine z_putI C hI 21 (by decide) kd_21 cl_C iw_C ty_C ty_C_ok n_C 8 (by decide) k_fl_C_45 rfl rfl rfl d_C_growFrom_80 (fun S80 eS H locs hI => ?_)
          replace h := h S80 eS
          refine lv_aload_n hx hb d_C_growFrom_83 rfl (lv_at hl 1 rfl) ?_
          refine z_getR C hI 21 (by decide) kd_21 cl_C iw_C 0 (by decide) k_fl_C_9 rfl d_C_growFrom_84 ?_
          refine lv_iload_n hx hb d_C_growFrom_87 rfl (lv_at hl 2 rfl) ?_
          refine lv_iload_n hx hb d_C_growFrom_88 rfl (lv_at hl 3 rfl) ?_
          obtain ⟨h1, h⟩ := h
          refine z_ist C hI 22 (by decide) kd_22 h1 d_C_growFrom_89 (fun S89 eS H locs hI => ?_)
          replace h := h S89 eS
          refine lv_aload_n hx hb d_C_growFrom_90 rfl (lv_at hl 1 rfl) ?_
          refine z_getR C hI 21 (by decide) kd_21 cl_C iw_C 1 (by decide) k_fl_C_15 rfl d_C_growFrom_91 ?_
          refine lv_iload_n hx hb d_C_growFrom_94 rfl (lv_at hl 2 rfl) ?_
          refine lv_iload_n hx hb d_C_growFrom_95 rfl (lv_at hl 4 rfl) ?_
          obtain ⟨h1, h⟩ := h
          refine z_ist C hI 23 (by decide) kd_23 h1 d_C_growFrom_96 (fun S96 eS H locs hI => ?_)
          replace h := h S96 eS
          refine lv_aload_n hx hb d_C_growFrom_97 rfl (lv_at hl 1 rfl) ?_
          refine z_getR C hI 21 (by decide) kd_21 cl_C iw_C 2 (by decide) k_fl_C_18 rfl d_C_growFrom_98 ?_
          refine lv_iload_n hx hb d_C_growFrom_101 rfl (lv_at hl 2 rfl) ?_
          refine lv_iload hx hb d_C_growFrom_102 (lv_at hl 0 rfl) ?_
          obtain ⟨h1, h⟩ := h
          refine z_ist C hI 24 (by decide) kd_24 h1 d_C_growFrom_104 (fun S104 eS H locs hI => ?_)
          replace h := h S104 eS
          refine lv_aload_n hx hb d_C_growFrom_105 rfl (lv_at hl 1 rfl) ?_
          refine z_getR C hI 21 (by decide) kd_21 cl_C iw_C 3 (by decide) k_fl_C_21 rfl d_C_growFrom_106 ?_
          refine lv_iload_n hx hb d_C_growFrom_109 rfl (lv_at hl 2 rfl) ?_
          refine lv_iload hx hb d_C_growFrom_110 (lv_at hl 5 rfl) ?_
          obtain ⟨h1, h⟩ := h
          refine z_ist C hI 25 (by decide) kd_25 h1 d_C_growFrom_112 (fun S112 eS H locs hI => ?_)
          replace h := h S112 eS
          obtain ⟨x113, e113⟩ : ∃ y : Int32, y = v5 + 1 := ⟨_, rfl⟩
          replace h := h x113 e113
          refine lv_iinc (v := x113) (lv' := [(5, .int x113), (4, .int x43), (0, .ref (ad 21)), (1, .int v1), (2, .int v2), (3, .int v3)]) hx hb d_C_growFrom_113 hl (k := 5) rfl (by rw [e113]; rfl) (by decide) rfl (fun ls hl => ?_)
          refine lv_goto (tgt := 11) hx hb d_C_growFrom_116 (by decide) ?_
          exact ih x43 x113 S112 _ _ ls hI (lv_sub hl [2, 3, 4, 5, 1, 0] rfl) h
      · replace h := h.2 q
        exact hR _ _ hcs S _ _ 61 ls h hI d_C_growFrom_61
set_option maxHeartbeats 4000000 in
set_option maxRecDepth 100000 in
theorem c_C_growFrom (v1 : Int32) (v2 : Int32) (v3 : Int32) (S : zS) (post : zS → Prop) (h : P_C_growFrom v1 v2 v3 S post) : z_ctv l D cA 51 ad y_C_growFrom b_C_growFrom 6 none rm_C_growFrom [.ref (ad 21), .int v1, .int v2, .int v3] S post := by
  refine z_metv (av := [.ref (ad 21), .int v1, .int v2, .int v3]) (by decide) (Nat.le_of_ble_eq_true rfl) ⟨rfl, rfl⟩ (fun p e s m args below meth c Q ls C hcs hl hI hR => ?_)
  obtain ⟨hx, hb, hml, hown, hts, hK, hJ⟩ := id C
  unfold P_C_growFrom at h
  have hl : lv_has ls 6 [(0, .ref (ad 21)), (1, .int v1), (2, .int v2), (3, .int v3)] := hl
  refine lv_aload_n hx hb d_C_growFrom_0 rfl (lv_at hl 0 rfl) ?_
  refine z_getI C hI 21 (by decide) kd_21 cl_C iw_C 6 (by decide) k_fl_C_27 rfl d_C_growFrom_1 ?_
  refine lv_iload_n hx hb d_C_growFrom_4 rfl (lv_at hl 2 rfl) ?_
  refine lv_isub hx hb d_C_growFrom_5 ?_
  refine lv_topi (fun x6 e6 => ?_)
  replace h := h x6 e6
  refine lv_istore (lv' := [(4, .int x6), (0, .ref (ad 21)), (1, .int v1), (2, .int v2), (3, .int v3)]) hx hb d_C_growFrom_6 hl (by decide) rfl (fun ls hl => ?_)
  refine lv_iconst (v := 1) hx hb d_C_growFrom_8 (by decide) ?_
  refine lv_istore (lv' := [(5, .int 1), (4, .int x6), (0, .ref (ad 21)), (1, .int v1), (2, .int v2), (3, .int v3)]) hx hb d_C_growFrom_9 hl (by decide) rfl (fun ls hl => ?_)
  obtain ⟨k11, h⟩ := h
  refine w_C_growFrom_11 C hcs _ v1 v2 v3 hR k11 x6 1 S _ _ ls hI (lv_sub hl [2, 3, 4, 5, 1, 0] rfl) h
set_option maxHeartbeats 4000000 in
set_option maxRecDepth 100000 in
theorem w_C_findGreatest_17 (C : z_CT p s m args c R_C b_C_findGreatest 4 D cA 51 ad) (hcs : cells ≤ rm_C_findGreatest.cells ∧ slots ≤ rm_C_findGreatest.slots) (post : zS → Prop) (K38 : zS → Prop) (v1 : Int32) (v2 : Int32) (hR : z_Rv p l e rm_C_findGreatest s m args below meth c Q b_C_findGreatest D cA 51 ad post) (kK38 : ∀ (S : zS) (H : Heap) (locs : List Loc) (ls : Array Slot), K38 S → z_I D cA 51 ad s.heap S H locs → lv_has ls 4 [(0, .ref (ad 21)), (1, .int v1), (2, .int v2)] → W p l e rm_C_findGreatest s m args below meth c H locs cells slots Q (F0 m 38 ls [])) : ∀ (n : Nat) (v3 : Int32) (S : zS) (H : Heap) (locs : List Loc) (ls : Array Slot), z_I D cA 51 ad s.heap S H locs → lv_has ls 4 [(0, .ref (ad 21)), (1, .int v1), (2, .int v2), (3, .int v3)] → L_C_findGreatest_17 post K38 v1 v2 n v3 S → W p l e rm_C_findGreatest s m args below meth c H locs cells slots Q (F0 m 17 ls []) := by
  obtain ⟨hx, hb, hml, hown, hts, hK, hJ⟩ := id C
  intro n
  induction n with
  | zero => intro v3 S H locs ls hI hl h; exact h.elim
  | succ n ih =>
    intro v3 S H locs ls hI hl h
    rw [L_C_findGreatest_17] at h
    refine lv_iload_n hx hb d_C_findGreatest_17 rfl (lv_at hl 3 rfl) ?_
    refine lv_aload_n hx hb d_C_findGreatest_18 rfl (lv_at hl 0 rfl) ?_
    refine z_getI C hI 21 (by decide) kd_21 cl_C iw_C 6 (by decide) k_fl_C_27 rfl d_C_findGreatest_19 ?_
    refine lv_icmp_ge (tgt := 38) hx hb d_C_findGreatest_22 (by decide) (fun q => ?_) (fun q => ?_)
    · replace h := h.1 q
      exact kK38 S _ _ ls h hI (lv_sub hl [0, 1, 2] rfl)
    · replace h := h.2 q
      refine lv_aload_n hx hb d_C_findGreatest_25 rfl (lv_at hl 0 rfl) ?_
      refine lv_iload_n hx hb d_C_findGreatest_26 rfl (lv_at hl 1 rfl) ?_
      refine lv_iload_n hx hb d_C_findGreatest_27 rfl (lv_at hl 3 rfl) ?_
      refine lv_iload_n hx hb d_C_findGreatest_28 rfl (lv_at hl 2 rfl) ?_
      refine z_callVv C hI 21 (by decide) kd_21 cl_C (As := [.int v1, .int v3, .int v2]) (rest := []) (c_C_growFrom v1 v3 v2 _ _ h) wc_C_growFrom k_ml_C_51 rfl rfl (Nat.le_of_ble_eq_true rfl) (Nat.le_of_ble_eq_true rfl) hcs hl.1 (Nat.le_of_ble_eq_true rfl) rfl d_C_findGreatest_29 (fun S29 H locs h hI => ?_)
      obtain ⟨x32, e32⟩ : ∃ y : Int32, y = v3 + 1 := ⟨_, rfl⟩
      replace h := h x32 e32
      refine lv_iinc (v := x32) (lv' := [(3, .int x32), (0, .ref (ad 21)), (1, .int v1), (2, .int v2)]) hx hb d_C_findGreatest_32 hl (k := 3) rfl (by rw [e32]; rfl) (by decide) rfl (fun ls hl => ?_)
      refine lv_goto (tgt := 17) hx hb d_C_findGreatest_35 (by decide) ?_
      exact ih x32 S29 _ _ ls hI (lv_sub hl [1, 2, 3, 0] rfl) h
set_option maxHeartbeats 4000000 in
set_option maxRecDepth 100000 in
theorem w_C_findGreatest_7 (C : z_CT p s m args c R_C b_C_findGreatest 4 D cA 51 ad) (hcs : cells ≤ rm_C_findGreatest.cells ∧ slots ≤ rm_C_findGreatest.slots) (post : zS → Prop) (v1 : Int32) (hR : z_Rv p l e rm_C_findGreatest s m args below meth c Q b_C_findGreatest D cA 51 ad post) : ∀ (n : Nat) (v2 : Int32) (S : zS) (H : Heap) (locs : List Loc) (ls : Array Slot), z_I D cA 51 ad s.heap S H locs → lv_has ls 4 [(0, .ref (ad 21)), (1, .int v1), (2, .int v2)] → L_C_findGreatest_7 post v1 n v2 S → W p l e rm_C_findGreatest s m args below meth c H locs cells slots Q (F0 m 7 ls []) := by
  obtain ⟨hx, hb, hml, hown, hts, hK, hJ⟩ := id C
  intro n
  induction n with
  | zero => intro v2 S H locs ls hI hl h; exact h.elim
  | succ n ih =>
    intro v2 S H locs ls hI hl h
    rw [L_C_findGreatest_7] at h
    refine lv_iload_n hx hb d_C_findGreatest_7 rfl (lv_at hl 2 rfl) ?_
    refine lv_aload_n hx hb d_C_findGreatest_8 rfl (lv_at hl 0 rfl) ?_
    refine z_getI C hI 21 (by decide) kd_21 cl_C iw_C 7 (by decide) k_fl_C_31 rfl d_C_findGreatest_9 ?_
    refine lv_icmp_ge (tgt := 44) hx hb d_C_findGreatest_12 (by decide) (fun q => ?_) (fun q => ?_)
    · replace h := h.1 q
      exact hR _ _ hcs S _ _ 44 ls h hI d_C_findGreatest_44
    · replace h := h.2 q
      refine lv_iconst (v := 0) hx hb d_C_findGreatest_15 (by decide) ?_
      refine lv_istore_n (lv' := [(3, .int 0), (0, .ref (ad 21)), (1, .int v1), (2, .int v2)]) hx hb d_C_findGreatest_16 rfl hl (by decide) rfl (fun ls hl => ?_)
      obtain ⟨k17, h⟩ := h
      refine w_C_findGreatest_17 C hcs _ _ v1 v2 hR (fun S17e H locs ls h hI hl => ?_) k17 0 S _ _ ls hI (lv_sub hl [1, 2, 3, 0] rfl) h
      obtain ⟨x38, e38⟩ : ∃ y : Int32, y = v2 + 1 := ⟨_, rfl⟩
      replace h := h x38 e38
      refine lv_iinc (v := x38) (lv' := [(2, .int x38), (0, .ref (ad 21)), (1, .int v1)]) hx hb d_C_findGreatest_38 hl (k := 2) rfl (by rw [e38]; rfl) (by decide) rfl (fun ls hl => ?_)
      refine lv_goto (tgt := 7) hx hb d_C_findGreatest_41 (by decide) ?_
      exact ih x38 S17e _ _ ls hI (lv_sub hl [1, 2, 0] rfl) h
set_option maxHeartbeats 4000000 in
set_option maxRecDepth 100000 in
theorem c_C_findGreatest (v1 : Int32) (S : zS) (post : zS → Prop) (h : P_C_findGreatest v1 S post) : z_ctv l D cA 51 ad y_C_findGreatest b_C_findGreatest 4 none rm_C_findGreatest [.ref (ad 21), .int v1] S post := by
  refine z_metv (av := [.ref (ad 21), .int v1]) (by decide) (Nat.le_of_ble_eq_true rfl) ⟨rfl, rfl⟩ (fun p e s m args below meth c Q ls C hcs hl hI hR => ?_)
  obtain ⟨hx, hb, hml, hown, hts, hK, hJ⟩ := id C
  unfold P_C_findGreatest at h
  have hl : lv_has ls 4 [(0, .ref (ad 21)), (1, .int v1)] := hl
  refine lv_aload_n hx hb d_C_findGreatest_0 rfl (lv_at hl 0 rfl) ?_
  refine lv_iconst (v := 0) hx hb d_C_findGreatest_1 (by decide) ?_
  refine z_putI C hI 21 (by decide) kd_21 cl_C iw_C ty_C ty_C_ok n_C 8 (by decide) k_fl_C_45 rfl rfl rfl d_C_findGreatest_2 (fun S2 eS H locs hI => ?_)
  replace h := h S2 eS
  refine lv_iconst (v := 0) hx hb d_C_findGreatest_5 (by decide) ?_
  refine lv_istore_n (lv' := [(2, .int 0), (0, .ref (ad 21)), (1, .int v1)]) hx hb d_C_findGreatest_6 rfl hl (by decide) rfl (fun ls hl => ?_)
  obtain ⟨k7, h⟩ := h
  refine w_C_findGreatest_7 C hcs _ v1 hR k7 0 S2 _ _ ls hI (lv_sub hl [1, 2, 0] rfl) h
set_option maxHeartbeats 4000000 in
set_option maxRecDepth 100000 in
theorem w_C_shortenBefore_4 (C : z_CT p s m args c R_C b_C_shortenBefore 5 D cA 51 ad) (hcs : cells ≤ rm_C_shortenBefore.cells ∧ slots ≤ rm_C_shortenBefore.slots) (post : zS → Prop) (v1 : Int32) (v2 : Int32) (hR : z_Rv p l e rm_C_shortenBefore s m args below meth c Q b_C_shortenBefore D cA 51 ad post) : ∀ (n : Nat) (v3 : Int32) (S : zS) (H : Heap) (locs : List Loc) (ls : Array Slot), z_I D cA 51 ad s.heap S H locs → lv_has ls 5 [(0, .ref (ad 21)), (1, .int v1), (2, .int v2), (3, .int v3)] → L_C_shortenBefore_4 post v1 v2 n v3 S → W p l e rm_C_shortenBefore s m args below meth c H locs cells slots Q (F0 m 4 ls []) := by
  obtain ⟨hx, hb, hml, hown, hts, hK, hJ⟩ := id C
  intro n
  induction n with
  | zero => intro v3 S H locs ls hI hl h; exact h.elim
  | succ n ih =>
    intro v3 S H locs ls hI hl h
    rw [L_C_shortenBefore_4] at h
    refine lv_iload_n hx hb d_C_shortenBefore_4 rfl (lv_at hl 3 rfl) ?_
    refine lv_if_lt (tgt := 42) hx hb d_C_shortenBefore_5 (by decide) (fun q => ?_) (fun q => ?_)
    · replace h := h.1 q
      exact hR _ _ hcs S _ _ 42 ls h hI d_C_shortenBefore_42
    · replace h := h.2 q
      refine lv_iload_n hx hb d_C_shortenBefore_8 rfl (lv_at hl 2 rfl) ?_
      refine lv_bipush (v := 24) hx hb d_C_shortenBefore_9 (by decide) ?_
      refine lv_imul hx hb d_C_shortenBefore_11 ?_
      refine lv_iload_n hx hb d_C_shortenBefore_12 rfl (lv_at hl 3 rfl) ?_
      refine lv_iadd hx hb d_C_shortenBefore_13 ?_
      refine lv_topi (fun x14 e14 => ?_)
      replace h := h x14 e14
      refine lv_istore (lv' := [(4, .int x14), (0, .ref (ad 21)), (1, .int v1), (2, .int v2), (3, .int v3)]) hx hb d_C_shortenBefore_14 hl (by decide) rfl (fun ls hl => ?_)
      refine lv_aload_n hx hb d_C_shortenBefore_16 rfl (lv_at hl 1 rfl) ?_
      refine z_getR C hI 21 (by decide) kd_21 cl_C iw_C 5 (by decide) k_fl_C_24 rfl d_C_shortenBefore_17 ?_
      refine lv_iload hx hb d_C_shortenBefore_20 (lv_at hl 0 rfl) ?_
      refine lv_aload_n hx hb d_C_shortenBefore_22 rfl (lv_at hl 1 rfl) ?_
      refine z_getR C hI 21 (by decide) kd_21 cl_C iw_C 5 (by decide) k_fl_C_24 rfl d_C_shortenBefore_23 ?_
      refine lv_iload hx hb d_C_shortenBefore_26 (lv_at hl 0 rfl) ?_
      obtain ⟨h1, h⟩ := h
      refine z_ild C hI 26 (by decide) kd_26 h1 d_C_shortenBefore_28 ?_
      refine lv_iload_n hx hb d_C_shortenBefore_29 rfl (lv_at hl 2 rfl) ?_
      refine lv_iload_n hx hb d_C_shortenBefore_30 rfl (lv_at hl 4 rfl) ?_
      refine lv_isub hx hb d_C_shortenBefore_31 ?_
      refine z_mmin C hl.1 k_ml_C_55 (Nat.le_of_ble_eq_true rfl) (Nat.le_of_ble_eq_true rfl) hcs d_C_shortenBefore_32 ?_
      obtain ⟨h1, h⟩ := h
      refine z_ist C hI 26 (by decide) kd_26 h1 d_C_shortenBefore_35 (fun S35 eS H locs hI => ?_)
      replace h := h S35 eS
      obtain ⟨x36, e36⟩ : ∃ y : Int32, y = v3 + (-1) := ⟨_, rfl⟩
      replace h := h x36 e36
      refine lv_iinc (v := x36) (lv' := [(3, .int x36), (4, .int x14), (0, .ref (ad 21)), (1, .int v1), (2, .int v2)]) hx hb d_C_shortenBefore_36 hl (k := 4) rfl (by rw [e36]; rfl) (by decide) rfl (fun ls hl => ?_)
      refine lv_goto (tgt := 4) hx hb d_C_shortenBefore_39 (by decide) ?_
      exact ih x36 S35 _ _ ls hI (lv_sub hl [2, 3, 4, 0] rfl) h
set_option maxHeartbeats 4000000 in
set_option maxRecDepth 100000 in
theorem c_C_shortenBefore (v1 : Int32) (v2 : Int32) (S : zS) (post : zS → Prop) (h : P_C_shortenBefore v1 v2 S post) : z_ctv l D cA 51 ad y_C_shortenBefore b_C_shortenBefore 5 none rm_C_shortenBefore [.ref (ad 21), .int v1, .int v2] S post := by
  refine z_metv (av := [.ref (ad 21), .int v1, .int v2]) (by decide) (Nat.le_of_ble_eq_true rfl) ⟨rfl, rfl⟩ (fun p e s m args below meth c Q ls C hcs hl hI hR => ?_)
  obtain ⟨hx, hb, hml, hown, hts, hK, hJ⟩ := id C
  unfold P_C_shortenBefore at h
  have hl : lv_has ls 5 [(0, .ref (ad 21)), (1, .int v1), (2, .int v2)] := hl
  refine lv_iload_n hx hb d_C_shortenBefore_0 rfl (lv_at hl 1 rfl) ?_
  refine lv_iconst (v := 1) hx hb d_C_shortenBefore_1 (by decide) ?_
  refine lv_isub hx hb d_C_shortenBefore_2 ?_
  refine lv_topi (fun x3 e3 => ?_)
  replace h := h x3 e3
  refine lv_istore_n (lv' := [(3, .int x3), (0, .ref (ad 21)), (1, .int v1), (2, .int v2)]) hx hb d_C_shortenBefore_3 rfl hl (by decide) rfl (fun ls hl => ?_)
  obtain ⟨k4, h⟩ := h
  refine w_C_shortenBefore_4 C hcs _ v1 v2 hR k4 x3 S _ _ ls hI (lv_sub hl [1, 2, 3, 0] rfl) h
set_option maxHeartbeats 4000000 in
set_option maxRecDepth 100000 in
theorem w_C_block_46 (C : z_CT p s m args c R_C b_C_block 5 D cA 51 ad) (hcs : cells ≤ rm_C_block.cells ∧ slots ≤ rm_C_block.slots) (post : zS → Prop) (K71 : zS → Prop) (v1 : Int32) (v2 : Int32) (v3 : Int32) (hR : z_Rv p l e rm_C_block s m args below meth c Q b_C_block D cA 51 ad post) (kK71 : ∀ (S : zS) (H : Heap) (locs : List Loc) (ls : Array Slot), K71 S → z_I D cA 51 ad s.heap S H locs → lv_has ls 5 [(0, .ref (ad 21)), (1, .int v1), (2, .int v2), (3, .int v3)] → W p l e rm_C_block s m args below meth c H locs cells slots Q (F0 m 71 ls [])) : ∀ (n : Nat) (v4 : Int32) (S : zS) (H : Heap) (locs : List Loc) (ls : Array Slot), z_I D cA 51 ad s.heap S H locs → lv_has ls 5 [(0, .ref (ad 21)), (1, .int v1), (2, .int v2), (3, .int v3), (4, .int v4)] → L_C_block_46 post K71 v1 v2 v3 n v4 S → W p l e rm_C_block s m args below meth c H locs cells slots Q (F0 m 46 ls []) := by
  obtain ⟨hx, hb, hml, hown, hts, hK, hJ⟩ := id C
  intro n
  induction n with
  | zero => intro v4 S H locs ls hI hl h; exact h.elim
  | succ n ih =>
    intro v4 S H locs ls hI hl h
    rw [L_C_block_46] at h
    refine lv_iload hx hb d_C_block_46 (lv_at hl 4 rfl) ?_
    refine lv_iload_n hx hb d_C_block_48 rfl (lv_at hl 2 rfl) ?_
    refine lv_icmp_ge (tgt := 71) hx hb d_C_block_49 (by decide) (fun q => ?_) (fun q => ?_)
    · replace h := h.1 q
      exact kK71 S _ _ ls h hI (lv_sub hl [0, 1, 2, 3] rfl)
    · replace h := h.2 q
      refine lv_aload_n hx hb d_C_block_52 rfl (lv_at hl 0 rfl) ?_
      refine z_getR C hI 21 (by decide) kd_21 cl_C iw_C 5 (by decide) k_fl_C_24 rfl d_C_block_53 ?_
      refine lv_iload_n hx hb d_C_block_56 rfl (lv_at hl 3 rfl) ?_
      refine lv_bipush (v := 24) hx hb d_C_block_57 (by decide) ?_
      refine lv_imul hx hb d_C_block_59 ?_
      refine lv_iload hx hb d_C_block_60 (lv_at hl 4 rfl) ?_
      refine lv_iadd hx hb d_C_block_62 ?_
      refine lv_iconst (v := 0) hx hb d_C_block_63 (by decide) ?_
      obtain ⟨h1, h⟩ := h
      refine z_ist C hI 26 (by decide) kd_26 h1 d_C_block_64 (fun S64 eS H locs hI => ?_)
      replace h := h S64 eS
      obtain ⟨x65, e65⟩ : ∃ y : Int32, y = v4 + 1 := ⟨_, rfl⟩
      replace h := h x65 e65
      refine lv_iinc (v := x65) (lv' := [(4, .int x65), (0, .ref (ad 21)), (1, .int v1), (2, .int v2), (3, .int v3)]) hx hb d_C_block_65 hl (k := 4) rfl (by rw [e65]; rfl) (by decide) rfl (fun ls hl => ?_)
      refine lv_goto (tgt := 46) hx hb d_C_block_68 (by decide) ?_
      exact ih x65 S64 _ _ ls hI (lv_sub hl [1, 2, 3, 4, 0] rfl) h
set_option maxHeartbeats 4000000 in
set_option maxRecDepth 100000 in
theorem w_C_block_21 (C : z_CT p s m args c R_C b_C_block 5 D cA 51 ad) (hcs : cells ≤ rm_C_block.cells ∧ slots ≤ rm_C_block.slots) (post : zS → Prop) (v1 : Int32) (v2 : Int32) (hR : z_Rv p l e rm_C_block s m args below meth c Q b_C_block D cA 51 ad post) : ∀ (n : Nat) (v3 : Int32) (S : zS) (H : Heap) (locs : List Loc) (ls : Array Slot), z_I D cA 51 ad s.heap S H locs → lv_has ls 5 [(0, .ref (ad 21)), (1, .int v1), (2, .int v2), (3, .int v3)] → L_C_block_21 post v1 v2 n v3 S → W p l e rm_C_block s m args below meth c H locs cells slots Q (F0 m 21 ls []) := by
  obtain ⟨hx, hb, hml, hown, hts, hK, hJ⟩ := id C
  intro n
  induction n with
  | zero => intro v3 S H locs ls hI hl h; exact h.elim
  | succ n ih =>
    intro v3 S H locs ls hI hl h
    rw [L_C_block_21] at h
    refine lv_iload_n hx hb d_C_block_21 rfl (lv_at hl 3 rfl) ?_
    refine lv_aload_n hx hb d_C_block_22 rfl (lv_at hl 0 rfl) ?_
    refine z_getR C hI 21 (by decide) kd_21 cl_C iw_C 1 (by decide) k_fl_C_15 rfl d_C_block_23 ?_
    refine lv_iload_n hx hb d_C_block_26 rfl (lv_at hl 1 rfl) ?_
    obtain ⟨h1, h⟩ := h
    refine z_ild C hI 23 (by decide) kd_23 h1 d_C_block_27 ?_
    refine lv_aload_n hx hb d_C_block_28 rfl (lv_at hl 0 rfl) ?_
    refine z_getR C hI 21 (by decide) kd_21 cl_C iw_C 3 (by decide) k_fl_C_21 rfl d_C_block_29 ?_
    refine lv_iload_n hx hb d_C_block_32 rfl (lv_at hl 1 rfl) ?_
    obtain ⟨h1, h⟩ := h
    refine z_ild C hI 25 (by decide) kd_25 h1 d_C_block_33 ?_
    refine lv_iadd hx hb d_C_block_34 ?_
    refine lv_icmp_ge (tgt := 88) hx hb d_C_block_35 (by decide) (fun q => ?_) (fun q => ?_)
    · replace h := h.1 q
      exact hR _ _ hcs S _ _ 88 ls h hI d_C_block_88
    · replace h := h.2 q
      refine lv_aload_n hx hb d_C_block_38 rfl (lv_at hl 0 rfl) ?_
      refine z_getR C hI 21 (by decide) kd_21 cl_C iw_C 0 (by decide) k_fl_C_9 rfl d_C_block_39 ?_
      refine lv_iload_n hx hb d_C_block_42 rfl (lv_at hl 1 rfl) ?_
      obtain ⟨h1, h⟩ := h
      refine z_ild C hI 22 (by decide) kd_22 h1 d_C_block_43 ?_
      refine lv_topi (fun x44 e44 => ?_)
      replace h := h x44 e44
      refine lv_istore (lv' := [(4, .int x44), (0, .ref (ad 21)), (1, .int v1), (2, .int v2), (3, .int v3)]) hx hb d_C_block_44 hl (by decide) rfl (fun ls hl => ?_)
      obtain ⟨k46, h⟩ := h
      refine w_C_block_46 C hcs _ _ v1 v2 v3 hR (fun S46e H locs ls h hI hl => ?_) k46 x44 S _ _ ls hI (lv_sub hl [1, 2, 3, 4, 0] rfl) h
      refine lv_aload_n hx hb d_C_block_71 rfl (lv_at hl 0 rfl) ?_
      refine lv_aload_n hx hb d_C_block_72 rfl (lv_at hl 0 rfl) ?_
      refine z_getR C hI 21 (by decide) kd_21 cl_C iw_C 0 (by decide) k_fl_C_9 rfl d_C_block_73 ?_
      refine lv_iload_n hx hb d_C_block_76 rfl (lv_at hl 1 rfl) ?_
      obtain ⟨h1, h⟩ := h
      refine z_ild C hI 22 (by decide) kd_22 h1 d_C_block_77 ?_
      refine lv_iload_n hx hb d_C_block_78 rfl (lv_at hl 3 rfl) ?_
      refine z_callVv C hI 21 (by decide) kd_21 cl_C (As := [.int (S46e 22 (z_ix v1)), .int v3]) (rest := []) (c_C_shortenBefore (S46e 22 (z_ix v1)) v3 _ _ h) wc_C_shortenBefore k_ml_C_61 rfl rfl (Nat.le_of_ble_eq_true rfl) (Nat.le_of_ble_eq_true rfl) hcs hl.1 (Nat.le_of_ble_eq_true rfl) rfl d_C_block_79 (fun S79 H locs h hI => ?_)
      obtain ⟨x82, e82⟩ : ∃ y : Int32, y = v3 + 1 := ⟨_, rfl⟩
      replace h := h x82 e82
      refine lv_iinc (v := x82) (lv' := [(3, .int x82), (0, .ref (ad 21)), (1, .int v1), (2, .int v2)]) hx hb d_C_block_82 hl (k := 3) rfl (by rw [e82]; rfl) (by decide) rfl (fun ls hl => ?_)
      refine lv_goto (tgt := 21) hx hb d_C_block_85 (by decide) ?_
      exact ih x82 S79 _ _ ls hI (lv_sub hl [1, 2, 3, 0] rfl) h
set_option maxHeartbeats 4000000 in
set_option maxRecDepth 100000 in
theorem c_C_block (v1 : Int32) (S : zS) (post : zS → Prop) (h : P_C_block v1 S post) : z_ctv l D cA 51 ad y_C_block b_C_block 5 none rm_C_block [.ref (ad 21), .int v1] S post := by
  refine z_metv (av := [.ref (ad 21), .int v1]) (by decide) (Nat.le_of_ble_eq_true rfl) ⟨rfl, rfl⟩ (fun p e s m args below meth c Q ls C hcs hl hI hR => ?_)
  obtain ⟨hx, hb, hml, hown, hts, hK, hJ⟩ := id C
  unfold P_C_block at h
  have hl : lv_has ls 5 [(0, .ref (ad 21)), (1, .int v1)] := hl
  refine lv_aload_n hx hb d_C_block_0 rfl (lv_at hl 0 rfl) ?_
  refine z_getR C hI 21 (by decide) kd_21 cl_C iw_C 0 (by decide) k_fl_C_9 rfl d_C_block_1 ?_
  refine lv_iload_n hx hb d_C_block_4 rfl (lv_at hl 1 rfl) ?_
  obtain ⟨h1, h⟩ := h
  refine z_ild C hI 22 (by decide) kd_22 h1 d_C_block_5 ?_
  refine lv_aload_n hx hb d_C_block_6 rfl (lv_at hl 0 rfl) ?_
  refine z_getR C hI 21 (by decide) kd_21 cl_C iw_C 2 (by decide) k_fl_C_18 rfl d_C_block_7 ?_
  refine lv_iload_n hx hb d_C_block_10 rfl (lv_at hl 1 rfl) ?_
  obtain ⟨h1, h⟩ := h
  refine z_ild C hI 24 (by decide) kd_24 h1 d_C_block_11 ?_
  refine lv_iadd hx hb d_C_block_12 ?_
  refine lv_topi (fun x13 e13 => ?_)
  replace h := h x13 e13
  refine lv_istore_n (lv' := [(2, .int x13), (0, .ref (ad 21)), (1, .int v1)]) hx hb d_C_block_13 rfl hl (by decide) rfl (fun ls hl => ?_)
  refine lv_aload_n hx hb d_C_block_14 rfl (lv_at hl 1 rfl) ?_
  refine z_getR C hI 21 (by decide) kd_21 cl_C iw_C 1 (by decide) k_fl_C_15 rfl d_C_block_15 ?_
  refine lv_iload_n hx hb d_C_block_18 rfl (lv_at hl 2 rfl) ?_
  obtain ⟨h1, h⟩ := h
  refine z_ild C hI 23 (by decide) kd_23 h1 d_C_block_19 ?_
  refine lv_topi (fun x20 e20 => ?_)
  replace h := h x20 e20
  refine lv_istore_n (lv' := [(3, .int x20), (2, .int x13), (0, .ref (ad 21)), (1, .int v1)]) hx hb d_C_block_20 rfl hl (by decide) rfl (fun ls hl => ?_)
  obtain ⟨k21, h⟩ := h
  refine w_C_block_21 C hcs _ v1 x13 hR k21 x20 S _ _ ls hI (lv_sub hl [2, 3, 1, 0] rfl) h
set_option maxHeartbeats 4000000 in
set_option maxRecDepth 100000 in
theorem w_C_find_12 (C : z_CT p s m args c R_C b_C_find 3 D cA 51 ad) (hcs : cells ≤ rm_C_find.cells ∧ slots ≤ rm_C_find.slots) (post : zS → Prop) (hR : z_Rv p l e rm_C_find s m args below meth c Q b_C_find D cA 51 ad post) : ∀ (n : Nat) (v2 : Int32) (S : zS) (H : Heap) (locs : List Loc) (ls : Array Slot), z_I D cA 51 ad s.heap S H locs → lv_has ls 3 [(0, .ref (ad 21)), (2, .int v2)] → L_C_find_12 post n v2 S → W p l e rm_C_find s m args below meth c H locs cells slots Q (F0 m 12 ls []) := by
  obtain ⟨hx, hb, hml, hown, hts, hK, hJ⟩ := id C
  intro n
  induction n with
  | zero => intro v2 S H locs ls hI hl h; exact h.elim
  | succ n ih =>
    intro v2 S H locs ls hI hl h
    rw [L_C_find_12] at h
    refine lv_iload_n hx hb d_C_find_12 rfl (lv_at hl 1 rfl) ?_
    refine lv_bipush (v := 6) hx hb d_C_find_13 (by decide) ?_
    refine lv_icmp_ge (tgt := 53) hx hb d_C_find_15 (by decide) (fun q => ?_) (fun q => ?_)
    · replace h := h.1 q
      exact hR _ _ hcs S _ _ 53 ls h hI d_C_find_53
    · replace h := h.2 q
      refine lv_aload_n hx hb d_C_find_18 rfl (lv_at hl 0 rfl) ?_
      refine lv_iload_n hx hb d_C_find_19 rfl (lv_at hl 1 rfl) ?_
      refine z_callVv C hI 21 (by decide) kd_21 cl_C (As := [.int v2]) (rest := []) (c_C_findGreatest v2 _ _ h) wc_C_findGreatest k_ml_C_41 rfl rfl (Nat.le_of_ble_eq_true rfl) (Nat.le_of_ble_eq_true rfl) hcs hl.1 (Nat.le_of_ble_eq_true rfl) rfl d_C_find_20 (fun S20 H locs h hI => ?_)
      refine lv_aload_n hx hb d_C_find_23 rfl (lv_at hl 0 rfl) ?_
      refine z_getI C hI 21 (by decide) kd_21 cl_C iw_C 8 (by decide) k_fl_C_45 rfl d_C_find_24 ?_
      refine lv_iconst (v := 4) hx hb d_C_find_27 (by decide) ?_
      refine lv_icmp_ge (tgt := 32) hx hb d_C_find_28 (by decide) (fun q => ?_) (fun q => ?_)
      · replace h := h.1 q
        refine lv_aload_n hx hb d_C_find_32 rfl (lv_at hl 0 rfl) ?_
        refine lv_iload_n hx hb d_C_find_33 rfl (lv_at hl 1 rfl) ?_
        refine z_callVv C hI 21 (by decide) kd_21 cl_C (As := [.int v2]) (rest := []) (c_C_block v2 _ _ h) wc_C_block k_ml_C_48 rfl rfl (Nat.le_of_ble_eq_true rfl) (Nat.le_of_ble_eq_true rfl) hcs hl.1 (Nat.le_of_ble_eq_true rfl) rfl d_C_find_34 (fun S34 H locs h hI => ?_)
        refine lv_aload_n hx hb d_C_find_37 rfl (lv_at hl 0 rfl) ?_
        refine lv_dup hx hb d_C_find_38 rfl ?_
        refine z_getI C hI 21 (by decide) kd_21 cl_C iw_C 4 (by decide) k_fl_C_38 rfl d_C_find_39 ?_
        refine lv_iconst (v := 1) hx hb d_C_find_42 (by decide) ?_
        refine lv_iadd hx hb d_C_find_43 ?_
        refine z_putI C hI 21 (by decide) kd_21 cl_C iw_C ty_C ty_C_ok n_C 4 (by decide) k_fl_C_38 rfl rfl rfl d_C_find_44 (fun S44 eS H locs hI => ?_)
        replace h := h S44 eS
        obtain ⟨x47, e47⟩ : ∃ y : Int32, y = v2 + 1 := ⟨_, rfl⟩
        replace h := h x47 e47
        refine lv_iinc (v := x47) (lv' := [(2, .int x47), (0, .ref (ad 21))]) hx hb d_C_find_47 hl (k := 1) rfl (by rw [e47]; rfl) (by decide) rfl (fun ls hl => ?_)
        refine lv_goto (tgt := 12) hx hb d_C_find_50 (by decide) ?_
        exact ih x47 S44 _ _ ls hI (lv_sub hl [1, 0] rfl) h
      · replace h := h.2 q
        exact hR _ _ hcs S20 _ _ 31 ls h hI d_C_find_31
set_option maxHeartbeats 4000000 in
set_option maxRecDepth 100000 in
theorem c_C_find (S : zS) (post : zS → Prop) (h : P_C_find S post) : z_ctv l D cA 51 ad y_C_find b_C_find 3 none rm_C_find [.ref (ad 21), .ref (ad 3)] S post := by
  refine z_metv (av := [.ref (ad 21), .ref (ad 3)]) (by decide) (Nat.le_of_ble_eq_true rfl) ⟨rfl, rfl⟩ (fun p e s m args below meth c Q ls C hcs hl hI hR => ?_)
  obtain ⟨hx, hb, hml, hown, hts, hK, hJ⟩ := id C
  unfold P_C_find at h
  have hl : lv_has ls 3 [(0, .ref (ad 21)), (1, .ref (ad 3))] := hl
  refine lv_aload_n hx hb d_C_find_0 rfl (lv_at hl 0 rfl) ?_
  refine lv_aload_n hx hb d_C_find_1 rfl (lv_at hl 1 rfl) ?_
  refine z_callVv C hI 21 (by decide) kd_21 cl_C (As := [.ref (ad 3)]) (rest := []) (c_C_measure _ _ h) wc_C_measure k_ml_C_34 rfl rfl (Nat.le_of_ble_eq_true rfl) (Nat.le_of_ble_eq_true rfl) hcs hl.1 (Nat.le_of_ble_eq_true rfl) rfl d_C_find_2 (fun S2 H locs h hI => ?_)
  refine lv_aload_n hx hb d_C_find_5 rfl (lv_at hl 0 rfl) ?_
  refine lv_iconst (v := 0) hx hb d_C_find_6 (by decide) ?_
  refine z_putI C hI 21 (by decide) kd_21 cl_C iw_C ty_C ty_C_ok n_C 4 (by decide) k_fl_C_38 rfl rfl rfl d_C_find_7 (fun S7 eS H locs hI => ?_)
  replace h := h S7 eS
  refine lv_iconst (v := 0) hx hb d_C_find_10 (by decide) ?_
  refine lv_istore_n (lv' := [(2, .int 0), (0, .ref (ad 21)), (1, .ref (ad 3))]) hx hb d_C_find_11 rfl hl (by decide) rfl (fun ls hl => ?_)
  obtain ⟨k12, h⟩ := h
  refine w_C_find_12 C hcs _ hR k12 0 S7 _ _ ls hI (lv_sub hl [1, 0] rfl) h
set_option maxHeartbeats 4000000 in
set_option maxRecDepth 100000 in
theorem w_P_hasInk_2 (C : z_CT p s m args c R_P b_P_hasInk 3 D cA 51 ad) (hcs : cells ≤ rm_P_hasInk.cells ∧ slots ≤ rm_P_hasInk.slots) (post : Int32 → zS → Prop) (v1 : Int32) (hR : z_Rz p l e rm_P_hasInk s m args below meth c Q b_P_hasInk D cA 51 ad post) : ∀ (n : Nat) (v2 : Int32) (S : zS) (H : Heap) (locs : List Loc) (ls : Array Slot), z_I D cA 51 ad s.heap S H locs → lv_has ls 3 [(0, .ref (ad 0)), (1, .int v1), (2, .int v2)] → L_P_hasInk_2 post v1 n v2 S → W p l e rm_P_hasInk s m args below meth c H locs cells slots Q (F0 m 2 ls []) := by
  obtain ⟨hx, hb, hml, hown, hts, hK, hJ⟩ := id C
  intro n
  induction n with
  | zero => intro v2 S H locs ls hI hl h; exact h.elim
  | succ n ih =>
    intro v2 S H locs ls hI hl h
    rw [L_P_hasInk_2] at h
    refine lv_iload_n hx hb d_P_hasInk_2 rfl (lv_at hl 2 rfl) ?_
    refine lv_aload_n hx hb d_P_hasInk_3 rfl (lv_at hl 0 rfl) ?_
    refine z_getI C hI 0 (by decide) kd_0 cl_P iw_P 1 (by decide) k_fl_P_31 rfl d_P_hasInk_4 ?_
    refine lv_icmp_ge (tgt := 32) hx hb d_P_hasInk_7 (by decide) (fun q => ?_) (fun q => ?_)
    · replace h := h.1 q
      refine lv_iconst (v := 0) hx hb d_P_hasInk_32 (by decide) ?_
      exact hR _ _ hcs 0 S _ _ 33 ls (by decide) h hI d_P_hasInk_33
    · replace h := h.2 q
      refine lv_aload_n hx hb d_P_hasInk_10 rfl (lv_at hl 0 rfl) ?_
      refine z_getR C hI 0 (by decide) kd_0 cl_P iw_P 4 (by decide) k_fl_P_16 rfl d_P_hasInk_11 ?_
      refine lv_iload_n hx hb d_P_hasInk_14 rfl (lv_at hl 2 rfl) ?_
      refine lv_bipush (v := 24) hx hb d_P_hasInk_15 (by decide) ?_
      refine lv_imul hx hb d_P_hasInk_17 ?_
      refine lv_iload_n hx hb d_P_hasInk_18 rfl (lv_at hl 1 rfl) ?_
      refine lv_iadd hx hb d_P_hasInk_19 ?_
      obtain ⟨h1, h⟩ := h
      refine z_zld C hI 3 (by decide) kd_3 h1 d_P_hasInk_20 ?_
      refine lv_if_eq (tgt := 26) hx hb d_P_hasInk_21 (by decide) (fun q => ?_) (fun q => ?_)
      · replace h := h.1 q
        obtain ⟨x26, e26⟩ : ∃ y : Int32, y = v2 + 1 := ⟨_, rfl⟩
        replace h := h x26 e26
        refine lv_iinc (v := x26) (lv' := [(2, .int x26), (0, .ref (ad 0)), (1, .int v1)]) hx hb d_P_hasInk_26 hl (k := 2) rfl (by rw [e26]; rfl) (by decide) rfl (fun ls hl => ?_)
        refine lv_goto (tgt := 2) hx hb d_P_hasInk_29 (by decide) ?_
        exact ih x26 S _ _ ls hI (lv_sub hl [1, 2, 0] rfl) h
      · replace h := h.2 q
        refine lv_iconst (v := 1) hx hb d_P_hasInk_24 (by decide) ?_
        exact hR _ _ hcs 1 S _ _ 25 ls (by decide) h hI d_P_hasInk_25
set_option maxHeartbeats 4000000 in
set_option maxRecDepth 100000 in
theorem c_P_hasInk (v1 : Int32) (S : zS) (post : Int32 → zS → Prop) (h : P_P_hasInk v1 S post) : z_cti l D cA 51 ad y_P_hasInk b_P_hasInk 3 (some .boolean) rm_P_hasInk [.ref (ad 0), .int v1] S post := by
  refine z_metz (av := [.ref (ad 0), .int v1]) (by decide) (Nat.le_of_ble_eq_true rfl) ⟨rfl, rfl⟩ (fun p e s m args below meth c Q ls C hcs hl hI hR => ?_)
  obtain ⟨hx, hb, hml, hown, hts, hK, hJ⟩ := id C
  unfold P_P_hasInk at h
  have hl : lv_has ls 3 [(0, .ref (ad 0)), (1, .int v1)] := hl
  refine lv_iconst (v := 0) hx hb d_P_hasInk_0 (by decide) ?_
  refine lv_istore_n (lv' := [(2, .int 0), (0, .ref (ad 0)), (1, .int v1)]) hx hb d_P_hasInk_1 rfl hl (by decide) rfl (fun ls hl => ?_)
  obtain ⟨k2, h⟩ := h
  refine w_P_hasInk_2 C hcs _ v1 hR k2 0 S _ _ ls hI (lv_sub hl [1, 2, 0] rfl) h
set_option maxHeartbeats 4000000 in
set_option maxRecDepth 100000 in
theorem w_P_findStrips_60 (C : z_CT p s m args c R_P b_P_findStrips 4 D cA 51 ad) (hcs : cells ≤ rm_P_findStrips.cells ∧ slots ≤ rm_P_findStrips.slots) (post : zS → Prop) (K9 : Int32 → Int32 → zS → Prop) (v2 : Int32) (v3 : Int32) (t0 : Int32) (t1 : Int32) (hR : z_Rv p l e rm_P_findStrips s m args below meth c Q b_P_findStrips D cA 51 ad post) (kK9 : ∀ (v1 : Int32) (v2 : Int32) (S : zS) (H : Heap) (locs : List Loc) (ls : Array Slot), K9 v1 v2 S → z_I D cA 51 ad s.heap S H locs → lv_has ls 4 [(0, .ref (ad 0)), (1, .int v1), (2, .int v2)] → W p l e rm_P_findStrips s m args below meth c H locs cells slots Q (F0 m 9 ls [])) (S : zS) (H : Heap) (locs : List Loc) (ls : Array Slot) (hI : z_I D cA 51 ad s.heap S H locs) (hl : lv_has ls 4 [(0, .ref (ad 0)), (2, .int v2), (3, .int v3)]) (h : J_P_findStrips_60 post K9 v2 v3 t0 t1 S) : W p l e rm_P_findStrips s m args below meth c H locs cells slots Q (F0 m 60 ls [.int t0, .int t1, .ref (ad 4)]) := by
  obtain ⟨hx, hb, hml, hown, hts, hK, hJ⟩ := id C
  unfold J_P_findStrips_60 at h
  obtain ⟨h1, h⟩ := h
  refine z_ist C hI 4 (by decide) kd_4 h1 d_P_findStrips_60 (fun S60 eS H locs hI => ?_)
  replace h := h S60 eS
  refine lv_iload_n hx hb d_P_findStrips_61 rfl (lv_at hl 2 rfl) ?_
  refine lv_istore_n (lv' := [(1, .int v3), (0, .ref (ad 0)), (2, .int v2), (3, .int v3)]) hx hb d_P_findStrips_62 rfl hl (by decide) rfl (fun ls hl => ?_)
  obtain ⟨x63, e63⟩ : ∃ y : Int32, y = v2 + 1 := ⟨_, rfl⟩
  replace h := h x63 e63
  refine lv_iinc (v := x63) (lv' := [(2, .int x63), (1, .int v3), (0, .ref (ad 0)), (3, .int v3)]) hx hb d_P_findStrips_63 hl (k := 2) rfl (by rw [e63]; rfl) (by decide) rfl (fun ls hl => ?_)
  refine lv_goto (tgt := 9) hx hb d_P_findStrips_66 (by decide) ?_
  exact kK9 v3 x63 S60 _ _ ls h hI (lv_sub hl [2, 1, 0] rfl)
set_option maxHeartbeats 4000000 in
set_option maxRecDepth 100000 in
theorem w_P_findStrips_41 (C : z_CT p s m args c R_P b_P_findStrips 4 D cA 51 ad) (hcs : cells ≤ rm_P_findStrips.cells ∧ slots ≤ rm_P_findStrips.slots) (post : zS → Prop) (K9 : Int32 → Int32 → zS → Prop) (v2 : Int32) (v3 : Int32) (hR : z_Rv p l e rm_P_findStrips s m args below meth c Q b_P_findStrips D cA 51 ad post) (kK9 : ∀ (v1 : Int32) (v2 : Int32) (S : zS) (H : Heap) (locs : List Loc) (ls : Array Slot), K9 v1 v2 S → z_I D cA 51 ad s.heap S H locs → lv_has ls 4 [(0, .ref (ad 0)), (1, .int v1), (2, .int v2)] → W p l e rm_P_findStrips s m args below meth c H locs cells slots Q (F0 m 9 ls [])) (S : zS) (H : Heap) (locs : List Loc) (ls : Array Slot) (hI : z_I D cA 51 ad s.heap S H locs) (hl : lv_has ls 4 [(0, .ref (ad 0)), (2, .int v2), (3, .int v3)]) (h : J_P_findStrips_41 post K9 v2 v3 S) : W p l e rm_P_findStrips s m args below meth c H locs cells slots Q (F0 m 41 ls []) := by
  obtain ⟨hx, hb, hml, hown, hts, hK, hJ⟩ := id C
  unfold J_P_findStrips_41 at h
  refine lv_aload_n hx hb d_P_findStrips_41 rfl (lv_at hl 0 rfl) ?_
  refine z_getR C hI 0 (by decide) kd_0 cl_P iw_P 5 (by decide) k_fl_P_19 rfl d_P_findStrips_42 ?_
  refine lv_iload_n hx hb d_P_findStrips_45 rfl (lv_at hl 1 rfl) ?_
  refine lv_iload_n hx hb d_P_findStrips_46 rfl (lv_at hl 2 rfl) ?_
  refine lv_if_eq (tgt := 59) hx hb d_P_findStrips_47 (by decide) (fun q => ?_) (fun q => ?_)
  · replace h := h.1 q
    refine lv_iconst (v := (-1)) hx hb d_P_findStrips_59 (by decide) ?_
    exact w_P_findStrips_60 C hcs _ _ v2 v3 (-1) v2 hR kK9 S _ _ ls hI (lv_sub hl [0, 1, 2] rfl) h
  · replace h := h.2 q
    refine lv_aload_n hx hb d_P_findStrips_50 rfl (lv_at hl 0 rfl) ?_
    refine z_getI C hI 0 (by decide) kd_0 cl_P iw_P 12 (by decide) k_fl_P_189 rfl d_P_findStrips_51 ?_
    refine lv_iconst (v := 1) hx hb d_P_findStrips_54 (by decide) ?_
    refine lv_isub hx hb d_P_findStrips_55 ?_
    refine lv_goto (tgt := 60) hx hb d_P_findStrips_56 (by decide) ?_
    exact w_P_findStrips_60 C hcs _ _ v2 v3 ((S 0 12) - 1) v2 hR kK9 S _ _ ls hI (lv_sub hl [0, 1, 2] rfl) h
set_option maxHeartbeats 4000000 in
set_option maxRecDepth 100000 in
theorem w_P_findStrips_9 (C : z_CT p s m args c R_P b_P_findStrips 4 D cA 51 ad) (hcs : cells ≤ rm_P_findStrips.cells ∧ slots ≤ rm_P_findStrips.slots) (post : zS → Prop) (hR : z_Rv p l e rm_P_findStrips s m args below meth c Q b_P_findStrips D cA 51 ad post) : ∀ (n : Nat) (v1 : Int32) (v2 : Int32) (S : zS) (H : Heap) (locs : List Loc) (ls : Array Slot), z_I D cA 51 ad s.heap S H locs → lv_has ls 4 [(0, .ref (ad 0)), (1, .int v1), (2, .int v2)] → L_P_findStrips_9 post n v1 v2 S → W p l e rm_P_findStrips s m args below meth c H locs cells slots Q (F0 m 9 ls []) := by
  obtain ⟨hx, hb, hml, hown, hts, hK, hJ⟩ := id C
  intro n
  induction n with
  | zero => intro v1 v2 S H locs ls hI hl h; exact h.elim
  | succ n ih =>
    intro v1 v2 S H locs ls hI hl h
    rw [L_P_findStrips_9] at h
    refine lv_iload_n hx hb d_P_findStrips_9 rfl (lv_at hl 2 rfl) ?_
    refine lv_aload_n hx hb d_P_findStrips_10 rfl (lv_at hl 0 rfl) ?_
    refine z_getI C hI 0 (by decide) kd_0 cl_P iw_P 0 (by decide) k_fl_P_27 rfl d_P_findStrips_11 ?_
    refine lv_icmp_ge (tgt := 69) hx hb d_P_findStrips_14 (by decide) (fun q => ?_) (fun q => ?_)
    · replace h := h.1 q
      exact hR _ _ hcs S _ _ 69 ls h hI d_P_findStrips_69
    · replace h := h.2 q
      refine lv_aload_n hx hb d_P_findStrips_17 rfl (lv_at hl 0 rfl) ?_
      refine lv_iload_n hx hb d_P_findStrips_18 rfl (lv_at hl 2 rfl) ?_
      refine z_callVi C hI 0 (by decide) kd_0 cl_P (As := [.int v2]) (rest := []) (c_P_hasInk v2 _ _ h) wc_P_hasInk k_ml_P_199 rfl rfl (Nat.le_of_ble_eq_true rfl) (Nat.le_of_ble_eq_true rfl) hcs hl.1 (Nat.le_of_ble_eq_true rfl) rfl d_P_findStrips_19 (fun r19 S19 H locs h hI => ?_)
      refine lv_istore_n (lv' := [(3, .int r19), (0, .ref (ad 0)), (1, .int v1), (2, .int v2)]) hx hb d_P_findStrips_22 rfl hl (by decide) rfl (fun ls hl => ?_)
      refine lv_iload_n hx hb d_P_findStrips_23 rfl (lv_at hl 0 rfl) ?_
      refine lv_if_eq (tgt := 41) hx hb d_P_findStrips_24 (by decide) (fun q => ?_) (fun q => ?_)
      · replace h := h.1 q
        exact w_P_findStrips_41 C hcs _ _ v2 r19 hR (fun v1 v2 S H locs ls h hI hl => ih v1 v2 S H locs ls hI hl h) S19 _ _ ls hI (lv_sub hl [1, 3, 0] rfl) h
      · replace h := h.2 q
        refine lv_iload_n hx hb d_P_findStrips_27 rfl (lv_at hl 2 rfl) ?_
        refine lv_if_ne (tgt := 41) hx hb d_P_findStrips_28 (by decide) (fun q => ?_) (fun q => ?_)
        · replace h := h.1 q
          exact w_P_findStrips_41 C hcs _ _ v2 r19 hR (fun v1 v2 S H locs ls h hI hl => ih v1 v2 S H locs ls hI hl h) S19 _ _ ls hI (lv_sub hl [1, 3, 0] rfl) h
        · replace h := h.2 q
          refine lv_aload_n hx hb d_P_findStrips_31 rfl (lv_at hl 1 rfl) ?_
          refine lv_dup hx hb d_P_findStrips_32 rfl ?_
          refine z_getI C hI 0 (by decide) kd_0 cl_P iw_P 12 (by decide) k_fl_P_189 rfl d_P_findStrips_33 ?_
          refine lv_iconst (v := 1) hx hb d_P_findStrips_36 (by decide) ?_
          refine lv_iadd hx hb d_P_findStrips_37 ?_
          refine z_putI C hI 0 (by decide) kd_0 cl_P iw_P ty_P ty_P_ok n_P 12 (by decide) k_fl_P_189 rfl rfl rfl d_P_findStrips_38 (fun S38 eS H locs hI => ?_)
          replace h := h S38 eS
          exact w_P_findStrips_41 C hcs _ _ v2 r19 hR (fun v1 v2 S H locs ls h hI hl => ih v1 v2 S H locs ls hI hl h) S38 _ _ ls hI (lv_sub hl [1, 3, 0] rfl) h
set_option maxHeartbeats 4000000 in
set_option maxRecDepth 100000 in
theorem c_P_findStrips (S : zS) (post : zS → Prop) (h : P_P_findStrips S post) : z_ctv l D cA 51 ad y_P_findStrips b_P_findStrips 4 none rm_P_findStrips [.ref (ad 0)] S post := by
  refine z_metv (av := [.ref (ad 0)]) (by decide) (Nat.le_of_ble_eq_true rfl) ⟨rfl, rfl⟩ (fun p e s m args below meth c Q ls C hcs hl hI hR => ?_)
  obtain ⟨hx, hb, hml, hown, hts, hK, hJ⟩ := id C
  unfold P_P_findStrips at h
  have hl : lv_has ls 4 [(0, .ref (ad 0))] := hl
  refine lv_aload_n hx hb d_P_findStrips_0 rfl (lv_at hl 0 rfl) ?_
  refine lv_iconst (v := 0) hx hb d_P_findStrips_1 (by decide) ?_
  refine z_putI C hI 0 (by decide) kd_0 cl_P iw_P ty_P ty_P_ok n_P 12 (by decide) k_fl_P_189 rfl rfl rfl d_P_findStrips_2 (fun S2 eS H locs hI => ?_)
  replace h := h S2 eS
  refine lv_iconst (v := 0) hx hb d_P_findStrips_5 (by decide) ?_
  refine lv_istore_n (lv' := [(1, .int 0), (0, .ref (ad 0))]) hx hb d_P_findStrips_6 rfl hl (by decide) rfl (fun ls hl => ?_)
  refine lv_iconst (v := 0) hx hb d_P_findStrips_7 (by decide) ?_
  refine lv_istore_n (lv' := [(2, .int 0), (1, .int 0), (0, .ref (ad 0))]) hx hb d_P_findStrips_8 rfl hl (by decide) rfl (fun ls hl => ?_)
  obtain ⟨k9, h⟩ := h
  refine w_P_findStrips_9 C hcs _ hR k9 0 0 S2 _ _ ls hI (lv_sub hl [2, 1, 0] rfl) h
set_option maxHeartbeats 4000000 in
set_option maxRecDepth 100000 in
theorem w_G_dropAtEdge_4 (C : z_CT p s m args c R_G b_G_dropAtEdge 3 D cA 51 ad) (hcs : cells ≤ rm_G_dropAtEdge.cells ∧ slots ≤ rm_G_dropAtEdge.slots) (g : Nat) (hg : z_G g) (post : zS → Prop) (K129 : Int32 → zS → Prop) (hR : z_Rv p l e rm_G_dropAtEdge s m args below meth c Q b_G_dropAtEdge D cA 51 ad post) (kK129 : ∀ (v1 : Int32) (S : zS) (H : Heap) (locs : List Loc) (ls : Array Slot), K129 v1 S → z_I D cA 51 ad s.heap S H locs → lv_has ls 3 [(0, .ref (ad g)), (1, .int v1)] → W p l e rm_G_dropAtEdge s m args below meth c H locs cells slots Q (F0 m 129 ls [])) : ∀ (n : Nat) (v1 : Int32) (v2 : Int32) (S : zS) (H : Heap) (locs : List Loc) (ls : Array Slot), z_I D cA 51 ad s.heap S H locs → lv_has ls 3 [(0, .ref (ad g)), (1, .int v1), (2, .int v2)] → L_G_dropAtEdge_4 g post K129 n v1 v2 S → W p l e rm_G_dropAtEdge s m args below meth c H locs cells slots Q (F0 m 4 ls []) := by
  obtain ⟨hx, hb, hml, hown, hts, hK, hJ⟩ := id C
  intro n
  induction n with
  | zero => intro v1 v2 S H locs ls hI hl h; exact h.elim
  | succ n ih =>
    intro v1 v2 S H locs ls hI hl h
    rw [L_G_dropAtEdge_4] at h
    refine lv_iload_n hx hb d_G_dropAtEdge_4 rfl (lv_at hl 2 rfl) ?_
    refine lv_aload_n hx hb d_G_dropAtEdge_5 rfl (lv_at hl 0 rfl) ?_
    refine z_getI C hI g (z_lt0 hg) hg.2.1 cl_G iw_G 6 (by decide) k_fl_G_46 rfl d_G_dropAtEdge_6 ?_
    refine lv_icmp_ge (tgt := 129) hx hb d_G_dropAtEdge_9 (by decide) (fun q => ?_) (fun q => ?_)
    · replace h := h.1 q
      exact kK129 v1 S _ _ ls h hI (lv_sub hl [0, 1] rfl)
    · replace h := h.2 q
      refine lv_aload_n hx hb d_G_dropAtEdge_12 rfl (lv_at hl 0 rfl) ?_
      refine z_getR C hI g (z_lt0 hg) hg.2.1 cl_G iw_G 1 (by decide) k_fl_G_15 rfl d_G_dropAtEdge_13 ?_
      refine lv_iload_n hx hb d_G_dropAtEdge_16 rfl (lv_at hl 2 rfl) ?_
      obtain ⟨h1, h⟩ := h
      refine z_ild C hI (g + 2) (z_lt hg 2 (by decide)) hg.2.2.2.1 h1 d_G_dropAtEdge_17 ?_
      refine lv_if_le (tgt := 123) hx hb d_G_dropAtEdge_18 (by decide) (fun q => ?_) (fun q => ?_)
      · replace h := h.1 q
        obtain ⟨x123, e123⟩ : ∃ y : Int32, y = v2 + 1 := ⟨_, rfl⟩
        replace h := h x123 e123
        refine lv_iinc (v := x123) (lv' := [(2, .int x123), (0, .ref (ad g)), (1, .int v1)]) hx hb d_G_dropAtEdge_123 hl (k := 2) rfl (by rw [e123]; rfl) (by decide) rfl (fun ls hl => ?_)
        refine lv_goto (tgt := 4) hx hb d_G_dropAtEdge_126 (by decide) ?_
        exact ih v1 x123 S _ _ ls hI (lv_sub hl [1, 2, 0] rfl) h
      · replace h := h.2 q
        refine lv_aload_n hx hb d_G_dropAtEdge_21 rfl (lv_at hl 0 rfl) ?_
        refine z_getR C hI g (z_lt0 hg) hg.2.1 cl_G iw_G 2 (by decide) k_fl_G_18 rfl d_G_dropAtEdge_22 ?_
        refine lv_iload_n hx hb d_G_dropAtEdge_25 rfl (lv_at hl 2 rfl) ?_
        obtain ⟨h1, h⟩ := h
        refine z_ild C hI (g + 3) (z_lt hg 3 (by decide)) hg.2.2.2.2.1 h1 d_G_dropAtEdge_26 ?_
        refine lv_if_le (tgt := 123) hx hb d_G_dropAtEdge_27 (by decide) (fun q => ?_) (fun q => ?_)
        · replace h := h.1 q
          obtain ⟨x123, e123⟩ : ∃ y : Int32, y = v2 + 1 := ⟨_, rfl⟩
          replace h := h x123 e123
          refine lv_iinc (v := x123) (lv' := [(2, .int x123), (0, .ref (ad g)), (1, .int v1)]) hx hb d_G_dropAtEdge_123 hl (k := 2) rfl (by rw [e123]; rfl) (by decide) rfl (fun ls hl => ?_)
          refine lv_goto (tgt := 4) hx hb d_G_dropAtEdge_126 (by decide) ?_
          exact ih v1 x123 S _ _ ls hI (lv_sub hl [1, 2, 0] rfl) h
        · replace h := h.2 q
          refine lv_aload_n hx hb d_G_dropAtEdge_30 rfl (lv_at hl 0 rfl) ?_
          refine z_getR C hI g (z_lt0 hg) hg.2.1 cl_G iw_G 3 (by decide) k_fl_G_21 rfl d_G_dropAtEdge_31 ?_
          refine lv_iload_n hx hb d_G_dropAtEdge_34 rfl (lv_at hl 2 rfl) ?_
          obtain ⟨h1, h⟩ := h
          refine z_ild C hI (g + 4) (z_lt hg 4 (by decide)) hg.2.2.2.2.2.1 h1 d_G_dropAtEdge_35 ?_
          refine lv_aload_n hx hb d_G_dropAtEdge_36 rfl (lv_at hl 0 rfl) ?_
          refine z_getI C hI g (z_lt0 hg) hg.2.1 cl_G iw_G 8 (by decide) k_fl_G_33 rfl d_G_dropAtEdge_37 ?_
          refine lv_iconst (v := 1) hx hb d_G_dropAtEdge_40 (by decide) ?_
          refine lv_isub hx hb d_G_dropAtEdge_41 ?_
          refine lv_icmp_ge (tgt := 123) hx hb d_G_dropAtEdge_42 (by decide) (fun q => ?_) (fun q => ?_)
          · replace h := h.1 q
            obtain ⟨x123, e123⟩ : ∃ y : Int32, y = v2 + 1 := ⟨_, rfl⟩
            replace h := h x123 e123
            refine lv_iinc (v := x123) (lv' := [(2, .int x123), (0, .ref (ad g)), (1, .int v1)]) hx hb d_G_dropAtEdge_123 hl (k := 2) rfl (by rw [e123]; rfl) (by decide) rfl (fun ls hl => ?_)
            refine lv_goto (tgt := 4) hx hb d_G_dropAtEdge_126 (by decide) ?_
            exact ih v1 x123 S _ _ ls hI (lv_sub hl [1, 2, 0] rfl) h
          · replace h := h.2 q
            refine lv_aload_n hx hb d_G_dropAtEdge_45 rfl (lv_at hl 0 rfl) ?_
            refine z_getR C hI g (z_lt0 hg) hg.2.1 cl_G iw_G 4 (by decide) k_fl_G_24 rfl d_G_dropAtEdge_46 ?_
            refine lv_iload_n hx hb d_G_dropAtEdge_49 rfl (lv_at hl 2 rfl) ?_
            obtain ⟨h1, h⟩ := h
            refine z_ild C hI (g + 5) (z_lt hg 5 (by decide)) hg.2.2.2.2.2.2.1 h1 d_G_dropAtEdge_50 ?_
            refine lv_aload_n hx hb d_G_dropAtEdge_51 rfl (lv_at hl 0 rfl) ?_
            refine z_getI C hI g (z_lt0 hg) hg.2.1 cl_G iw_G 9 (by decide) k_fl_G_37 rfl d_G_dropAtEdge_52 ?_
            refine lv_iconst (v := 1) hx hb d_G_dropAtEdge_55 (by decide) ?_
            refine lv_isub hx hb d_G_dropAtEdge_56 ?_
            refine lv_icmp_ge (tgt := 123) hx hb d_G_dropAtEdge_57 (by decide) (fun q => ?_) (fun q => ?_)
            · replace h := h.1 q
              obtain ⟨x123, e123⟩ : ∃ y : Int32, y = v2 + 1 := ⟨_, rfl⟩
              replace h := h x123 e123
              refine lv_iinc (v := x123) (lv' := [(2, .int x123), (0, .ref (ad g)), (1, .int v1)]) hx hb d_G_dropAtEdge_123 hl (k := 2) rfl (by rw [e123]; rfl) (by decide) rfl (fun ls hl => ?_)
              refine lv_goto (tgt := 4) hx hb d_G_dropAtEdge_126 (by decide) ?_
              exact ih v1 x123 S _ _ ls hI (lv_sub hl [1, 2, 0] rfl) h
            · replace h := h.2 q
              refine lv_aload_n hx hb d_G_dropAtEdge_60 rfl (lv_at hl 0 rfl) ?_
              refine z_getR C hI g (z_lt0 hg) hg.2.1 cl_G iw_G 1 (by decide) k_fl_G_15 rfl d_G_dropAtEdge_61 ?_
              refine lv_iload_n hx hb d_G_dropAtEdge_64 rfl (lv_at hl 1 rfl) ?_
              refine lv_aload_n hx hb d_G_dropAtEdge_65 rfl (lv_at hl 0 rfl) ?_
              refine z_getR C hI g (z_lt0 hg) hg.2.1 cl_G iw_G 1 (by decide) k_fl_G_15 rfl d_G_dropAtEdge_66 ?_
              refine lv_iload_n hx hb d_G_dropAtEdge_69 rfl (lv_at hl 2 rfl) ?_
              obtain ⟨h1, h⟩ := h
              refine z_ild C hI (g + 2) (z_lt hg 2 (by decide)) hg.2.2.2.1 h1 d_G_dropAtEdge_70 ?_
              obtain ⟨h1, h⟩ := h
              refine z_ist C hI (g + 2) (z_lt hg 2 (by decide)) hg.2.2.2.1 h1 d_G_dropAtEdge_71 (fun S71 eS H locs hI => ?_)
              replace h := h S71 eS
              refine lv_aload_n hx hb d_G_dropAtEdge_72 rfl (lv_at hl 0 rfl) ?_
              refine z_getR C hI g (z_lt0 hg) hg.2.1 cl_G iw_G 2 (by decide) k_fl_G_18 rfl d_G_dropAtEdge_73 ?_
              refine lv_iload_n hx hb d_G_dropAtEdge_76 rfl (lv_at hl 1 rfl) ?_
              refine lv_aload_n hx hb d_G_dropAtEdge_77 rfl (lv_at hl 0 rfl) ?_
              refine z_getR C hI g (z_lt0 hg) hg.2.1 cl_G iw_G 2 (by decide) k_fl_G_18 rfl d_G_dropAtEdge_78 ?_
              refine lv_iload_n hx hb d_G_dropAtEdge_81 rfl (lv_at hl 2 rfl) ?_
              obtain ⟨h1, h⟩ := h
              refine z_ild C hI (g + 3) (z_lt hg 3 (by decide)) hg.2.2.2.2.1 h1 d_G_dropAtEdge_82 ?_
              obtain ⟨h1, h⟩ := h
              refine z_ist C hI (g + 3) (z_lt hg 3 (by decide)) hg.2.2.2.2.1 h1 d_G_dropAtEdge_83 (fun S83 eS H locs hI => ?_)
              replace h := h S83 eS
              refine lv_aload_n hx hb d_G_dropAtEdge_84 rfl (lv_at hl 0 rfl) ?_
              refine z_getR C hI g (z_lt0 hg) hg.2.1 cl_G iw_G 3 (by decide) k_fl_G_21 rfl d_G_dropAtEdge_85 ?_
              refine lv_iload_n hx hb d_G_dropAtEdge_88 rfl (lv_at hl 1 rfl) ?_
              refine lv_aload_n hx hb d_G_dropAtEdge_89 rfl (lv_at hl 0 rfl) ?_
              refine z_getR C hI g (z_lt0 hg) hg.2.1 cl_G iw_G 3 (by decide) k_fl_G_21 rfl d_G_dropAtEdge_90 ?_
              refine lv_iload_n hx hb d_G_dropAtEdge_93 rfl (lv_at hl 2 rfl) ?_
              obtain ⟨h1, h⟩ := h
              refine z_ild C hI (g + 4) (z_lt hg 4 (by decide)) hg.2.2.2.2.2.1 h1 d_G_dropAtEdge_94 ?_
              obtain ⟨h1, h⟩ := h
              refine z_ist C hI (g + 4) (z_lt hg 4 (by decide)) hg.2.2.2.2.2.1 h1 d_G_dropAtEdge_95 (fun S95 eS H locs hI => ?_)
              replace h := h S95 eS
              refine lv_aload_n hx hb d_G_dropAtEdge_96 rfl (lv_at hl 0 rfl) ?_
              refine z_getR C hI g (z_lt0 hg) hg.2.1 cl_G iw_G 4 (by decide) k_fl_G_24 rfl d_G_dropAtEdge_97 ?_
              refine lv_iload_n hx hb d_G_dropAtEdge_100 rfl (lv_at hl 1 rfl) ?_
              refine lv_aload_n hx hb d_G_dropAtEdge_101 rfl (lv_at hl 0 rfl) ?_
              refine z_getR C hI g (z_lt0 hg) hg.2.1 cl_G iw_G 4 (by decide) k_fl_G_24 rfl d_G_dropAtEdge_102 ?_
              refine lv_iload_n hx hb d_G_dropAtEdge_105 rfl (lv_at hl 2 rfl) ?_
              obtain ⟨h1, h⟩ := h
              refine z_ild C hI (g + 5) (z_lt hg 5 (by decide)) hg.2.2.2.2.2.2.1 h1 d_G_dropAtEdge_106 ?_
              obtain ⟨h1, h⟩ := h
              refine z_ist C hI (g + 5) (z_lt hg 5 (by decide)) hg.2.2.2.2.2.2.1 h1 d_G_dropAtEdge_107 (fun S107 eS H locs hI => ?_)
              replace h := h S107 eS
              refine lv_aload_n hx hb d_G_dropAtEdge_108 rfl (lv_at hl 0 rfl) ?_
              refine z_getR C hI g (z_lt0 hg) hg.2.1 cl_G iw_G 5 (by decide) k_fl_G_27 rfl d_G_dropAtEdge_109 ?_
              refine lv_iload_n hx hb d_G_dropAtEdge_112 rfl (lv_at hl 1 rfl) ?_
              refine lv_aload_n hx hb d_G_dropAtEdge_113 rfl (lv_at hl 0 rfl) ?_
              refine z_getR C hI g (z_lt0 hg) hg.2.1 cl_G iw_G 5 (by decide) k_fl_G_27 rfl d_G_dropAtEdge_114 ?_
              refine lv_iload_n hx hb d_G_dropAtEdge_117 rfl (lv_at hl 2 rfl) ?_
              obtain ⟨h1, h⟩ := h
              refine z_ild C hI (g + 6) (z_lt hg 6 (by decide)) hg.2.2.2.2.2.2.2.1 h1 d_G_dropAtEdge_118 ?_
              obtain ⟨h1, h⟩ := h
              refine z_ist C hI (g + 6) (z_lt hg 6 (by decide)) hg.2.2.2.2.2.2.2.1 h1 d_G_dropAtEdge_119 (fun S119 eS H locs hI => ?_)
              replace h := h S119 eS
              obtain ⟨x120, e120⟩ : ∃ y : Int32, y = v1 + 1 := ⟨_, rfl⟩
              replace h := h x120 e120
              refine lv_iinc (v := x120) (lv' := [(1, .int x120), (0, .ref (ad g)), (2, .int v2)]) hx hb d_G_dropAtEdge_120 hl (k := 1) rfl (by rw [e120]; rfl) (by decide) rfl (fun ls hl => ?_)
              obtain ⟨x123, e123⟩ : ∃ y : Int32, y = v2 + 1 := ⟨_, rfl⟩
              replace h := h x123 e123
              refine lv_iinc (v := x123) (lv' := [(2, .int x123), (1, .int x120), (0, .ref (ad g))]) hx hb d_G_dropAtEdge_123 hl (k := 2) rfl (by rw [e123]; rfl) (by decide) rfl (fun ls hl => ?_)
              refine lv_goto (tgt := 4) hx hb d_G_dropAtEdge_126 (by decide) ?_
              exact ih x120 x123 S119 _ _ ls hI (lv_sub hl [2, 1, 0] rfl) h
set_option maxHeartbeats 4000000 in
set_option maxRecDepth 100000 in
theorem c_G_dropAtEdge (g : Nat) (hg : z_G g) (S : zS) (post : zS → Prop) (h : P_G_dropAtEdge g S post) : z_ctv l D cA 51 ad y_G_dropAtEdge b_G_dropAtEdge 3 none rm_G_dropAtEdge [.ref (ad g)] S post := by
  refine z_metv (av := [.ref (ad g)]) (by decide) (Nat.le_of_ble_eq_true rfl) ⟨rfl, rfl⟩ (fun p e s m args below meth c Q ls C hcs hl hI hR => ?_)
  obtain ⟨hx, hb, hml, hown, hts, hK, hJ⟩ := id C
  unfold P_G_dropAtEdge at h
  have hl : lv_has ls 3 [(0, .ref (ad g))] := hl
  refine lv_iconst (v := 0) hx hb d_G_dropAtEdge_0 (by decide) ?_
  refine lv_istore_n (lv' := [(1, .int 0), (0, .ref (ad g))]) hx hb d_G_dropAtEdge_1 rfl hl (by decide) rfl (fun ls hl => ?_)
  refine lv_iconst (v := 0) hx hb d_G_dropAtEdge_2 (by decide) ?_
  refine lv_istore_n (lv' := [(2, .int 0), (1, .int 0), (0, .ref (ad g))]) hx hb d_G_dropAtEdge_3 rfl hl (by decide) rfl (fun ls hl => ?_)
  obtain ⟨k4, h⟩ := h
  refine w_G_dropAtEdge_4 C hcs g hg _ _ hR (fun v1_4e S4e H locs ls h hI hl => ?_) k4 0 0 S _ _ ls hI (lv_sub hl [2, 1, 0] rfl) h
  refine lv_aload_n hx hb d_G_dropAtEdge_129 rfl (lv_at hl 0 rfl) ?_
  refine lv_iload_n hx hb d_G_dropAtEdge_130 rfl (lv_at hl 1 rfl) ?_
  refine z_putI C hI g (z_lt0 hg) hg.2.1 cl_G iw_G ty_G ty_G_ok n_G 6 (by decide) k_fl_G_46 rfl rfl rfl d_G_dropAtEdge_131 (fun S131 eS H locs hI => ?_)
  replace h := h S131 eS
  exact hR _ _ hcs S131 _ _ 134 ls h hI d_G_dropAtEdge_134
set_option maxHeartbeats 4000000 in
set_option maxRecDepth 100000 in
theorem c_R_isBefore (v1 : Int32) (v2 : Int32) (S : zS) (post : Int32 → zS → Prop) (h : P_R_isBefore v1 v2 S post) : z_cti l D cA 51 ad y_R_isBefore b_R_isBefore 3 (some .boolean) rm_R_isBefore [.ref (ad 5), .int v1, .int v2] S post := by
  refine z_metz (av := [.ref (ad 5), .int v1, .int v2]) (by decide) (Nat.le_of_ble_eq_true rfl) ⟨rfl, rfl⟩ (fun p e s m args below meth c Q ls C hcs hl hI hR => ?_)
  obtain ⟨hx, hb, hml, hown, hts, hK, hJ⟩ := id C
  unfold P_R_isBefore at h
  have hl : lv_has ls 3 [(0, .ref (ad 5)), (1, .int v1), (2, .int v2)] := hl
  refine lv_aload_n hx hb d_R_isBefore_0 rfl (lv_at hl 0 rfl) ?_
  refine z_getR C hI 5 (by decide) kd_5 cl_G iw_G 2 (by decide) k_fl_R_42 rfl d_R_isBefore_1 ?_
  refine lv_iload_n hx hb d_R_isBefore_4 rfl (lv_at hl 1 rfl) ?_
  obtain ⟨h1, h⟩ := h
  refine z_ild C hI 8 (by decide) kd_8 h1 d_R_isBefore_5 ?_
  refine lv_aload_n hx hb d_R_isBefore_6 rfl (lv_at hl 0 rfl) ?_
  refine z_getR C hI 5 (by decide) kd_5 cl_G iw_G 2 (by decide) k_fl_R_42 rfl d_R_isBefore_7 ?_
  refine lv_iload_n hx hb d_R_isBefore_10 rfl (lv_at hl 2 rfl) ?_
  obtain ⟨h1, h⟩ := h
  refine z_ild C hI 8 (by decide) kd_8 h1 d_R_isBefore_11 ?_
  refine lv_icmp_eq (tgt := 36) hx hb d_R_isBefore_12 (by decide) (fun q => ?_) (fun q => ?_)
  · replace h := h.1 q
    refine lv_aload_n hx hb d_R_isBefore_36 rfl (lv_at hl 0 rfl) ?_
    refine z_getR C hI 5 (by decide) kd_5 cl_G iw_G 1 (by decide) k_fl_R_45 rfl d_R_isBefore_37 ?_
    refine lv_iload_n hx hb d_R_isBefore_40 rfl (lv_at hl 1 rfl) ?_
    obtain ⟨h1, h⟩ := h
    refine z_ild C hI 7 (by decide) kd_7 h1 d_R_isBefore_41 ?_
    refine lv_aload_n hx hb d_R_isBefore_42 rfl (lv_at hl 0 rfl) ?_
    refine z_getR C hI 5 (by decide) kd_5 cl_G iw_G 1 (by decide) k_fl_R_45 rfl d_R_isBefore_43 ?_
    refine lv_iload_n hx hb d_R_isBefore_46 rfl (lv_at hl 2 rfl) ?_
    obtain ⟨h1, h⟩ := h
    refine z_ild C hI 7 (by decide) kd_7 h1 d_R_isBefore_47 ?_
    refine lv_icmp_eq (tgt := 72) hx hb d_R_isBefore_48 (by decide) (fun q => ?_) (fun q => ?_)
    · replace h := h.1 q
      refine lv_iload_n hx hb d_R_isBefore_72 rfl (lv_at hl 1 rfl) ?_
      refine lv_iload_n hx hb d_R_isBefore_73 rfl (lv_at hl 2 rfl) ?_
      refine lv_icmp_ge (tgt := 81) hx hb d_R_isBefore_74 (by decide) (fun q => ?_) (fun q => ?_)
      · replace h := h.1 q
        refine lv_iconst (v := 0) hx hb d_R_isBefore_81 (by decide) ?_
        exact hR _ _ hcs 0 S _ _ 82 ls (by decide) h hI d_R_isBefore_82
      · replace h := h.2 q
        refine lv_iconst (v := 1) hx hb d_R_isBefore_77 (by decide) ?_
        refine lv_goto (tgt := 82) hx hb d_R_isBefore_78 (by decide) ?_
        exact hR _ _ hcs 1 S _ _ 82 ls (by decide) h hI d_R_isBefore_82
    · replace h := h.2 q
      refine lv_aload_n hx hb d_R_isBefore_51 rfl (lv_at hl 0 rfl) ?_
      refine z_getR C hI 5 (by decide) kd_5 cl_G iw_G 1 (by decide) k_fl_R_45 rfl d_R_isBefore_52 ?_
      refine lv_iload_n hx hb d_R_isBefore_55 rfl (lv_at hl 1 rfl) ?_
      obtain ⟨h1, h⟩ := h
      refine z_ild C hI 7 (by decide) kd_7 h1 d_R_isBefore_56 ?_
      refine lv_aload_n hx hb d_R_isBefore_57 rfl (lv_at hl 0 rfl) ?_
      refine z_getR C hI 5 (by decide) kd_5 cl_G iw_G 1 (by decide) k_fl_R_45 rfl d_R_isBefore_58 ?_
      refine lv_iload_n hx hb d_R_isBefore_61 rfl (lv_at hl 2 rfl) ?_
      obtain ⟨h1, h⟩ := h
      refine z_ild C hI 7 (by decide) kd_7 h1 d_R_isBefore_62 ?_
      refine lv_icmp_ge (tgt := 70) hx hb d_R_isBefore_63 (by decide) (fun q => ?_) (fun q => ?_)
      · replace h := h.1 q
        refine lv_iconst (v := 0) hx hb d_R_isBefore_70 (by decide) ?_
        exact hR _ _ hcs 0 S _ _ 71 ls (by decide) h hI d_R_isBefore_71
      · replace h := h.2 q
        refine lv_iconst (v := 1) hx hb d_R_isBefore_66 (by decide) ?_
        refine lv_goto (tgt := 71) hx hb d_R_isBefore_67 (by decide) ?_
        exact hR _ _ hcs 1 S _ _ 71 ls (by decide) h hI d_R_isBefore_71
  · replace h := h.2 q
    refine lv_aload_n hx hb d_R_isBefore_15 rfl (lv_at hl 0 rfl) ?_
    refine z_getR C hI 5 (by decide) kd_5 cl_G iw_G 2 (by decide) k_fl_R_42 rfl d_R_isBefore_16 ?_
    refine lv_iload_n hx hb d_R_isBefore_19 rfl (lv_at hl 1 rfl) ?_
    obtain ⟨h1, h⟩ := h
    refine z_ild C hI 8 (by decide) kd_8 h1 d_R_isBefore_20 ?_
    refine lv_aload_n hx hb d_R_isBefore_21 rfl (lv_at hl 0 rfl) ?_
    refine z_getR C hI 5 (by decide) kd_5 cl_G iw_G 2 (by decide) k_fl_R_42 rfl d_R_isBefore_22 ?_
    refine lv_iload_n hx hb d_R_isBefore_25 rfl (lv_at hl 2 rfl) ?_
    obtain ⟨h1, h⟩ := h
    refine z_ild C hI 8 (by decide) kd_8 h1 d_R_isBefore_26 ?_
    refine lv_icmp_ge (tgt := 34) hx hb d_R_isBefore_27 (by decide) (fun q => ?_) (fun q => ?_)
    · replace h := h.1 q
      refine lv_iconst (v := 0) hx hb d_R_isBefore_34 (by decide) ?_
      exact hR _ _ hcs 0 S _ _ 35 ls (by decide) h hI d_R_isBefore_35
    · replace h := h.2 q
      refine lv_iconst (v := 1) hx hb d_R_isBefore_30 (by decide) ?_
      refine lv_goto (tgt := 35) hx hb d_R_isBefore_31 (by decide) ?_
      exact hR _ _ hcs 1 S _ _ 35 ls (by decide) h hI d_R_isBefore_35
set_option maxHeartbeats 4000000 in
set_option maxRecDepth 100000 in
theorem w_R_sortByBoxes_12 (C : z_CT p s m args c R_R b_R_sortByBoxes 4 D cA 51 ad) (hcs : cells ≤ rm_R_sortByBoxes.cells ∧ slots ≤ rm_R_sortByBoxes.slots) (post : zS → Prop) (K52 : Int32 → zS → Prop) (v2 : Int32) (hR : z_Rv p l e rm_R_sortByBoxes s m args below meth c Q b_R_sortByBoxes D cA 51 ad post) (kK52 : ∀ (v3 : Int32) (S : zS) (H : Heap) (locs : List Loc) (ls : Array Slot), K52 v3 S → z_I D cA 51 ad s.heap S H locs → lv_has ls 4 [(0, .ref (ad 27)), (1, .ref (ad 5)), (2, .int v2), (3, .int v3)] → W p l e rm_R_sortByBoxes s m args below meth c H locs cells slots Q (F0 m 52 ls [])) : ∀ (n : Nat) (v3 : Int32) (S : zS) (H : Heap) (locs : List Loc) (ls : Array Slot), z_I D cA 51 ad s.heap S H locs → lv_has ls 4 [(0, .ref (ad 27)), (1, .ref (ad 5)), (2, .int v2), (3, .int v3)] → L_R_sortByBoxes_12 post K52 v2 n v3 S → W p l e rm_R_sortByBoxes s m args below meth c H locs cells slots Q (F0 m 12 ls []) := by
  obtain ⟨hx, hb, hml, hown, hts, hK, hJ⟩ := id C
  intro n
  induction n with
  | zero => intro v3 S H locs ls hI hl h; exact h.elim
  | succ n ih =>
    intro v3 S H locs ls hI hl h
    rw [L_R_sortByBoxes_12] at h
    refine lv_iload_n hx hb d_R_sortByBoxes_12 rfl (lv_at hl 3 rfl) ?_
    refine lv_if_le (tgt := 52) hx hb d_R_sortByBoxes_13 (by decide) (fun q => ?_) (fun q => ?_)
    · replace h := h.1 q
      exact kK52 v3 S _ _ ls h hI (lv_sub hl [0, 1, 2, 3] rfl)
    · replace h := h.2 q
      refine lv_aload_n hx hb d_R_sortByBoxes_16 rfl (lv_at hl 1 rfl) ?_
      refine lv_iload_n hx hb d_R_sortByBoxes_17 rfl (lv_at hl 2 rfl) ?_
      refine lv_aload_n hx hb d_R_sortByBoxes_18 rfl (lv_at hl 0 rfl) ?_
      refine z_getR C hI 27 (by decide) kd_27 cl_R iw_R 0 (by decide) k_fl_R_9 rfl d_R_sortByBoxes_19 ?_
      refine lv_iload_n hx hb d_R_sortByBoxes_22 rfl (lv_at hl 3 rfl) ?_
      refine lv_iconst (v := 1) hx hb d_R_sortByBoxes_23 (by decide) ?_
      refine lv_isub hx hb d_R_sortByBoxes_24 ?_
      obtain ⟨h1, h⟩ := h
      refine z_ild C hI 28 (by decide) kd_28 h1 d_R_sortByBoxes_25 ?_
      refine z_callSi C hI (As := [.ref (ad 5), .int v2, .int (S 28 (z_ix (v3 - 1)))]) (rest := []) (c_R_isBefore v2 (S 28 (z_ix (v3 - 1))) _ _ h) wc_R_isBefore k_ml_R_39 rfl rfl (Nat.le_of_ble_eq_true rfl) (Nat.le_of_ble_eq_true rfl) hcs hl.1 (Nat.le_of_ble_eq_true rfl) rfl d_R_sortByBoxes_26 (fun r26 S26 H locs h hI => ?_)
      refine lv_if_eq (tgt := 52) hx hb d_R_sortByBoxes_29 (by decide) (fun q => ?_) (fun q => ?_)
      · replace h := h.1 q
        exact kK52 v3 S26 _ _ ls h hI (lv_sub hl [0, 1, 2, 3] rfl)
      · replace h := h.2 q
        refine lv_aload_n hx hb d_R_sortByBoxes_32 rfl (lv_at hl 0 rfl) ?_
        refine z_getR C hI 27 (by decide) kd_27 cl_R iw_R 0 (by decide) k_fl_R_9 rfl d_R_sortByBoxes_33 ?_
        refine lv_iload_n hx hb d_R_sortByBoxes_36 rfl (lv_at hl 3 rfl) ?_
        refine lv_aload_n hx hb d_R_sortByBoxes_37 rfl (lv_at hl 0 rfl) ?_
        refine z_getR C hI 27 (by decide) kd_27 cl_R iw_R 0 (by decide) k_fl_R_9 rfl d_R_sortByBoxes_38 ?_
        refine lv_iload_n hx hb d_R_sortByBoxes_41 rfl (lv_at hl 3 rfl) ?_
        refine lv_iconst (v := 1) hx hb d_R_sortByBoxes_42 (by decide) ?_
        refine lv_isub hx hb d_R_sortByBoxes_43 ?_
        obtain ⟨h1, h⟩ := h
        refine z_ild C hI 28 (by decide) kd_28 h1 d_R_sortByBoxes_44 ?_
        obtain ⟨h1, h⟩ := h
        refine z_ist C hI 28 (by decide) kd_28 h1 d_R_sortByBoxes_45 (fun S45 eS H locs hI => ?_)
        replace h := h S45 eS
        obtain ⟨x46, e46⟩ : ∃ y : Int32, y = v3 + (-1) := ⟨_, rfl⟩
        replace h := h x46 e46
        refine lv_iinc (v := x46) (lv' := [(3, .int x46), (0, .ref (ad 27)), (1, .ref (ad 5)), (2, .int v2)]) hx hb d_R_sortByBoxes_46 hl (k := 3) rfl (by rw [e46]; rfl) (by decide) rfl (fun ls hl => ?_)
        refine lv_goto (tgt := 12) hx hb d_R_sortByBoxes_49 (by decide) ?_
        exact ih x46 S45 _ _ ls hI (lv_sub hl [1, 2, 3, 0] rfl) h
set_option maxHeartbeats 4000000 in
set_option maxRecDepth 100000 in
theorem w_R_sortByBoxes_52 (C : z_CT p s m args c R_R b_R_sortByBoxes 4 D cA 51 ad) (hcs : cells ≤ rm_R_sortByBoxes.cells ∧ slots ≤ rm_R_sortByBoxes.slots) (post : zS → Prop) (K2 : Int32 → zS → Prop) (v2 : Int32) (v3 : Int32) (hR : z_Rv p l e rm_R_sortByBoxes s m args below meth c Q b_R_sortByBoxes D cA 51 ad post) (kK2 : ∀ (v2 : Int32) (S : zS) (H : Heap) (locs : List Loc) (ls : Array Slot), K2 v2 S → z_I D cA 51 ad s.heap S H locs → lv_has ls 4 [(0, .ref (ad 27)), (1, .ref (ad 5)), (2, .int v2)] → W p l e rm_R_sortByBoxes s m args below meth c H locs cells slots Q (F0 m 2 ls [])) (S : zS) (H : Heap) (locs : List Loc) (ls : Array Slot) (hI : z_I D cA 51 ad s.heap S H locs) (hl : lv_has ls 4 [(0, .ref (ad 27)), (1, .ref (ad 5)), (2, .int v2), (3, .int v3)]) (h : J_R_sortByBoxes_52 post K2 v2 v3 S) : W p l e rm_R_sortByBoxes s m args below meth c H locs cells slots Q (F0 m 52 ls []) := by
  obtain ⟨hx, hb, hml, hown, hts, hK, hJ⟩ := id C
  unfold J_R_sortByBoxes_52 at h
  refine lv_aload_n hx hb d_R_sortByBoxes_52 rfl (lv_at hl 0 rfl) ?_
  refine z_getR C hI 27 (by decide) kd_27 cl_R iw_R 0 (by decide) k_fl_R_9 rfl d_R_sortByBoxes_53 ?_
  refine lv_iload_n hx hb d_R_sortByBoxes_56 rfl (lv_at hl 3 rfl) ?_
  refine lv_iload_n hx hb d_R_sortByBoxes_57 rfl (lv_at hl 2 rfl) ?_
  obtain ⟨h1, h⟩ := h
  refine z_ist C hI 28 (by decide) kd_28 h1 d_R_sortByBoxes_58 (fun S58 eS H locs hI => ?_)
  replace h := h S58 eS
  obtain ⟨x59, e59⟩ : ∃ y : Int32, y = v2 + 1 := ⟨_, rfl⟩
  replace h := h x59 e59
  refine lv_iinc (v := x59) (lv' := [(2, .int x59), (0, .ref (ad 27)), (1, .ref (ad 5)), (3, .int v3)]) hx hb d_R_sortByBoxes_59 hl (k := 2) rfl (by rw [e59]; rfl) (by decide) rfl (fun ls hl => ?_)
  refine lv_goto (tgt := 2) hx hb d_R_sortByBoxes_62 (by decide) ?_
  exact kK2 x59 S58 _ _ ls h hI (lv_sub hl [1, 2, 0] rfl)
set_option maxHeartbeats 4000000 in
set_option maxRecDepth 100000 in
theorem w_R_sortByBoxes_2 (C : z_CT p s m args c R_R b_R_sortByBoxes 4 D cA 51 ad) (hcs : cells ≤ rm_R_sortByBoxes.cells ∧ slots ≤ rm_R_sortByBoxes.slots) (post : zS → Prop) (hR : z_Rv p l e rm_R_sortByBoxes s m args below meth c Q b_R_sortByBoxes D cA 51 ad post) : ∀ (n : Nat) (v2 : Int32) (S : zS) (H : Heap) (locs : List Loc) (ls : Array Slot), z_I D cA 51 ad s.heap S H locs → lv_has ls 4 [(0, .ref (ad 27)), (1, .ref (ad 5)), (2, .int v2)] → L_R_sortByBoxes_2 post n v2 S → W p l e rm_R_sortByBoxes s m args below meth c H locs cells slots Q (F0 m 2 ls []) := by
  obtain ⟨hx, hb, hml, hown, hts, hK, hJ⟩ := id C
  intro n
  induction n with
  | zero => intro v2 S H locs ls hI hl h; exact h.elim
  | succ n ih =>
    intro v2 S H locs ls hI hl h
    rw [L_R_sortByBoxes_2] at h
    refine lv_iload_n hx hb d_R_sortByBoxes_2 rfl (lv_at hl 2 rfl) ?_
    refine lv_aload_n hx hb d_R_sortByBoxes_3 rfl (lv_at hl 1 rfl) ?_
    refine z_getI C hI 5 (by decide) kd_5 cl_G iw_G 6 (by decide) k_fl_R_25 rfl d_R_sortByBoxes_4 ?_
    refine lv_icmp_ge (tgt := 65) hx hb d_R_sortByBoxes_7 (by decide) (fun q => ?_) (fun q => ?_)
    · replace h := h.1 q
      exact hR _ _ hcs S _ _ 65 ls h hI d_R_sortByBoxes_65
    · replace h := h.2 q
      refine lv_iload_n hx hb d_R_sortByBoxes_10 rfl (lv_at hl 2 rfl) ?_
      refine lv_istore_n (lv' := [(3, .int v2), (0, .ref (ad 27)), (1, .ref (ad 5)), (2, .int v2)]) hx hb d_R_sortByBoxes_11 rfl hl (by decide) rfl (fun ls hl => ?_)
      obtain ⟨k12, h⟩ := h
      refine w_R_sortByBoxes_12 C hcs _ _ v2 hR (fun v3_12e S12e H locs ls h hI hl => ?_) k12 v2 S _ _ ls hI (lv_sub hl [1, 2, 3, 0] rfl) h
      exact w_R_sortByBoxes_52 C hcs _ _ v2 v3_12e hR (fun v2 S H locs ls h hI hl => ih v2 S H locs ls hI hl h) S12e _ _ ls hI (lv_sub hl [0, 1, 2, 3] rfl) h
set_option maxHeartbeats 4000000 in
set_option maxRecDepth 100000 in
theorem c_R_sortByBoxes (S : zS) (post : zS → Prop) (h : P_R_sortByBoxes S post) : z_ctv l D cA 51 ad y_R_sortByBoxes b_R_sortByBoxes 4 none rm_R_sortByBoxes [.ref (ad 27), .ref (ad 5)] S post := by
  refine z_metv (av := [.ref (ad 27), .ref (ad 5)]) (by decide) (Nat.le_of_ble_eq_true rfl) ⟨rfl, rfl⟩ (fun p e s m args below meth c Q ls C hcs hl hI hR => ?_)
  obtain ⟨hx, hb, hml, hown, hts, hK, hJ⟩ := id C
  unfold P_R_sortByBoxes at h
  have hl : lv_has ls 4 [(0, .ref (ad 27)), (1, .ref (ad 5))] := hl
  refine lv_iconst (v := 0) hx hb d_R_sortByBoxes_0 (by decide) ?_
  refine lv_istore_n (lv' := [(2, .int 0), (0, .ref (ad 27)), (1, .ref (ad 5))]) hx hb d_R_sortByBoxes_1 rfl hl (by decide) rfl (fun ls hl => ?_)
  obtain ⟨k2, h⟩ := h
  refine w_R_sortByBoxes_2 C hcs _ hR k2 0 S _ _ ls hI (lv_sub hl [1, 2, 0] rfl) h
set_option maxHeartbeats 4000000 in
set_option maxRecDepth 100000 in
theorem c_R_bits (v0 : Int32) (v1 : Int32) (S : zS) (post : Int32 → zS → Prop) (h : P_R_bits v0 v1 S post) : z_cti l D cA n ad y_R_bits b_R_bits 2 (some .int) rm_R_bits [.int v0, .int v1] S post := by
  refine z_meti (av := [.int v0, .int v1]) (by decide) (Nat.le_of_ble_eq_true rfl) ⟨rfl, rfl⟩ (fun p e s m args below meth c Q ls C hcs hl hI hR => ?_)
  obtain ⟨hx, hb, hml, hown, hts, hK, hJ⟩ := id C
  unfold P_R_bits at h
  have hl : lv_has ls 2 [(0, .int v0), (1, .int v1)] := hl
  refine lv_iconst (v := 1) hx hb d_R_bits_0 (by decide) ?_
  refine lv_iload_n hx hb d_R_bits_1 rfl (lv_at hl 1 rfl) ?_
  refine lv_iconst (v := 1) hx hb d_R_bits_2 (by decide) ?_
  refine lv_iadd hx hb d_R_bits_3 ?_
  refine lv_ishl hx hb d_R_bits_4 ?_
  refine lv_iconst (v := 1) hx hb d_R_bits_5 (by decide) ?_
  refine lv_iload_n hx hb d_R_bits_6 rfl (lv_at hl 0 rfl) ?_
  refine lv_ishl hx hb d_R_bits_7 ?_
  refine lv_isub hx hb d_R_bits_8 ?_
  exact hR _ _ hcs ((1 <<< ((v1 + 1) &&& 31)) - (1 <<< (v0 &&& 31))) S _ _ 9 ls h hI d_R_bits_9
set_option maxHeartbeats 4000000 in
set_option maxRecDepth 100000 in
theorem c_R_hasBit (v0 : Int32) (v1 : Int32) (S : zS) (post : Int32 → zS → Prop) (h : P_R_hasBit v0 v1 S post) : z_cti l D cA n ad y_R_hasBit b_R_hasBit 2 (some .boolean) rm_R_hasBit [.int v0, .int v1] S post := by
  refine z_metz (av := [.int v0, .int v1]) (by decide) (Nat.le_of_ble_eq_true rfl) ⟨rfl, rfl⟩ (fun p e s m args below meth c Q ls C hcs hl hI hR => ?_)
  obtain ⟨hx, hb, hml, hown, hts, hK, hJ⟩ := id C
  unfold P_R_hasBit at h
  have hl : lv_has ls 2 [(0, .int v0), (1, .int v1)] := hl
  refine lv_iload_n hx hb d_R_hasBit_0 rfl (lv_at hl 0 rfl) ?_
  refine lv_iload_n hx hb d_R_hasBit_1 rfl (lv_at hl 1 rfl) ?_
  refine lv_ishr hx hb d_R_hasBit_2 ?_
  refine lv_iconst (v := 1) hx hb d_R_hasBit_3 (by decide) ?_
  refine lv_iand hx hb d_R_hasBit_4 ?_
  refine lv_if_eq (tgt := 12) hx hb d_R_hasBit_5 (by decide) (fun q => ?_) (fun q => ?_)
  · replace h := h.1 q
    refine lv_iconst (v := 0) hx hb d_R_hasBit_12 (by decide) ?_
    exact hR _ _ hcs 0 S _ _ 13 ls (by decide) h hI d_R_hasBit_13
  · replace h := h.2 q
    refine lv_iconst (v := 1) hx hb d_R_hasBit_8 (by decide) ?_
    refine lv_goto (tgt := 13) hx hb d_R_hasBit_9 (by decide) ?_
    exact hR _ _ hcs 1 S _ _ 13 ls (by decide) h hI d_R_hasBit_13
end ZW
