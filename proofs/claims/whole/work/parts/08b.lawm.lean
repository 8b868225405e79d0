section ZW
variable {p : Program} {l : Launch} {e : Env} {s : State} {m : MethodId} {args : Array Value} {below : List Frame} {meth : Method} {c : Code} {cells slots : Nat} {Q : State → Prop} {D : va_G} {cA : Nat → ClassId} {n : Nat} {ad : Nat → Nat}
def rm_L_put : Room := { frames := 8, cells := 1, slots := 6, locals := 135 }
set_option maxHeartbeats 4000000 in
set_option maxRecDepth 100000 in
theorem w_L_put_18 (C : z_CT p s m args c R_L b_L_put 6 D cA 51 ad) (hcs : cells ≤ rm_L_put.cells ∧ slots ≤ rm_L_put.slots) (post : Int32 → zS → Prop) (t0 : Int32) (t1 : Int32) (hR : z_Ri p l e rm_L_put s m args below meth c Q b_L_put D cA 51 ad post) (S : zS) (H : Heap) (locs : List Loc) (ls : Array Slot) (hI : z_I D cA 51 ad s.heap S H locs) (hl : lv_has ls 6 []) (h : J_L_put_18 post t0 t1 S) : W p l e rm_L_put s m args below meth c H locs cells slots Q (F0 m 18 ls [.long (Int32.toInt64 t0), .int t1, .ref (ad 50)]) := by
  obtain ⟨hx, hb, hml, hown, hts, hK, hJ⟩ := id C
  unfold J_L_put_18 at h
  obtain ⟨h1, h⟩ := h
  refine z_lst C hI 50 (by decide) kd_50 h1 d_L_put_18 (fun S18 eS H locs hI => ?_)
  replace h := h S18 eS
  refine lv_goto (tgt := 26) hx hb d_L_put_19 (by decide) ?_
  refine lv_iconst (v := 0) hx hb d_L_put_26 (by decide) ?_
  exact hR _ _ hcs 0 S18 _ _ 27 ls h hI d_L_put_27
set_option maxHeartbeats 4000000 in
set_option maxRecDepth 100000 in
theorem c_L_put (v1 : Int32) (v2 : Int32) (v3 : Int32) (S : zS) (post : Int32 → zS → Prop) (h : P_L_put v1 v2 v3 S post) : z_ctW l D cA 51 ad y_L_put b_L_put 6 hh_L_put rm_L_put [.ref (ad 0), .int v1, .int v2, .int v3, .ref (ad 50)] S post := by
  refine z_metW (av := [.ref (ad 0), .int v1, .int v2, .int v3, .ref (ad 50)]) (by decide) (Nat.le_of_ble_eq_true rfl) ⟨rfl, rfl⟩ (fun p e s m args below meth c Q ls C hT htab hl hI hR => ?_)
  obtain ⟨hx, hb, hml, hown, hts, hK, hJ⟩ := id C
  have hcs : 0 ≤ rm_L_put.cells ∧ 0 ≤ rm_L_put.slots := ⟨Nat.zero_le _, Nat.zero_le _⟩
  unfold P_L_put at h
  have hl : lv_has ls 6 [(0, .ref (ad 0)), (1, .int v1), (2, .int v2), (3, .int v3), (4, .ref (ad 50))] := hl
  refine lv_aload hx hb d_L_put_0 (lv_at hl 4 rfl) ?_
  refine lv_iconst (v := 0) hx hb d_L_put_2 (by decide) ?_
  refine lv_aload_n hx hb d_L_put_3 rfl (lv_at hl 0 rfl) ?_
  refine lv_iload_n hx hb d_L_put_4 rfl (lv_at hl 1 rfl) ?_
  refine lv_iload_n hx hb d_L_put_5 rfl (lv_at hl 2 rfl) ?_
  refine lv_iload_n hx hb d_L_put_6 rfl (lv_at hl 3 rfl) ?_
  rcases h with h | h
  · refine z_callVXc C hT hI 0 (by decide) kd_0 cl_P (As := [.int v1, .int v2, .int v3]) (rest := [.int 0, .ref (ad 50)]) (cx_P_put v1 v2 v3 _ _ h) wc_P_put k_ml_L_7 rfl rfl (Nat.le_of_ble_eq_true rfl) (Nat.le_of_ble_eq_true rfl) ⟨Nat.le_of_ble_eq_true rfl, Nat.le_of_ble_eq_true rfl⟩ hl.1 (Nat.le_of_ble_eq_true rfl) rfl d_L_put_7 (fun cd S7x H locs q ce h hI hce hcv hcl => ?_)
    have hcs : 0 + 1 ≤ rm_L_put.cells ∧ 0 + 6 ≤ rm_L_put.slots := ⟨Nat.le_of_ble_eq_true rfl, Nat.le_of_ble_eq_true rfl⟩
    rcases h with ⟨rfl, h⟩
    · refine z_catch C hT (by decide) hce hcv hcl htab [] (0, 19, 22, 13) [] rfl (fun _ h => absurd h List.not_mem_nil) (by decide) (by decide) k_cL_13 k_cc_1 ?_
      refine lv_astore (lv' := [(5, .ref q), (0, .ref (ad 0)), (1, .int v1), (2, .int v2), (3, .int v3), (4, .ref (ad 50))]) hx hb d_L_put_22 hl (by decide) rfl (fun ls hl => ?_)
      refine lv_iconst (v := 1) hx hb d_L_put_24 (by decide) ?_
      exact hR _ _ hcs 1 S7x _ _ 25 ls h hI d_L_put_25
  · refine z_callVi C hI 0 (by decide) kd_0 cl_P (As := [.int v1, .int v2, .int v3]) (rest := [.int 0, .ref (ad 50)]) (c_P_put v1 v2 v3 _ _ h) wc_P_put k_ml_L_7 rfl rfl (Nat.le_of_ble_eq_true rfl) (Nat.le_of_ble_eq_true rfl) hcs hl.1 (Nat.le_of_ble_eq_true rfl) rfl d_L_put_7 (fun r7 S7 H locs h hI => ?_)
    refine lv_if_eq (tgt := 17) hx hb d_L_put_10 (by decide) (fun q => ?_) (fun q => ?_)
    · replace h := h.1 q
      refine lv_lconst (v := Int32.toInt64 0) hx hb d_L_put_17 (by decide) ?_
      exact w_L_put_18 C hcs _ 0 0 hR S7 _ _ ls hI (lv_sub hl [] rfl) h
    · replace h := h.2 q
      refine lv_lconst (v := Int32.toInt64 1) hx hb d_L_put_13 (by decide) ?_
      refine lv_goto (tgt := 18) hx hb d_L_put_14 (by decide) ?_
      exact w_L_put_18 C hcs _ 1 0 hR S7 _ _ ls hI (lv_sub hl [] rfl) h
def rm_L_fill : Room := { frames := 8, cells := 1, slots := 6, locals := 142 }
set_option maxHeartbeats 4000000 in
set_option maxRecDepth 100000 in
theorem c_L_fill (v1 : Int32) (v2 : Int32) (v3 : Int32) (v4 : Int32) (v5 : Int32) (S : zS) (post : Int32 → zS → Prop) (h : P_L_fill v1 v2 v3 v4 v5 S post) : z_ctW l D cA 51 ad y_L_fill b_L_fill 8 hh_L_fill rm_L_fill [.ref (ad 0), .int v1, .int v2, .int v3, .int v4, .int v5, .ref (ad 50)] S post := by
  refine z_metW (av := [.ref (ad 0), .int v1, .int v2, .int v3, .int v4, .int v5, .ref (ad 50)]) (by decide) (Nat.le_of_ble_eq_true rfl) ⟨rfl, rfl⟩ (fun p e s m args below meth c Q ls C hT htab hl hI hR => ?_)
  obtain ⟨hx, hb, hml, hown, hts, hK, hJ⟩ := id C
  have hcs : 0 ≤ rm_L_fill.cells ∧ 0 ≤ rm_L_fill.slots := ⟨Nat.zero_le _, Nat.zero_le _⟩
  unfold P_L_fill at h
  have hl : lv_has ls 8 [(0, .ref (ad 0)), (1, .int v1), (2, .int v2), (3, .int v3), (4, .int v4), (5, .int v5), (6, .ref (ad 50))] := hl
  refine lv_aload hx hb d_L_fill_0 (lv_at hl 6 rfl) ?_
  refine lv_iconst (v := 0) hx hb d_L_fill_2 (by decide) ?_
  refine lv_aload_n hx hb d_L_fill_3 rfl (lv_at hl 0 rfl) ?_
  refine lv_iload_n hx hb d_L_fill_4 rfl (lv_at hl 1 rfl) ?_
  refine lv_iload_n hx hb d_L_fill_5 rfl (lv_at hl 2 rfl) ?_
  refine lv_iload_n hx hb d_L_fill_6 rfl (lv_at hl 3 rfl) ?_
  refine lv_iload hx hb d_L_fill_7 (lv_at hl 4 rfl) ?_
  refine lv_iload hx hb d_L_fill_9 (lv_at hl 5 rfl) ?_
  rcases h with h | h
  · refine z_callVXc C hT hI 0 (by decide) kd_0 cl_P (As := [.int v1, .int v2, .int v3, .int v4, .int v5]) (rest := [.int 0, .ref (ad 50)]) (cx_P_fill v1 v2 v3 v4 v5 _ _ h) wc_P_fill k_ml_L_15 rfl rfl (Nat.le_of_ble_eq_true rfl) (Nat.le_of_ble_eq_true rfl) ⟨Nat.le_of_ble_eq_true rfl, Nat.le_of_ble_eq_true rfl⟩ hl.1 (Nat.le_of_ble_eq_true rfl) rfl d_L_fill_11 (fun cd S11x H locs q ce h hI hce hcv hcl => ?_)
    have hcs : 0 + 1 ≤ rm_L_fill.cells ∧ 0 + 6 ≤ rm_L_fill.slots := ⟨Nat.le_of_ble_eq_true rfl, Nat.le_of_ble_eq_true rfl⟩
    rcases h with ⟨rfl, h⟩ | ⟨rfl, h⟩
    · refine z_catch C hT (by decide) hce hcv hcl htab [] (0, 16, 19, 13) [(0, 16, 23, 19)] rfl (fun _ h => absurd h List.not_mem_nil) (by decide) (by decide) k_cL_13 k_cc_1 ?_
      refine lv_astore (lv' := [(7, .ref q), (0, .ref (ad 0)), (1, .int v1), (2, .int v2), (3, .int v3), (4, .int v4), (5, .int v5), (6, .ref (ad 50))]) hx hb d_L_fill_19 hl (by decide) rfl (fun ls hl => ?_)
      refine lv_iconst (v := 1) hx hb d_L_fill_21 (by decide) ?_
      exact hR _ _ hcs 1 S11x _ _ 22 ls h hI d_L_fill_22
    · refine z_catch C hT (by decide) hce hcv hcl htab [(0, 16, 19, 13)] (0, 16, 23, 19) [] rfl (List.forall_mem_cons.mpr ⟨⟨by decide, 1, by decide, by decide, k_cL_13⟩, fun _ h => absurd h List.not_mem_nil⟩) (by decide) (by decide) k_cL_19 k_cc_2 ?_
      refine lv_astore (lv' := [(7, .ref q), (0, .ref (ad 0)), (1, .int v1), (2, .int v2), (3, .int v3), (4, .int v4), (5, .int v5), (6, .ref (ad 50))]) hx hb d_L_fill_23 hl (by decide) rfl (fun ls hl => ?_)
      refine lv_iconst (v := 2) hx hb d_L_fill_25 (by decide) ?_
      exact hR _ _ hcs 2 S11x _ _ 26 ls h hI d_L_fill_26
  · refine z_callVi C hI 0 (by decide) kd_0 cl_P (As := [.int v1, .int v2, .int v3, .int v4, .int v5]) (rest := [.int 0, .ref (ad 50)]) (c_P_fill v1 v2 v3 v4 v5 _ _ h) wc_P_fill k_ml_L_15 rfl rfl (Nat.le_of_ble_eq_true rfl) (Nat.le_of_ble_eq_true rfl) hcs hl.1 (Nat.le_of_ble_eq_true rfl) rfl d_L_fill_11 (fun r11 S11 H locs h hI => ?_)
    refine lv_i2l hx hb d_L_fill_14 rfl ?_
    obtain ⟨h1, h⟩ := h
    refine z_lst C hI 50 (by decide) kd_50 h1 d_L_fill_15 (fun S15 eS H locs hI => ?_)
    replace h := h S15 eS
    refine lv_goto (tgt := 27) hx hb d_L_fill_16 (by decide) ?_
    refine lv_iconst (v := 0) hx hb d_L_fill_27 (by decide) ?_
    exact hR _ _ hcs 0 S15 _ _ 28 ls h hI d_L_fill_28
def rm_L_noise : Room := { frames := 7, cells := 1, slots := 6, locals := 112 }
set_option maxHeartbeats 4000000 in
set_option maxRecDepth 100000 in
theorem c_L_noise (v1 : Int32) (S : zS) (post : Int32 → zS → Prop) (h : P_L_noise v1 S post) : z_ctW l D cA 51 ad y_L_noise b_L_noise 4 hh_L_noise rm_L_noise [.ref (ad 0), .int v1, .ref (ad 50)] S post := by
  refine z_metW (av := [.ref (ad 0), .int v1, .ref (ad 50)]) (by decide) (Nat.le_of_ble_eq_true rfl) ⟨rfl, rfl⟩ (fun p e s m args below meth c Q ls C hT htab hl hI hR => ?_)
  obtain ⟨hx, hb, hml, hown, hts, hK, hJ⟩ := id C
  have hcs : 0 ≤ rm_L_noise.cells ∧ 0 ≤ rm_L_noise.slots := ⟨Nat.zero_le _, Nat.zero_le _⟩
  unfold P_L_noise at h
  have hl : lv_has ls 4 [(0, .ref (ad 0)), (1, .int v1), (2, .ref (ad 50))] := hl
  refine lv_aload_n hx hb d_L_noise_0 rfl (lv_at hl 2 rfl) ?_
  refine lv_iconst (v := 0) hx hb d_L_noise_1 (by decide) ?_
  refine lv_aload_n hx hb d_L_noise_2 rfl (lv_at hl 0 rfl) ?_
  refine lv_iload_n hx hb d_L_noise_3 rfl (lv_at hl 1 rfl) ?_
  rcases h with h | h
  · refine z_callVXc C hT hI 0 (by decide) kd_0 cl_P (As := [.int v1]) (rest := [.int 0, .ref (ad 50)]) (cx_P_noise v1 _ _ h) wc_P_noise k_ml_L_21 rfl rfl (Nat.le_of_ble_eq_true rfl) (Nat.le_of_ble_eq_true rfl) ⟨Nat.le_of_ble_eq_true rfl, Nat.le_of_ble_eq_true rfl⟩ hl.1 (Nat.le_of_ble_eq_true rfl) rfl d_L_noise_4 (fun cd S4x H locs q ce h hI hce hcv hcl => ?_)
    have hcs : 0 + 1 ≤ rm_L_noise.cells ∧ 0 + 6 ≤ rm_L_noise.slots := ⟨Nat.le_of_ble_eq_true rfl, Nat.le_of_ble_eq_true rfl⟩
    rcases h with ⟨rfl, h⟩
    · refine z_catch C hT (by decide) hce hcv hcl htab [] (0, 9, 12, 19) [] rfl (fun _ h => absurd h List.not_mem_nil) (by decide) (by decide) k_cL_19 k_cc_2 ?_
      refine lv_astore_n (lv' := [(3, .ref q), (0, .ref (ad 0)), (1, .int v1), (2, .ref (ad 50))]) hx hb d_L_noise_12 rfl hl (by decide) rfl (fun ls hl => ?_)
      refine lv_iconst (v := 1) hx hb d_L_noise_13 (by decide) ?_
      exact hR _ _ hcs 1 S4x _ _ 14 ls h hI d_L_noise_14
  · refine z_callVi C hI 0 (by decide) kd_0 cl_P (As := [.int v1]) (rest := [.int 0, .ref (ad 50)]) (c_P_noise v1 _ _ h) wc_P_noise k_ml_L_21 rfl rfl (Nat.le_of_ble_eq_true rfl) (Nat.le_of_ble_eq_true rfl) hcs hl.1 (Nat.le_of_ble_eq_true rfl) rfl d_L_noise_4 (fun r4 S4 H locs h hI => ?_)
    refine lv_i2l hx hb d_L_noise_7 rfl ?_
    obtain ⟨h1, h⟩ := h
    refine z_lst C hI 50 (by decide) kd_50 h1 d_L_noise_8 (fun S8 eS H locs hI => ?_)
    replace h := h S8 eS
    refine lv_goto (tgt := 15) hx hb d_L_noise_9 (by decide) ?_
    refine lv_iconst (v := 0) hx hb d_L_noise_15 (by decide) ?_
    exact hR _ _ hcs 0 S8 _ _ 16 ls h hI d_L_noise_16
def rm_L_run : Room := { frames := 7, cells := 1, slots := 6, locals := 145 }
set_option maxHeartbeats 4000000 in
set_option maxRecDepth 100000 in
theorem c_L_run (v1 : Int32) (v2 : Int32) (S : zS) (post : Int32 → zS → Prop) (h : P_L_run v1 v2 S post) : z_ctW l D cA 51 ad y_L_run b_L_run 5 hh_L_run rm_L_run [.ref (ad 0), .int v1, .int v2, .ref (ad 50)] S post := by
  refine z_metW (av := [.ref (ad 0), .int v1, .int v2, .ref (ad 50)]) (by decide) (Nat.le_of_ble_eq_true rfl) ⟨rfl, rfl⟩ (fun p e s m args below meth c Q ls C hT htab hl hI hR => ?_)
  obtain ⟨hx, hb, hml, hown, hts, hK, hJ⟩ := id C
  have hcs : 0 ≤ rm_L_run.cells ∧ 0 ≤ rm_L_run.slots := ⟨Nat.zero_le _, Nat.zero_le _⟩
  unfold P_L_run at h
  have hl : lv_has ls 5 [(0, .ref (ad 0)), (1, .int v1), (2, .int v2), (3, .ref (ad 50))] := hl
  refine lv_aload_n hx hb d_L_run_0 rfl (lv_at hl 3 rfl) ?_
  refine lv_iconst (v := 0) hx hb d_L_run_1 (by decide) ?_
  refine lv_aload_n hx hb d_L_run_2 rfl (lv_at hl 0 rfl) ?_
  refine lv_iload_n hx hb d_L_run_3 rfl (lv_at hl 1 rfl) ?_
  refine lv_iload_n hx hb d_L_run_4 rfl (lv_at hl 2 rfl) ?_
  rcases h with h | h
  · refine z_callVXc C hT hI 0 (by decide) kd_0 cl_P (As := [.int v1, .int v2]) (rest := [.int 0, .ref (ad 50)]) (cx_P_run v1 v2 _ _ h) wc_P_run k_ml_L_25 rfl rfl (Nat.le_of_ble_eq_true rfl) (Nat.le_of_ble_eq_true rfl) ⟨Nat.le_of_ble_eq_true rfl, Nat.le_of_ble_eq_true rfl⟩ hl.1 (Nat.le_of_ble_eq_true rfl) rfl d_L_run_5 (fun cd S5x H locs q ce h hI hce hcv hcl => ?_)
    have hcs : 0 + 1 ≤ rm_L_run.cells ∧ 0 + 6 ≤ rm_L_run.slots := ⟨Nat.le_of_ble_eq_true rfl, Nat.le_of_ble_eq_true rfl⟩
    rcases h with ⟨rfl, h⟩
    · refine z_catch C hT (by decide) hce hcv hcl htab [] (0, 10, 13, 19) [] rfl (fun _ h => absurd h List.not_mem_nil) (by decide) (by decide) k_cL_19 k_cc_2 ?_
      refine lv_astore (lv' := [(4, .ref q), (0, .ref (ad 0)), (1, .int v1), (2, .int v2), (3, .ref (ad 50))]) hx hb d_L_run_13 hl (by decide) rfl (fun ls hl => ?_)
      refine lv_iconst (v := 1) hx hb d_L_run_15 (by decide) ?_
      exact hR _ _ hcs 1 S5x _ _ 16 ls h hI d_L_run_16
  · refine z_callVi C hI 0 (by decide) kd_0 cl_P (As := [.int v1, .int v2]) (rest := [.int 0, .ref (ad 50)]) (c_P_run v1 v2 _ _ h) wc_P_run k_ml_L_25 rfl rfl (Nat.le_of_ble_eq_true rfl) (Nat.le_of_ble_eq_true rfl) hcs hl.1 (Nat.le_of_ble_eq_true rfl) rfl d_L_run_5 (fun r5 S5 H locs h hI => ?_)
    refine lv_i2l hx hb d_L_run_8 rfl ?_
    obtain ⟨h1, h⟩ := h
    refine z_lst C hI 50 (by decide) kd_50 h1 d_L_run_9 (fun S9 eS H locs hI => ?_)
    replace h := h S9 eS
    refine lv_goto (tgt := 17) hx hb d_L_run_10 (by decide) ?_
    refine lv_iconst (v := 0) hx hb d_L_run_17 (by decide) ?_
    exact hR _ _ hcs 0 S9 _ _ 18 ls h hI d_L_run_18
def rm_L_part : Room := { frames := 8, cells := 1, slots := 6, locals := 133 }
set_option maxHeartbeats 4000000 in
set_option maxRecDepth 100000 in
theorem c_L_part (v1 : Int32) (v2 : Int32) (S : zS) (post : Int32 → zS → Prop) (h : P_L_part v1 v2 S post) : z_ctW l D cA 51 ad y_L_part b_L_part 5 hh_L_part rm_L_part [.ref (ad 0), .int v1, .int v2, .ref (ad 50)] S post := by
  refine z_metW (av := [.ref (ad 0), .int v1, .int v2, .ref (ad 50)]) (by decide) (Nat.le_of_ble_eq_true rfl) ⟨rfl, rfl⟩ (fun p e s m args below meth c Q ls C hT htab hl hI hR => ?_)
  obtain ⟨hx, hb, hml, hown, hts, hK, hJ⟩ := id C
  have hcs : 0 ≤ rm_L_part.cells ∧ 0 ≤ rm_L_part.slots := ⟨Nat.zero_le _, Nat.zero_le _⟩
  unfold P_L_part at h
  have hl : lv_has ls 5 [(0, .ref (ad 0)), (1, .int v1), (2, .int v2), (3, .ref (ad 50))] := hl
  refine lv_aload_n hx hb d_L_part_0 rfl (lv_at hl 3 rfl) ?_
  refine lv_iconst (v := 0) hx hb d_L_part_1 (by decide) ?_
  refine lv_aload_n hx hb d_L_part_2 rfl (lv_at hl 0 rfl) ?_
  refine lv_iload_n hx hb d_L_part_3 rfl (lv_at hl 1 rfl) ?_
  refine lv_iload_n hx hb d_L_part_4 rfl (lv_at hl 2 rfl) ?_
  rcases h with h | h
  · refine z_callVXc C hT hI 0 (by decide) kd_0 cl_P (As := [.int v1, .int v2]) (rest := [.int 0, .ref (ad 50)]) (cx_P_part v1 v2 _ _ h) wc_P_part k_ml_L_29 rfl rfl (Nat.le_of_ble_eq_true rfl) (Nat.le_of_ble_eq_true rfl) ⟨Nat.le_of_ble_eq_true rfl, Nat.le_of_ble_eq_true rfl⟩ hl.1 (Nat.le_of_ble_eq_true rfl) rfl d_L_part_5 (fun cd S5x H locs q ce h hI hce hcv hcl => ?_)
    have hcs : 0 + 1 ≤ rm_L_part.cells ∧ 0 + 6 ≤ rm_L_part.slots := ⟨Nat.le_of_ble_eq_true rfl, Nat.le_of_ble_eq_true rfl⟩
    rcases h with ⟨rfl, h⟩ | ⟨rfl, h⟩ | ⟨rfl, h⟩
    · refine z_catch C hT (by decide) hce hcv hcl htab [] (0, 10, 13, 32) [(0, 10, 17, 13), (0, 10, 21, 19)] rfl (fun _ h => absurd h List.not_mem_nil) (by decide) (by decide) k_cL_32 k_cc_0 ?_
      refine lv_astore (lv' := [(4, .ref q), (0, .ref (ad 0)), (1, .int v1), (2, .int v2), (3, .ref (ad 50))]) hx hb d_L_part_13 hl (by decide) rfl (fun ls hl => ?_)
      refine lv_iconst (v := 1) hx hb d_L_part_15 (by decide) ?_
      exact hR _ _ hcs 1 S5x _ _ 16 ls h hI d_L_part_16
    · refine z_catch C hT (by decide) hce hcv hcl htab [(0, 10, 13, 32)] (0, 10, 17, 13) [(0, 10, 21, 19)] rfl (List.forall_mem_cons.mpr ⟨⟨by decide, 0, by decide, by decide, k_cL_32⟩, fun _ h => absurd h List.not_mem_nil⟩) (by decide) (by decide) k_cL_13 k_cc_1 ?_
      refine lv_astore (lv' := [(4, .ref q), (0, .ref (ad 0)), (1, .int v1), (2, .int v2), (3, .ref (ad 50))]) hx hb d_L_part_17 hl (by decide) rfl (fun ls hl => ?_)
      refine lv_iconst (v := 2) hx hb d_L_part_19 (by decide) ?_
      exact hR _ _ hcs 2 S5x _ _ 20 ls h hI d_L_part_20
    · refine z_catch C hT (by decide) hce hcv hcl htab [(0, 10, 13, 32), (0, 10, 17, 13)] (0, 10, 21, 19) [] rfl (List.forall_mem_cons.mpr ⟨⟨by decide, 0, by decide, by decide, k_cL_32⟩, List.forall_mem_cons.mpr ⟨⟨by decide, 1, by decide, by decide, k_cL_13⟩, fun _ h => absurd h List.not_mem_nil⟩⟩) (by decide) (by decide) k_cL_19 k_cc_2 ?_
      refine lv_astore (lv' := [(4, .ref q), (0, .ref (ad 0)), (1, .int v1), (2, .int v2), (3, .ref (ad 50))]) hx hb d_L_part_21 hl (by decide) rfl (fun ls hl => ?_)
      refine lv_iconst (v := 3) hx hb d_L_part_23 (by decide) ?_
      exact hR _ _ hcs 3 S5x _ _ 24 ls h hI d_L_part_24
  · refine z_callVi C hI 0 (by decide) kd_0 cl_P (As := [.int v1, .int v2]) (rest := [.int 0, .ref (ad 50)]) (c_P_part v1 v2 _ _ h) wc_P_part k_ml_L_29 rfl rfl (Nat.le_of_ble_eq_true rfl) (Nat.le_of_ble_eq_true rfl) hcs hl.1 (Nat.le_of_ble_eq_true rfl) rfl d_L_part_5 (fun r5 S5 H locs h hI => ?_)
    refine lv_i2l hx hb d_L_part_8 rfl ?_
    obtain ⟨h1, h⟩ := h
    refine z_lst C hI 50 (by decide) kd_50 h1 d_L_part_9 (fun S9 eS H locs hI => ?_)
    replace h := h S9 eS
    refine lv_goto (tgt := 25) hx hb d_L_part_10 (by decide) ?_
    refine lv_iconst (v := 0) hx hb d_L_part_25 (by decide) ?_
    exact hR _ _ hcs 0 S9 _ _ 26 ls h hI d_L_part_26
def rm_L_partOf : Room := { frames := 8, cells := 1, slots := 6, locals := 134 }
set_option maxHeartbeats 4000000 in
set_option maxRecDepth 100000 in
theorem c_L_partOf (v1 : Int32) (v2 : Int32) (S : zS) (post : Int32 → zS → Prop) (h : P_L_partOf v1 v2 S post) : z_ctW l D cA 51 ad y_L_partOf b_L_partOf 5 hh_L_partOf rm_L_partOf [.ref (ad 0), .int v1, .int v2, .ref (ad 50)] S post := by
  refine z_metW (av := [.ref (ad 0), .int v1, .int v2, .ref (ad 50)]) (by decide) (Nat.le_of_ble_eq_true rfl) ⟨rfl, rfl⟩ (fun p e s m args below meth c Q ls C hT htab hl hI hR => ?_)
  obtain ⟨hx, hb, hml, hown, hts, hK, hJ⟩ := id C
  have hcs : 0 ≤ rm_L_partOf.cells ∧ 0 ≤ rm_L_partOf.slots := ⟨Nat.zero_le _, Nat.zero_le _⟩
  unfold P_L_partOf at h
  have hl : lv_has ls 5 [(0, .ref (ad 0)), (1, .int v1), (2, .int v2), (3, .ref (ad 50))] := hl
  refine lv_aload_n hx hb d_L_partOf_0 rfl (lv_at hl 3 rfl) ?_
  refine lv_iconst (v := 0) hx hb d_L_partOf_1 (by decide) ?_
  refine lv_aload_n hx hb d_L_partOf_2 rfl (lv_at hl 0 rfl) ?_
  refine lv_iload_n hx hb d_L_partOf_3 rfl (lv_at hl 1 rfl) ?_
  refine lv_iload_n hx hb d_L_partOf_4 rfl (lv_at hl 2 rfl) ?_
  rcases h with h | h
  · refine z_callVXc C hT hI 0 (by decide) kd_0 cl_P (As := [.int v1, .int v2]) (rest := [.int 0, .ref (ad 50)]) (cx_P_partOf v1 v2 _ _ h) wc_P_partOf k_ml_L_34 rfl rfl (Nat.le_of_ble_eq_true rfl) (Nat.le_of_ble_eq_true rfl) ⟨Nat.le_of_ble_eq_true rfl, Nat.le_of_ble_eq_true rfl⟩ hl.1 (Nat.le_of_ble_eq_true rfl) rfl d_L_partOf_5 (fun cd S5x H locs q ce h hI hce hcv hcl => ?_)
    have hcs : 0 + 1 ≤ rm_L_partOf.cells ∧ 0 + 6 ≤ rm_L_partOf.slots := ⟨Nat.le_of_ble_eq_true rfl, Nat.le_of_ble_eq_true rfl⟩
    rcases h with ⟨rfl, h⟩ | ⟨rfl, h⟩
    · refine z_catch C hT (by decide) hce hcv hcl htab [] (0, 10, 13, 32) [(0, 10, 17, 13)] rfl (fun _ h => absurd h List.not_mem_nil) (by decide) (by decide) k_cL_32 k_cc_0 ?_
      refine lv_astore (lv' := [(4, .ref q), (0, .ref (ad 0)), (1, .int v1), (2, .int v2), (3, .ref (ad 50))]) hx hb d_L_partOf_13 hl (by decide) rfl (fun ls hl => ?_)
      refine lv_iconst (v := 1) hx hb d_L_partOf_15 (by decide) ?_
      exact hR _ _ hcs 1 S5x _ _ 16 ls h hI d_L_partOf_16
    · refine z_catch C hT (by decide) hce hcv hcl htab [(0, 10, 13, 32)] (0, 10, 17, 13) [] rfl (List.forall_mem_cons.mpr ⟨⟨by decide, 0, by decide, by decide, k_cL_32⟩, fun _ h => absurd h List.not_mem_nil⟩) (by decide) (by decide) k_cL_13 k_cc_1 ?_
      refine lv_astore (lv' := [(4, .ref q), (0, .ref (ad 0)), (1, .int v1), (2, .int v2), (3, .ref (ad 50))]) hx hb d_L_partOf_17 hl (by decide) rfl (fun ls hl => ?_)
      refine lv_iconst (v := 2) hx hb d_L_partOf_19 (by decide) ?_
      exact hR _ _ hcs 2 S5x _ _ 20 ls h hI d_L_partOf_20
  · refine z_callVi C hI 0 (by decide) kd_0 cl_P (As := [.int v1, .int v2]) (rest := [.int 0, .ref (ad 50)]) (c_P_partOf v1 v2 _ _ h) wc_P_partOf k_ml_L_34 rfl rfl (Nat.le_of_ble_eq_true rfl) (Nat.le_of_ble_eq_true rfl) hcs hl.1 (Nat.le_of_ble_eq_true rfl) rfl d_L_partOf_5 (fun r5 S5 H locs h hI => ?_)
    refine lv_i2l hx hb d_L_partOf_8 rfl ?_
    obtain ⟨h1, h⟩ := h
    refine z_lst C hI 50 (by decide) kd_50 h1 d_L_partOf_9 (fun S9 eS H locs hI => ?_)
    replace h := h S9 eS
    refine lv_goto (tgt := 21) hx hb d_L_partOf_10 (by decide) ?_
    refine lv_iconst (v := 0) hx hb d_L_partOf_21 (by decide) ?_
    exact hR _ _ hcs 0 S9 _ _ 22 ls h hI d_L_partOf_22
def rm_L_line : Room := { frames := 8, cells := 1, slots := 6, locals := 135 }
set_option maxHeartbeats 4000000 in
set_option maxRecDepth 100000 in
theorem c_L_line (v1 : Int32) (v2 : Int32) (v3 : Int32) (S : zS) (post : Int32 → zS → Prop) (h : P_L_line v1 v2 v3 S post) : z_ctW l D cA 51 ad y_L_line b_L_line 6 hh_L_line rm_L_line [.ref (ad 0), .int v1, .int v2, .int v3, .ref (ad 50)] S post := by
  refine z_metW (av := [.ref (ad 0), .int v1, .int v2, .int v3, .ref (ad 50)]) (by decide) (Nat.le_of_ble_eq_true rfl) ⟨rfl, rfl⟩ (fun p e s m args below meth c Q ls C hT htab hl hI hR => ?_)
  obtain ⟨hx, hb, hml, hown, hts, hK, hJ⟩ := id C
  have hcs : 0 ≤ rm_L_line.cells ∧ 0 ≤ rm_L_line.slots := ⟨Nat.zero_le _, Nat.zero_le _⟩
  unfold P_L_line at h
  have hl : lv_has ls 6 [(0, .ref (ad 0)), (1, .int v1), (2, .int v2), (3, .int v3), (4, .ref (ad 50))] := hl
  refine lv_aload hx hb d_L_line_0 (lv_at hl 4 rfl) ?_
  refine lv_iconst (v := 0) hx hb d_L_line_2 (by decide) ?_
  refine lv_aload_n hx hb d_L_line_3 rfl (lv_at hl 0 rfl) ?_
  refine lv_iload_n hx hb d_L_line_4 rfl (lv_at hl 1 rfl) ?_
  refine lv_iload_n hx hb d_L_line_5 rfl (lv_at hl 2 rfl) ?_
  refine lv_iload_n hx hb d_L_line_6 rfl (lv_at hl 3 rfl) ?_
  rcases h with h | h
  · refine z_callVXc C hT hI 0 (by decide) kd_0 cl_P (As := [.int v1, .int v2, .int v3]) (rest := [.int 0, .ref (ad 50)]) (cx_P_line v1 v2 v3 _ _ h) wc_P_line k_ml_L_37 rfl rfl (Nat.le_of_ble_eq_true rfl) (Nat.le_of_ble_eq_true rfl) ⟨Nat.le_of_ble_eq_true rfl, Nat.le_of_ble_eq_true rfl⟩ hl.1 (Nat.le_of_ble_eq_true rfl) rfl d_L_line_7 (fun cd S7x H locs q ce h hI hce hcv hcl => ?_)
    have hcs : 0 + 1 ≤ rm_L_line.cells ∧ 0 + 6 ≤ rm_L_line.slots := ⟨Nat.le_of_ble_eq_true rfl, Nat.le_of_ble_eq_true rfl⟩
    rcases h with ⟨rfl, h⟩ | ⟨rfl, h⟩ | ⟨rfl, h⟩
    · refine z_catch C hT (by decide) hce hcv hcl htab [] (0, 12, 15, 32) [(0, 12, 19, 13), (0, 12, 23, 19)] rfl (fun _ h => absurd h List.not_mem_nil) (by decide) (by decide) k_cL_32 k_cc_0 ?_
      refine lv_astore (lv' := [(5, .ref q), (0, .ref (ad 0)), (1, .int v1), (2, .int v2), (3, .int v3), (4, .ref (ad 50))]) hx hb d_L_line_15 hl (by decide) rfl (fun ls hl => ?_)
      refine lv_iconst (v := 1) hx hb d_L_line_17 (by decide) ?_
      exact hR _ _ hcs 1 S7x _ _ 18 ls h hI d_L_line_18
    · refine z_catch C hT (by decide) hce hcv hcl htab [(0, 12, 15, 32)] (0, 12, 19, 13) [(0, 12, 23, 19)] rfl (List.forall_mem_cons.mpr ⟨⟨by decide, 0, by decide, by decide, k_cL_32⟩, fun _ h => absurd h List.not_mem_nil⟩) (by decide) (by decide) k_cL_13 k_cc_1 ?_
      refine lv_astore (lv' := [(5, .ref q), (0, .ref (ad 0)), (1, .int v1), (2, .int v2), (3, .int v3), (4, .ref (ad 50))]) hx hb d_L_line_19 hl (by decide) rfl (fun ls hl => ?_)
      refine lv_iconst (v := 2) hx hb d_L_line_21 (by decide) ?_
      exact hR _ _ hcs 2 S7x _ _ 22 ls h hI d_L_line_22
    · refine z_catch C hT (by decide) hce hcv hcl htab [(0, 12, 15, 32), (0, 12, 19, 13)] (0, 12, 23, 19) [] rfl (List.forall_mem_cons.mpr ⟨⟨by decide, 0, by decide, by decide, k_cL_32⟩, List.forall_mem_cons.mpr ⟨⟨by decide, 1, by decide, by decide, k_cL_13⟩, fun _ h => absurd h List.not_mem_nil⟩⟩) (by decide) (by decide) k_cL_19 k_cc_2 ?_
      refine lv_astore (lv' := [(5, .ref q), (0, .ref (ad 0)), (1, .int v1), (2, .int v2), (3, .int v3), (4, .ref (ad 50))]) hx hb d_L_line_23 hl (by decide) rfl (fun ls hl => ?_)
      refine lv_iconst (v := 3) hx hb d_L_line_25 (by decide) ?_
      exact hR _ _ hcs 3 S7x _ _ 26 ls h hI d_L_line_26
  · refine z_callVi C hI 0 (by decide) kd_0 cl_P (As := [.int v1, .int v2, .int v3]) (rest := [.int 0, .ref (ad 50)]) (c_P_line v1 v2 v3 _ _ h) wc_P_line k_ml_L_37 rfl rfl (Nat.le_of_ble_eq_true rfl) (Nat.le_of_ble_eq_true rfl) hcs hl.1 (Nat.le_of_ble_eq_true rfl) rfl d_L_line_7 (fun r7 S7 H locs h hI => ?_)
    refine lv_i2l hx hb d_L_line_10 rfl ?_
    obtain ⟨h1, h⟩ := h
    refine z_lst C hI 50 (by decide) kd_50 h1 d_L_line_11 (fun S11 eS H locs hI => ?_)
    replace h := h S11 eS
    refine lv_goto (tgt := 27) hx hb d_L_line_12 (by decide) ?_
    refine lv_iconst (v := 0) hx hb d_L_line_27 (by decide) ?_
    exact hR _ _ hcs 0 S11 _ _ 28 ls h hI d_L_line_28
def rm_L_order : Room := { frames := 8, cells := 1, slots := 6, locals := 132 }
set_option maxHeartbeats 4000000 in
set_option maxRecDepth 100000 in
theorem c_L_order (v1 : Int32) (S : zS) (post : Int32 → zS → Prop) (h : P_L_order v1 S post) : z_ctW l D cA 51 ad y_L_order b_L_order 4 hh_L_order rm_L_order [.ref (ad 0), .int v1, .ref (ad 50)] S post := by
  refine z_metW (av := [.ref (ad 0), .int v1, .ref (ad 50)]) (by decide) (Nat.le_of_ble_eq_true rfl) ⟨rfl, rfl⟩ (fun p e s m args below meth c Q ls C hT htab hl hI hR => ?_)
  obtain ⟨hx, hb, hml, hown, hts, hK, hJ⟩ := id C
  have hcs : 0 ≤ rm_L_order.cells ∧ 0 ≤ rm_L_order.slots := ⟨Nat.zero_le _, Nat.zero_le _⟩
  unfold P_L_order at h
  have hl : lv_has ls 4 [(0, .ref (ad 0)), (1, .int v1), (2, .ref (ad 50))] := hl
  refine lv_aload_n hx hb d_L_order_0 rfl (lv_at hl 2 rfl) ?_
  refine lv_iconst (v := 0) hx hb d_L_order_1 (by decide) ?_
  refine lv_aload_n hx hb d_L_order_2 rfl (lv_at hl 0 rfl) ?_
  refine lv_iload_n hx hb d_L_order_3 rfl (lv_at hl 1 rfl) ?_
  rcases h with h | h
  · refine z_callVXc C hT hI 0 (by decide) kd_0 cl_P (As := [.int v1]) (rest := [.int 0, .ref (ad 50)]) (cx_P_order v1 _ _ h) wc_P_order k_ml_L_41 rfl rfl (Nat.le_of_ble_eq_true rfl) (Nat.le_of_ble_eq_true rfl) ⟨Nat.le_of_ble_eq_true rfl, Nat.le_of_ble_eq_true rfl⟩ hl.1 (Nat.le_of_ble_eq_true rfl) rfl d_L_order_4 (fun cd S4x H locs q ce h hI hce hcv hcl => ?_)
    have hcs : 0 + 1 ≤ rm_L_order.cells ∧ 0 + 6 ≤ rm_L_order.slots := ⟨Nat.le_of_ble_eq_true rfl, Nat.le_of_ble_eq_true rfl⟩
    rcases h with ⟨rfl, h⟩ | ⟨rfl, h⟩
    · refine z_catch C hT (by decide) hce hcv hcl htab [] (0, 9, 12, 32) [(0, 9, 15, 13)] rfl (fun _ h => absurd h List.not_mem_nil) (by decide) (by decide) k_cL_32 k_cc_0 ?_
      refine lv_astore_n (lv' := [(3, .ref q), (0, .ref (ad 0)), (1, .int v1), (2, .ref (ad 50))]) hx hb d_L_order_12 rfl hl (by decide) rfl (fun ls hl => ?_)
      refine lv_iconst (v := 1) hx hb d_L_order_13 (by decide) ?_
      exact hR _ _ hcs 1 S4x _ _ 14 ls h hI d_L_order_14
    · refine z_catch C hT (by decide) hce hcv hcl htab [(0, 9, 12, 32)] (0, 9, 15, 13) [] rfl (List.forall_mem_cons.mpr ⟨⟨by decide, 0, by decide, by decide, k_cL_32⟩, fun _ h => absurd h List.not_mem_nil⟩) (by decide) (by decide) k_cL_13 k_cc_1 ?_
      refine lv_astore_n (lv' := [(3, .ref q), (0, .ref (ad 0)), (1, .int v1), (2, .ref (ad 50))]) hx hb d_L_order_15 rfl hl (by decide) rfl (fun ls hl => ?_)
      refine lv_iconst (v := 2) hx hb d_L_order_16 (by decide) ?_
      exact hR _ _ hcs 2 S4x _ _ 17 ls h hI d_L_order_17
  · refine z_callVi C hI 0 (by decide) kd_0 cl_P (As := [.int v1]) (rest := [.int 0, .ref (ad 50)]) (c_P_order v1 _ _ h) wc_P_order k_ml_L_41 rfl rfl (Nat.le_of_ble_eq_true rfl) (Nat.le_of_ble_eq_true rfl) hcs hl.1 (Nat.le_of_ble_eq_true rfl) rfl d_L_order_4 (fun r4 S4 H locs h hI => ?_)
    refine lv_i2l hx hb d_L_order_7 rfl ?_
    obtain ⟨h1, h⟩ := h
    refine z_lst C hI 50 (by decide) kd_50 h1 d_L_order_8 (fun S8 eS H locs hI => ?_)
    replace h := h S8 eS
    refine lv_goto (tgt := 18) hx hb d_L_order_9 (by decide) ?_
    refine lv_iconst (v := 0) hx hb d_L_order_18 (by decide) ?_
    exact hR _ _ hcs 0 S8 _ _ 19 ls h hI d_L_order_19
def rm_L_cover : Room := { frames := 8, cells := 1, slots := 6, locals := 133 }
set_option maxHeartbeats 4000000 in
set_option maxRecDepth 100000 in
theorem c_L_cover (v1 : Int32) (v2 : Int32) (S : zS) (post : Int32 → zS → Prop) (h : P_L_cover v1 v2 S post) : z_ctW l D cA 51 ad y_L_cover b_L_cover 5 hh_L_cover rm_L_cover [.ref (ad 0), .int v1, .int v2, .ref (ad 50)] S post := by
  refine z_metW (av := [.ref (ad 0), .int v1, .int v2, .ref (ad 50)]) (by decide) (Nat.le_of_ble_eq_true rfl) ⟨rfl, rfl⟩ (fun p e s m args below meth c Q ls C hT htab hl hI hR => ?_)
  obtain ⟨hx, hb, hml, hown, hts, hK, hJ⟩ := id C
  have hcs : 0 ≤ rm_L_cover.cells ∧ 0 ≤ rm_L_cover.slots := ⟨Nat.zero_le _, Nat.zero_le _⟩
  unfold P_L_cover at h
  have hl : lv_has ls 5 [(0, .ref (ad 0)), (1, .int v1), (2, .int v2), (3, .ref (ad 50))] := hl
  refine lv_aload_n hx hb d_L_cover_0 rfl (lv_at hl 3 rfl) ?_
  refine lv_iconst (v := 0) hx hb d_L_cover_1 (by decide) ?_
  refine lv_aload_n hx hb d_L_cover_2 rfl (lv_at hl 0 rfl) ?_
  refine lv_iload_n hx hb d_L_cover_3 rfl (lv_at hl 1 rfl) ?_
  refine lv_iload_n hx hb d_L_cover_4 rfl (lv_at hl 2 rfl) ?_
  rcases h with h | h
  · refine z_callVXc C hT hI 0 (by decide) kd_0 cl_P (As := [.int v1, .int v2]) (rest := [.int 0, .ref (ad 50)]) (cx_P_cover v1 v2 _ _ h) wc_P_cover k_ml_L_44 rfl rfl (Nat.le_of_ble_eq_true rfl) (Nat.le_of_ble_eq_true rfl) ⟨Nat.le_of_ble_eq_true rfl, Nat.le_of_ble_eq_true rfl⟩ hl.1 (Nat.le_of_ble_eq_true rfl) rfl d_L_cover_5 (fun cd S5x H locs q ce h hI hce hcv hcl => ?_)
    have hcs : 0 + 1 ≤ rm_L_cover.cells ∧ 0 + 6 ≤ rm_L_cover.slots := ⟨Nat.le_of_ble_eq_true rfl, Nat.le_of_ble_eq_true rfl⟩
    rcases h with ⟨rfl, h⟩ | ⟨rfl, h⟩ | ⟨rfl, h⟩
    · refine z_catch C hT (by decide) hce hcv hcl htab [] (0, 10, 13, 32) [(0, 10, 17, 13), (0, 10, 21, 19)] rfl (fun _ h => absurd h List.not_mem_nil) (by decide) (by decide) k_cL_32 k_cc_0 ?_
      refine lv_astore (lv' := [(4, .ref q), (0, .ref (ad 0)), (1, .int v1), (2, .int v2), (3, .ref (ad 50))]) hx hb d_L_cover_13 hl (by decide) rfl (fun ls hl => ?_)
      refine lv_iconst (v := 1) hx hb d_L_cover_15 (by decide) ?_
      exact hR _ _ hcs 1 S5x _ _ 16 ls h hI d_L_cover_16
    · refine z_catch C hT (by decide) hce hcv hcl htab [(0, 10, 13, 32)] (0, 10, 17, 13) [(0, 10, 21, 19)] rfl (List.forall_mem_cons.mpr ⟨⟨by decide, 0, by decide, by decide, k_cL_32⟩, fun _ h => absurd h List.not_mem_nil⟩) (by decide) (by decide) k_cL_13 k_cc_1 ?_
      refine lv_astore (lv' := [(4, .ref q), (0, .ref (ad 0)), (1, .int v1), (2, .int v2), (3, .ref (ad 50))]) hx hb d_L_cover_17 hl (by decide) rfl (fun ls hl => ?_)
      refine lv_iconst (v := 2) hx hb d_L_cover_19 (by decide) ?_
      exact hR _ _ hcs 2 S5x _ _ 20 ls h hI d_L_cover_20
    · refine z_catch C hT (by decide) hce hcv hcl htab [(0, 10, 13, 32), (0, 10, 17, 13)] (0, 10, 21, 19) [] rfl (List.forall_mem_cons.mpr ⟨⟨by decide, 0, by decide, by decide, k_cL_32⟩, List.forall_mem_cons.mpr ⟨⟨by decide, 1, by decide, by decide, k_cL_13⟩, fun _ h => absurd h List.not_mem_nil⟩⟩) (by decide) (by decide) k_cL_19 k_cc_2 ?_
      refine lv_astore (lv' := [(4, .ref q), (0, .ref (ad 0)), (1, .int v1), (2, .int v2), (3, .ref (ad 50))]) hx hb d_L_cover_21 hl (by decide) rfl (fun ls hl => ?_)
      refine lv_iconst (v := 3) hx hb d_L_cover_23 (by decide) ?_
      exact hR _ _ hcs 3 S5x _ _ 24 ls h hI d_L_cover_24
  · refine z_callVi C hI 0 (by decide) kd_0 cl_P (As := [.int v1, .int v2]) (rest := [.int 0, .ref (ad 50)]) (c_P_cover v1 v2 _ _ h) wc_P_cover k_ml_L_44 rfl rfl (Nat.le_of_ble_eq_true rfl) (Nat.le_of_ble_eq_true rfl) hcs hl.1 (Nat.le_of_ble_eq_true rfl) rfl d_L_cover_5 (fun r5 S5 H locs h hI => ?_)
    refine lv_i2l hx hb d_L_cover_8 rfl ?_
    obtain ⟨h1, h⟩ := h
    refine z_lst C hI 50 (by decide) kd_50 h1 d_L_cover_9 (fun S9 eS H locs hI => ?_)
    replace h := h S9 eS
    refine lv_goto (tgt := 25) hx hb d_L_cover_10 (by decide) ?_
    refine lv_iconst (v := 0) hx hb d_L_cover_25 (by decide) ?_
    exact hR _ _ hcs 0 S9 _ _ 26 ls h hI d_L_cover_26
def rm_L_strip : Room := { frames := 8, cells := 1, slots := 6, locals := 132 }
set_option maxHeartbeats 4000000 in
set_option maxRecDepth 100000 in
theorem c_L_strip (v1 : Int32) (S : zS) (post : Int32 → zS → Prop) (h : P_L_strip v1 S post) : z_ctW l D cA 51 ad y_L_strip b_L_strip 4 hh_L_strip rm_L_strip [.ref (ad 0), .int v1, .ref (ad 50)] S post := by
  refine z_metW (av := [.ref (ad 0), .int v1, .ref (ad 50)]) (by decide) (Nat.le_of_ble_eq_true rfl) ⟨rfl, rfl⟩ (fun p e s m args below meth c Q ls C hT htab hl hI hR => ?_)
  obtain ⟨hx, hb, hml, hown, hts, hK, hJ⟩ := id C
  have hcs : 0 ≤ rm_L_strip.cells ∧ 0 ≤ rm_L_strip.slots := ⟨Nat.zero_le _, Nat.zero_le _⟩
  unfold P_L_strip at h
  have hl : lv_has ls 4 [(0, .ref (ad 0)), (1, .int v1), (2, .ref (ad 50))] := hl
  refine lv_aload_n hx hb d_L_strip_0 rfl (lv_at hl 2 rfl) ?_
  refine lv_iconst (v := 0) hx hb d_L_strip_1 (by decide) ?_
  refine lv_aload_n hx hb d_L_strip_2 rfl (lv_at hl 0 rfl) ?_
  refine lv_iload_n hx hb d_L_strip_3 rfl (lv_at hl 1 rfl) ?_
  rcases h with h | h
  · refine z_callVXc C hT hI 0 (by decide) kd_0 cl_P (As := [.int v1]) (rest := [.int 0, .ref (ad 50)]) (cx_P_strip v1 _ _ h) wc_P_strip k_ml_L_47 rfl rfl (Nat.le_of_ble_eq_true rfl) (Nat.le_of_ble_eq_true rfl) ⟨Nat.le_of_ble_eq_true rfl, Nat.le_of_ble_eq_true rfl⟩ hl.1 (Nat.le_of_ble_eq_true rfl) rfl d_L_strip_4 (fun cd S4x H locs q ce h hI hce hcv hcl => ?_)
    have hcs : 0 + 1 ≤ rm_L_strip.cells ∧ 0 + 6 ≤ rm_L_strip.slots := ⟨Nat.le_of_ble_eq_true rfl, Nat.le_of_ble_eq_true rfl⟩
    rcases h with ⟨rfl, h⟩ | ⟨rfl, h⟩
    · refine z_catch C hT (by decide) hce hcv hcl htab [] (0, 9, 12, 32) [(0, 9, 15, 13)] rfl (fun _ h => absurd h List.not_mem_nil) (by decide) (by decide) k_cL_32 k_cc_0 ?_
      refine lv_astore_n (lv' := [(3, .ref q), (0, .ref (ad 0)), (1, .int v1), (2, .ref (ad 50))]) hx hb d_L_strip_12 rfl hl (by decide) rfl (fun ls hl => ?_)
      refine lv_iconst (v := 1) hx hb d_L_strip_13 (by decide) ?_
      exact hR _ _ hcs 1 S4x _ _ 14 ls h hI d_L_strip_14
    · refine z_catch C hT (by decide) hce hcv hcl htab [(0, 9, 12, 32)] (0, 9, 15, 13) [] rfl (List.forall_mem_cons.mpr ⟨⟨by decide, 0, by decide, by decide, k_cL_32⟩, fun _ h => absurd h List.not_mem_nil⟩) (by decide) (by decide) k_cL_13 k_cc_1 ?_
      refine lv_astore_n (lv' := [(3, .ref q), (0, .ref (ad 0)), (1, .int v1), (2, .ref (ad 50))]) hx hb d_L_strip_15 rfl hl (by decide) rfl (fun ls hl => ?_)
      refine lv_iconst (v := 2) hx hb d_L_strip_16 (by decide) ?_
      exact hR _ _ hcs 2 S4x _ _ 17 ls h hI d_L_strip_17
  · refine z_callVi C hI 0 (by decide) kd_0 cl_P (As := [.int v1]) (rest := [.int 0, .ref (ad 50)]) (c_P_strip v1 _ _ h) wc_P_strip k_ml_L_47 rfl rfl (Nat.le_of_ble_eq_true rfl) (Nat.le_of_ble_eq_true rfl) hcs hl.1 (Nat.le_of_ble_eq_true rfl) rfl d_L_strip_4 (fun r4 S4 H locs h hI => ?_)
    refine lv_i2l hx hb d_L_strip_7 rfl ?_
    obtain ⟨h1, h⟩ := h
    refine z_lst C hI 50 (by decide) kd_50 h1 d_L_strip_8 (fun S8 eS H locs hI => ?_)
    replace h := h S8 eS
    refine lv_goto (tgt := 18) hx hb d_L_strip_9 (by decide) ?_
    refine lv_iconst (v := 0) hx hb d_L_strip_18 (by decide) ?_
    exact hR _ _ hcs 0 S8 _ _ 19 ls h hI d_L_strip_19
def rm_L_cell2 : Room := { frames := 8, cells := 1, slots := 6, locals := 133 }
set_option maxHeartbeats 4000000 in
set_option maxRecDepth 100000 in
theorem c_L_cell2 (v1 : Int32) (v2 : Int32) (S : zS) (post : Int32 → zS → Prop) (h : P_L_cell2 v1 v2 S post) : z_ctW l D cA 51 ad y_L_cell2 b_L_cell2 5 hh_L_cell2 rm_L_cell2 [.ref (ad 0), .int v1, .int v2, .ref (ad 50)] S post := by
  refine z_metW (av := [.ref (ad 0), .int v1, .int v2, .ref (ad 50)]) (by decide) (Nat.le_of_ble_eq_true rfl) ⟨rfl, rfl⟩ (fun p e s m args below meth c Q ls C hT htab hl hI hR => ?_)
  obtain ⟨hx, hb, hml, hown, hts, hK, hJ⟩ := id C
  have hcs : 0 ≤ rm_L_cell2.cells ∧ 0 ≤ rm_L_cell2.slots := ⟨Nat.zero_le _, Nat.zero_le _⟩
  unfold P_L_cell2 at h
  have hl : lv_has ls 5 [(0, .ref (ad 0)), (1, .int v1), (2, .int v2), (3, .ref (ad 50))] := hl
  refine lv_aload_n hx hb d_L_cell2_0 rfl (lv_at hl 3 rfl) ?_
  refine lv_iconst (v := 0) hx hb d_L_cell2_1 (by decide) ?_
  refine lv_aload_n hx hb d_L_cell2_2 rfl (lv_at hl 0 rfl) ?_
  refine lv_iload_n hx hb d_L_cell2_3 rfl (lv_at hl 1 rfl) ?_
  refine lv_iload_n hx hb d_L_cell2_4 rfl (lv_at hl 2 rfl) ?_
  rcases h with h | h
  · refine z_callVXc C hT hI 0 (by decide) kd_0 cl_P (As := [.int v1, .int v2]) (rest := [.int 0, .ref (ad 50)]) (cx_P_cell v1 v2 _ _ h) wc_P_cell k_ml_L_50 rfl rfl (Nat.le_of_ble_eq_true rfl) (Nat.le_of_ble_eq_true rfl) ⟨Nat.le_of_ble_eq_true rfl, Nat.le_of_ble_eq_true rfl⟩ hl.1 (Nat.le_of_ble_eq_true rfl) rfl d_L_cell2_5 (fun cd S5x H locs q ce h hI hce hcv hcl => ?_)
    have hcs : 0 + 1 ≤ rm_L_cell2.cells ∧ 0 + 6 ≤ rm_L_cell2.slots := ⟨Nat.le_of_ble_eq_true rfl, Nat.le_of_ble_eq_true rfl⟩
    rcases h with ⟨rfl, h⟩ | ⟨rfl, h⟩ | ⟨rfl, h⟩
    · refine z_catch C hT (by decide) hce hcv hcl htab [] (0, 10, 13, 32) [(0, 10, 17, 13), (0, 10, 21, 19)] rfl (fun _ h => absurd h List.not_mem_nil) (by decide) (by decide) k_cL_32 k_cc_0 ?_
      refine lv_astore (lv' := [(4, .ref q), (0, .ref (ad 0)), (1, .int v1), (2, .int v2), (3, .ref (ad 50))]) hx hb d_L_cell2_13 hl (by decide) rfl (fun ls hl => ?_)
      refine lv_iconst (v := 1) hx hb d_L_cell2_15 (by decide) ?_
      exact hR _ _ hcs 1 S5x _ _ 16 ls h hI d_L_cell2_16
    · refine z_catch C hT (by decide) hce hcv hcl htab [(0, 10, 13, 32)] (0, 10, 17, 13) [(0, 10, 21, 19)] rfl (List.forall_mem_cons.mpr ⟨⟨by decide, 0, by decide, by decide, k_cL_32⟩, fun _ h => absurd h List.not_mem_nil⟩) (by decide) (by decide) k_cL_13 k_cc_1 ?_
      refine lv_astore (lv' := [(4, .ref q), (0, .ref (ad 0)), (1, .int v1), (2, .int v2), (3, .ref (ad 50))]) hx hb d_L_cell2_17 hl (by decide) rfl (fun ls hl => ?_)
      refine lv_iconst (v := 2) hx hb d_L_cell2_19 (by decide) ?_
      exact hR _ _ hcs 2 S5x _ _ 20 ls h hI d_L_cell2_20
    · refine z_catch C hT (by decide) hce hcv hcl htab [(0, 10, 13, 32), (0, 10, 17, 13)] (0, 10, 21, 19) [] rfl (List.forall_mem_cons.mpr ⟨⟨by decide, 0, by decide, by decide, k_cL_32⟩, List.forall_mem_cons.mpr ⟨⟨by decide, 1, by decide, by decide, k_cL_13⟩, fun _ h => absurd h List.not_mem_nil⟩⟩) (by decide) (by decide) k_cL_19 k_cc_2 ?_
      refine lv_astore (lv' := [(4, .ref q), (0, .ref (ad 0)), (1, .int v1), (2, .int v2), (3, .ref (ad 50))]) hx hb d_L_cell2_21 hl (by decide) rfl (fun ls hl => ?_)
      refine lv_iconst (v := 3) hx hb d_L_cell2_23 (by decide) ?_
      exact hR _ _ hcs 3 S5x _ _ 24 ls h hI d_L_cell2_24
  · refine z_callVi C hI 0 (by decide) kd_0 cl_P (As := [.int v1, .int v2]) (rest := [.int 0, .ref (ad 50)]) (c_P_cell v1 v2 _ _ h) wc_P_cell k_ml_L_50 rfl rfl (Nat.le_of_ble_eq_true rfl) (Nat.le_of_ble_eq_true rfl) hcs hl.1 (Nat.le_of_ble_eq_true rfl) rfl d_L_cell2_5 (fun r5 S5 H locs h hI => ?_)
    refine lv_i2l hx hb d_L_cell2_8 rfl ?_
    obtain ⟨h1, h⟩ := h
    refine z_lst C hI 50 (by decide) kd_50 h1 d_L_cell2_9 (fun S9 eS H locs hI => ?_)
    replace h := h S9 eS
    refine lv_goto (tgt := 25) hx hb d_L_cell2_10 (by decide) ?_
    refine lv_iconst (v := 0) hx hb d_L_cell2_25 (by decide) ?_
    exact hR _ _ hcs 0 S9 _ _ 26 ls h hI d_L_cell2_26
def rm_L_isSpeck : Room := { frames := 8, cells := 1, slots := 6, locals := 135 }
set_option maxHeartbeats 4000000 in
set_option maxRecDepth 100000 in
theorem w_L_isSpeck_16 (C : z_CT p s m args c R_L b_L_isSpeck 5 D cA 51 ad) (hcs : cells ≤ rm_L_isSpeck.cells ∧ slots ≤ rm_L_isSpeck.slots) (post : Int32 → zS → Prop) (t0 : Int32) (t1 : Int32) (hR : z_Ri p l e rm_L_isSpeck s m args below meth c Q b_L_isSpeck D cA 51 ad post) (S : zS) (H : Heap) (locs : List Loc) (ls : Array Slot) (hI : z_I D cA 51 ad s.heap S H locs) (hl : lv_has ls 5 []) (h : J_L_isSpeck_16 post t0 t1 S) : W p l e rm_L_isSpeck s m args below meth c H locs cells slots Q (F0 m 16 ls [.long (Int32.toInt64 t0), .int t1, .ref (ad 50)]) := by
  obtain ⟨hx, hb, hml, hown, hts, hK, hJ⟩ := id C
  unfold J_L_isSpeck_16 at h
  obtain ⟨h1, h⟩ := h
  refine z_lst C hI 50 (by decide) kd_50 h1 d_L_isSpeck_16 (fun S16 eS H locs hI => ?_)
  replace h := h S16 eS
  refine lv_goto (tgt := 28) hx hb d_L_isSpeck_17 (by decide) ?_
  refine lv_iconst (v := 0) hx hb d_L_isSpeck_28 (by decide) ?_
  exact hR _ _ hcs 0 S16 _ _ 29 ls h hI d_L_isSpeck_29
set_option maxHeartbeats 4000000 in
set_option maxRecDepth 100000 in
theorem c_L_isSpeck (v1 : Int32) (v2 : Int32) (S : zS) (post : Int32 → zS → Prop) (h : P_L_isSpeck v1 v2 S post) : z_ctW l D cA 51 ad y_L_isSpeck b_L_isSpeck 5 hh_L_isSpeck rm_L_isSpeck [.ref (ad 0), .int v1, .int v2, .ref (ad 50)] S post := by
  refine z_metW (av := [.ref (ad 0), .int v1, .int v2, .ref (ad 50)]) (by decide) (Nat.le_of_ble_eq_true rfl) ⟨rfl, rfl⟩ (fun p e s m args below meth c Q ls C hT htab hl hI hR => ?_)
  obtain ⟨hx, hb, hml, hown, hts, hK, hJ⟩ := id C
  have hcs : 0 ≤ rm_L_isSpeck.cells ∧ 0 ≤ rm_L_isSpeck.slots := ⟨Nat.zero_le _, Nat.zero_le _⟩
  unfold P_L_isSpeck at h
  have hl : lv_has ls 5 [(0, .ref (ad 0)), (1, .int v1), (2, .int v2), (3, .ref (ad 50))] := hl
  refine lv_aload_n hx hb d_L_isSpeck_0 rfl (lv_at hl 3 rfl) ?_
  refine lv_iconst (v := 0) hx hb d_L_isSpeck_1 (by decide) ?_
  refine lv_aload_n hx hb d_L_isSpeck_2 rfl (lv_at hl 0 rfl) ?_
  refine lv_iload_n hx hb d_L_isSpeck_3 rfl (lv_at hl 1 rfl) ?_
  refine lv_iload_n hx hb d_L_isSpeck_4 rfl (lv_at hl 2 rfl) ?_
  rcases h with h | h
  · refine z_callVXc C hT hI 0 (by decide) kd_0 cl_P (As := [.int v1, .int v2]) (rest := [.int 0, .ref (ad 50)]) (cx_P_isSpeck v1 v2 _ _ h) wc_P_isSpeck k_ml_L_53 rfl rfl (Nat.le_of_ble_eq_true rfl) (Nat.le_of_ble_eq_true rfl) ⟨Nat.le_of_ble_eq_true rfl, Nat.le_of_ble_eq_true rfl⟩ hl.1 (Nat.le_of_ble_eq_true rfl) rfl d_L_isSpeck_5 (fun cd S5x H locs q ce h hI hce hcv hcl => ?_)
    have hcs : 0 + 1 ≤ rm_L_isSpeck.cells ∧ 0 + 6 ≤ rm_L_isSpeck.slots := ⟨Nat.le_of_ble_eq_true rfl, Nat.le_of_ble_eq_true rfl⟩
    rcases h with ⟨rfl, h⟩ | ⟨rfl, h⟩
    · refine z_catch C hT (by decide) hce hcv hcl htab [] (0, 17, 20, 32) [(0, 17, 24, 13)] rfl (fun _ h => absurd h List.not_mem_nil) (by decide) (by decide) k_cL_32 k_cc_0 ?_
      refine lv_astore (lv' := [(4, .ref q), (0, .ref (ad 0)), (1, .int v1), (2, .int v2), (3, .ref (ad 50))]) hx hb d_L_isSpeck_20 hl (by decide) rfl (fun ls hl => ?_)
      refine lv_iconst (v := 1) hx hb d_L_isSpeck_22 (by decide) ?_
      exact hR _ _ hcs 1 S5x _ _ 23 ls h hI d_L_isSpeck_23
    · refine z_catch C hT (by decide) hce hcv hcl htab [(0, 17, 20, 32)] (0, 17, 24, 13) [] rfl (List.forall_mem_cons.mpr ⟨⟨by decide, 0, by decide, by decide, k_cL_32⟩, fun _ h => absurd h List.not_mem_nil⟩) (by decide) (by decide) k_cL_13 k_cc_1 ?_
      refine lv_astore (lv' := [(4, .ref q), (0, .ref (ad 0)), (1, .int v1), (2, .int v2), (3, .ref (ad 50))]) hx hb d_L_isSpeck_24 hl (by decide) rfl (fun ls hl => ?_)
      refine lv_iconst (v := 2) hx hb d_L_isSpeck_26 (by decide) ?_
      exact hR _ _ hcs 2 S5x _ _ 27 ls h hI d_L_isSpeck_27
  · refine z_callVi C hI 0 (by decide) kd_0 cl_P (As := [.int v1, .int v2]) (rest := [.int 0, .ref (ad 50)]) (c_P_isSpeck v1 v2 _ _ h) wc_P_isSpeck k_ml_L_53 rfl rfl (Nat.le_of_ble_eq_true rfl) (Nat.le_of_ble_eq_true rfl) hcs hl.1 (Nat.le_of_ble_eq_true rfl) rfl d_L_isSpeck_5 (fun r5 S5 H locs h hI => ?_)
    refine lv_if_eq (tgt := 15) hx hb d_L_isSpeck_8 (by decide) (fun q => ?_) (fun q => ?_)
    · replace h := h.1 q
      refine lv_lconst (v := Int32.toInt64 0) hx hb d_L_isSpeck_15 (by decide) ?_
      exact w_L_isSpeck_16 C hcs _ 0 0 hR S5 _ _ ls hI (lv_sub hl [] rfl) h
    · replace h := h.2 q
      refine lv_lconst (v := Int32.toInt64 1) hx hb d_L_isSpeck_11 (by decide) ?_
      refine lv_goto (tgt := 16) hx hb d_L_isSpeck_12 (by decide) ?_
      exact w_L_isSpeck_16 C hcs _ 1 0 hR S5 _ _ ls hI (lv_sub hl [] rfl) h
end ZW
