section ZW
variable {p : Program} {l : Launch} {e : Env} {s : State} {m : MethodId} {args : Array Value} {below : List Frame} {meth : Method} {c : Code} {cells slots : Nat} {Q : State → Prop} {D : va_G} {cA : Nat → ClassId} {n : Nat} {ad : Nat → Nat}
set_option maxHeartbeats 4000000 in
set_option maxRecDepth 100000 in
theorem cx_P_mustBeSample (v1 : Int32) (v2 : Int32) (S : zS) (px : Nat → zS → Prop) (h : X_P_mustBeSample v1 v2 S px) : z_ctX l D cA 51 ad y_P_mustBeSample b_P_mustBeSample 3 none rmx_P_mustBeSample [.ref (ad 0), .int v1, .int v2] S px := by
  refine z_metX (av := [.ref (ad 0), .int v1, .int v2]) (by decide) (Nat.le_of_ble_eq_true rfl) (fun p e s m args below meth c ls C hT hout hlocks hl hI => ?_)
  obtain ⟨hx, hb, hml, hown, hts, hK, hJ⟩ := id C
  have hcs : 0 ≤ rmx_P_mustBeSample.cells ∧ 0 ≤ rmx_P_mustBeSample.slots := ⟨Nat.zero_le _, Nat.zero_le _⟩
  unfold X_P_mustBeSample at h
  have hl : lv_has ls 3 [(0, .ref (ad 0)), (1, .int v1), (2, .int v2)] := hl
  refine lv_iload_n hx hb d_P_mustBeSample_0 rfl (lv_at hl 1 rfl) ?_
  refine lv_if_lt (tgt := 24) hx hb d_P_mustBeSample_1 (by decide) (fun q => ?_) (fun q => ?_)
  · replace h := h.1 q
    exact z_throw C hT hout hlocks hI 1 k_cl_180 k_ie_1 ws_182 wa_184 (by decide +kernel) d_P_mustBeSample_24 d_P_mustBeSample_27 d_P_mustBeSample_28 d_P_mustBeSample_30 d_P_mustBeSample_33 hl.1 (Nat.le_of_ble_eq_true rfl) (Nat.le_of_ble_eq_true rfl) ⟨Nat.le_of_ble_eq_true rfl, Nat.le_of_ble_eq_true rfl⟩ h
  · replace h := h.2 q
    refine lv_iload_n hx hb d_P_mustBeSample_4 rfl (lv_at hl 1 rfl) ?_
    refine lv_aload_n hx hb d_P_mustBeSample_5 rfl (lv_at hl 0 rfl) ?_
    refine z_getI C hI 0 (by decide) kd_0 cl_P iw_P 0 (by decide) k_fl_P_27 rfl d_P_mustBeSample_6 ?_
    refine lv_icmp_ge (tgt := 24) hx hb d_P_mustBeSample_9 (by decide) (fun q => ?_) (fun q => ?_)
    · replace h := h.1 q
      exact z_throw C hT hout hlocks hI 1 k_cl_180 k_ie_1 ws_182 wa_184 (by decide +kernel) d_P_mustBeSample_24 d_P_mustBeSample_27 d_P_mustBeSample_28 d_P_mustBeSample_30 d_P_mustBeSample_33 hl.1 (Nat.le_of_ble_eq_true rfl) (Nat.le_of_ble_eq_true rfl) ⟨Nat.le_of_ble_eq_true rfl, Nat.le_of_ble_eq_true rfl⟩ h
    · replace h := h.2 q
      refine lv_iload_n hx hb d_P_mustBeSample_12 rfl (lv_at hl 2 rfl) ?_
      refine lv_if_lt (tgt := 24) hx hb d_P_mustBeSample_13 (by decide) (fun q => ?_) (fun q => ?_)
      · replace h := h.1 q
        exact z_throw C hT hout hlocks hI 1 k_cl_180 k_ie_1 ws_182 wa_184 (by decide +kernel) d_P_mustBeSample_24 d_P_mustBeSample_27 d_P_mustBeSample_28 d_P_mustBeSample_30 d_P_mustBeSample_33 hl.1 (Nat.le_of_ble_eq_true rfl) (Nat.le_of_ble_eq_true rfl) ⟨Nat.le_of_ble_eq_true rfl, Nat.le_of_ble_eq_true rfl⟩ h
      · replace h := h.2 q
        refine lv_iload_n hx hb d_P_mustBeSample_16 rfl (lv_at hl 2 rfl) ?_
        refine lv_aload_n hx hb d_P_mustBeSample_17 rfl (lv_at hl 0 rfl) ?_
        refine z_getI C hI 0 (by decide) kd_0 cl_P iw_P 1 (by decide) k_fl_P_31 rfl d_P_mustBeSample_18 ?_
        refine lv_icmp_lt (tgt := 34) hx hb d_P_mustBeSample_21 (by decide) (fun q => ?_) (fun q => ?_)
        · replace h := h.1 q
          exact h.elim
        · replace h := h.2 q
          exact z_throw C hT hout hlocks hI 1 k_cl_180 k_ie_1 ws_182 wa_184 (by decide +kernel) d_P_mustBeSample_24 d_P_mustBeSample_27 d_P_mustBeSample_28 d_P_mustBeSample_30 d_P_mustBeSample_33 hl.1 (Nat.le_of_ble_eq_true rfl) (Nat.le_of_ble_eq_true rfl) ⟨Nat.le_of_ble_eq_true rfl, Nat.le_of_ble_eq_true rfl⟩ h
set_option maxHeartbeats 4000000 in
set_option maxRecDepth 100000 in
theorem cx_P_put (v1 : Int32) (v2 : Int32) (v3 : Int32) (S : zS) (px : Nat → zS → Prop) (h : X_P_put v1 v2 v3 S px) : z_ctX l D cA 51 ad y_P_put b_P_put 4 (some .boolean) rmx_P_put [.ref (ad 0), .int v1, .int v2, .int v3] S px := by
  refine z_metX (av := [.ref (ad 0), .int v1, .int v2, .int v3]) (by decide) (Nat.le_of_ble_eq_true rfl) (fun p e s m args below meth c ls C hT hout hlocks hl hI => ?_)
  obtain ⟨hx, hb, hml, hown, hts, hK, hJ⟩ := id C
  have hcs : 0 ≤ rmx_P_put.cells ∧ 0 ≤ rmx_P_put.slots := ⟨Nat.zero_le _, Nat.zero_le _⟩
  unfold X_P_put at h
  have hl : lv_has ls 4 [(0, .ref (ad 0)), (1, .int v1), (2, .int v2), (3, .int v3)] := hl
  refine lv_aload_n hx hb d_P_put_0 rfl (lv_at hl 0 rfl) ?_
  refine lv_iload_n hx hb d_P_put_1 rfl (lv_at hl 1 rfl) ?_
  refine lv_iload_n hx hb d_P_put_2 rfl (lv_at hl 2 rfl) ?_
  exact z_callVX C hT hout hlocks hI 0 (by decide) kd_0 cl_P (As := [.int v1, .int v2]) (rest := []) (cx_P_mustBeSample v1 v2 _ _ h) wc_P_mustBeSample k_ml_P_63 rfl rfl (Nat.le_of_ble_eq_true rfl) (Nat.le_of_ble_eq_true rfl) ⟨Nat.le_of_ble_eq_true rfl, Nat.le_of_ble_eq_true rfl⟩ hl.1 (Nat.le_of_ble_eq_true rfl) rfl d_P_put_3
set_option maxHeartbeats 4000000 in
set_option maxRecDepth 100000 in
theorem cx_P_fill (v1 : Int32) (v2 : Int32) (v3 : Int32) (v4 : Int32) (v5 : Int32) (S : zS) (px : Nat → zS → Prop) (h : X_P_fill v1 v2 v3 v4 v5 S px) : z_ctX l D cA 51 ad y_P_fill b_P_fill 11 (some .int) rmx_P_fill [.ref (ad 0), .int v1, .int v2, .int v3, .int v4, .int v5] S px := by
  refine z_metX (av := [.ref (ad 0), .int v1, .int v2, .int v3, .int v4, .int v5]) (by decide) (Nat.le_of_ble_eq_true rfl) (fun p e s m args below meth c ls C hT hout hlocks hl hI => ?_)
  obtain ⟨hx, hb, hml, hown, hts, hK, hJ⟩ := id C
  have hcs : 0 ≤ rmx_P_fill.cells ∧ 0 ≤ rmx_P_fill.slots := ⟨Nat.zero_le _, Nat.zero_le _⟩
  unfold X_P_fill at h
  have hl : lv_has ls 11 [(0, .ref (ad 0)), (1, .int v1), (2, .int v2), (3, .int v3), (4, .int v4), (5, .int v5)] := hl
  refine lv_aload_n hx hb d_P_fill_0 rfl (lv_at hl 0 rfl) ?_
  refine lv_iload_n hx hb d_P_fill_1 rfl (lv_at hl 1 rfl) ?_
  refine lv_iload_n hx hb d_P_fill_2 rfl (lv_at hl 2 rfl) ?_
  rcases h with h | h
  · exact z_callVX C hT hout hlocks hI 0 (by decide) kd_0 cl_P (As := [.int v1, .int v2]) (rest := []) (cx_P_mustBeSample v1 v2 _ _ h) wc_P_mustBeSample k_ml_P_63 rfl rfl (Nat.le_of_ble_eq_true rfl) (Nat.le_of_ble_eq_true rfl) ⟨Nat.le_of_ble_eq_true rfl, Nat.le_of_ble_eq_true rfl⟩ hl.1 (Nat.le_of_ble_eq_true rfl) rfl d_P_fill_3
  · refine z_callVv C hI 0 (by decide) kd_0 cl_P (As := [.int v1, .int v2]) (rest := []) (c_P_mustBeSample v1 v2 _ _ h) wc_P_mustBeSample k_ml_P_63 rfl rfl (Nat.le_of_ble_eq_true rfl) (Nat.le_of_ble_eq_true rfl) hcs hl.1 (Nat.le_of_ble_eq_true rfl) rfl d_P_fill_3 (fun S3 H locs h hI => ?_)
    refine lv_iload_n hx hb d_P_fill_6 rfl (lv_at hl 3 rfl) ?_
    refine lv_iconst (v := 1) hx hb d_P_fill_7 (by decide) ?_
    refine lv_icmp_lt (tgt := 17) hx hb d_P_fill_8 (by decide) (fun q => ?_) (fun q => ?_)
    · replace h := h.1 q
      exact z_throw C hT hout hlocks hI 2 k_cl_74 k_ie_2 ws_76 wa_78 (by decide +kernel) d_P_fill_17 d_P_fill_20 d_P_fill_21 d_P_fill_23 d_P_fill_26 hl.1 (Nat.le_of_ble_eq_true rfl) (Nat.le_of_ble_eq_true rfl) ⟨Nat.le_of_ble_eq_true rfl, Nat.le_of_ble_eq_true rfl⟩ h
    · replace h := h.2 q
      refine lv_iload hx hb d_P_fill_11 (lv_at hl 4 rfl) ?_
      refine lv_iconst (v := 1) hx hb d_P_fill_13 (by decide) ?_
      refine lv_icmp_ge (tgt := 27) hx hb d_P_fill_14 (by decide) (fun q => ?_) (fun q => ?_)
      · replace h := h.1 q
        exact h.elim
      · replace h := h.2 q
        exact z_throw C hT hout hlocks hI 2 k_cl_74 k_ie_2 ws_76 wa_78 (by decide +kernel) d_P_fill_17 d_P_fill_20 d_P_fill_21 d_P_fill_23 d_P_fill_26 hl.1 (Nat.le_of_ble_eq_true rfl) (Nat.le_of_ble_eq_true rfl) ⟨Nat.le_of_ble_eq_true rfl, Nat.le_of_ble_eq_true rfl⟩ h
set_option maxHeartbeats 4000000 in
set_option maxRecDepth 100000 in
theorem cx_P_noise (v1 : Int32) (S : zS) (px : Nat → zS → Prop) (h : X_P_noise v1 S px) : z_ctX l D cA 51 ad y_P_noise b_P_noise 3 (some .int) rmx_P_noise [.ref (ad 0), .int v1] S px := by
  refine z_metX (av := [.ref (ad 0), .int v1]) (by decide) (Nat.le_of_ble_eq_true rfl) (fun p e s m args below meth c ls C hT hout hlocks hl hI => ?_)
  obtain ⟨hx, hb, hml, hown, hts, hK, hJ⟩ := id C
  have hcs : 0 ≤ rmx_P_noise.cells ∧ 0 ≤ rmx_P_noise.slots := ⟨Nat.zero_le _, Nat.zero_le _⟩
  unfold X_P_noise at h
  have hl : lv_has ls 3 [(0, .ref (ad 0)), (1, .int v1)] := hl
  refine lv_iload_n hx hb d_P_noise_0 rfl (lv_at hl 1 rfl) ?_
  refine lv_if_lt (tgt := 10) hx hb d_P_noise_1 (by decide) (fun q => ?_) (fun q => ?_)
  · replace h := h.1 q
    exact z_throw C hT hout hlocks hI 2 k_cl_74 k_ie_2 ws_87 wa_78 (by decide +kernel) d_P_noise_10 d_P_noise_13 d_P_noise_14 d_P_noise_16 d_P_noise_19 hl.1 (Nat.le_of_ble_eq_true rfl) (Nat.le_of_ble_eq_true rfl) ⟨Nat.le_of_ble_eq_true rfl, Nat.le_of_ble_eq_true rfl⟩ h
  · replace h := h.2 q
    refine lv_iload_n hx hb d_P_noise_4 rfl (lv_at hl 1 rfl) ?_
    refine lv_bipush (v := 100) hx hb d_P_noise_5 (by decide) ?_
    refine lv_icmp_le (tgt := 20) hx hb d_P_noise_7 (by decide) (fun q => ?_) (fun q => ?_)
    · replace h := h.1 q
      exact h.elim
    · replace h := h.2 q
      exact z_throw C hT hout hlocks hI 2 k_cl_74 k_ie_2 ws_87 wa_78 (by decide +kernel) d_P_noise_10 d_P_noise_13 d_P_noise_14 d_P_noise_16 d_P_noise_19 hl.1 (Nat.le_of_ble_eq_true rfl) (Nat.le_of_ble_eq_true rfl) ⟨Nat.le_of_ble_eq_true rfl, Nat.le_of_ble_eq_true rfl⟩ h
set_option maxHeartbeats 4000000 in
set_option maxRecDepth 100000 in
theorem cx_P_run (v1 : Int32) (v2 : Int32) (S : zS) (px : Nat → zS → Prop) (h : X_P_run v1 v2 S px) : z_ctX l D cA 51 ad y_P_run b_P_run 3 (some .int) rmx_P_run [.ref (ad 0), .int v1, .int v2] S px := by
  refine z_metX (av := [.ref (ad 0), .int v1, .int v2]) (by decide) (Nat.le_of_ble_eq_true rfl) (fun p e s m args below meth c ls C hT hout hlocks hl hI => ?_)
  obtain ⟨hx, hb, hml, hown, hts, hK, hJ⟩ := id C
  have hcs : 0 ≤ rmx_P_run.cells ∧ 0 ≤ rmx_P_run.slots := ⟨Nat.zero_le _, Nat.zero_le _⟩
  unfold X_P_run at h
  have hl : lv_has ls 3 [(0, .ref (ad 0)), (1, .int v1), (2, .int v2)] := hl
  refine lv_iload_n hx hb d_P_run_0 rfl (lv_at hl 1 rfl) ?_
  refine lv_if_lt (tgt := 20) hx hb d_P_run_1 (by decide) (fun q => ?_) (fun q => ?_)
  · replace h := h.1 q
    exact z_throw C hT hout hlocks hI 2 k_cl_74 k_ie_2 ws_89 wa_78 (by decide +kernel) d_P_run_20 d_P_run_23 d_P_run_24 d_P_run_26 d_P_run_29 hl.1 (Nat.le_of_ble_eq_true rfl) (Nat.le_of_ble_eq_true rfl) ⟨Nat.le_of_ble_eq_true rfl, Nat.le_of_ble_eq_true rfl⟩ h
  · replace h := h.2 q
    refine lv_iload_n hx hb d_P_run_4 rfl (lv_at hl 1 rfl) ?_
    refine lv_bipush (v := 24) hx hb d_P_run_5 (by decide) ?_
    refine lv_icmp_gt (tgt := 20) hx hb d_P_run_7 (by decide) (fun q => ?_) (fun q => ?_)
    · replace h := h.1 q
      exact z_throw C hT hout hlocks hI 2 k_cl_74 k_ie_2 ws_89 wa_78 (by decide +kernel) d_P_run_20 d_P_run_23 d_P_run_24 d_P_run_26 d_P_run_29 hl.1 (Nat.le_of_ble_eq_true rfl) (Nat.le_of_ble_eq_true rfl) ⟨Nat.le_of_ble_eq_true rfl, Nat.le_of_ble_eq_true rfl⟩ h
    · replace h := h.2 q
      refine lv_iload_n hx hb d_P_run_10 rfl (lv_at hl 2 rfl) ?_
      refine lv_if_lt (tgt := 20) hx hb d_P_run_11 (by decide) (fun q => ?_) (fun q => ?_)
      · replace h := h.1 q
        exact z_throw C hT hout hlocks hI 2 k_cl_74 k_ie_2 ws_89 wa_78 (by decide +kernel) d_P_run_20 d_P_run_23 d_P_run_24 d_P_run_26 d_P_run_29 hl.1 (Nat.le_of_ble_eq_true rfl) (Nat.le_of_ble_eq_true rfl) ⟨Nat.le_of_ble_eq_true rfl, Nat.le_of_ble_eq_true rfl⟩ h
      · replace h := h.2 q
        refine lv_iload_n hx hb d_P_run_14 rfl (lv_at hl 2 rfl) ?_
        refine lv_bipush (v := 24) hx hb d_P_run_15 (by decide) ?_
        refine lv_icmp_le (tgt := 30) hx hb d_P_run_17 (by decide) (fun q => ?_) (fun q => ?_)
        · replace h := h.1 q
          exact h.elim
        · replace h := h.2 q
          exact z_throw C hT hout hlocks hI 2 k_cl_74 k_ie_2 ws_89 wa_78 (by decide +kernel) d_P_run_20 d_P_run_23 d_P_run_24 d_P_run_26 d_P_run_29 hl.1 (Nat.le_of_ble_eq_true rfl) (Nat.le_of_ble_eq_true rfl) ⟨Nat.le_of_ble_eq_true rfl, Nat.le_of_ble_eq_true rfl⟩ h
set_option maxHeartbeats 4000000 in
set_option maxRecDepth 100000 in
theorem cx_P_mustBeParted (S : zS) (px : Nat → zS → Prop) (h : X_P_mustBeParted S px) : z_ctX l D cA 51 ad y_P_mustBeParted b_P_mustBeParted 1 none rmx_P_mustBeParted [.ref (ad 0)] S px := by
  refine z_metX (av := [.ref (ad 0)]) (by decide) (Nat.le_of_ble_eq_true rfl) (fun p e s m args below meth c ls C hT hout hlocks hl hI => ?_)
  obtain ⟨hx, hb, hml, hown, hts, hK, hJ⟩ := id C
  have hcs : 0 ≤ rmx_P_mustBeParted.cells ∧ 0 ≤ rmx_P_mustBeParted.slots := ⟨Nat.zero_le _, Nat.zero_le _⟩
  unfold X_P_mustBeParted at h
  have hl : lv_has ls 1 [(0, .ref (ad 0))] := hl
  refine lv_aload_n hx hb d_P_mustBeParted_0 rfl (lv_at hl 0 rfl) ?_
  refine z_getI C hI 0 (by decide) kd_0 cl_P iw_P 14 (by decide) k_fl_P_66 rfl d_P_mustBeParted_1 ?_
  refine lv_if_ne (tgt := 17) hx hb d_P_mustBeParted_4 (by decide) (fun q => ?_) (fun q => ?_)
  · replace h := h.1 q
    exact h.elim
  · replace h := h.2 q
    exact z_throw C hT hout hlocks hI 0 k_cl_175 k_ie_0 ws_177 wa_179 (by decide +kernel) d_P_mustBeParted_7 d_P_mustBeParted_10 d_P_mustBeParted_11 d_P_mustBeParted_13 d_P_mustBeParted_16 hl.1 (Nat.le_of_ble_eq_true rfl) (Nat.le_of_ble_eq_true rfl) ⟨Nat.le_of_ble_eq_true rfl, Nat.le_of_ble_eq_true rfl⟩ h
set_option maxHeartbeats 4000000 in
set_option maxRecDepth 100000 in
theorem cx_P_mustBeBelow (v0 : Int32) (v1 : Int32) (S : zS) (px : Nat → zS → Prop) (h : X_P_mustBeBelow v0 v1 S px) : z_ctX l D cA n ad y_P_mustBeBelow b_P_mustBeBelow 2 none rmx_P_mustBeBelow [.int v0, .int v1] S px := by
  refine z_metX (av := [.int v0, .int v1]) (by decide) (Nat.le_of_ble_eq_true rfl) (fun p e s m args below meth c ls C hT hout hlocks hl hI => ?_)
  obtain ⟨hx, hb, hml, hown, hts, hK, hJ⟩ := id C
  have hcs : 0 ≤ rmx_P_mustBeBelow.cells ∧ 0 ≤ rmx_P_mustBeBelow.slots := ⟨Nat.zero_le _, Nat.zero_le _⟩
  unfold X_P_mustBeBelow at h
  have hl : lv_has ls 2 [(0, .int v0), (1, .int v1)] := hl
  refine lv_iload_n hx hb d_P_mustBeBelow_0 rfl (lv_at hl 0 rfl) ?_
  refine lv_if_lt (tgt := 9) hx hb d_P_mustBeBelow_1 (by decide) (fun q => ?_) (fun q => ?_)
  · replace h := h.1 q
    exact z_throw C hT hout hlocks hI 1 k_cl_180 k_ie_1 ws_185 wa_184 (by decide +kernel) d_P_mustBeBelow_9 d_P_mustBeBelow_12 d_P_mustBeBelow_13 d_P_mustBeBelow_15 d_P_mustBeBelow_18 hl.1 (Nat.le_of_ble_eq_true rfl) (Nat.le_of_ble_eq_true rfl) ⟨Nat.le_of_ble_eq_true rfl, Nat.le_of_ble_eq_true rfl⟩ h
  · replace h := h.2 q
    refine lv_iload_n hx hb d_P_mustBeBelow_4 rfl (lv_at hl 0 rfl) ?_
    refine lv_iload_n hx hb d_P_mustBeBelow_5 rfl (lv_at hl 1 rfl) ?_
    refine lv_icmp_lt (tgt := 19) hx hb d_P_mustBeBelow_6 (by decide) (fun q => ?_) (fun q => ?_)
    · replace h := h.1 q
      exact h.elim
    · replace h := h.2 q
      exact z_throw C hT hout hlocks hI 1 k_cl_180 k_ie_1 ws_185 wa_184 (by decide +kernel) d_P_mustBeBelow_9 d_P_mustBeBelow_12 d_P_mustBeBelow_13 d_P_mustBeBelow_15 d_P_mustBeBelow_18 hl.1 (Nat.le_of_ble_eq_true rfl) (Nat.le_of_ble_eq_true rfl) ⟨Nat.le_of_ble_eq_true rfl, Nat.le_of_ble_eq_true rfl⟩ h
set_option maxHeartbeats 4000000 in
set_option maxRecDepth 100000 in
theorem cx_P_mustBeTold (v0 : Int32) (v1 : Int32) (S : zS) (px : Nat → zS → Prop) (h : X_P_mustBeTold v0 v1 S px) : z_ctX l D cA n ad y_P_mustBeTold b_P_mustBeTold 2 none rmx_P_mustBeTold [.int v0, .int v1] S px := by
  refine z_metX (av := [.int v0, .int v1]) (by decide) (Nat.le_of_ble_eq_true rfl) (fun p e s m args below meth c ls C hT hout hlocks hl hI => ?_)
  obtain ⟨hx, hb, hml, hown, hts, hK, hJ⟩ := id C
  have hcs : 0 ≤ rmx_P_mustBeTold.cells ∧ 0 ≤ rmx_P_mustBeTold.slots := ⟨Nat.zero_le _, Nat.zero_le _⟩
  unfold X_P_mustBeTold at h
  have hl : lv_has ls 2 [(0, .int v0), (1, .int v1)] := hl
  refine lv_iload_n hx hb d_P_mustBeTold_0 rfl (lv_at hl 0 rfl) ?_
  refine lv_if_lt (tgt := 9) hx hb d_P_mustBeTold_1 (by decide) (fun q => ?_) (fun q => ?_)
  · replace h := h.1 q
    exact z_throw C hT hout hlocks hI 2 k_cl_74 k_ie_2 ws_187 wa_78 (by decide +kernel) d_P_mustBeTold_9 d_P_mustBeTold_12 d_P_mustBeTold_13 d_P_mustBeTold_15 d_P_mustBeTold_18 hl.1 (Nat.le_of_ble_eq_true rfl) (Nat.le_of_ble_eq_true rfl) ⟨Nat.le_of_ble_eq_true rfl, Nat.le_of_ble_eq_true rfl⟩ h
  · replace h := h.2 q
    refine lv_iload_n hx hb d_P_mustBeTold_4 rfl (lv_at hl 0 rfl) ?_
    refine lv_iload_n hx hb d_P_mustBeTold_5 rfl (lv_at hl 1 rfl) ?_
    refine lv_icmp_lt (tgt := 19) hx hb d_P_mustBeTold_6 (by decide) (fun q => ?_) (fun q => ?_)
    · replace h := h.1 q
      exact h.elim
    · replace h := h.2 q
      exact z_throw C hT hout hlocks hI 2 k_cl_74 k_ie_2 ws_187 wa_78 (by decide +kernel) d_P_mustBeTold_9 d_P_mustBeTold_12 d_P_mustBeTold_13 d_P_mustBeTold_15 d_P_mustBeTold_18 hl.1 (Nat.le_of_ble_eq_true rfl) (Nat.le_of_ble_eq_true rfl) ⟨Nat.le_of_ble_eq_true rfl, Nat.le_of_ble_eq_true rfl⟩ h
set_option maxHeartbeats 4000000 in
set_option maxRecDepth 100000 in
theorem cx_P_part (v1 : Int32) (v2 : Int32) (S : zS) (px : Nat → zS → Prop) (h : X_P_part v1 v2 S px) : z_ctX l D cA 51 ad y_P_part b_P_part 3 (some .int) rmx_P_part [.ref (ad 0), .int v1, .int v2] S px := by
  refine z_metX (av := [.ref (ad 0), .int v1, .int v2]) (by decide) (Nat.le_of_ble_eq_true rfl) (fun p e s m args below meth c ls C hT hout hlocks hl hI => ?_)
  obtain ⟨hx, hb, hml, hown, hts, hK, hJ⟩ := id C
  have hcs : 0 ≤ rmx_P_part.cells ∧ 0 ≤ rmx_P_part.slots := ⟨Nat.zero_le _, Nat.zero_le _⟩
  unfold X_P_part at h
  have hl : lv_has ls 3 [(0, .ref (ad 0)), (1, .int v1), (2, .int v2)] := hl
  refine lv_aload_n hx hb d_P_part_0 rfl (lv_at hl 0 rfl) ?_
  rcases h with h | h
  · exact z_callVX C hT hout hlocks hI 0 (by decide) kd_0 cl_P (As := []) (rest := []) (cx_P_mustBeParted _ _ h) wc_P_mustBeParted k_ml_P_117 rfl rfl (Nat.le_of_ble_eq_true rfl) (Nat.le_of_ble_eq_true rfl) ⟨Nat.le_of_ble_eq_true rfl, Nat.le_of_ble_eq_true rfl⟩ hl.1 (Nat.le_of_ble_eq_true rfl) rfl d_P_part_1
  · refine z_callVv C hI 0 (by decide) kd_0 cl_P (As := []) (rest := []) (c_P_mustBeParted _ _ h) wc_P_mustBeParted k_ml_P_117 rfl rfl (Nat.le_of_ble_eq_true rfl) (Nat.le_of_ble_eq_true rfl) hcs hl.1 (Nat.le_of_ble_eq_true rfl) rfl d_P_part_1 (fun S1 H locs h hI => ?_)
    refine lv_iload_n hx hb d_P_part_4 rfl (lv_at hl 1 rfl) ?_
    refine lv_aload_n hx hb d_P_part_5 rfl (lv_at hl 0 rfl) ?_
    refine z_getR C hI 0 (by decide) kd_0 cl_P iw_P 6 (by decide) k_fl_P_39 rfl d_P_part_6 ?_
    refine z_getI C hI 5 (by decide) kd_5 cl_G iw_G 6 (by decide) k_fl_P_114 rfl d_P_part_9 ?_
    rcases h with h | h
    · exact z_callSX C hT hout hlocks hI (As := [.int v1, .int (S1 5 6)]) (rest := []) (cx_P_mustBeBelow v1 (S1 5 6) _ _ h) wc_P_mustBeBelow k_ml_P_120 rfl rfl (Nat.le_of_ble_eq_true rfl) (Nat.le_of_ble_eq_true rfl) ⟨Nat.le_of_ble_eq_true rfl, Nat.le_of_ble_eq_true rfl⟩ hl.1 (Nat.le_of_ble_eq_true rfl) rfl d_P_part_12
    · refine z_callSv C hI (As := [.int v1, .int (S1 5 6)]) (rest := []) (c_P_mustBeBelow v1 (S1 5 6) _ _ h) wc_P_mustBeBelow k_ml_P_120 rfl rfl (Nat.le_of_ble_eq_true rfl) (Nat.le_of_ble_eq_true rfl) hcs hl.1 (Nat.le_of_ble_eq_true rfl) rfl d_P_part_12 (fun S12 H locs h hI => ?_)
      refine lv_iload_n hx hb d_P_part_15 rfl (lv_at hl 2 rfl) ?_
      refine lv_bipush (v := 8) hx hb d_P_part_16 (by decide) ?_
      exact z_callSX C hT hout hlocks hI (As := [.int v2, .int 8]) (rest := []) (cx_P_mustBeTold v2 8 _ _ h) wc_P_mustBeTold k_ml_P_123 rfl rfl (Nat.le_of_ble_eq_true rfl) (Nat.le_of_ble_eq_true rfl) ⟨Nat.le_of_ble_eq_true rfl, Nat.le_of_ble_eq_true rfl⟩ hl.1 (Nat.le_of_ble_eq_true rfl) rfl d_P_part_18
set_option maxHeartbeats 4000000 in
set_option maxRecDepth 100000 in
theorem cx_P_partOf (v1 : Int32) (v2 : Int32) (S : zS) (px : Nat → zS → Prop) (h : X_P_partOf v1 v2 S px) : z_ctX l D cA 51 ad y_P_partOf b_P_partOf 3 (some .int) rmx_P_partOf [.ref (ad 0), .int v1, .int v2] S px := by
  refine z_metX (av := [.ref (ad 0), .int v1, .int v2]) (by decide) (Nat.le_of_ble_eq_true rfl) (fun p e s m args below meth c ls C hT hout hlocks hl hI => ?_)
  obtain ⟨hx, hb, hml, hown, hts, hK, hJ⟩ := id C
  have hcs : 0 ≤ rmx_P_partOf.cells ∧ 0 ≤ rmx_P_partOf.slots := ⟨Nat.zero_le _, Nat.zero_le _⟩
  unfold X_P_partOf at h
  have hl : lv_has ls 3 [(0, .ref (ad 0)), (1, .int v1), (2, .int v2)] := hl
  refine lv_aload_n hx hb d_P_partOf_0 rfl (lv_at hl 0 rfl) ?_
  rcases h with h | h
  · exact z_callVX C hT hout hlocks hI 0 (by decide) kd_0 cl_P (As := []) (rest := []) (cx_P_mustBeParted _ _ h) wc_P_mustBeParted k_ml_P_117 rfl rfl (Nat.le_of_ble_eq_true rfl) (Nat.le_of_ble_eq_true rfl) ⟨Nat.le_of_ble_eq_true rfl, Nat.le_of_ble_eq_true rfl⟩ hl.1 (Nat.le_of_ble_eq_true rfl) rfl d_P_partOf_1
  · refine z_callVv C hI 0 (by decide) kd_0 cl_P (As := []) (rest := []) (c_P_mustBeParted _ _ h) wc_P_mustBeParted k_ml_P_117 rfl rfl (Nat.le_of_ble_eq_true rfl) (Nat.le_of_ble_eq_true rfl) hcs hl.1 (Nat.le_of_ble_eq_true rfl) rfl d_P_partOf_1 (fun S1 H locs h hI => ?_)
    refine lv_aload_n hx hb d_P_partOf_4 rfl (lv_at hl 0 rfl) ?_
    refine lv_iload_n hx hb d_P_partOf_5 rfl (lv_at hl 1 rfl) ?_
    refine lv_iload_n hx hb d_P_partOf_6 rfl (lv_at hl 2 rfl) ?_
    exact z_callVX C hT hout hlocks hI 0 (by decide) kd_0 cl_P (As := [.int v1, .int v2]) (rest := []) (cx_P_mustBeSample v1 v2 _ _ h) wc_P_mustBeSample k_ml_P_63 rfl rfl (Nat.le_of_ble_eq_true rfl) (Nat.le_of_ble_eq_true rfl) ⟨Nat.le_of_ble_eq_true rfl, Nat.le_of_ble_eq_true rfl⟩ hl.1 (Nat.le_of_ble_eq_true rfl) rfl d_P_partOf_7
set_option maxHeartbeats 4000000 in
set_option maxRecDepth 100000 in
theorem cx_P_line (v1 : Int32) (v2 : Int32) (v3 : Int32) (S : zS) (px : Nat → zS → Prop) (h : X_P_line v1 v2 v3 S px) : z_ctX l D cA 51 ad y_P_line b_P_line 5 (some .int) rmx_P_line [.ref (ad 0), .int v1, .int v2, .int v3] S px := by
  refine z_metX (av := [.ref (ad 0), .int v1, .int v2, .int v3]) (by decide) (Nat.le_of_ble_eq_true rfl) (fun p e s m args below meth c ls C hT hout hlocks hl hI => ?_)
  obtain ⟨hx, hb, hml, hown, hts, hK, hJ⟩ := id C
  have hcs : 0 ≤ rmx_P_line.cells ∧ 0 ≤ rmx_P_line.slots := ⟨Nat.zero_le _, Nat.zero_le _⟩
  unfold X_P_line at h
  have hl : lv_has ls 5 [(0, .ref (ad 0)), (1, .int v1), (2, .int v2), (3, .int v3)] := hl
  refine lv_aload_n hx hb d_P_line_0 rfl (lv_at hl 0 rfl) ?_
  rcases h with h | h
  · exact z_callVX C hT hout hlocks hI 0 (by decide) kd_0 cl_P (As := []) (rest := []) (cx_P_mustBeParted _ _ h) wc_P_mustBeParted k_ml_P_117 rfl rfl (Nat.le_of_ble_eq_true rfl) (Nat.le_of_ble_eq_true rfl) ⟨Nat.le_of_ble_eq_true rfl, Nat.le_of_ble_eq_true rfl⟩ hl.1 (Nat.le_of_ble_eq_true rfl) rfl d_P_line_1
  · refine z_callVv C hI 0 (by decide) kd_0 cl_P (As := []) (rest := []) (c_P_mustBeParted _ _ h) wc_P_mustBeParted k_ml_P_117 rfl rfl (Nat.le_of_ble_eq_true rfl) (Nat.le_of_ble_eq_true rfl) hcs hl.1 (Nat.le_of_ble_eq_true rfl) rfl d_P_line_1 (fun S1 H locs h hI => ?_)
    refine lv_iload_n hx hb d_P_line_4 rfl (lv_at hl 1 rfl) ?_
    refine lv_aload_n hx hb d_P_line_5 rfl (lv_at hl 0 rfl) ?_
    refine z_getR C hI 0 (by decide) kd_0 cl_P iw_P 6 (by decide) k_fl_P_39 rfl d_P_line_6 ?_
    refine z_getI C hI 5 (by decide) kd_5 cl_G iw_G 6 (by decide) k_fl_P_114 rfl d_P_line_9 ?_
    rcases h with h | h
    · exact z_callSX C hT hout hlocks hI (As := [.int v1, .int (S1 5 6)]) (rest := []) (cx_P_mustBeBelow v1 (S1 5 6) _ _ h) wc_P_mustBeBelow k_ml_P_120 rfl rfl (Nat.le_of_ble_eq_true rfl) (Nat.le_of_ble_eq_true rfl) ⟨Nat.le_of_ble_eq_true rfl, Nat.le_of_ble_eq_true rfl⟩ hl.1 (Nat.le_of_ble_eq_true rfl) rfl d_P_line_12
    · refine z_callSv C hI (As := [.int v1, .int (S1 5 6)]) (rest := []) (c_P_mustBeBelow v1 (S1 5 6) _ _ h) wc_P_mustBeBelow k_ml_P_120 rfl rfl (Nat.le_of_ble_eq_true rfl) (Nat.le_of_ble_eq_true rfl) hcs hl.1 (Nat.le_of_ble_eq_true rfl) rfl d_P_line_12 (fun S12 H locs h hI => ?_)
      refine lv_iload_n hx hb d_P_line_15 rfl (lv_at hl 2 rfl) ?_
      refine lv_aload_n hx hb d_P_line_16 rfl (lv_at hl 0 rfl) ?_
      refine lv_iload_n hx hb d_P_line_17 rfl (lv_at hl 1 rfl) ?_
      refine z_callVi C hI 0 (by decide) kd_0 cl_P (As := [.int v1]) (rest := [.int v2]) (c_P_countLines v1 _ _ h) wc_P_countLines k_ml_P_132 rfl rfl (Nat.le_of_ble_eq_true rfl) (Nat.le_of_ble_eq_true rfl) hcs hl.1 (Nat.le_of_ble_eq_true rfl) rfl d_P_line_18 (fun r18 S18 H locs h hI => ?_)
      rcases h with h | h
      · exact z_callSX C hT hout hlocks hI (As := [.int v2, .int r18]) (rest := []) (cx_P_mustBeBelow v2 r18 _ _ h) wc_P_mustBeBelow k_ml_P_120 rfl rfl (Nat.le_of_ble_eq_true rfl) (Nat.le_of_ble_eq_true rfl) ⟨Nat.le_of_ble_eq_true rfl, Nat.le_of_ble_eq_true rfl⟩ hl.1 (Nat.le_of_ble_eq_true rfl) rfl d_P_line_21
      · refine z_callSv C hI (As := [.int v2, .int r18]) (rest := []) (c_P_mustBeBelow v2 r18 _ _ h) wc_P_mustBeBelow k_ml_P_120 rfl rfl (Nat.le_of_ble_eq_true rfl) (Nat.le_of_ble_eq_true rfl) hcs hl.1 (Nat.le_of_ble_eq_true rfl) rfl d_P_line_21 (fun S21 H locs h hI => ?_)
        refine lv_iload_n hx hb d_P_line_24 rfl (lv_at hl 3 rfl) ?_
        refine lv_iconst (v := 2) hx hb d_P_line_25 (by decide) ?_
        exact z_callSX C hT hout hlocks hI (As := [.int v3, .int 2]) (rest := []) (cx_P_mustBeTold v3 2 _ _ h) wc_P_mustBeTold k_ml_P_123 rfl rfl (Nat.le_of_ble_eq_true rfl) (Nat.le_of_ble_eq_true rfl) ⟨Nat.le_of_ble_eq_true rfl, Nat.le_of_ble_eq_true rfl⟩ hl.1 (Nat.le_of_ble_eq_true rfl) rfl d_P_line_26
set_option maxHeartbeats 4000000 in
set_option maxRecDepth 100000 in
theorem cx_P_order (v1 : Int32) (S : zS) (px : Nat → zS → Prop) (h : X_P_order v1 S px) : z_ctX l D cA 51 ad y_P_order b_P_order 2 (some .int) rmx_P_order [.ref (ad 0), .int v1] S px := by
  refine z_metX (av := [.ref (ad 0), .int v1]) (by decide) (Nat.le_of_ble_eq_true rfl) (fun p e s m args below meth c ls C hT hout hlocks hl hI => ?_)
  obtain ⟨hx, hb, hml, hown, hts, hK, hJ⟩ := id C
  have hcs : 0 ≤ rmx_P_order.cells ∧ 0 ≤ rmx_P_order.slots := ⟨Nat.zero_le _, Nat.zero_le _⟩
  unfold X_P_order at h
  have hl : lv_has ls 2 [(0, .ref (ad 0)), (1, .int v1)] := hl
  refine lv_aload_n hx hb d_P_order_0 rfl (lv_at hl 0 rfl) ?_
  rcases h with h | h
  · exact z_callVX C hT hout hlocks hI 0 (by decide) kd_0 cl_P (As := []) (rest := []) (cx_P_mustBeParted _ _ h) wc_P_mustBeParted k_ml_P_117 rfl rfl (Nat.le_of_ble_eq_true rfl) (Nat.le_of_ble_eq_true rfl) ⟨Nat.le_of_ble_eq_true rfl, Nat.le_of_ble_eq_true rfl⟩ hl.1 (Nat.le_of_ble_eq_true rfl) rfl d_P_order_1
  · refine z_callVv C hI 0 (by decide) kd_0 cl_P (As := []) (rest := []) (c_P_mustBeParted _ _ h) wc_P_mustBeParted k_ml_P_117 rfl rfl (Nat.le_of_ble_eq_true rfl) (Nat.le_of_ble_eq_true rfl) hcs hl.1 (Nat.le_of_ble_eq_true rfl) rfl d_P_order_1 (fun S1 H locs h hI => ?_)
    refine lv_iload_n hx hb d_P_order_4 rfl (lv_at hl 1 rfl) ?_
    refine lv_aload_n hx hb d_P_order_5 rfl (lv_at hl 0 rfl) ?_
    refine z_getR C hI 0 (by decide) kd_0 cl_P iw_P 6 (by decide) k_fl_P_39 rfl d_P_order_6 ?_
    refine z_getI C hI 5 (by decide) kd_5 cl_G iw_G 6 (by decide) k_fl_P_114 rfl d_P_order_9 ?_
    exact z_callSX C hT hout hlocks hI (As := [.int v1, .int (S1 5 6)]) (rest := []) (cx_P_mustBeBelow v1 (S1 5 6) _ _ h) wc_P_mustBeBelow k_ml_P_120 rfl rfl (Nat.le_of_ble_eq_true rfl) (Nat.le_of_ble_eq_true rfl) ⟨Nat.le_of_ble_eq_true rfl, Nat.le_of_ble_eq_true rfl⟩ hl.1 (Nat.le_of_ble_eq_true rfl) rfl d_P_order_12
set_option maxHeartbeats 4000000 in
set_option maxRecDepth 100000 in
theorem cx_P_cover (v1 : Int32) (v2 : Int32) (S : zS) (px : Nat → zS → Prop) (h : X_P_cover v1 v2 S px) : z_ctX l D cA 51 ad y_P_cover b_P_cover 3 (some .int) rmx_P_cover [.ref (ad 0), .int v1, .int v2] S px := by
  refine z_metX (av := [.ref (ad 0), .int v1, .int v2]) (by decide) (Nat.le_of_ble_eq_true rfl) (fun p e s m args below meth c ls C hT hout hlocks hl hI => ?_)
  obtain ⟨hx, hb, hml, hown, hts, hK, hJ⟩ := id C
  have hcs : 0 ≤ rmx_P_cover.cells ∧ 0 ≤ rmx_P_cover.slots := ⟨Nat.zero_le _, Nat.zero_le _⟩
  unfold X_P_cover at h
  have hl : lv_has ls 3 [(0, .ref (ad 0)), (1, .int v1), (2, .int v2)] := hl
  refine lv_aload_n hx hb d_P_cover_0 rfl (lv_at hl 0 rfl) ?_
  rcases h with h | h
  · exact z_callVX C hT hout hlocks hI 0 (by decide) kd_0 cl_P (As := []) (rest := []) (cx_P_mustBeParted _ _ h) wc_P_mustBeParted k_ml_P_117 rfl rfl (Nat.le_of_ble_eq_true rfl) (Nat.le_of_ble_eq_true rfl) ⟨Nat.le_of_ble_eq_true rfl, Nat.le_of_ble_eq_true rfl⟩ hl.1 (Nat.le_of_ble_eq_true rfl) rfl d_P_cover_1
  · refine z_callVv C hI 0 (by decide) kd_0 cl_P (As := []) (rest := []) (c_P_mustBeParted _ _ h) wc_P_mustBeParted k_ml_P_117 rfl rfl (Nat.le_of_ble_eq_true rfl) (Nat.le_of_ble_eq_true rfl) hcs hl.1 (Nat.le_of_ble_eq_true rfl) rfl d_P_cover_1 (fun S1 H locs h hI => ?_)
    refine lv_iload_n hx hb d_P_cover_4 rfl (lv_at hl 1 rfl) ?_
    refine lv_aload_n hx hb d_P_cover_5 rfl (lv_at hl 0 rfl) ?_
    refine z_getR C hI 0 (by decide) kd_0 cl_P iw_P 8 (by decide) k_fl_P_49 rfl d_P_cover_6 ?_
    refine z_getI C hI 21 (by decide) kd_21 cl_C iw_C 4 (by decide) k_fl_P_153 rfl d_P_cover_9 ?_
    rcases h with h | h
    · exact z_callSX C hT hout hlocks hI (As := [.int v1, .int (S1 21 4)]) (rest := []) (cx_P_mustBeBelow v1 (S1 21 4) _ _ h) wc_P_mustBeBelow k_ml_P_120 rfl rfl (Nat.le_of_ble_eq_true rfl) (Nat.le_of_ble_eq_true rfl) ⟨Nat.le_of_ble_eq_true rfl, Nat.le_of_ble_eq_true rfl⟩ hl.1 (Nat.le_of_ble_eq_true rfl) rfl d_P_cover_12
    · refine z_callSv C hI (As := [.int v1, .int (S1 21 4)]) (rest := []) (c_P_mustBeBelow v1 (S1 21 4) _ _ h) wc_P_mustBeBelow k_ml_P_120 rfl rfl (Nat.le_of_ble_eq_true rfl) (Nat.le_of_ble_eq_true rfl) hcs hl.1 (Nat.le_of_ble_eq_true rfl) rfl d_P_cover_12 (fun S12 H locs h hI => ?_)
      refine lv_iload_n hx hb d_P_cover_15 rfl (lv_at hl 2 rfl) ?_
      refine lv_iconst (v := 4) hx hb d_P_cover_16 (by decide) ?_
      exact z_callSX C hT hout hlocks hI (As := [.int v2, .int 4]) (rest := []) (cx_P_mustBeTold v2 4 _ _ h) wc_P_mustBeTold k_ml_P_123 rfl rfl (Nat.le_of_ble_eq_true rfl) (Nat.le_of_ble_eq_true rfl) ⟨Nat.le_of_ble_eq_true rfl, Nat.le_of_ble_eq_true rfl⟩ hl.1 (Nat.le_of_ble_eq_true rfl) rfl d_P_cover_17
set_option maxHeartbeats 4000000 in
set_option maxRecDepth 100000 in
theorem cx_P_strip (v1 : Int32) (S : zS) (px : Nat → zS → Prop) (h : X_P_strip v1 S px) : z_ctX l D cA 51 ad y_P_strip b_P_strip 2 (some .int) rmx_P_strip [.ref (ad 0), .int v1] S px := by
  refine z_metX (av := [.ref (ad 0), .int v1]) (by decide) (Nat.le_of_ble_eq_true rfl) (fun p e s m args below meth c ls C hT hout hlocks hl hI => ?_)
  obtain ⟨hx, hb, hml, hown, hts, hK, hJ⟩ := id C
  have hcs : 0 ≤ rmx_P_strip.cells ∧ 0 ≤ rmx_P_strip.slots := ⟨Nat.zero_le _, Nat.zero_le _⟩
  unfold X_P_strip at h
  have hl : lv_has ls 2 [(0, .ref (ad 0)), (1, .int v1)] := hl
  refine lv_aload_n hx hb d_P_strip_0 rfl (lv_at hl 0 rfl) ?_
  rcases h with h | h
  · exact z_callVX C hT hout hlocks hI 0 (by decide) kd_0 cl_P (As := []) (rest := []) (cx_P_mustBeParted _ _ h) wc_P_mustBeParted k_ml_P_117 rfl rfl (Nat.le_of_ble_eq_true rfl) (Nat.le_of_ble_eq_true rfl) ⟨Nat.le_of_ble_eq_true rfl, Nat.le_of_ble_eq_true rfl⟩ hl.1 (Nat.le_of_ble_eq_true rfl) rfl d_P_strip_1
  · refine z_callVv C hI 0 (by decide) kd_0 cl_P (As := []) (rest := []) (c_P_mustBeParted _ _ h) wc_P_mustBeParted k_ml_P_117 rfl rfl (Nat.le_of_ble_eq_true rfl) (Nat.le_of_ble_eq_true rfl) hcs hl.1 (Nat.le_of_ble_eq_true rfl) rfl d_P_strip_1 (fun S1 H locs h hI => ?_)
    refine lv_iload_n hx hb d_P_strip_4 rfl (lv_at hl 1 rfl) ?_
    refine lv_aload_n hx hb d_P_strip_5 rfl (lv_at hl 0 rfl) ?_
    refine z_getI C hI 0 (by decide) kd_0 cl_P iw_P 0 (by decide) k_fl_P_27 rfl d_P_strip_6 ?_
    exact z_callSX C hT hout hlocks hI (As := [.int v1, .int (S1 0 0)]) (rest := []) (cx_P_mustBeBelow v1 (S1 0 0) _ _ h) wc_P_mustBeBelow k_ml_P_120 rfl rfl (Nat.le_of_ble_eq_true rfl) (Nat.le_of_ble_eq_true rfl) ⟨Nat.le_of_ble_eq_true rfl, Nat.le_of_ble_eq_true rfl⟩ hl.1 (Nat.le_of_ble_eq_true rfl) rfl d_P_strip_9
set_option maxHeartbeats 4000000 in
set_option maxRecDepth 100000 in
theorem cx_P_cell (v1 : Int32) (v2 : Int32) (S : zS) (px : Nat → zS → Prop) (h : X_P_cell v1 v2 S px) : z_ctX l D cA 51 ad y_P_cell b_P_cell 3 (some .int) rmx_P_cell [.ref (ad 0), .int v1, .int v2] S px := by
  refine z_metX (av := [.ref (ad 0), .int v1, .int v2]) (by decide) (Nat.le_of_ble_eq_true rfl) (fun p e s m args below meth c ls C hT hout hlocks hl hI => ?_)
  obtain ⟨hx, hb, hml, hown, hts, hK, hJ⟩ := id C
  have hcs : 0 ≤ rmx_P_cell.cells ∧ 0 ≤ rmx_P_cell.slots := ⟨Nat.zero_le _, Nat.zero_le _⟩
  unfold X_P_cell at h
  have hl : lv_has ls 3 [(0, .ref (ad 0)), (1, .int v1), (2, .int v2)] := hl
  refine lv_aload_n hx hb d_P_cell_0 rfl (lv_at hl 0 rfl) ?_
  rcases h with h | h
  · exact z_callVX C hT hout hlocks hI 0 (by decide) kd_0 cl_P (As := []) (rest := []) (cx_P_mustBeParted _ _ h) wc_P_mustBeParted k_ml_P_117 rfl rfl (Nat.le_of_ble_eq_true rfl) (Nat.le_of_ble_eq_true rfl) ⟨Nat.le_of_ble_eq_true rfl, Nat.le_of_ble_eq_true rfl⟩ hl.1 (Nat.le_of_ble_eq_true rfl) rfl d_P_cell_1
  · refine z_callVv C hI 0 (by decide) kd_0 cl_P (As := []) (rest := []) (c_P_mustBeParted _ _ h) wc_P_mustBeParted k_ml_P_117 rfl rfl (Nat.le_of_ble_eq_true rfl) (Nat.le_of_ble_eq_true rfl) hcs hl.1 (Nat.le_of_ble_eq_true rfl) rfl d_P_cell_1 (fun S1 H locs h hI => ?_)
    refine lv_iload_n hx hb d_P_cell_4 rfl (lv_at hl 1 rfl) ?_
    refine lv_aload_n hx hb d_P_cell_5 rfl (lv_at hl 0 rfl) ?_
    refine z_getR C hI 0 (by decide) kd_0 cl_P iw_P 7 (by decide) k_fl_P_43 rfl d_P_cell_6 ?_
    refine z_getI C hI 13 (by decide) kd_13 cl_G iw_G 6 (by decide) k_fl_P_114 rfl d_P_cell_9 ?_
    rcases h with h | h
    · exact z_callSX C hT hout hlocks hI (As := [.int v1, .int (S1 13 6)]) (rest := []) (cx_P_mustBeBelow v1 (S1 13 6) _ _ h) wc_P_mustBeBelow k_ml_P_120 rfl rfl (Nat.le_of_ble_eq_true rfl) (Nat.le_of_ble_eq_true rfl) ⟨Nat.le_of_ble_eq_true rfl, Nat.le_of_ble_eq_true rfl⟩ hl.1 (Nat.le_of_ble_eq_true rfl) rfl d_P_cell_12
    · refine z_callSv C hI (As := [.int v1, .int (S1 13 6)]) (rest := []) (c_P_mustBeBelow v1 (S1 13 6) _ _ h) wc_P_mustBeBelow k_ml_P_120 rfl rfl (Nat.le_of_ble_eq_true rfl) (Nat.le_of_ble_eq_true rfl) hcs hl.1 (Nat.le_of_ble_eq_true rfl) rfl d_P_cell_12 (fun S12 H locs h hI => ?_)
      refine lv_iload_n hx hb d_P_cell_15 rfl (lv_at hl 2 rfl) ?_
      refine lv_iconst (v := 5) hx hb d_P_cell_16 (by decide) ?_
      exact z_callSX C hT hout hlocks hI (As := [.int v2, .int 5]) (rest := []) (cx_P_mustBeTold v2 5 _ _ h) wc_P_mustBeTold k_ml_P_123 rfl rfl (Nat.le_of_ble_eq_true rfl) (Nat.le_of_ble_eq_true rfl) ⟨Nat.le_of_ble_eq_true rfl, Nat.le_of_ble_eq_true rfl⟩ hl.1 (Nat.le_of_ble_eq_true rfl) rfl d_P_cell_17
set_option maxHeartbeats 4000000 in
set_option maxRecDepth 100000 in
theorem cx_P_isSpeck (v1 : Int32) (v2 : Int32) (S : zS) (px : Nat → zS → Prop) (h : X_P_isSpeck v1 v2 S px) : z_ctX l D cA 51 ad y_P_isSpeck b_P_isSpeck 4 (some .boolean) rmx_P_isSpeck [.ref (ad 0), .int v1, .int v2] S px := by
  refine z_metX (av := [.ref (ad 0), .int v1, .int v2]) (by decide) (Nat.le_of_ble_eq_true rfl) (fun p e s m args below meth c ls C hT hout hlocks hl hI => ?_)
  obtain ⟨hx, hb, hml, hown, hts, hK, hJ⟩ := id C
  have hcs : 0 ≤ rmx_P_isSpeck.cells ∧ 0 ≤ rmx_P_isSpeck.slots := ⟨Nat.zero_le _, Nat.zero_le _⟩
  unfold X_P_isSpeck at h
  have hl : lv_has ls 4 [(0, .ref (ad 0)), (1, .int v1), (2, .int v2)] := hl
  refine lv_aload_n hx hb d_P_isSpeck_0 rfl (lv_at hl 0 rfl) ?_
  rcases h with h | h
  · exact z_callVX C hT hout hlocks hI 0 (by decide) kd_0 cl_P (As := []) (rest := []) (cx_P_mustBeParted _ _ h) wc_P_mustBeParted k_ml_P_117 rfl rfl (Nat.le_of_ble_eq_true rfl) (Nat.le_of_ble_eq_true rfl) ⟨Nat.le_of_ble_eq_true rfl, Nat.le_of_ble_eq_true rfl⟩ hl.1 (Nat.le_of_ble_eq_true rfl) rfl d_P_isSpeck_1
  · refine z_callVv C hI 0 (by decide) kd_0 cl_P (As := []) (rest := []) (c_P_mustBeParted _ _ h) wc_P_mustBeParted k_ml_P_117 rfl rfl (Nat.le_of_ble_eq_true rfl) (Nat.le_of_ble_eq_true rfl) hcs hl.1 (Nat.le_of_ble_eq_true rfl) rfl d_P_isSpeck_1 (fun S1 H locs h hI => ?_)
    refine lv_aload_n hx hb d_P_isSpeck_4 rfl (lv_at hl 0 rfl) ?_
    refine lv_iload_n hx hb d_P_isSpeck_5 rfl (lv_at hl 1 rfl) ?_
    refine lv_iload_n hx hb d_P_isSpeck_6 rfl (lv_at hl 2 rfl) ?_
    exact z_callVX C hT hout hlocks hI 0 (by decide) kd_0 cl_P (As := [.int v1, .int v2]) (rest := []) (cx_P_mustBeSample v1 v2 _ _ h) wc_P_mustBeSample k_ml_P_63 rfl rfl (Nat.le_of_ble_eq_true rfl) (Nat.le_of_ble_eq_true rfl) ⟨Nat.le_of_ble_eq_true rfl, Nat.le_of_ble_eq_true rfl⟩ hl.1 (Nat.le_of_ble_eq_true rfl) rfl d_P_isSpeck_7
end ZW
