section ZW
variable {p : Program} {l : Launch} {e : Env} {s : State} {m : MethodId} {args : Array Value} {below : List Frame} {meth : Method} {c : Code} {cells slots : Nat} {Q : State → Prop} {D : va_G} {cA : Nat → ClassId} {n : Nat} {ad : Nat → Nat}
set_option maxHeartbeats 4000000 in
set_option maxRecDepth 100000 in
theorem w_A_fill_5 (C : z_CT p s m args c R_A b_A_fill 4 D cA 51 ad) (hcs : cells ≤ rm_A_fill.cells ∧ slots ≤ rm_A_fill.slots) (fb : Nat) (hfb : z_F fb) (post : zS → Prop) (v1 : Int32) (v3 : Int32) (hR : z_Rv p l e rm_A_fill s m args below meth c Q b_A_fill D cA 51 ad post) : ∀ (n : Nat) (v2 : Int32) (S : zS) (H : Heap) (locs : List Loc) (ls : Array Slot), z_I D cA 51 ad s.heap S H locs → lv_has ls 4 [(0, .ref (ad fb)), (1, .int v1), (2, .int v2), (3, .int v3)] → L_A_fill_5 fb post v1 v3 n v2 S → W p l e rm_A_fill s m args below meth c H locs cells slots Q (F0 m 5 ls []) := by
  obtain ⟨hx, hb, hml, hown, hts, hK, hJ⟩ := id C
  intro n
  induction n with
  | zero => intro v2 S H locs ls hI hl h; exact h.elim
  | succ n ih =>
    intro v2 S H locs ls hI hl h
    rw [L_A_fill_5] at h
    refine lv_iload_n hx hb d_A_fill_5 rfl (lv_at hl 2 rfl) ?_
    refine lv_iload_n hx hb d_A_fill_6 rfl (lv_at hl 3 rfl) ?_
    refine lv_icmp_ge (tgt := 20) hx hb d_A_fill_7 (by decide) (fun q => ?_) (fun q => ?_)
    · replace h := h.1 q
      exact hR _ _ hcs S _ _ 20 ls h hI d_A_fill_20
    · replace h := h.2 q
      refine lv_aload_n hx hb d_A_fill_10 rfl (lv_at hl 0 rfl) ?_
      refine lv_iload_n hx hb d_A_fill_11 rfl (lv_at hl 2 rfl) ?_
      refine lv_iload_n hx hb d_A_fill_12 rfl (lv_at hl 1 rfl) ?_
      obtain ⟨h1, h⟩ := h
      refine z_ist C hI fb hfb.1 hfb.2 h1 d_A_fill_13 (fun S13 eS H locs hI => ?_)
      replace h := h S13 eS
      obtain ⟨x14, e14⟩ : ∃ y : Int32, y = v2 + 1 := ⟨_, rfl⟩
      replace h := h x14 e14
      refine lv_iinc (v := x14) (lv' := [(2, .int x14), (0, .ref (ad fb)), (1, .int v1), (3, .int v3)]) hx hb d_A_fill_14 hl (k := 2) rfl (by rw [e14]; rfl) (by decide) rfl (fun ls hl => ?_)
      refine lv_goto (tgt := 5) hx hb d_A_fill_17 (by decide) ?_
      exact ih x14 S13 _ _ ls hI (lv_sub hl [1, 2, 0, 3] rfl) h
set_option maxHeartbeats 4000000 in
set_option maxRecDepth 100000 in
theorem c_A_fill (fb : Nat) (hfb : z_F fb) (v1 : Int32) (S : zS) (post : zS → Prop) (h : P_A_fill fb v1 S post) : z_ctv l D cA 51 ad y_A_fill b_A_fill 4 none rm_A_fill [.ref (ad fb), .int v1] S post := by
  refine z_metv (av := [.ref (ad fb), .int v1]) (by decide) (Nat.le_of_ble_eq_true rfl) ⟨rfl, rfl⟩ (fun p e s m args below meth c Q ls C hcs hl hI hR => ?_)
  obtain ⟨hx, hb, hml, hown, hts, hK, hJ⟩ := id C
  unfold P_A_fill at h
  have hl : lv_has ls 4 [(0, .ref (ad fb)), (1, .int v1)] := hl
  refine lv_iconst (v := 0) hx hb d_A_fill_0 (by decide) ?_
  refine lv_istore_n (lv' := [(2, .int 0), (0, .ref (ad fb)), (1, .int v1)]) hx hb d_A_fill_1 rfl hl (by decide) rfl (fun ls hl => ?_)
  refine lv_aload_n hx hb d_A_fill_2 rfl (lv_at hl 1 rfl) ?_
  refine z_alen C hI fb hfb.1 hfb.2 (v := 576) rfl d_A_fill_3 ?_
  refine lv_istore_n (lv' := [(3, .int 576), (2, .int 0), (0, .ref (ad fb)), (1, .int v1)]) hx hb d_A_fill_4 rfl hl (by decide) rfl (fun ls hl => ?_)
  obtain ⟨k5, h⟩ := h
  refine w_A_fill_5 C hcs fb hfb _ v1 576 hR k5 0 S _ _ ls hI (lv_sub hl [2, 3, 1, 0] rfl) h
set_option maxHeartbeats 4000000 in
set_option maxRecDepth 100000 in
theorem c_P_nearestSide (v0 : Int32) (S : zS) (post : Int32 → zS → Prop) (h : P_P_nearestSide v0 S post) : z_cti l D cA n ad y_P_nearestSide b_P_nearestSide 1 (some .int) rm_P_nearestSide [.int v0] S post := by
  refine z_meti (av := [.int v0]) (by decide) (Nat.le_of_ble_eq_true rfl) ⟨rfl, rfl⟩ (fun p e s m args below meth c Q ls C hcs hl hI hR => ?_)
  obtain ⟨hx, hb, hml, hown, hts, hK, hJ⟩ := id C
  unfold P_P_nearestSide at h
  have hl : lv_has ls 1 [(0, .int v0)] := hl
  refine lv_iconst (v := 1) hx hb d_P_nearestSide_0 (by decide) ?_
  refine lv_bipush (v := 24) hx hb d_P_nearestSide_1 (by decide) ?_
  refine lv_iload_n hx hb d_P_nearestSide_3 rfl (lv_at hl 0 rfl) ?_
  refine z_mmin C hl.1 k_ml_P_81 (Nat.le_of_ble_eq_true rfl) (Nat.le_of_ble_eq_true rfl) hcs d_P_nearestSide_4 ?_
  refine z_mmax C hl.1 k_ml_P_172 (Nat.le_of_ble_eq_true rfl) (Nat.le_of_ble_eq_true rfl) hcs d_P_nearestSide_7 ?_
  exact hR _ _ hcs (if 1 < (if v0 < 24 then v0 else 24) then (if v0 < 24 then v0 else 24) else 1) S _ _ 10 ls h hI d_P_nearestSide_10
set_option maxHeartbeats 4000000 in
set_option maxRecDepth 100000 in
theorem c_P_mustBeSample (v1 : Int32) (v2 : Int32) (S : zS) (post : zS → Prop) (h : P_P_mustBeSample v1 v2 S post) : z_ctv l D cA 51 ad y_P_mustBeSample b_P_mustBeSample 3 none rm_P_mustBeSample [.ref (ad 0), .int v1, .int v2] S post := by
  refine z_metv (av := [.ref (ad 0), .int v1, .int v2]) (by decide) (Nat.le_of_ble_eq_true rfl) ⟨rfl, rfl⟩ (fun p e s m args below meth c Q ls C hcs hl hI hR => ?_)
  obtain ⟨hx, hb, hml, hown, hts, hK, hJ⟩ := id C
  unfold P_P_mustBeSample at h
  have hl : lv_has ls 3 [(0, .ref (ad 0)), (1, .int v1), (2, .int v2)] := hl
  refine lv_iload_n hx hb d_P_mustBeSample_0 rfl (lv_at hl 1 rfl) ?_
  refine lv_if_lt (tgt := 24) hx hb d_P_mustBeSample_1 (by decide) (fun q => ?_) (fun q => ?_)
  · replace h := h.1 q
    exact h.elim
  · replace h := h.2 q
    refine lv_iload_n hx hb d_P_mustBeSample_4 rfl (lv_at hl 1 rfl) ?_
    refine lv_aload_n hx hb d_P_mustBeSample_5 rfl (lv_at hl 0 rfl) ?_
    refine z_getI C hI 0 (by decide) kd_0 cl_P iw_P 0 (by decide) k_fl_P_27 rfl d_P_mustBeSample_6 ?_
    refine lv_icmp_ge (tgt := 24) hx hb d_P_mustBeSample_9 (by decide) (fun q => ?_) (fun q => ?_)
    · replace h := h.1 q
      exact h.elim
    · replace h := h.2 q
      refine lv_iload_n hx hb d_P_mustBeSample_12 rfl (lv_at hl 2 rfl) ?_
      refine lv_if_lt (tgt := 24) hx hb d_P_mustBeSample_13 (by decide) (fun q => ?_) (fun q => ?_)
      · replace h := h.1 q
        exact h.elim
      · replace h := h.2 q
        refine lv_iload_n hx hb d_P_mustBeSample_16 rfl (lv_at hl 2 rfl) ?_
        refine lv_aload_n hx hb d_P_mustBeSample_17 rfl (lv_at hl 0 rfl) ?_
        refine z_getI C hI 0 (by decide) kd_0 cl_P iw_P 1 (by decide) k_fl_P_31 rfl d_P_mustBeSample_18 ?_
        refine lv_icmp_lt (tgt := 34) hx hb d_P_mustBeSample_21 (by decide) (fun q => ?_) (fun q => ?_)
        · replace h := h.1 q
          exact hR _ _ hcs S _ _ 34 ls h hI d_P_mustBeSample_34
        · replace h := h.2 q
          exact h.elim
set_option maxHeartbeats 4000000 in
set_option maxRecDepth 100000 in
theorem c_P_paint (v1 : Int32) (v2 : Int32) (v3 : Int32) (S : zS) (post : Int32 → zS → Prop) (h : P_P_paint v1 v2 v3 S post) : z_cti l D cA 51 ad y_P_paint b_P_paint 5 (some .boolean) rm_P_paint [.ref (ad 0), .int v1, .int v2, .int v3] S post := by
  refine z_metz (av := [.ref (ad 0), .int v1, .int v2, .int v3]) (by decide) (Nat.le_of_ble_eq_true rfl) ⟨rfl, rfl⟩ (fun p e s m args below meth c Q ls C hcs hl hI hR => ?_)
  obtain ⟨hx, hb, hml, hown, hts, hK, hJ⟩ := id C
  unfold P_P_paint at h
  have hl : lv_has ls 5 [(0, .ref (ad 0)), (1, .int v1), (2, .int v2), (3, .int v3)] := hl
  refine lv_iload_n hx hb d_P_paint_0 rfl (lv_at hl 2 rfl) ?_
  refine lv_bipush (v := 24) hx hb d_P_paint_1 (by decide) ?_
  refine lv_imul hx hb d_P_paint_3 ?_
  refine lv_iload_n hx hb d_P_paint_4 rfl (lv_at hl 1 rfl) ?_
  refine lv_iadd hx hb d_P_paint_5 ?_
  refine lv_topi (fun x6 e6 => ?_)
  replace h := h x6 e6
  refine lv_istore (lv' := [(4, .int x6), (0, .ref (ad 0)), (1, .int v1), (2, .int v2), (3, .int v3)]) hx hb d_P_paint_6 hl (by decide) rfl (fun ls hl => ?_)
  refine lv_aload_n hx hb d_P_paint_8 rfl (lv_at hl 1 rfl) ?_
  refine z_getR C hI 0 (by decide) kd_0 cl_P iw_P 2 (by decide) k_fl_P_9 rfl d_P_paint_9 ?_
  refine lv_iload hx hb d_P_paint_12 (lv_at hl 0 rfl) ?_
  obtain ⟨h1, h⟩ := h
  refine z_zld C hI 1 (by decide) kd_1 h1 d_P_paint_14 ?_
  refine lv_iload_n hx hb d_P_paint_15 rfl (lv_at hl 4 rfl) ?_
  refine lv_icmp_ne (tgt := 21) hx hb d_P_paint_16 (by decide) (fun q => ?_) (fun q => ?_)
  · replace h := h.1 q
    refine lv_aload_n hx hb d_P_paint_21 rfl (lv_at hl 1 rfl) ?_
    refine z_getR C hI 0 (by decide) kd_0 cl_P iw_P 2 (by decide) k_fl_P_9 rfl d_P_paint_22 ?_
    refine lv_iload hx hb d_P_paint_25 (lv_at hl 0 rfl) ?_
    refine lv_iload_n hx hb d_P_paint_27 rfl (lv_at hl 4 rfl) ?_
    obtain ⟨h1, h⟩ := h
    obtain ⟨h2, h⟩ := h
    refine z_zst C hI 1 (by decide) kd_1 h1 h2 d_P_paint_28 (fun S28 eS H locs hI => ?_)
    replace h := h S28 eS
    refine lv_aload_n hx hb d_P_paint_29 rfl (lv_at hl 1 rfl) ?_
    refine lv_dup hx hb d_P_paint_30 rfl ?_
    refine z_getI C hI 0 (by decide) kd_0 cl_P iw_P 10 (by decide) k_fl_P_166 rfl d_P_paint_31 ?_
    refine lv_iload_n hx hb d_P_paint_34 rfl (lv_at hl 4 rfl) ?_
    refine lv_if_eq (tgt := 42) hx hb d_P_paint_35 (by decide) (fun q => ?_) (fun q => ?_)
    · replace h := h.1 q
      refine lv_iconst (v := (-1)) hx hb d_P_paint_42 (by decide) ?_
      refine lv_iadd hx hb d_P_paint_43 ?_
      refine z_putI C hI 0 (by decide) kd_0 cl_P iw_P ty_P ty_P_ok n_P 10 (by decide) k_fl_P_166 rfl rfl rfl d_P_paint_44 (fun S44 eS H locs hI => ?_)
      replace h := h S44 eS
      refine lv_iconst (v := 1) hx hb d_P_paint_47 (by decide) ?_
      exact hR _ _ hcs 1 S44 _ _ 48 ls (by decide) h hI d_P_paint_48
    · replace h := h.2 q
      refine lv_iconst (v := 1) hx hb d_P_paint_38 (by decide) ?_
      refine lv_goto (tgt := 43) hx hb d_P_paint_39 (by decide) ?_
      refine lv_iadd hx hb d_P_paint_43 ?_
      refine z_putI C hI 0 (by decide) kd_0 cl_P iw_P ty_P ty_P_ok n_P 10 (by decide) k_fl_P_166 rfl rfl rfl d_P_paint_44 (fun S44 eS H locs hI => ?_)
      replace h := h S44 eS
      refine lv_iconst (v := 1) hx hb d_P_paint_47 (by decide) ?_
      exact hR _ _ hcs 1 S44 _ _ 48 ls (by decide) h hI d_P_paint_48
  · replace h := h.2 q
    refine lv_iconst (v := 0) hx hb d_P_paint_19 (by decide) ?_
    exact hR _ _ hcs 0 S _ _ 20 ls (by decide) h hI d_P_paint_20
set_option maxHeartbeats 4000000 in
set_option maxRecDepth 100000 in
theorem c_P_put (v1 : Int32) (v2 : Int32) (v3 : Int32) (S : zS) (post : Int32 → zS → Prop) (h : P_P_put v1 v2 v3 S post) : z_cti l D cA 51 ad y_P_put b_P_put 4 (some .boolean) rm_P_put [.ref (ad 0), .int v1, .int v2, .int v3] S post := by
  refine z_metz (av := [.ref (ad 0), .int v1, .int v2, .int v3]) (by decide) (Nat.le_of_ble_eq_true rfl) ⟨rfl, rfl⟩ (fun p e s m args below meth c Q ls C hcs hl hI hR => ?_)
  obtain ⟨hx, hb, hml, hown, hts, hK, hJ⟩ := id C
  unfold P_P_put at h
  have hl : lv_has ls 4 [(0, .ref (ad 0)), (1, .int v1), (2, .int v2), (3, .int v3)] := hl
  refine lv_aload_n hx hb d_P_put_0 rfl (lv_at hl 0 rfl) ?_
  refine lv_iload_n hx hb d_P_put_1 rfl (lv_at hl 1 rfl) ?_
  refine lv_iload_n hx hb d_P_put_2 rfl (lv_at hl 2 rfl) ?_
  refine z_callVv C hI 0 (by decide) kd_0 cl_P (As := [.int v1, .int v2]) (rest := []) (c_P_mustBeSample v1 v2 _ _ h) wc_P_mustBeSample k_ml_P_63 rfl rfl (Nat.le_of_ble_eq_true rfl) (Nat.le_of_ble_eq_true rfl) hcs hl.1 (Nat.le_of_ble_eq_true rfl) rfl d_P_put_3 (fun S3 H locs h hI => ?_)
  refine lv_aload_n hx hb d_P_put_6 rfl (lv_at hl 0 rfl) ?_
  refine lv_iconst (v := 0) hx hb d_P_put_7 (by decide) ?_
  refine z_putZ C hI 0 (by decide) kd_0 cl_P iw_P ty_P ty_P_ok n_P 14 (by decide) k_fl_P_66 rfl rfl rfl (by decide) d_P_put_8 (fun S8 eS H locs hI => ?_)
  replace h := h S8 eS
  refine lv_aload_n hx hb d_P_put_11 rfl (lv_at hl 0 rfl) ?_
  refine lv_iload_n hx hb d_P_put_12 rfl (lv_at hl 1 rfl) ?_
  refine lv_iload_n hx hb d_P_put_13 rfl (lv_at hl 2 rfl) ?_
  refine lv_iload_n hx hb d_P_put_14 rfl (lv_at hl 3 rfl) ?_
  refine z_callVi C hI 0 (by decide) kd_0 cl_P (As := [.int v1, .int v2, .int v3]) (rest := []) (c_P_paint v1 v2 v3 _ _ h) wc_P_paint k_ml_P_70 rfl rfl (Nat.le_of_ble_eq_true rfl) (Nat.le_of_ble_eq_true rfl) hcs hl.1 (Nat.le_of_ble_eq_true rfl) rfl d_P_put_15 (fun r15 S15 H locs h hI => ?_)
  exact hR _ _ hcs r15 S15 _ _ 18 ls h.1 h.2 hI d_P_put_18
set_option maxHeartbeats 4000000 in
set_option maxRecDepth 100000 in
theorem w_P_fill_77 (C : z_CT p s m args c R_P b_P_fill 11 D cA 51 ad) (hcs : cells ≤ rm_P_fill.cells ∧ slots ≤ rm_P_fill.slots) (post : Int32 → zS → Prop) (K106 : Int32 → zS → Prop) (v1 : Int32) (v5 : Int32) (v6 : Int32) (v7 : Int32) (v9 : Int32) (hR : z_Ri p l e rm_P_fill s m args below meth c Q b_P_fill D cA 51 ad post) (kK106 : ∀ (v8 : Int32) (S : zS) (H : Heap) (locs : List Loc) (ls : Array Slot), K106 v8 S → z_I D cA 51 ad s.heap S H locs → lv_has ls 11 [(0, .ref (ad 0)), (1, .int v1), (5, .int v5), (6, .int v6), (7, .int v7), (8, .int v8), (9, .int v9)] → W p l e rm_P_fill s m args below meth c H locs cells slots Q (F0 m 106 ls [])) : ∀ (n : Nat) (v8 : Int32) (v10 : Int32) (S : zS) (H : Heap) (locs : List Loc) (ls : Array Slot), z_I D cA 51 ad s.heap S H locs → lv_has ls 11 [(0, .ref (ad 0)), (1, .int v1), (5, .int v5), (6, .int v6), (7, .int v7), (8, .int v8), (9, .int v9), (10, .int v10)] → L_P_fill_77 post K106 v1 v5 v6 v7 v9 n v8 v10 S → W p l e rm_P_fill s m args below meth c H locs cells slots Q (F0 m 77 ls []) := by
  obtain ⟨hx, hb, hml, hown, hts, hK, hJ⟩ := id C
  intro n
  induction n with
  | zero => intro v8 v10 S H locs ls hI hl h; exact h.elim
  | succ n ih =>
    intro v8 v10 S H locs ls hI hl h
    rw [L_P_fill_77] at h
    refine lv_iload hx hb d_P_fill_77 (lv_at hl 7 rfl) ?_
    refine lv_iload hx hb d_P_fill_79 (lv_at hl 3 rfl) ?_
    refine lv_icmp_ge (tgt := 106) hx hb d_P_fill_81 (by decide) (fun q => ?_) (fun q => ?_)
    · replace h := h.1 q
      exact kK106 v8 S _ _ ls h hI (lv_sub hl [0, 1, 2, 3, 4, 5, 6] rfl)
    · replace h := h.2 q
      refine lv_aload_n hx hb d_P_fill_84 rfl (lv_at hl 0 rfl) ?_
      refine lv_iload hx hb d_P_fill_85 (lv_at hl 7 rfl) ?_
      refine lv_iload hx hb d_P_fill_87 (lv_at hl 6 rfl) ?_
      refine lv_iload hx hb d_P_fill_89 (lv_at hl 2 rfl) ?_
      refine z_callVi C hI 0 (by decide) kd_0 cl_P (As := [.int v10, .int v9, .int v5]) (rest := []) (c_P_paint v10 v9 v5 _ _ h) wc_P_paint k_ml_P_70 rfl rfl (Nat.le_of_ble_eq_true rfl) (Nat.le_of_ble_eq_true rfl) hcs hl.1 (Nat.le_of_ble_eq_true rfl) rfl d_P_fill_91 (fun r91 S91 H locs h hI => ?_)
      refine lv_if_eq (tgt := 100) hx hb d_P_fill_94 (by decide) (fun q => ?_) (fun q => ?_)
      · replace h := h.1 q
        obtain ⟨x100, e100⟩ : ∃ y : Int32, y = v10 + 1 := ⟨_, rfl⟩
        replace h := h x100 e100
        refine lv_iinc (v := x100) (lv' := [(10, .int x100), (0, .ref (ad 0)), (1, .int v1), (5, .int v5), (6, .int v6), (7, .int v7), (8, .int v8), (9, .int v9)]) hx hb d_P_fill_100 hl (k := 7) rfl (by rw [e100]; rfl) (by decide) rfl (fun ls hl => ?_)
        refine lv_goto (tgt := 77) hx hb d_P_fill_103 (by decide) ?_
        exact ih v8 x100 S91 _ _ ls hI (lv_sub hl [1, 2, 3, 4, 5, 6, 7, 0] rfl) h
      · replace h := h.2 q
        obtain ⟨x97, e97⟩ : ∃ y : Int32, y = v8 + 1 := ⟨_, rfl⟩
        replace h := h x97 e97
        refine lv_iinc (v := x97) (lv' := [(8, .int x97), (0, .ref (ad 0)), (1, .int v1), (5, .int v5), (6, .int v6), (7, .int v7), (9, .int v9), (10, .int v10)]) hx hb d_P_fill_97 hl (k := 5) rfl (by rw [e97]; rfl) (by decide) rfl (fun ls hl => ?_)
        obtain ⟨x100, e100⟩ : ∃ y : Int32, y = v10 + 1 := ⟨_, rfl⟩
        replace h := h x100 e100
        refine lv_iinc (v := x100) (lv' := [(10, .int x100), (8, .int x97), (0, .ref (ad 0)), (1, .int v1), (5, .int v5), (6, .int v6), (7, .int v7), (9, .int v9)]) hx hb d_P_fill_100 hl (k := 7) rfl (by rw [e100]; rfl) (by decide) rfl (fun ls hl => ?_)
        refine lv_goto (tgt := 77) hx hb d_P_fill_103 (by decide) ?_
        exact ih x97 x100 S91 _ _ ls hI (lv_sub hl [2, 3, 4, 5, 6, 1, 7, 0] rfl) h
set_option maxHeartbeats 4000000 in
set_option maxRecDepth 100000 in
theorem w_P_fill_67 (C : z_CT p s m args c R_P b_P_fill 11 D cA 51 ad) (hcs : cells ≤ rm_P_fill.cells ∧ slots ≤ rm_P_fill.slots) (post : Int32 → zS → Prop) (v1 : Int32) (v5 : Int32) (v6 : Int32) (v7 : Int32) (hR : z_Ri p l e rm_P_fill s m args below meth c Q b_P_fill D cA 51 ad post) : ∀ (n : Nat) (v8 : Int32) (v9 : Int32) (S : zS) (H : Heap) (locs : List Loc) (ls : Array Slot), z_I D cA 51 ad s.heap S H locs → lv_has ls 11 [(0, .ref (ad 0)), (1, .int v1), (5, .int v5), (6, .int v6), (7, .int v7), (8, .int v8), (9, .int v9)] → L_P_fill_67 post v1 v5 v6 v7 n v8 v9 S → W p l e rm_P_fill s m args below meth c H locs cells slots Q (F0 m 67 ls []) := by
  obtain ⟨hx, hb, hml, hown, hts, hK, hJ⟩ := id C
  intro n
  induction n with
  | zero => intro v8 v9 S H locs ls hI hl h; exact h.elim
  | succ n ih =>
    intro v8 v9 S H locs ls hI hl h
    rw [L_P_fill_67] at h
    refine lv_iload hx hb d_P_fill_67 (lv_at hl 6 rfl) ?_
    refine lv_iload hx hb d_P_fill_69 (lv_at hl 4 rfl) ?_
    refine lv_icmp_ge (tgt := 112) hx hb d_P_fill_71 (by decide) (fun q => ?_) (fun q => ?_)
    · replace h := h.1 q
      refine lv_iload hx hb d_P_fill_112 (lv_at hl 5 rfl) ?_
      exact hR _ _ hcs v8 S _ _ 114 ls h hI d_P_fill_114
    · replace h := h.2 q
      refine lv_iload_n hx hb d_P_fill_74 rfl (lv_at hl 1 rfl) ?_
      refine lv_istore (lv' := [(10, .int v1), (0, .ref (ad 0)), (1, .int v1), (5, .int v5), (6, .int v6), (7, .int v7), (8, .int v8), (9, .int v9)]) hx hb d_P_fill_75 hl (by decide) rfl (fun ls hl => ?_)
      obtain ⟨k77, h⟩ := h
      refine w_P_fill_77 C hcs _ _ v1 v5 v6 v7 v9 hR (fun v8_77e S77e H locs ls h hI hl => ?_) k77 v8 v1 S _ _ ls hI (lv_sub hl [1, 2, 3, 4, 5, 6, 7, 0] rfl) h
      obtain ⟨x106, e106⟩ : ∃ y : Int32, y = v9 + 1 := ⟨_, rfl⟩
      replace h := h x106 e106
      refine lv_iinc (v := x106) (lv' := [(9, .int x106), (0, .ref (ad 0)), (1, .int v1), (5, .int v5), (6, .int v6), (7, .int v7), (8, .int v8_77e)]) hx hb d_P_fill_106 hl (k := 6) rfl (by rw [e106]; rfl) (by decide) rfl (fun ls hl => ?_)
      refine lv_goto (tgt := 67) hx hb d_P_fill_109 (by decide) ?_
      exact ih v8_77e x106 S77e _ _ ls hI (lv_sub hl [1, 2, 3, 4, 5, 6, 0] rfl) h
set_option maxHeartbeats 4000000 in
set_option maxRecDepth 100000 in
theorem c_P_fill (v1 : Int32) (v2 : Int32) (v3 : Int32) (v4 : Int32) (v5 : Int32) (S : zS) (post : Int32 → zS → Prop) (h : P_P_fill v1 v2 v3 v4 v5 S post) : z_cti l D cA 51 ad y_P_fill b_P_fill 11 (some .int) rm_P_fill [.ref (ad 0), .int v1, .int v2, .int v3, .int v4, .int v5] S post := by
  refine z_meti (av := [.ref (ad 0), .int v1, .int v2, .int v3, .int v4, .int v5]) (by decide) (Nat.le_of_ble_eq_true rfl) ⟨rfl, rfl⟩ (fun p e s m args below meth c Q ls C hcs hl hI hR => ?_)
  obtain ⟨hx, hb, hml, hown, hts, hK, hJ⟩ := id C
  unfold P_P_fill at h
  have hl : lv_has ls 11 [(0, .ref (ad 0)), (1, .int v1), (2, .int v2), (3, .int v3), (4, .int v4), (5, .int v5)] := hl
  refine lv_aload_n hx hb d_P_fill_0 rfl (lv_at hl 0 rfl) ?_
  refine lv_iload_n hx hb d_P_fill_1 rfl (lv_at hl 1 rfl) ?_
  refine lv_iload_n hx hb d_P_fill_2 rfl (lv_at hl 2 rfl) ?_
  refine z_callVv C hI 0 (by decide) kd_0 cl_P (As := [.int v1, .int v2]) (rest := []) (c_P_mustBeSample v1 v2 _ _ h) wc_P_mustBeSample k_ml_P_63 rfl rfl (Nat.le_of_ble_eq_true rfl) (Nat.le_of_ble_eq_true rfl) hcs hl.1 (Nat.le_of_ble_eq_true rfl) rfl d_P_fill_3 (fun S3 H locs h hI => ?_)
  refine lv_iload_n hx hb d_P_fill_6 rfl (lv_at hl 3 rfl) ?_
  refine lv_iconst (v := 1) hx hb d_P_fill_7 (by decide) ?_
  refine lv_icmp_lt (tgt := 17) hx hb d_P_fill_8 (by decide) (fun q => ?_) (fun q => ?_)
  · replace h := h.1 q
    exact h.elim
  · replace h := h.2 q
    refine lv_iload hx hb d_P_fill_11 (lv_at hl 4 rfl) ?_
    refine lv_iconst (v := 1) hx hb d_P_fill_13 (by decide) ?_
    refine lv_icmp_ge (tgt := 27) hx hb d_P_fill_14 (by decide) (fun q => ?_) (fun q => ?_)
    · replace h := h.1 q
      refine lv_aload_n hx hb d_P_fill_27 rfl (lv_at hl 0 rfl) ?_
      refine lv_iconst (v := 0) hx hb d_P_fill_28 (by decide) ?_
      refine z_putZ C hI 0 (by decide) kd_0 cl_P iw_P ty_P ty_P_ok n_P 14 (by decide) k_fl_P_66 rfl rfl rfl (by decide) d_P_fill_29 (fun S29 eS H locs hI => ?_)
      replace h := h S29 eS
      refine lv_iload_n hx hb d_P_fill_32 rfl (lv_at hl 1 rfl) ?_
      refine lv_iload_n hx hb d_P_fill_33 rfl (lv_at hl 3 rfl) ?_
      refine lv_aload_n hx hb d_P_fill_34 rfl (lv_at hl 0 rfl) ?_
      refine z_getI C hI 0 (by decide) kd_0 cl_P iw_P 0 (by decide) k_fl_P_27 rfl d_P_fill_35 ?_
      refine lv_iload_n hx hb d_P_fill_38 rfl (lv_at hl 1 rfl) ?_
      refine lv_isub hx hb d_P_fill_39 ?_
      refine z_mmin C hl.1 k_ml_P_81 (Nat.le_of_ble_eq_true rfl) (Nat.le_of_ble_eq_true rfl) hcs d_P_fill_40 ?_
      refine lv_iadd hx hb d_P_fill_43 ?_
      refine lv_topi (fun x44 e44 => ?_)
      replace h := h x44 e44
      refine lv_istore (lv' := [(6, .int x44), (0, .ref (ad 0)), (1, .int v1), (2, .int v2), (3, .int v3), (4, .int v4), (5, .int v5)]) hx hb d_P_fill_44 hl (by decide) rfl (fun ls hl => ?_)
      refine lv_iload_n hx hb d_P_fill_46 rfl (lv_at hl 3 rfl) ?_
      refine lv_iload hx hb d_P_fill_47 (lv_at hl 5 rfl) ?_
      refine lv_aload_n hx hb d_P_fill_49 rfl (lv_at hl 1 rfl) ?_
      refine z_getI C hI 0 (by decide) kd_0 cl_P iw_P 1 (by decide) k_fl_P_31 rfl d_P_fill_50 ?_
      refine lv_iload_n hx hb d_P_fill_53 rfl (lv_at hl 3 rfl) ?_
      refine lv_isub hx hb d_P_fill_54 ?_
      refine z_mmin C hl.1 k_ml_P_81 (Nat.le_of_ble_eq_true rfl) (Nat.le_of_ble_eq_true rfl) hcs d_P_fill_55 ?_
      refine lv_iadd hx hb d_P_fill_58 ?_
      refine lv_topi (fun x59 e59 => ?_)
      replace h := h x59 e59
      refine lv_istore (lv' := [(7, .int x59), (6, .int x44), (0, .ref (ad 0)), (1, .int v1), (2, .int v2), (3, .int v3), (4, .int v4), (5, .int v5)]) hx hb d_P_fill_59 hl (by decide) rfl (fun ls hl => ?_)
      refine lv_iconst (v := 0) hx hb d_P_fill_61 (by decide) ?_
      refine lv_istore (lv' := [(8, .int 0), (7, .int x59), (6, .int x44), (0, .ref (ad 0)), (1, .int v1), (2, .int v2), (3, .int v3), (4, .int v4), (5, .int v5)]) hx hb d_P_fill_62 hl (by decide) rfl (fun ls hl => ?_)
      refine lv_iload_n hx hb d_P_fill_64 rfl (lv_at hl 5 rfl) ?_
      refine lv_istore (lv' := [(9, .int v2), (8, .int 0), (7, .int x59), (6, .int x44), (0, .ref (ad 0)), (1, .int v1), (2, .int v2), (3, .int v3), (4, .int v4), (5, .int v5)]) hx hb d_P_fill_65 hl (by decide) rfl (fun ls hl => ?_)
      obtain ⟨k67, h⟩ := h
      refine w_P_fill_67 C hcs _ v1 v5 x44 x59 hR k67 0 v2 S29 _ _ ls hI (lv_sub hl [4, 5, 9, 3, 2, 1, 0] rfl) h
    · replace h := h.2 q
      exact h.elim
set_option maxHeartbeats 4000000 in
set_option maxRecDepth 100000 in
theorem c_P_noise (v1 : Int32) (S : zS) (post : Int32 → zS → Prop) (h : P_P_noise v1 S post) : z_cti l D cA 51 ad y_P_noise b_P_noise 3 (some .int) rm_P_noise [.ref (ad 0), .int v1] S post := by
  refine z_meti (av := [.ref (ad 0), .int v1]) (by decide) (Nat.le_of_ble_eq_true rfl) ⟨rfl, rfl⟩ (fun p e s m args below meth c Q ls C hcs hl hI hR => ?_)
  obtain ⟨hx, hb, hml, hown, hts, hK, hJ⟩ := id C
  unfold P_P_noise at h
  have hl : lv_has ls 3 [(0, .ref (ad 0)), (1, .int v1)] := hl
  refine lv_iload_n hx hb d_P_noise_0 rfl (lv_at hl 1 rfl) ?_
  refine lv_if_lt (tgt := 10) hx hb d_P_noise_1 (by decide) (fun q => ?_) (fun q => ?_)
  · replace h := h.1 q
    exact h.elim
  · replace h := h.2 q
    refine lv_iload_n hx hb d_P_noise_4 rfl (lv_at hl 1 rfl) ?_
    refine lv_bipush (v := 100) hx hb d_P_noise_5 (by decide) ?_
    refine lv_icmp_le (tgt := 20) hx hb d_P_noise_7 (by decide) (fun q => ?_) (fun q => ?_)
    · replace h := h.1 q
      refine lv_aload_n hx hb d_P_noise_20 rfl (lv_at hl 0 rfl) ?_
      refine z_getI C hI 0 (by decide) kd_0 cl_P iw_P 13 (by decide) k_fl_P_60 rfl d_P_noise_21 ?_
      refine lv_topi (fun x24 e24 => ?_)
      replace h := h x24 e24
      refine lv_istore_n (lv' := [(2, .int x24), (0, .ref (ad 0)), (1, .int v1)]) hx hb d_P_noise_24 rfl hl (by decide) rfl (fun ls hl => ?_)
      refine lv_aload_n hx hb d_P_noise_25 rfl (lv_at hl 1 rfl) ?_
      refine lv_iload_n hx hb d_P_noise_26 rfl (lv_at hl 2 rfl) ?_
      refine z_putI C hI 0 (by decide) kd_0 cl_P iw_P ty_P ty_P_ok n_P 13 (by decide) k_fl_P_60 rfl rfl rfl d_P_noise_27 (fun S27 eS H locs hI => ?_)
      replace h := h S27 eS
      refine lv_aload_n hx hb d_P_noise_30 rfl (lv_at hl 1 rfl) ?_
      refine lv_iconst (v := 0) hx hb d_P_noise_31 (by decide) ?_
      refine z_putZ C hI 0 (by decide) kd_0 cl_P iw_P ty_P ty_P_ok n_P 14 (by decide) k_fl_P_66 rfl rfl rfl (by decide) d_P_noise_32 (fun S32 eS H locs hI => ?_)
      replace h := h S32 eS
      refine lv_iload_n hx hb d_P_noise_35 rfl (lv_at hl 0 rfl) ?_
      exact hR _ _ hcs x24 S32 _ _ 36 ls h hI d_P_noise_36
    · replace h := h.2 q
      exact h.elim
set_option maxHeartbeats 4000000 in
set_option maxRecDepth 100000 in
theorem c_G_isOpen (g : Nat) (mk : Nat) (hg : z_G g) (hmk : z_B mk) (v2 : Int32) (v3 : Int32) (v4 : Int32) (S : zS) (post : Int32 → zS → Prop) (h : P_G_isOpen g mk v2 v3 v4 S post) : z_cti l D cA 51 ad y_G_isOpen b_G_isOpen 6 (some .boolean) rm_G_isOpen [.ref (ad g), .ref (ad mk), .int v2, .int v3, .int v4] S post := by
  refine z_metz (av := [.ref (ad g), .ref (ad mk), .int v2, .int v3, .int v4]) (by decide) (Nat.le_of_ble_eq_true rfl) ⟨rfl, rfl⟩ (fun p e s m args below meth c Q ls C hcs hl hI hR => ?_)
  obtain ⟨hx, hb, hml, hown, hts, hK, hJ⟩ := id C
  unfold P_G_isOpen at h
  have hl : lv_has ls 6 [(0, .ref (ad g)), (1, .ref (ad mk)), (2, .int v2), (3, .int v3), (4, .int v4)] := hl
  refine lv_iload_n hx hb d_G_isOpen_0 rfl (lv_at hl 3 rfl) ?_
  refine lv_if_lt (tgt := 26) hx hb d_G_isOpen_1 (by decide) (fun q => ?_) (fun q => ?_)
  · replace h := h.1 q
    refine lv_iconst (v := 0) hx hb d_G_isOpen_26 (by decide) ?_
    exact hR _ _ hcs 0 S _ _ 27 ls (by decide) h hI d_G_isOpen_27
  · replace h := h.2 q
    refine lv_iload_n hx hb d_G_isOpen_4 rfl (lv_at hl 3 rfl) ?_
    refine lv_aload_n hx hb d_G_isOpen_5 rfl (lv_at hl 0 rfl) ?_
    refine z_getI C hI g (z_lt0 hg) hg.2.1 cl_G iw_G 8 (by decide) k_fl_G_33 rfl d_G_isOpen_6 ?_
    refine lv_icmp_ge (tgt := 26) hx hb d_G_isOpen_9 (by decide) (fun q => ?_) (fun q => ?_)
    · replace h := h.1 q
      refine lv_iconst (v := 0) hx hb d_G_isOpen_26 (by decide) ?_
      exact hR _ _ hcs 0 S _ _ 27 ls (by decide) h hI d_G_isOpen_27
    · replace h := h.2 q
      refine lv_iload hx hb d_G_isOpen_12 (lv_at hl 4 rfl) ?_
      refine lv_if_lt (tgt := 26) hx hb d_G_isOpen_14 (by decide) (fun q => ?_) (fun q => ?_)
      · replace h := h.1 q
        refine lv_iconst (v := 0) hx hb d_G_isOpen_26 (by decide) ?_
        exact hR _ _ hcs 0 S _ _ 27 ls (by decide) h hI d_G_isOpen_27
      · replace h := h.2 q
        refine lv_iload hx hb d_G_isOpen_17 (lv_at hl 4 rfl) ?_
        refine lv_aload_n hx hb d_G_isOpen_19 rfl (lv_at hl 0 rfl) ?_
        refine z_getI C hI g (z_lt0 hg) hg.2.1 cl_G iw_G 9 (by decide) k_fl_G_37 rfl d_G_isOpen_20 ?_
        refine lv_icmp_lt (tgt := 28) hx hb d_G_isOpen_23 (by decide) (fun q => ?_) (fun q => ?_)
        · replace h := h.1 q
          refine lv_iload hx hb d_G_isOpen_28 (lv_at hl 4 rfl) ?_
          refine lv_bipush (v := 24) hx hb d_G_isOpen_30 (by decide) ?_
          refine lv_imul hx hb d_G_isOpen_32 ?_
          refine lv_iload_n hx hb d_G_isOpen_33 rfl (lv_at hl 3 rfl) ?_
          refine lv_iadd hx hb d_G_isOpen_34 ?_
          refine lv_topi (fun x35 e35 => ?_)
          replace h := h x35 e35
          refine lv_istore (lv' := [(5, .int x35), (0, .ref (ad g)), (1, .ref (ad mk)), (2, .int v2), (3, .int v3), (4, .int v4)]) hx hb d_G_isOpen_35 hl (by decide) rfl (fun ls hl => ?_)
          refine lv_aload_n hx hb d_G_isOpen_37 rfl (lv_at hl 2 rfl) ?_
          refine lv_iload hx hb d_G_isOpen_38 (lv_at hl 0 rfl) ?_
          obtain ⟨h1, h⟩ := h
          refine z_zld C hI mk hmk.1 hmk.2 h1 d_G_isOpen_40 ?_
          refine lv_iload_n hx hb d_G_isOpen_41 rfl (lv_at hl 3 rfl) ?_
          refine lv_icmp_ne (tgt := 60) hx hb d_G_isOpen_42 (by decide) (fun q => ?_) (fun q => ?_)
          · replace h := h.1 q
            refine lv_iconst (v := 0) hx hb d_G_isOpen_60 (by decide) ?_
            exact hR _ _ hcs 0 S _ _ 61 ls (by decide) h hI d_G_isOpen_61
          · replace h := h.2 q
            refine lv_aload_n hx hb d_G_isOpen_45 rfl (lv_at hl 1 rfl) ?_
            refine z_getR C hI g (z_lt0 hg) hg.2.1 cl_G iw_G 0 (by decide) k_fl_G_9 rfl d_G_isOpen_46 ?_
            refine lv_iload hx hb d_G_isOpen_49 (lv_at hl 0 rfl) ?_
            obtain ⟨h1, h⟩ := h
            refine z_ild C hI (g + 1) (z_lt hg 1 (by decide)) hg.2.2.1 h1 d_G_isOpen_51 ?_
            refine lv_iconst (v := (-1)) hx hb d_G_isOpen_52 (by decide) ?_
            refine lv_icmp_ne (tgt := 60) hx hb d_G_isOpen_53 (by decide) (fun q => ?_) (fun q => ?_)
            · replace h := h.1 q
              refine lv_iconst (v := 0) hx hb d_G_isOpen_60 (by decide) ?_
              exact hR _ _ hcs 0 S _ _ 61 ls (by decide) h hI d_G_isOpen_61
            · replace h := h.2 q
              refine lv_iconst (v := 1) hx hb d_G_isOpen_56 (by decide) ?_
              refine lv_goto (tgt := 61) hx hb d_G_isOpen_57 (by decide) ?_
              exact hR _ _ hcs 1 S _ _ 61 ls (by decide) h hI d_G_isOpen_61
        · replace h := h.2 q
          refine lv_iconst (v := 0) hx hb d_G_isOpen_26 (by decide) ?_
          exact hR _ _ hcs 0 S _ _ 27 ls (by decide) h hI d_G_isOpen_27
set_option maxHeartbeats 4000000 in
set_option maxRecDepth 100000 in
theorem c_G_take (g : Nat) (hg : z_G g) (v1 : Int32) (v2 : Int32) (S : zS) (post : zS → Prop) (h : P_G_take g v1 v2 S post) : z_ctv l D cA 51 ad y_G_take b_G_take 4 none rm_G_take [.ref (ad g), .int v1, .int v2] S post := by
  refine z_metv (av := [.ref (ad g), .int v1, .int v2]) (by decide) (Nat.le_of_ble_eq_true rfl) ⟨rfl, rfl⟩ (fun p e s m args below meth c Q ls C hcs hl hI hR => ?_)
  obtain ⟨hx, hb, hml, hown, hts, hK, hJ⟩ := id C
  unfold P_G_take at h
  have hl : lv_has ls 4 [(0, .ref (ad g)), (1, .int v1), (2, .int v2)] := hl
  refine lv_iload_n hx hb d_G_take_0 rfl (lv_at hl 2 rfl) ?_
  refine lv_bipush (v := 24) hx hb d_G_take_1 (by decide) ?_
  refine lv_imul hx hb d_G_take_3 ?_
  refine lv_iload_n hx hb d_G_take_4 rfl (lv_at hl 1 rfl) ?_
  refine lv_iadd hx hb d_G_take_5 ?_
  refine lv_topi (fun x6 e6 => ?_)
  replace h := h x6 e6
  refine lv_istore_n (lv' := [(3, .int x6), (0, .ref (ad g)), (1, .int v1), (2, .int v2)]) hx hb d_G_take_6 rfl hl (by decide) rfl (fun ls hl => ?_)
  refine lv_aload_n hx hb d_G_take_7 rfl (lv_at hl 1 rfl) ?_
  refine z_getR C hI g (z_lt0 hg) hg.2.1 cl_G iw_G 0 (by decide) k_fl_G_9 rfl d_G_take_8 ?_
  refine lv_iload_n hx hb d_G_take_11 rfl (lv_at hl 0 rfl) ?_
  refine lv_aload_n hx hb d_G_take_12 rfl (lv_at hl 1 rfl) ?_
  refine z_getI C hI g (z_lt0 hg) hg.2.1 cl_G iw_G 6 (by decide) k_fl_G_46 rfl d_G_take_13 ?_
  obtain ⟨h1, h⟩ := h
  refine z_ist C hI (g + 1) (z_lt hg 1 (by decide)) hg.2.2.1 h1 d_G_take_16 (fun S16 eS H locs hI => ?_)
  replace h := h S16 eS
  refine lv_aload_n hx hb d_G_take_17 rfl (lv_at hl 1 rfl) ?_
  refine z_getR C hI g (z_lt0 hg) hg.2.1 cl_G iw_G 7 (by decide) k_fl_G_30 rfl d_G_take_18 ?_
  refine lv_aload_n hx hb d_G_take_21 rfl (lv_at hl 1 rfl) ?_
  refine z_getR C hI g (z_lt0 hg) hg.2.1 cl_G iw_G 5 (by decide) k_fl_G_27 rfl d_G_take_22 ?_
  refine lv_aload_n hx hb d_G_take_25 rfl (lv_at hl 1 rfl) ?_
  refine z_getI C hI g (z_lt0 hg) hg.2.1 cl_G iw_G 6 (by decide) k_fl_G_46 rfl d_G_take_26 ?_
  obtain ⟨h1, h⟩ := h
  refine z_ild C hI (g + 6) (z_lt hg 6 (by decide)) hg.2.2.2.2.2.2.2.1 h1 d_G_take_29 ?_
  refine lv_iload_n hx hb d_G_take_30 rfl (lv_at hl 0 rfl) ?_
  obtain ⟨h1, h⟩ := h
  refine z_ist C hI (g + 7) (z_lt hg 7 (by decide)) hg.2.2.2.2.2.2.2.2 h1 d_G_take_31 (fun S31 eS H locs hI => ?_)
  replace h := h S31 eS
  refine lv_aload_n hx hb d_G_take_32 rfl (lv_at hl 1 rfl) ?_
  refine z_getR C hI g (z_lt0 hg) hg.2.1 cl_G iw_G 5 (by decide) k_fl_G_27 rfl d_G_take_33 ?_
  refine lv_aload_n hx hb d_G_take_36 rfl (lv_at hl 1 rfl) ?_
  refine z_getI C hI g (z_lt0 hg) hg.2.1 cl_G iw_G 6 (by decide) k_fl_G_46 rfl d_G_take_37 ?_
  refine lv_dup2_11 hx hb d_G_take_40 rfl rfl ?_
  obtain ⟨h1, h⟩ := h
  refine z_ild C hI (g + 6) (z_lt hg 6 (by decide)) hg.2.2.2.2.2.2.2.1 h1 d_G_take_41 ?_
  refine lv_iconst (v := 1) hx hb d_G_take_42 (by decide) ?_
  refine lv_iadd hx hb d_G_take_43 ?_
  obtain ⟨h1, h⟩ := h
  refine z_ist C hI (g + 6) (z_lt hg 6 (by decide)) hg.2.2.2.2.2.2.2.1 h1 d_G_take_44 (fun S44 eS H locs hI => ?_)
  replace h := h S44 eS
  refine lv_aload_n hx hb d_G_take_45 rfl (lv_at hl 1 rfl) ?_
  refine z_getR C hI g (z_lt0 hg) hg.2.1 cl_G iw_G 1 (by decide) k_fl_G_15 rfl d_G_take_46 ?_
  refine lv_aload_n hx hb d_G_take_49 rfl (lv_at hl 1 rfl) ?_
  refine z_getI C hI g (z_lt0 hg) hg.2.1 cl_G iw_G 6 (by decide) k_fl_G_46 rfl d_G_take_50 ?_
  refine lv_aload_n hx hb d_G_take_53 rfl (lv_at hl 1 rfl) ?_
  refine z_getR C hI g (z_lt0 hg) hg.2.1 cl_G iw_G 1 (by decide) k_fl_G_15 rfl d_G_take_54 ?_
  refine lv_aload_n hx hb d_G_take_57 rfl (lv_at hl 1 rfl) ?_
  refine z_getI C hI g (z_lt0 hg) hg.2.1 cl_G iw_G 6 (by decide) k_fl_G_46 rfl d_G_take_58 ?_
  obtain ⟨h1, h⟩ := h
  refine z_ild C hI (g + 2) (z_lt hg 2 (by decide)) hg.2.2.2.1 h1 d_G_take_61 ?_
  refine lv_iload_n hx hb d_G_take_62 rfl (lv_at hl 2 rfl) ?_
  refine z_mmin C hl.1 k_ml_G_64 (Nat.le_of_ble_eq_true rfl) (Nat.le_of_ble_eq_true rfl) hcs d_G_take_63 ?_
  obtain ⟨h1, h⟩ := h
  refine z_ist C hI (g + 2) (z_lt hg 2 (by decide)) hg.2.2.2.1 h1 d_G_take_66 (fun S66 eS H locs hI => ?_)
  replace h := h S66 eS
  refine lv_aload_n hx hb d_G_take_67 rfl (lv_at hl 1 rfl) ?_
  refine z_getR C hI g (z_lt0 hg) hg.2.1 cl_G iw_G 3 (by decide) k_fl_G_21 rfl d_G_take_68 ?_
  refine lv_aload_n hx hb d_G_take_71 rfl (lv_at hl 1 rfl) ?_
  refine z_getI C hI g (z_lt0 hg) hg.2.1 cl_G iw_G 6 (by decide) k_fl_G_46 rfl d_G_take_72 ?_
  refine lv_aload_n hx hb d_G_take_75 rfl (lv_at hl 1 rfl) ?_
  refine z_getR C hI g (z_lt0 hg) hg.2.1 cl_G iw_G 3 (by decide) k_fl_G_21 rfl d_G_take_76 ?_
  refine lv_aload_n hx hb d_G_take_79 rfl (lv_at hl 1 rfl) ?_
  refine z_getI C hI g (z_lt0 hg) hg.2.1 cl_G iw_G 6 (by decide) k_fl_G_46 rfl d_G_take_80 ?_
  obtain ⟨h1, h⟩ := h
  refine z_ild C hI (g + 4) (z_lt hg 4 (by decide)) hg.2.2.2.2.2.1 h1 d_G_take_83 ?_
  refine lv_iload_n hx hb d_G_take_84 rfl (lv_at hl 2 rfl) ?_
  refine z_mmax C hl.1 k_ml_G_70 (Nat.le_of_ble_eq_true rfl) (Nat.le_of_ble_eq_true rfl) hcs d_G_take_85 ?_
  obtain ⟨h1, h⟩ := h
  refine z_ist C hI (g + 4) (z_lt hg 4 (by decide)) hg.2.2.2.2.2.1 h1 d_G_take_88 (fun S88 eS H locs hI => ?_)
  replace h := h S88 eS
  refine lv_aload_n hx hb d_G_take_89 rfl (lv_at hl 1 rfl) ?_
  refine z_getR C hI g (z_lt0 hg) hg.2.1 cl_G iw_G 4 (by decide) k_fl_G_24 rfl d_G_take_90 ?_
  refine lv_aload_n hx hb d_G_take_93 rfl (lv_at hl 1 rfl) ?_
  refine z_getI C hI g (z_lt0 hg) hg.2.1 cl_G iw_G 6 (by decide) k_fl_G_46 rfl d_G_take_94 ?_
  refine lv_aload_n hx hb d_G_take_97 rfl (lv_at hl 1 rfl) ?_
  refine z_getR C hI g (z_lt0 hg) hg.2.1 cl_G iw_G 4 (by decide) k_fl_G_24 rfl d_G_take_98 ?_
  refine lv_aload_n hx hb d_G_take_101 rfl (lv_at hl 1 rfl) ?_
  refine z_getI C hI g (z_lt0 hg) hg.2.1 cl_G iw_G 6 (by decide) k_fl_G_46 rfl d_G_take_102 ?_
  obtain ⟨h1, h⟩ := h
  refine z_ild C hI (g + 5) (z_lt hg 5 (by decide)) hg.2.2.2.2.2.2.1 h1 d_G_take_105 ?_
  refine lv_iload_n hx hb d_G_take_106 rfl (lv_at hl 3 rfl) ?_
  refine z_mmax C hl.1 k_ml_G_70 (Nat.le_of_ble_eq_true rfl) (Nat.le_of_ble_eq_true rfl) hcs d_G_take_107 ?_
  obtain ⟨h1, h⟩ := h
  refine z_ist C hI (g + 5) (z_lt hg 5 (by decide)) hg.2.2.2.2.2.2.1 h1 d_G_take_110 (fun S110 eS H locs hI => ?_)
  replace h := h S110 eS
  exact hR _ _ hcs S110 _ _ 111 ls h hI d_G_take_111
set_option maxHeartbeats 4000000 in
set_option maxRecDepth 100000 in
theorem c_G_begin (g : Nat) (hg : z_G g) (v1 : Int32) (v2 : Int32) (S : zS) (post : zS → Prop) (h : P_G_begin g v1 v2 S post) : z_ctv l D cA 51 ad y_G_begin b_G_begin 3 none rm_G_begin [.ref (ad g), .int v1, .int v2] S post := by
  refine z_metv (av := [.ref (ad g), .int v1, .int v2]) (by decide) (Nat.le_of_ble_eq_true rfl) ⟨rfl, rfl⟩ (fun p e s m args below meth c Q ls C hcs hl hI hR => ?_)
  obtain ⟨hx, hb, hml, hown, hts, hK, hJ⟩ := id C
  unfold P_G_begin at h
  have hl : lv_has ls 3 [(0, .ref (ad g)), (1, .int v1), (2, .int v2)] := hl
  refine lv_aload_n hx hb d_G_begin_0 rfl (lv_at hl 0 rfl) ?_
  refine z_getR C hI g (z_lt0 hg) hg.2.1 cl_G iw_G 1 (by decide) k_fl_G_15 rfl d_G_begin_1 ?_
  refine lv_aload_n hx hb d_G_begin_4 rfl (lv_at hl 0 rfl) ?_
  refine z_getI C hI g (z_lt0 hg) hg.2.1 cl_G iw_G 6 (by decide) k_fl_G_46 rfl d_G_begin_5 ?_
  refine lv_iload_n hx hb d_G_begin_8 rfl (lv_at hl 1 rfl) ?_
  obtain ⟨h1, h⟩ := h
  refine z_ist C hI (g + 2) (z_lt hg 2 (by decide)) hg.2.2.2.1 h1 d_G_begin_9 (fun S9 eS H locs hI => ?_)
  replace h := h S9 eS
  refine lv_aload_n hx hb d_G_begin_10 rfl (lv_at hl 0 rfl) ?_
  refine z_getR C hI g (z_lt0 hg) hg.2.1 cl_G iw_G 2 (by decide) k_fl_G_18 rfl d_G_begin_11 ?_
  refine lv_aload_n hx hb d_G_begin_14 rfl (lv_at hl 0 rfl) ?_
  refine z_getI C hI g (z_lt0 hg) hg.2.1 cl_G iw_G 6 (by decide) k_fl_G_46 rfl d_G_begin_15 ?_
  refine lv_iload_n hx hb d_G_begin_18 rfl (lv_at hl 2 rfl) ?_
  obtain ⟨h1, h⟩ := h
  refine z_ist C hI (g + 3) (z_lt hg 3 (by decide)) hg.2.2.2.2.1 h1 d_G_begin_19 (fun S19 eS H locs hI => ?_)
  replace h := h S19 eS
  refine lv_aload_n hx hb d_G_begin_20 rfl (lv_at hl 0 rfl) ?_
  refine z_getR C hI g (z_lt0 hg) hg.2.1 cl_G iw_G 3 (by decide) k_fl_G_21 rfl d_G_begin_21 ?_
  refine lv_aload_n hx hb d_G_begin_24 rfl (lv_at hl 0 rfl) ?_
  refine z_getI C hI g (z_lt0 hg) hg.2.1 cl_G iw_G 6 (by decide) k_fl_G_46 rfl d_G_begin_25 ?_
  refine lv_iload_n hx hb d_G_begin_28 rfl (lv_at hl 1 rfl) ?_
  obtain ⟨h1, h⟩ := h
  refine z_ist C hI (g + 4) (z_lt hg 4 (by decide)) hg.2.2.2.2.2.1 h1 d_G_begin_29 (fun S29 eS H locs hI => ?_)
  replace h := h S29 eS
  refine lv_aload_n hx hb d_G_begin_30 rfl (lv_at hl 0 rfl) ?_
  refine z_getR C hI g (z_lt0 hg) hg.2.1 cl_G iw_G 4 (by decide) k_fl_G_24 rfl d_G_begin_31 ?_
  refine lv_aload_n hx hb d_G_begin_34 rfl (lv_at hl 0 rfl) ?_
  refine z_getI C hI g (z_lt0 hg) hg.2.1 cl_G iw_G 6 (by decide) k_fl_G_46 rfl d_G_begin_35 ?_
  refine lv_iload_n hx hb d_G_begin_38 rfl (lv_at hl 2 rfl) ?_
  obtain ⟨h1, h⟩ := h
  refine z_ist C hI (g + 5) (z_lt hg 5 (by decide)) hg.2.2.2.2.2.2.1 h1 d_G_begin_39 (fun S39 eS H locs hI => ?_)
  replace h := h S39 eS
  refine lv_aload_n hx hb d_G_begin_40 rfl (lv_at hl 0 rfl) ?_
  refine z_getR C hI g (z_lt0 hg) hg.2.1 cl_G iw_G 5 (by decide) k_fl_G_27 rfl d_G_begin_41 ?_
  refine lv_aload_n hx hb d_G_begin_44 rfl (lv_at hl 0 rfl) ?_
  refine z_getI C hI g (z_lt0 hg) hg.2.1 cl_G iw_G 6 (by decide) k_fl_G_46 rfl d_G_begin_45 ?_
  refine lv_iconst (v := 0) hx hb d_G_begin_48 (by decide) ?_
  obtain ⟨h1, h⟩ := h
  refine z_ist C hI (g + 6) (z_lt hg 6 (by decide)) hg.2.2.2.2.2.2.2.1 h1 d_G_begin_49 (fun S49 eS H locs hI => ?_)
  replace h := h S49 eS
  refine lv_aload_n hx hb d_G_begin_50 rfl (lv_at hl 0 rfl) ?_
  refine lv_iload_n hx hb d_G_begin_51 rfl (lv_at hl 1 rfl) ?_
  refine lv_iload_n hx hb d_G_begin_52 rfl (lv_at hl 2 rfl) ?_
  refine z_callVv C hI g (z_lt0 hg) hg.2.1 cl_G (As := [.int v1, .int v2]) (rest := []) (c_G_take g hg v1 v2 _ _ h) wc_G_take k_ml_G_61 rfl rfl (Nat.le_of_ble_eq_true rfl) (Nat.le_of_ble_eq_true rfl) hcs hl.1 (Nat.le_of_ble_eq_true rfl) rfl d_G_begin_53 (fun S53 H locs h hI => ?_)
  exact hR _ _ hcs S53 _ _ 56 ls h hI d_G_begin_56
set_option maxHeartbeats 4000000 in
set_option maxRecDepth 100000 in
theorem w_G_gather_109 (C : z_CT p s m args c R_G b_G_gather 10 D cA 51 ad) (hcs : cells ≤ rm_G_gather.cells ∧ slots ≤ rm_G_gather.slots) (g : Nat) (mk : Nat) (hg : z_G g) (hmk : z_B mk) (post : zS → Prop) (K70 : Int32 → zS → Prop) (v2 : Int32) (v3 : Int32) (v4 : Int32) (v5 : Int32) (v6 : Int32) (v7 : Int32) (v8 : Int32) (hR : z_Rv p l e rm_G_gather s m args below meth c Q b_G_gather D cA 51 ad post) (kK70 : ∀ (v8 : Int32) (S : zS) (H : Heap) (locs : List Loc) (ls : Array Slot), K70 v8 S → z_I D cA 51 ad s.heap S H locs → lv_has ls 10 [(0, .ref (ad g)), (1, .ref (ad mk)), (2, .int v2), (3, .int v3), (4, .int v4), (5, .int v5), (6, .int v6), (7, .int v7), (8, .int v8)] → W p l e rm_G_gather s m args below meth c H locs cells slots Q (F0 m 70 ls [])) (S : zS) (H : Heap) (locs : List Loc) (ls : Array Slot) (hI : z_I D cA 51 ad s.heap S H locs) (hl : lv_has ls 10 [(0, .ref (ad g)), (1, .ref (ad mk)), (2, .int v2), (3, .int v3), (4, .int v4), (5, .int v5), (6, .int v6), (7, .int v7), (8, .int v8)]) (h : J_G_gather_109 g mk post K70 v2 v3 v4 v5 v6 v7 v8 S) : W p l e rm_G_gather s m args below meth c H locs cells slots Q (F0 m 109 ls []) := by
  obtain ⟨hx, hb, hml, hown, hts, hK, hJ⟩ := id C
  unfold J_G_gather_109 at h
  refine lv_aload_n hx hb d_G_gather_109 rfl (lv_at hl 0 rfl) ?_
  refine lv_aload_n hx hb d_G_gather_110 rfl (lv_at hl 1 rfl) ?_
  refine lv_iload_n hx hb d_G_gather_111 rfl (lv_at hl 2 rfl) ?_
  refine lv_iload hx hb d_G_gather_112 (lv_at hl 8 rfl) ?_
  refine lv_iload hx hb d_G_gather_114 (lv_at hl 7 rfl) ?_
  refine z_callVi C hI g (z_lt0 hg) hg.2.1 cl_G (As := [.ref (ad mk), .int v2, .int v8, .int v7]) (rest := []) (c_G_isOpen g mk hg hmk v2 v8 v7 _ _ h) wc_G_isOpen k_ml_G_49 rfl rfl (Nat.le_of_ble_eq_true rfl) (Nat.le_of_ble_eq_true rfl) hcs hl.1 (Nat.le_of_ble_eq_true rfl) rfl d_G_gather_116 (fun r116 S116 H locs h hI => ?_)
  refine lv_if_eq (tgt := 130) hx hb d_G_gather_119 (by decide) (fun q => ?_) (fun q => ?_)
  · replace h := h.1 q
    obtain ⟨x130, e130⟩ : ∃ y : Int32, y = v8 + 1 := ⟨_, rfl⟩
    replace h := h x130 e130
    refine lv_iinc (v := x130) (lv' := [(8, .int x130), (0, .ref (ad g)), (1, .ref (ad mk)), (2, .int v2), (3, .int v3), (4, .int v4), (5, .int v5), (6, .int v6), (7, .int v7)]) hx hb d_G_gather_130 hl (k := 8) rfl (by rw [e130]; rfl) (by decide) rfl (fun ls hl => ?_)
    refine lv_goto (tgt := 70) hx hb d_G_gather_133 (by decide) ?_
    exact kK70 x130 S116 _ _ ls h hI (lv_sub hl [1, 2, 3, 4, 5, 6, 7, 8, 0] rfl)
  · replace h := h.2 q
    refine lv_aload_n hx hb d_G_gather_122 rfl (lv_at hl 0 rfl) ?_
    refine lv_iload hx hb d_G_gather_123 (lv_at hl 8 rfl) ?_
    refine lv_iload hx hb d_G_gather_125 (lv_at hl 7 rfl) ?_
    refine z_callVv C hI g (z_lt0 hg) hg.2.1 cl_G (As := [.int v8, .int v7]) (rest := []) (c_G_take g hg v8 v7 _ _ h) wc_G_take k_ml_G_61 rfl rfl (Nat.le_of_ble_eq_true rfl) (Nat.le_of_ble_eq_true rfl) hcs hl.1 (Nat.le_of_ble_eq_true rfl) rfl d_G_gather_127 (fun S127 H locs h hI => ?_)
    obtain ⟨x130, e130⟩ : ∃ y : Int32, y = v8 + 1 := ⟨_, rfl⟩
    replace h := h x130 e130
    refine lv_iinc (v := x130) (lv' := [(8, .int x130), (0, .ref (ad g)), (1, .ref (ad mk)), (2, .int v2), (3, .int v3), (4, .int v4), (5, .int v5), (6, .int v6), (7, .int v7)]) hx hb d_G_gather_130 hl (k := 8) rfl (by rw [e130]; rfl) (by decide) rfl (fun ls hl => ?_)
    refine lv_goto (tgt := 70) hx hb d_G_gather_133 (by decide) ?_
    exact kK70 x130 S127 _ _ ls h hI (lv_sub hl [1, 2, 3, 4, 5, 6, 7, 8, 0] rfl)
set_option maxHeartbeats 4000000 in
set_option maxRecDepth 100000 in
theorem w_G_gather_98 (C : z_CT p s m args c R_G b_G_gather 10 D cA 51 ad) (hcs : cells ≤ rm_G_gather.cells ∧ slots ≤ rm_G_gather.slots) (g : Nat) (mk : Nat) (hg : z_G g) (hmk : z_B mk) (post : zS → Prop) (K70 : Int32 → zS → Prop) (v2 : Int32) (v3 : Int32) (v4 : Int32) (v5 : Int32) (v6 : Int32) (v7 : Int32) (v8 : Int32) (t0 : Int32) (hR : z_Rv p l e rm_G_gather s m args below meth c Q b_G_gather D cA 51 ad post) (kK70 : ∀ (v8 : Int32) (S : zS) (H : Heap) (locs : List Loc) (ls : Array Slot), K70 v8 S → z_I D cA 51 ad s.heap S H locs → lv_has ls 10 [(0, .ref (ad g)), (1, .ref (ad mk)), (2, .int v2), (3, .int v3), (4, .int v4), (5, .int v5), (6, .int v6), (7, .int v7), (8, .int v8)] → W p l e rm_G_gather s m args below meth c H locs cells slots Q (F0 m 70 ls [])) (S : zS) (H : Heap) (locs : List Loc) (ls : Array Slot) (hI : z_I D cA 51 ad s.heap S H locs) (hl : lv_has ls 10 [(0, .ref (ad g)), (1, .ref (ad mk)), (2, .int v2), (3, .int v3), (4, .int v4), (5, .int v5), (6, .int v6), (7, .int v7), (8, .int v8)]) (h : J_G_gather_98 g mk post K70 v2 v3 v4 v5 v6 v7 v8 t0 S) : W p l e rm_G_gather s m args below meth c H locs cells slots Q (F0 m 98 ls [.int t0]) := by
  obtain ⟨hx, hb, hml, hown, hts, hK, hJ⟩ := id C
  unfold J_G_gather_98 at h
  refine lv_istore (lv' := [(9, .int t0), (0, .ref (ad g)), (1, .ref (ad mk)), (2, .int v2), (3, .int v3), (4, .int v4), (5, .int v5), (6, .int v6), (7, .int v7), (8, .int v8)]) hx hb d_G_gather_98 hl (by decide) rfl (fun ls hl => ?_)
  refine lv_iload hx hb d_G_gather_100 (lv_at hl 0 rfl) ?_
  refine lv_if_ne (tgt := 109) hx hb d_G_gather_102 (by decide) (fun q => ?_) (fun q => ?_)
  · replace h := h.1 q
    exact w_G_gather_109 C hcs g mk hg hmk _ _ v2 v3 v4 v5 v6 v7 v8 hR kK70 S _ _ ls hI (lv_sub hl [1, 2, 3, 4, 5, 6, 7, 8, 9] rfl) h
  · replace h := h.2 q
    refine lv_iload_n hx hb d_G_gather_105 rfl (lv_at hl 4 rfl) ?_
    refine lv_if_eq (tgt := 130) hx hb d_G_gather_106 (by decide) (fun q => ?_) (fun q => ?_)
    · replace h := h.1 q
      obtain ⟨x130, e130⟩ : ∃ y : Int32, y = v8 + 1 := ⟨_, rfl⟩
      replace h := h x130 e130
      refine lv_iinc (v := x130) (lv' := [(8, .int x130), (9, .int t0), (0, .ref (ad g)), (1, .ref (ad mk)), (2, .int v2), (3, .int v3), (4, .int v4), (5, .int v5), (6, .int v6), (7, .int v7)]) hx hb d_G_gather_130 hl (k := 9) rfl (by rw [e130]; rfl) (by decide) rfl (fun ls hl => ?_)
      refine lv_goto (tgt := 70) hx hb d_G_gather_133 (by decide) ?_
      exact kK70 x130 S _ _ ls h hI (lv_sub hl [2, 3, 4, 5, 6, 7, 8, 9, 0] rfl)
    · replace h := h.2 q
      exact w_G_gather_109 C hcs g mk hg hmk _ _ v2 v3 v4 v5 v6 v7 v8 hR kK70 S _ _ ls hI (lv_sub hl [1, 2, 3, 4, 5, 6, 7, 8, 9] rfl) h
set_option maxHeartbeats 4000000 in
set_option maxRecDepth 100000 in
theorem w_G_gather_93 (C : z_CT p s m args c R_G b_G_gather 10 D cA 51 ad) (hcs : cells ≤ rm_G_gather.cells ∧ slots ≤ rm_G_gather.slots) (g : Nat) (mk : Nat) (hg : z_G g) (hmk : z_B mk) (post : zS → Prop) (K70 : Int32 → zS → Prop) (v2 : Int32) (v3 : Int32) (v4 : Int32) (v5 : Int32) (v6 : Int32) (v7 : Int32) (v8 : Int32) (hR : z_Rv p l e rm_G_gather s m args below meth c Q b_G_gather D cA 51 ad post) (kK70 : ∀ (v8 : Int32) (S : zS) (H : Heap) (locs : List Loc) (ls : Array Slot), K70 v8 S → z_I D cA 51 ad s.heap S H locs → lv_has ls 10 [(0, .ref (ad g)), (1, .ref (ad mk)), (2, .int v2), (3, .int v3), (4, .int v4), (5, .int v5), (6, .int v6), (7, .int v7), (8, .int v8)] → W p l e rm_G_gather s m args below meth c H locs cells slots Q (F0 m 70 ls [])) (S : zS) (H : Heap) (locs : List Loc) (ls : Array Slot) (hI : z_I D cA 51 ad s.heap S H locs) (hl : lv_has ls 10 [(0, .ref (ad g)), (1, .ref (ad mk)), (2, .int v2), (3, .int v3), (4, .int v4), (5, .int v5), (6, .int v6), (7, .int v7), (8, .int v8)]) (h : J_G_gather_93 g mk post K70 v2 v3 v4 v5 v6 v7 v8 S) : W p l e rm_G_gather s m args below meth c H locs cells slots Q (F0 m 93 ls []) := by
  obtain ⟨hx, hb, hml, hown, hts, hK, hJ⟩ := id C
  unfold J_G_gather_93 at h
  refine lv_iconst (v := 1) hx hb d_G_gather_93 (by decide) ?_
  refine lv_goto (tgt := 98) hx hb d_G_gather_94 (by decide) ?_
  exact w_G_gather_98 C hcs g mk hg hmk _ _ v2 v3 v4 v5 v6 v7 v8 1 hR kK70 S _ _ ls hI (lv_sub hl [0, 1, 2, 3, 4, 5, 6, 7, 8] rfl) h
set_option maxHeartbeats 4000000 in
set_option maxRecDepth 100000 in
theorem w_G_gather_70 (C : z_CT p s m args c R_G b_G_gather 10 D cA 51 ad) (hcs : cells ≤ rm_G_gather.cells ∧ slots ≤ rm_G_gather.slots) (g : Nat) (mk : Nat) (hg : z_G g) (hmk : z_B mk) (post : zS → Prop) (K136 : zS → Prop) (v2 : Int32) (v3 : Int32) (v4 : Int32) (v5 : Int32) (v6 : Int32) (v7 : Int32) (hR : z_Rv p l e rm_G_gather s m args below meth c Q b_G_gather D cA 51 ad post) (kK136 : ∀ (S : zS) (H : Heap) (locs : List Loc) (ls : Array Slot), K136 S → z_I D cA 51 ad s.heap S H locs → lv_has ls 10 [(0, .ref (ad g)), (1, .ref (ad mk)), (2, .int v2), (3, .int v3), (4, .int v4), (5, .int v5), (6, .int v6), (7, .int v7)] → W p l e rm_G_gather s m args below meth c H locs cells slots Q (F0 m 136 ls [])) : ∀ (n : Nat) (v8 : Int32) (S : zS) (H : Heap) (locs : List Loc) (ls : Array Slot), z_I D cA 51 ad s.heap S H locs → lv_has ls 10 [(0, .ref (ad g)), (1, .ref (ad mk)), (2, .int v2), (3, .int v3), (4, .int v4), (5, .int v5), (6, .int v6), (7, .int v7), (8, .int v8)] → L_G_gather_70 g mk post K136 v2 v3 v4 v5 v6 v7 n v8 S → W p l e rm_G_gather s m args below meth c H locs cells slots Q (F0 m 70 ls []) := by
  obtain ⟨hx, hb, hml, hown, hts, hK, hJ⟩ := id C
  intro n
  induction n with
  | zero => intro v8 S H locs ls hI hl h; exact h.elim
  | succ n ih =>
    intro v8 S H locs ls hI hl h
    rw [L_G_gather_70] at h
    refine lv_iload hx hb d_G_gather_70 (lv_at hl 8 rfl) ?_
    refine lv_iload hx hb d_G_gather_72 (lv_at hl 5 rfl) ?_
    refine lv_iconst (v := 1) hx hb d_G_gather_74 (by decide) ?_
    refine lv_iadd hx hb d_G_gather_75 ?_
    refine lv_icmp_gt (tgt := 136) hx hb d_G_gather_76 (by decide) (fun q => ?_) (fun q => ?_)
    · replace h := h.1 q
      exact kK136 S _ _ ls h hI (lv_sub hl [0, 1, 2, 3, 4, 5, 6, 7] rfl)
    · replace h := h.2 q
      refine lv_iload hx hb d_G_gather_79 (lv_at hl 8 rfl) ?_
      refine lv_iload hx hb d_G_gather_81 (lv_at hl 5 rfl) ?_
      refine lv_icmp_eq (tgt := 93) hx hb d_G_gather_83 (by decide) (fun q => ?_) (fun q => ?_)
      · replace h := h.1 q
        exact w_G_gather_93 C hcs g mk hg hmk _ _ v2 v3 v4 v5 v6 v7 v8 hR (fun v8 S H locs ls h hI hl => ih v8 S H locs ls hI hl h) S _ _ ls hI (lv_sub hl [0, 1, 2, 3, 4, 5, 6, 7, 8] rfl) h
      · replace h := h.2 q
        refine lv_iload hx hb d_G_gather_86 (lv_at hl 7 rfl) ?_
        refine lv_iload hx hb d_G_gather_88 (lv_at hl 6 rfl) ?_
        refine lv_icmp_ne (tgt := 97) hx hb d_G_gather_90 (by decide) (fun q => ?_) (fun q => ?_)
        · replace h := h.1 q
          refine lv_iconst (v := 0) hx hb d_G_gather_97 (by decide) ?_
          exact w_G_gather_98 C hcs g mk hg hmk _ _ v2 v3 v4 v5 v6 v7 v8 0 hR (fun v8 S H locs ls h hI hl => ih v8 S H locs ls hI hl h) S _ _ ls hI (lv_sub hl [0, 1, 2, 3, 4, 5, 6, 7, 8] rfl) h
        · replace h := h.2 q
          exact w_G_gather_93 C hcs g mk hg hmk _ _ v2 v3 v4 v5 v6 v7 v8 hR (fun v8 S H locs ls h hI hl => ih v8 S H locs ls hI hl h) S _ _ ls hI (lv_sub hl [0, 1, 2, 3, 4, 5, 6, 7, 8] rfl) h
set_option maxHeartbeats 4000000 in
set_option maxRecDepth 100000 in
theorem w_G_gather_55 (C : z_CT p s m args c R_G b_G_gather 10 D cA 51 ad) (hcs : cells ≤ rm_G_gather.cells ∧ slots ≤ rm_G_gather.slots) (g : Nat) (mk : Nat) (hg : z_G g) (hmk : z_B mk) (post : zS → Prop) (K142 : zS → Prop) (v2 : Int32) (v3 : Int32) (v4 : Int32) (v5 : Int32) (v6 : Int32) (hR : z_Rv p l e rm_G_gather s m args below meth c Q b_G_gather D cA 51 ad post) (kK142 : ∀ (S : zS) (H : Heap) (locs : List Loc) (ls : Array Slot), K142 S → z_I D cA 51 ad s.heap S H locs → lv_has ls 10 [(0, .ref (ad g)), (1, .ref (ad mk)), (2, .int v2), (3, .int v3), (4, .int v4)] → W p l e rm_G_gather s m args below meth c H locs cells slots Q (F0 m 142 ls [])) : ∀ (n : Nat) (v7 : Int32) (S : zS) (H : Heap) (locs : List Loc) (ls : Array Slot), z_I D cA 51 ad s.heap S H locs → lv_has ls 10 [(0, .ref (ad g)), (1, .ref (ad mk)), (2, .int v2), (3, .int v3), (4, .int v4), (5, .int v5), (6, .int v6), (7, .int v7)] → L_G_gather_55 g mk post K142 v2 v3 v4 v5 v6 n v7 S → W p l e rm_G_gather s m args below meth c H locs cells slots Q (F0 m 55 ls []) := by
  obtain ⟨hx, hb, hml, hown, hts, hK, hJ⟩ := id C
  intro n
  induction n with
  | zero => intro v7 S H locs ls hI hl h; exact h.elim
  | succ n ih =>
    intro v7 S H locs ls hI hl h
    rw [L_G_gather_55] at h
    refine lv_iload hx hb d_G_gather_55 (lv_at hl 7 rfl) ?_
    refine lv_iload hx hb d_G_gather_57 (lv_at hl 6 rfl) ?_
    refine lv_iconst (v := 1) hx hb d_G_gather_59 (by decide) ?_
    refine lv_iadd hx hb d_G_gather_60 ?_
    refine lv_icmp_gt (tgt := 142) hx hb d_G_gather_61 (by decide) (fun q => ?_) (fun q => ?_)
    · replace h := h.1 q
      exact kK142 S _ _ ls h hI (lv_sub hl [0, 1, 2, 3, 4] rfl)
    · replace h := h.2 q
      refine lv_iload hx hb d_G_gather_64 (lv_at hl 5 rfl) ?_
      refine lv_iconst (v := 1) hx hb d_G_gather_66 (by decide) ?_
      refine lv_isub hx hb d_G_gather_67 ?_
      refine lv_topi (fun x68 e68 => ?_)
      replace h := h x68 e68
      refine lv_istore (lv' := [(8, .int x68), (0, .ref (ad g)), (1, .ref (ad mk)), (2, .int v2), (3, .int v3), (4, .int v4), (5, .int v5), (6, .int v6), (7, .int v7)]) hx hb d_G_gather_68 hl (by decide) rfl (fun ls hl => ?_)
      obtain ⟨k70, h⟩ := h
      refine w_G_gather_70 C hcs g mk hg hmk _ _ v2 v3 v4 v5 v6 v7 hR (fun S70e H locs ls h hI hl => ?_) k70 x68 S _ _ ls hI (lv_sub hl [1, 2, 3, 4, 5, 6, 7, 8, 0] rfl) h
      obtain ⟨x136, e136⟩ : ∃ y : Int32, y = v7 + 1 := ⟨_, rfl⟩
      replace h := h x136 e136
      refine lv_iinc (v := x136) (lv' := [(7, .int x136), (0, .ref (ad g)), (1, .ref (ad mk)), (2, .int v2), (3, .int v3), (4, .int v4), (5, .int v5), (6, .int v6)]) hx hb d_G_gather_136 hl (k := 7) rfl (by rw [e136]; rfl) (by decide) rfl (fun ls hl => ?_)
      refine lv_goto (tgt := 55) hx hb d_G_gather_139 (by decide) ?_
      exact ih x136 S70e _ _ ls hI (lv_sub hl [1, 2, 3, 4, 5, 6, 7, 0] rfl) h
set_option maxHeartbeats 4000000 in
set_option maxRecDepth 100000 in
theorem w_G_gather_3 (C : z_CT p s m args c R_G b_G_gather 10 D cA 51 ad) (hcs : cells ≤ rm_G_gather.cells ∧ slots ≤ rm_G_gather.slots) (g : Nat) (mk : Nat) (hg : z_G g) (hmk : z_B mk) (post : zS → Prop) (v2 : Int32) (v3 : Int32) (hR : z_Rv p l e rm_G_gather s m args below meth c Q b_G_gather D cA 51 ad post) : ∀ (n : Nat) (v4 : Int32) (S : zS) (H : Heap) (locs : List Loc) (ls : Array Slot), z_I D cA 51 ad s.heap S H locs → lv_has ls 10 [(0, .ref (ad g)), (1, .ref (ad mk)), (2, .int v2), (3, .int v3), (4, .int v4)] → L_G_gather_3 g mk post v2 v3 n v4 S → W p l e rm_G_gather s m args below meth c H locs cells slots Q (F0 m 3 ls []) := by
  obtain ⟨hx, hb, hml, hown, hts, hK, hJ⟩ := id C
  intro n
  induction n with
  | zero => intro v4 S H locs ls hI hl h; exact h.elim
  | succ n ih =>
    intro v4 S H locs ls hI hl h
    rw [L_G_gather_3] at h
    refine lv_iload hx hb d_G_gather_3 (lv_at hl 4 rfl) ?_
    refine lv_sipush (v := 576) hx hb d_G_gather_5 (by decide) ?_
    refine lv_icmp_ge (tgt := 148) hx hb d_G_gather_8 (by decide) (fun q => ?_) (fun q => ?_)
    · replace h := h.1 q
      exact hR _ _ hcs S _ _ 148 ls h hI d_G_gather_148
    · replace h := h.2 q
      refine lv_iload hx hb d_G_gather_11 (lv_at hl 4 rfl) ?_
      refine lv_aload_n hx hb d_G_gather_13 rfl (lv_at hl 0 rfl) ?_
      refine z_getR C hI g (z_lt0 hg) hg.2.1 cl_G iw_G 5 (by decide) k_fl_G_27 rfl d_G_gather_14 ?_
      refine lv_aload_n hx hb d_G_gather_17 rfl (lv_at hl 0 rfl) ?_
      refine z_getI C hI g (z_lt0 hg) hg.2.1 cl_G iw_G 6 (by decide) k_fl_G_46 rfl d_G_gather_18 ?_
      obtain ⟨h1, h⟩ := h
      refine z_ild C hI (g + 6) (z_lt hg 6 (by decide)) hg.2.2.2.2.2.2.2.1 h1 d_G_gather_21 ?_
      refine lv_icmp_ge (tgt := 148) hx hb d_G_gather_22 (by decide) (fun q => ?_) (fun q => ?_)
      · replace h := h.1 q
        exact hR _ _ hcs S _ _ 148 ls h hI d_G_gather_148
      · replace h := h.2 q
        refine lv_aload_n hx hb d_G_gather_25 rfl (lv_at hl 0 rfl) ?_
        refine z_getR C hI g (z_lt0 hg) hg.2.1 cl_G iw_G 7 (by decide) k_fl_G_30 rfl d_G_gather_26 ?_
        refine lv_iload hx hb d_G_gather_29 (lv_at hl 4 rfl) ?_
        obtain ⟨h1, h⟩ := h
        refine z_ild C hI (g + 7) (z_lt hg 7 (by decide)) hg.2.2.2.2.2.2.2.2 h1 d_G_gather_31 ?_
        refine lv_bipush (v := 24) hx hb d_G_gather_32 (by decide) ?_
        refine lv_irem hx hb d_G_gather_34 (by decide) ?_
        refine lv_topi (fun x35 e35 => ?_)
        replace h := h x35 e35
        refine lv_istore (lv' := [(5, .int x35), (0, .ref (ad g)), (1, .ref (ad mk)), (2, .int v2), (3, .int v3), (4, .int v4)]) hx hb d_G_gather_35 hl (by decide) rfl (fun ls hl => ?_)
        refine lv_aload_n hx hb d_G_gather_37 rfl (lv_at hl 1 rfl) ?_
        refine z_getR C hI g (z_lt0 hg) hg.2.1 cl_G iw_G 7 (by decide) k_fl_G_30 rfl d_G_gather_38 ?_
        refine lv_iload hx hb d_G_gather_41 (lv_at hl 5 rfl) ?_
        obtain ⟨h1, h⟩ := h
        refine z_ild C hI (g + 7) (z_lt hg 7 (by decide)) hg.2.2.2.2.2.2.2.2 h1 d_G_gather_43 ?_
        refine lv_bipush (v := 24) hx hb d_G_gather_44 (by decide) ?_
        refine lv_idiv hx hb d_G_gather_46 (by decide) ?_
        refine lv_topi (fun x47 e47 => ?_)
        replace h := h x47 e47
        refine lv_istore (lv' := [(6, .int x47), (5, .int x35), (0, .ref (ad g)), (1, .ref (ad mk)), (2, .int v2), (3, .int v3), (4, .int v4)]) hx hb d_G_gather_47 hl (by decide) rfl (fun ls hl => ?_)
        refine lv_iload hx hb d_G_gather_49 (lv_at hl 0 rfl) ?_
        refine lv_iconst (v := 1) hx hb d_G_gather_51 (by decide) ?_
        refine lv_isub hx hb d_G_gather_52 ?_
        refine lv_topi (fun x53 e53 => ?_)
        replace h := h x53 e53
        refine lv_istore (lv' := [(7, .int x53), (6, .int x47), (5, .int x35), (0, .ref (ad g)), (1, .ref (ad mk)), (2, .int v2), (3, .int v3), (4, .int v4)]) hx hb d_G_gather_53 hl (by decide) rfl (fun ls hl => ?_)
        obtain ⟨k55, h⟩ := h
        refine w_G_gather_55 C hcs g mk hg hmk _ _ v2 v3 v4 x35 x47 hR (fun S55e H locs ls h hI hl => ?_) k55 x53 S _ _ ls hI (lv_sub hl [3, 4, 5, 6, 7, 2, 1, 0] rfl) h
        obtain ⟨x142, e142⟩ : ∃ y : Int32, y = v4 + 1 := ⟨_, rfl⟩
        replace h := h x142 e142
        refine lv_iinc (v := x142) (lv' := [(4, .int x142), (0, .ref (ad g)), (1, .ref (ad mk)), (2, .int v2), (3, .int v3)]) hx hb d_G_gather_142 hl (k := 4) rfl (by rw [e142]; rfl) (by decide) rfl (fun ls hl => ?_)
        refine lv_goto (tgt := 3) hx hb d_G_gather_145 (by decide) ?_
        exact ih x142 S55e _ _ ls hI (lv_sub hl [1, 2, 3, 4, 0] rfl) h
set_option maxHeartbeats 4000000 in
set_option maxRecDepth 100000 in
theorem c_G_gather (g : Nat) (mk : Nat) (hg : z_G g) (hmk : z_B mk) (v2 : Int32) (v3 : Int32) (S : zS) (post : zS → Prop) (h : P_G_gather g mk v2 v3 S post) : z_ctv l D cA 51 ad y_G_gather b_G_gather 10 none rm_G_gather [.ref (ad g), .ref (ad mk), .int v2, .int v3] S post := by
  refine z_metv (av := [.ref (ad g), .ref (ad mk), .int v2, .int v3]) (by decide) (Nat.le_of_ble_eq_true rfl) ⟨rfl, rfl⟩ (fun p e s m args below meth c Q ls C hcs hl hI hR => ?_)
  obtain ⟨hx, hb, hml, hown, hts, hK, hJ⟩ := id C
  unfold P_G_gather at h
  have hl : lv_has ls 10 [(0, .ref (ad g)), (1, .ref (ad mk)), (2, .int v2), (3, .int v3)] := hl
  refine lv_iconst (v := 0) hx hb d_G_gather_0 (by decide) ?_
  refine lv_istore (lv' := [(4, .int 0), (0, .ref (ad g)), (1, .ref (ad mk)), (2, .int v2), (3, .int v3)]) hx hb d_G_gather_1 hl (by decide) rfl (fun ls hl => ?_)
  obtain ⟨k3, h⟩ := h
  refine w_G_gather_3 C hcs g mk hg hmk _ v2 v3 hR k3 0 S _ _ ls hI (lv_sub hl [1, 2, 3, 4, 0] rfl) h
set_option maxHeartbeats 4000000 in
set_option maxRecDepth 100000 in
theorem w_G_find_28 (C : z_CT p s m args c R_G b_G_find 6 D cA 51 ad) (hcs : cells ≤ rm_G_find.cells ∧ slots ≤ rm_G_find.slots) (g : Nat) (mk : Nat) (hg : z_G g) (hmk : z_B mk) (post : zS → Prop) (K91 : zS → Prop) (v2 : Int32) (v3 : Int32) (v4 : Int32) (hR : z_Rv p l e rm_G_find s m args below meth c Q b_G_find D cA 51 ad post) (kK91 : ∀ (S : zS) (H : Heap) (locs : List Loc) (ls : Array Slot), K91 S → z_I D cA 51 ad s.heap S H locs → lv_has ls 6 [(0, .ref (ad g)), (1, .ref (ad mk)), (2, .int v2), (3, .int v3), (4, .int v4)] → W p l e rm_G_find s m args below meth c H locs cells slots Q (F0 m 91 ls [])) : ∀ (n : Nat) (v5 : Int32) (S : zS) (H : Heap) (locs : List Loc) (ls : Array Slot), z_I D cA 51 ad s.heap S H locs → lv_has ls 6 [(0, .ref (ad g)), (1, .ref (ad mk)), (2, .int v2), (3, .int v3), (4, .int v4), (5, .int v5)] → L_G_find_28 g mk post K91 v2 v3 v4 n v5 S → W p l e rm_G_find s m args below meth c H locs cells slots Q (F0 m 28 ls []) := by
  obtain ⟨hx, hb, hml, hown, hts, hK, hJ⟩ := id C
  intro n
  induction n with
  | zero => intro v5 S H locs ls hI hl h; exact h.elim
  | succ n ih =>
    intro v5 S H locs ls hI hl h
    rw [L_G_find_28] at h
    refine lv_iload hx hb d_G_find_28 (lv_at hl 5 rfl) ?_
    refine lv_aload_n hx hb d_G_find_30 rfl (lv_at hl 0 rfl) ?_
    refine z_getI C hI g (z_lt0 hg) hg.2.1 cl_G iw_G 8 (by decide) k_fl_G_33 rfl d_G_find_31 ?_
    refine lv_icmp_ge (tgt := 91) hx hb d_G_find_34 (by decide) (fun q => ?_) (fun q => ?_)
    · replace h := h.1 q
      exact kK91 S _ _ ls h hI (lv_sub hl [0, 1, 2, 3, 4] rfl)
    · replace h := h.2 q
      refine lv_aload_n hx hb d_G_find_37 rfl (lv_at hl 0 rfl) ?_
      refine lv_aload_n hx hb d_G_find_38 rfl (lv_at hl 1 rfl) ?_
      refine lv_iload_n hx hb d_G_find_39 rfl (lv_at hl 2 rfl) ?_
      refine lv_iload hx hb d_G_find_40 (lv_at hl 5 rfl) ?_
      refine lv_iload hx hb d_G_find_42 (lv_at hl 4 rfl) ?_
      refine z_callVi C hI g (z_lt0 hg) hg.2.1 cl_G (As := [.ref (ad mk), .int v2, .int v5, .int v4]) (rest := []) (c_G_isOpen g mk hg hmk v2 v5 v4 _ _ h) wc_G_isOpen k_ml_G_49 rfl rfl (Nat.le_of_ble_eq_true rfl) (Nat.le_of_ble_eq_true rfl) hcs hl.1 (Nat.le_of_ble_eq_true rfl) rfl d_G_find_44 (fun r44 S44 H locs h hI => ?_)
      refine lv_if_eq (tgt := 85) hx hb d_G_find_47 (by decide) (fun q => ?_) (fun q => ?_)
      · replace h := h.1 q
        obtain ⟨x85, e85⟩ : ∃ y : Int32, y = v5 + 1 := ⟨_, rfl⟩
        replace h := h x85 e85
        refine lv_iinc (v := x85) (lv' := [(5, .int x85), (0, .ref (ad g)), (1, .ref (ad mk)), (2, .int v2), (3, .int v3), (4, .int v4)]) hx hb d_G_find_85 hl (k := 5) rfl (by rw [e85]; rfl) (by decide) rfl (fun ls hl => ?_)
        refine lv_goto (tgt := 28) hx hb d_G_find_88 (by decide) ?_
        exact ih x85 S44 _ _ ls hI (lv_sub hl [1, 2, 3, 4, 5, 0] rfl) h
      · replace h := h.2 q
        refine lv_aload_n hx hb d_G_find_50 rfl (lv_at hl 0 rfl) ?_
        refine z_getI C hI g (z_lt0 hg) hg.2.1 cl_G iw_G 6 (by decide) k_fl_G_46 rfl d_G_find_51 ?_
        refine lv_sipush (v := 288) hx hb d_G_find_54 (by decide) ?_
        refine lv_icmp_ge (tgt := 85) hx hb d_G_find_57 (by decide) (fun q => ?_) (fun q => ?_)
        · replace h := h.1 q
          obtain ⟨x85, e85⟩ : ∃ y : Int32, y = v5 + 1 := ⟨_, rfl⟩
          replace h := h x85 e85
          refine lv_iinc (v := x85) (lv' := [(5, .int x85), (0, .ref (ad g)), (1, .ref (ad mk)), (2, .int v2), (3, .int v3), (4, .int v4)]) hx hb d_G_find_85 hl (k := 5) rfl (by rw [e85]; rfl) (by decide) rfl (fun ls hl => ?_)
          refine lv_goto (tgt := 28) hx hb d_G_find_88 (by decide) ?_
          exact ih x85 S44 _ _ ls hI (lv_sub hl [1, 2, 3, 4, 5, 0] rfl) h
        · replace h := h.2 q
          refine lv_aload_n hx hb d_G_find_60 rfl (lv_at hl 0 rfl) ?_
          refine lv_iload hx hb d_G_find_61 (lv_at hl 5 rfl) ?_
          refine lv_iload hx hb d_G_find_63 (lv_at hl 4 rfl) ?_
          refine z_callVv C hI g (z_lt0 hg) hg.2.1 cl_G (As := [.int v5, .int v4]) (rest := []) (c_G_begin g hg v5 v4 _ _ h) wc_G_begin k_ml_G_53 rfl rfl (Nat.le_of_ble_eq_true rfl) (Nat.le_of_ble_eq_true rfl) hcs hl.1 (Nat.le_of_ble_eq_true rfl) rfl d_G_find_65 (fun S65 H locs h hI => ?_)
          refine lv_aload_n hx hb d_G_find_68 rfl (lv_at hl 0 rfl) ?_
          refine lv_aload_n hx hb d_G_find_69 rfl (lv_at hl 1 rfl) ?_
          refine lv_iload_n hx hb d_G_find_70 rfl (lv_at hl 2 rfl) ?_
          refine lv_iload_n hx hb d_G_find_71 rfl (lv_at hl 3 rfl) ?_
          refine z_callVv C hI g (z_lt0 hg) hg.2.1 cl_G (As := [.ref (ad mk), .int v2, .int v3]) (rest := []) (c_G_gather g mk hg hmk v2 v3 _ _ h) wc_G_gather k_ml_G_57 rfl rfl (Nat.le_of_ble_eq_true rfl) (Nat.le_of_ble_eq_true rfl) hcs hl.1 (Nat.le_of_ble_eq_true rfl) rfl d_G_find_72 (fun S72 H locs h hI => ?_)
          refine lv_aload_n hx hb d_G_find_75 rfl (lv_at hl 0 rfl) ?_
          refine lv_dup hx hb d_G_find_76 rfl ?_
          refine z_getI C hI g (z_lt0 hg) hg.2.1 cl_G iw_G 6 (by decide) k_fl_G_46 rfl d_G_find_77 ?_
          refine lv_iconst (v := 1) hx hb d_G_find_80 (by decide) ?_
          refine lv_iadd hx hb d_G_find_81 ?_
          refine z_putI C hI g (z_lt0 hg) hg.2.1 cl_G iw_G ty_G ty_G_ok n_G 6 (by decide) k_fl_G_46 rfl rfl rfl d_G_find_82 (fun S82 eS H locs hI => ?_)
          replace h := h S82 eS
          obtain ⟨x85, e85⟩ : ∃ y : Int32, y = v5 + 1 := ⟨_, rfl⟩
          replace h := h x85 e85
          refine lv_iinc (v := x85) (lv' := [(5, .int x85), (0, .ref (ad g)), (1, .ref (ad mk)), (2, .int v2), (3, .int v3), (4, .int v4)]) hx hb d_G_find_85 hl (k := 5) rfl (by rw [e85]; rfl) (by decide) rfl (fun ls hl => ?_)
          refine lv_goto (tgt := 28) hx hb d_G_find_88 (by decide) ?_
          exact ih x85 S82 _ _ ls hI (lv_sub hl [1, 2, 3, 4, 5, 0] rfl) h
set_option maxHeartbeats 4000000 in
set_option maxRecDepth 100000 in
theorem w_G_find_16 (C : z_CT p s m args c R_G b_G_find 6 D cA 51 ad) (hcs : cells ≤ rm_G_find.cells ∧ slots ≤ rm_G_find.slots) (g : Nat) (mk : Nat) (hg : z_G g) (hmk : z_B mk) (post : zS → Prop) (v2 : Int32) (v3 : Int32) (hR : z_Rv p l e rm_G_find s m args below meth c Q b_G_find D cA 51 ad post) : ∀ (n : Nat) (v4 : Int32) (S : zS) (H : Heap) (locs : List Loc) (ls : Array Slot), z_I D cA 51 ad s.heap S H locs → lv_has ls 6 [(0, .ref (ad g)), (1, .ref (ad mk)), (2, .int v2), (3, .int v3), (4, .int v4)] → L_G_find_16 g mk post v2 v3 n v4 S → W p l e rm_G_find s m args below meth c H locs cells slots Q (F0 m 16 ls []) := by
  obtain ⟨hx, hb, hml, hown, hts, hK, hJ⟩ := id C
  intro n
  induction n with
  | zero => intro v4 S H locs ls hI hl h; exact h.elim
  | succ n ih =>
    intro v4 S H locs ls hI hl h
    rw [L_G_find_16] at h
    refine lv_iload hx hb d_G_find_16 (lv_at hl 4 rfl) ?_
    refine lv_aload_n hx hb d_G_find_18 rfl (lv_at hl 0 rfl) ?_
    refine z_getI C hI g (z_lt0 hg) hg.2.1 cl_G iw_G 9 (by decide) k_fl_G_37 rfl d_G_find_19 ?_
    refine lv_icmp_ge (tgt := 97) hx hb d_G_find_22 (by decide) (fun q => ?_) (fun q => ?_)
    · replace h := h.1 q
      exact hR _ _ hcs S _ _ 97 ls h hI d_G_find_97
    · replace h := h.2 q
      refine lv_iconst (v := 0) hx hb d_G_find_25 (by decide) ?_
      refine lv_istore (lv' := [(5, .int 0), (0, .ref (ad g)), (1, .ref (ad mk)), (2, .int v2), (3, .int v3), (4, .int v4)]) hx hb d_G_find_26 hl (by decide) rfl (fun ls hl => ?_)
      obtain ⟨k28, h⟩ := h
      refine w_G_find_28 C hcs g mk hg hmk _ _ v2 v3 v4 hR (fun S28e H locs ls h hI hl => ?_) k28 0 S _ _ ls hI (lv_sub hl [1, 2, 3, 4, 5, 0] rfl) h
      obtain ⟨x91, e91⟩ : ∃ y : Int32, y = v4 + 1 := ⟨_, rfl⟩
      replace h := h x91 e91
      refine lv_iinc (v := x91) (lv' := [(4, .int x91), (0, .ref (ad g)), (1, .ref (ad mk)), (2, .int v2), (3, .int v3)]) hx hb d_G_find_91 hl (k := 4) rfl (by rw [e91]; rfl) (by decide) rfl (fun ls hl => ?_)
      refine lv_goto (tgt := 16) hx hb d_G_find_94 (by decide) ?_
      exact ih x91 S28e _ _ ls hI (lv_sub hl [1, 2, 3, 4, 0] rfl) h
set_option maxHeartbeats 4000000 in
set_option maxRecDepth 100000 in
theorem c_G_find (g : Nat) (mk : Nat) (hg : z_G g) (hmk : z_B mk) (v2 : Int32) (v3 : Int32) (S : zS) (post : zS → Prop) (h : P_G_find g mk v2 v3 S post) : z_ctv l D cA 51 ad y_G_find b_G_find 6 none rm_G_find [.ref (ad g), .ref (ad mk), .int v2, .int v3] S post := by
  refine z_metv (av := [.ref (ad g), .ref (ad mk), .int v2, .int v3]) (by decide) (Nat.le_of_ble_eq_true rfl) ⟨rfl, rfl⟩ (fun p e s m args below meth c Q ls C hcs hl hI hR => ?_)
  obtain ⟨hx, hb, hml, hown, hts, hK, hJ⟩ := id C
  unfold P_G_find at h
  have hl : lv_has ls 6 [(0, .ref (ad g)), (1, .ref (ad mk)), (2, .int v2), (3, .int v3)] := hl
  refine lv_aload_n hx hb d_G_find_0 rfl (lv_at hl 0 rfl) ?_
  refine z_getR C hI g (z_lt0 hg) hg.2.1 cl_G iw_G 0 (by decide) k_fl_G_9 rfl d_G_find_1 ?_
  refine lv_iconst (v := (-1)) hx hb d_G_find_4 (by decide) ?_
  refine z_callSv C hI (As := [.ref (ad (g + 1)), .int (-1)]) (rest := []) (c_A_fill (g + 1) ⟨(z_lt hg 1 (by decide)), hg.2.2.1⟩ (-1) _ _ h) wc_A_fill k_ml_G_40 rfl rfl (Nat.le_of_ble_eq_true rfl) (Nat.le_of_ble_eq_true rfl) hcs hl.1 (Nat.le_of_ble_eq_true rfl) rfl d_G_find_5 (fun S5 H locs h hI => ?_)
  refine lv_aload_n hx hb d_G_find_8 rfl (lv_at hl 0 rfl) ?_
  refine lv_iconst (v := 0) hx hb d_G_find_9 (by decide) ?_
  refine z_putI C hI g (z_lt0 hg) hg.2.1 cl_G iw_G ty_G ty_G_ok n_G 6 (by decide) k_fl_G_46 rfl rfl rfl d_G_find_10 (fun S10 eS H locs hI => ?_)
  replace h := h S10 eS
  refine lv_iconst (v := 0) hx hb d_G_find_13 (by decide) ?_
  refine lv_istore (lv' := [(4, .int 0), (0, .ref (ad g)), (1, .ref (ad mk)), (2, .int v2), (3, .int v3)]) hx hb d_G_find_14 hl (by decide) rfl (fun ls hl => ?_)
  obtain ⟨k16, h⟩ := h
  refine w_G_find_16 C hcs g mk hg hmk _ v2 v3 hR k16 0 S10 _ _ ls hI (lv_sub hl [1, 2, 3, 4, 0] rfl) h
set_option maxHeartbeats 4000000 in
set_option maxRecDepth 100000 in
theorem w_P_findClean_68 (C : z_CT p s m args c R_P b_P_findClean 3 D cA 51 ad) (hcs : cells ≤ rm_P_findClean.cells ∧ slots ≤ rm_P_findClean.slots) (post : zS → Prop) (K20 : Int32 → zS → Prop) (v1 : Int32) (t0 : Int32) (t1 : Int32) (hR : z_Rv p l e rm_P_findClean s m args below meth c Q b_P_findClean D cA 51 ad post) (kK20 : ∀ (v1 : Int32) (S : zS) (H : Heap) (locs : List Loc) (ls : Array Slot), K20 v1 S → z_I D cA 51 ad s.heap S H locs → lv_has ls 3 [(0, .ref (ad 0)), (1, .int v1)] → W p l e rm_P_findClean s m args below meth c H locs cells slots Q (F0 m 20 ls [])) (S : zS) (H : Heap) (locs : List Loc) (ls : Array Slot) (hI : z_I D cA 51 ad s.heap S H locs) (hl : lv_has ls 3 [(0, .ref (ad 0)), (1, .int v1)]) (h : J_P_findClean_68 post K20 v1 t0 t1 S) : W p l e rm_P_findClean s m args below meth c H locs cells slots Q (F0 m 68 ls [.int t0, .int t1, .ref (ad 2)]) := by
  obtain ⟨hx, hb, hml, hown, hts, hK, hJ⟩ := id C
  unfold J_P_findClean_68 at h
  obtain ⟨h1, h⟩ := h
  obtain ⟨h2, h⟩ := h
  refine z_zst C hI 2 (by decide) kd_2 h1 h2 d_P_findClean_68 (fun S68 eS H locs hI => ?_)
  replace h := h S68 eS
  refine lv_aload_n hx hb d_P_findClean_69 rfl (lv_at hl 0 rfl) ?_
  refine z_getR C hI 0 (by decide) kd_0 cl_P iw_P 4 (by decide) k_fl_P_16 rfl d_P_findClean_70 ?_
  refine lv_iload_n hx hb d_P_findClean_73 rfl (lv_at hl 1 rfl) ?_
  refine lv_aload_n hx hb d_P_findClean_74 rfl (lv_at hl 0 rfl) ?_
  refine z_getR C hI 0 (by decide) kd_0 cl_P iw_P 3 (by decide) k_fl_P_13 rfl d_P_findClean_75 ?_
  refine lv_iload_n hx hb d_P_findClean_78 rfl (lv_at hl 1 rfl) ?_
  obtain ⟨h1, h⟩ := h
  refine z_zld C hI 2 (by decide) kd_2 h1 d_P_findClean_79 ?_
  obtain ⟨h1, h⟩ := h
  obtain ⟨h2, h⟩ := h
  refine z_zst C hI 3 (by decide) kd_3 h1 h2 d_P_findClean_80 (fun S80 eS H locs hI => ?_)
  replace h := h S80 eS
  refine lv_aload_n hx hb d_P_findClean_81 rfl (lv_at hl 0 rfl) ?_
  refine z_getR C hI 0 (by decide) kd_0 cl_P iw_P 3 (by decide) k_fl_P_13 rfl d_P_findClean_82 ?_
  refine lv_iload_n hx hb d_P_findClean_85 rfl (lv_at hl 1 rfl) ?_
  obtain ⟨h1, h⟩ := h
  refine z_zld C hI 2 (by decide) kd_2 h1 d_P_findClean_86 ?_
  refine lv_if_eq (tgt := 100) hx hb d_P_findClean_87 (by decide) (fun q => ?_) (fun q => ?_)
  · replace h := h.1 q
    obtain ⟨x100, e100⟩ : ∃ y : Int32, y = v1 + 1 := ⟨_, rfl⟩
    replace h := h x100 e100
    refine lv_iinc (v := x100) (lv' := [(1, .int x100), (0, .ref (ad 0))]) hx hb d_P_findClean_100 hl (k := 1) rfl (by rw [e100]; rfl) (by decide) rfl (fun ls hl => ?_)
    refine lv_goto (tgt := 20) hx hb d_P_findClean_103 (by decide) ?_
    exact kK20 x100 S80 _ _ ls h hI (lv_sub hl [1, 0] rfl)
  · replace h := h.2 q
    refine lv_aload_n hx hb d_P_findClean_90 rfl (lv_at hl 0 rfl) ?_
    refine lv_dup hx hb d_P_findClean_91 rfl ?_
    refine z_getI C hI 0 (by decide) kd_0 cl_P iw_P 11 (by decide) k_fl_P_192 rfl d_P_findClean_92 ?_
    refine lv_iconst (v := 1) hx hb d_P_findClean_95 (by decide) ?_
    refine lv_iadd hx hb d_P_findClean_96 ?_
    refine z_putI C hI 0 (by decide) kd_0 cl_P iw_P ty_P ty_P_ok n_P 11 (by decide) k_fl_P_192 rfl rfl rfl d_P_findClean_97 (fun S97 eS H locs hI => ?_)
    replace h := h S97 eS
    obtain ⟨x100, e100⟩ : ∃ y : Int32, y = v1 + 1 := ⟨_, rfl⟩
    replace h := h x100 e100
    refine lv_iinc (v := x100) (lv' := [(1, .int x100), (0, .ref (ad 0))]) hx hb d_P_findClean_100 hl (k := 1) rfl (by rw [e100]; rfl) (by decide) rfl (fun ls hl => ?_)
    refine lv_goto (tgt := 20) hx hb d_P_findClean_103 (by decide) ?_
    exact kK20 x100 S97 _ _ ls h hI (lv_sub hl [1, 0] rfl)
set_option maxHeartbeats 4000000 in
set_option maxRecDepth 100000 in
theorem w_P_findClean_67 (C : z_CT p s m args c R_P b_P_findClean 3 D cA 51 ad) (hcs : cells ≤ rm_P_findClean.cells ∧ slots ≤ rm_P_findClean.slots) (post : zS → Prop) (K20 : Int32 → zS → Prop) (v1 : Int32) (t0 : Int32) (hR : z_Rv p l e rm_P_findClean s m args below meth c Q b_P_findClean D cA 51 ad post) (kK20 : ∀ (v1 : Int32) (S : zS) (H : Heap) (locs : List Loc) (ls : Array Slot), K20 v1 S → z_I D cA 51 ad s.heap S H locs → lv_has ls 3 [(0, .ref (ad 0)), (1, .int v1)] → W p l e rm_P_findClean s m args below meth c H locs cells slots Q (F0 m 20 ls [])) (S : zS) (H : Heap) (locs : List Loc) (ls : Array Slot) (hI : z_I D cA 51 ad s.heap S H locs) (hl : lv_has ls 3 [(0, .ref (ad 0)), (1, .int v1)]) (h : J_P_findClean_67 post K20 v1 t0 S) : W p l e rm_P_findClean s m args below meth c H locs cells slots Q (F0 m 67 ls [.int t0, .ref (ad 2)]) := by
  obtain ⟨hx, hb, hml, hown, hts, hK, hJ⟩ := id C
  unfold J_P_findClean_67 at h
  refine lv_iconst (v := 0) hx hb d_P_findClean_67 (by decide) ?_
  exact w_P_findClean_68 C hcs _ _ v1 0 t0 hR kK20 S _ _ ls hI (lv_sub hl [0, 1] rfl) h
set_option maxHeartbeats 4000000 in
set_option maxRecDepth 100000 in
theorem w_P_findClean_20 (C : z_CT p s m args c R_P b_P_findClean 3 D cA 51 ad) (hcs : cells ≤ rm_P_findClean.cells ∧ slots ≤ rm_P_findClean.slots) (post : zS → Prop) (hR : z_Rv p l e rm_P_findClean s m args below meth c Q b_P_findClean D cA 51 ad post) : ∀ (n : Nat) (v1 : Int32) (S : zS) (H : Heap) (locs : List Loc) (ls : Array Slot), z_I D cA 51 ad s.heap S H locs → lv_has ls 3 [(0, .ref (ad 0)), (1, .int v1)] → L_P_findClean_20 post n v1 S → W p l e rm_P_findClean s m args below meth c H locs cells slots Q (F0 m 20 ls []) := by
  obtain ⟨hx, hb, hml, hown, hts, hK, hJ⟩ := id C
  intro n
  induction n with
  | zero => intro v1 S H locs ls hI hl h; exact h.elim
  | succ n ih =>
    intro v1 S H locs ls hI hl h
    rw [L_P_findClean_20] at h
    refine lv_iload_n hx hb d_P_findClean_20 rfl (lv_at hl 1 rfl) ?_
    refine lv_sipush (v := 576) hx hb d_P_findClean_21 (by decide) ?_
    refine lv_icmp_ge (tgt := 106) hx hb d_P_findClean_24 (by decide) (fun q => ?_) (fun q => ?_)
    · replace h := h.1 q
      exact hR _ _ hcs S _ _ 106 ls h hI d_P_findClean_106
    · replace h := h.2 q
      refine lv_aload_n hx hb d_P_findClean_27 rfl (lv_at hl 0 rfl) ?_
      refine z_getR C hI 0 (by decide) kd_0 cl_P iw_P 7 (by decide) k_fl_P_43 rfl d_P_findClean_28 ?_
      refine z_getR C hI 13 (by decide) kd_13 cl_G iw_G 0 (by decide) k_fl_P_141 rfl d_P_findClean_31 ?_
      refine lv_iload_n hx hb d_P_findClean_34 rfl (lv_at hl 1 rfl) ?_
      obtain ⟨h1, h⟩ := h
      refine z_ild C hI 14 (by decide) kd_14 h1 d_P_findClean_35 ?_
      refine lv_topi (fun x36 e36 => ?_)
      replace h := h x36 e36
      refine lv_istore_n (lv' := [(2, .int x36), (0, .ref (ad 0)), (1, .int v1)]) hx hb d_P_findClean_36 rfl hl (by decide) rfl (fun ls hl => ?_)
      refine lv_aload_n hx hb d_P_findClean_37 rfl (lv_at hl 1 rfl) ?_
      refine z_getR C hI 0 (by decide) kd_0 cl_P iw_P 3 (by decide) k_fl_P_13 rfl d_P_findClean_38 ?_
      refine lv_iload_n hx hb d_P_findClean_41 rfl (lv_at hl 2 rfl) ?_
      refine lv_iload_n hx hb d_P_findClean_42 rfl (lv_at hl 0 rfl) ?_
      refine lv_iconst (v := (-1)) hx hb d_P_findClean_43 (by decide) ?_
      refine lv_icmp_eq (tgt := 67) hx hb d_P_findClean_44 (by decide) (fun q => ?_) (fun q => ?_)
      · replace h := h.1 q
        exact w_P_findClean_67 C hcs _ _ v1 v1 hR (fun v1 S H locs ls h hI hl => ih v1 S H locs ls hI hl h) S _ _ ls hI (lv_sub hl [1, 2] rfl) h
      · replace h := h.2 q
        refine lv_aload_n hx hb d_P_findClean_47 rfl (lv_at hl 1 rfl) ?_
        refine z_getR C hI 0 (by decide) kd_0 cl_P iw_P 7 (by decide) k_fl_P_43 rfl d_P_findClean_48 ?_
        refine z_getR C hI 13 (by decide) kd_13 cl_G iw_G 5 (by decide) k_fl_P_135 rfl d_P_findClean_51 ?_
        refine lv_iload_n hx hb d_P_findClean_54 rfl (lv_at hl 0 rfl) ?_
        obtain ⟨h1, h⟩ := h
        refine z_ild C hI 19 (by decide) kd_19 h1 d_P_findClean_55 ?_
        refine lv_aload_n hx hb d_P_findClean_56 rfl (lv_at hl 1 rfl) ?_
        refine z_getI C hI 0 (by decide) kd_0 cl_P iw_P 13 (by decide) k_fl_P_60 rfl d_P_findClean_57 ?_
        refine lv_icmp_lt (tgt := 67) hx hb d_P_findClean_60 (by decide) (fun q => ?_) (fun q => ?_)
        · replace h := h.1 q
          exact w_P_findClean_67 C hcs _ _ v1 v1 hR (fun v1 S H locs ls h hI hl => ih v1 S H locs ls hI hl h) S _ _ ls hI (lv_sub hl [1, 2] rfl) h
        · replace h := h.2 q
          refine lv_iconst (v := 1) hx hb d_P_findClean_63 (by decide) ?_
          refine lv_goto (tgt := 68) hx hb d_P_findClean_64 (by decide) ?_
          exact w_P_findClean_68 C hcs _ _ v1 1 v1 hR (fun v1 S H locs ls h hI hl => ih v1 S H locs ls hI hl h) S _ _ ls hI (lv_sub hl [1, 2] rfl) h
set_option maxHeartbeats 4000000 in
set_option maxRecDepth 100000 in
theorem c_P_findClean (S : zS) (post : zS → Prop) (h : P_P_findClean S post) : z_ctv l D cA 51 ad y_P_findClean b_P_findClean 3 none rm_P_findClean [.ref (ad 0)] S post := by
  refine z_metv (av := [.ref (ad 0)]) (by decide) (Nat.le_of_ble_eq_true rfl) ⟨rfl, rfl⟩ (fun p e s m args below meth c Q ls C hcs hl hI hR => ?_)
  obtain ⟨hx, hb, hml, hown, hts, hK, hJ⟩ := id C
  unfold P_P_findClean at h
  have hl : lv_has ls 3 [(0, .ref (ad 0))] := hl
  refine lv_aload_n hx hb d_P_findClean_0 rfl (lv_at hl 0 rfl) ?_
  refine z_getR C hI 0 (by decide) kd_0 cl_P iw_P 7 (by decide) k_fl_P_43 rfl d_P_findClean_1 ?_
  refine lv_aload_n hx hb d_P_findClean_4 rfl (lv_at hl 0 rfl) ?_
  refine z_getR C hI 0 (by decide) kd_0 cl_P iw_P 2 (by decide) k_fl_P_9 rfl d_P_findClean_5 ?_
  refine lv_iconst (v := 1) hx hb d_P_findClean_8 (by decide) ?_
  refine lv_iconst (v := 1) hx hb d_P_findClean_9 (by decide) ?_
  refine z_callVv C hI 13 (by decide) kd_13 cl_G (As := [.ref (ad 1), .int 1, .int 1]) (rest := []) (c_G_find 13 1 z_G_13 z_B_1 1 1 _ _ h) wc_G_find k_ml_P_97 rfl rfl (Nat.le_of_ble_eq_true rfl) (Nat.le_of_ble_eq_true rfl) hcs hl.1 (Nat.le_of_ble_eq_true rfl) rfl d_P_findClean_10 (fun S10 H locs h hI => ?_)
  refine lv_aload_n hx hb d_P_findClean_13 rfl (lv_at hl 0 rfl) ?_
  refine lv_iconst (v := 0) hx hb d_P_findClean_14 (by decide) ?_
  refine z_putI C hI 0 (by decide) kd_0 cl_P iw_P ty_P ty_P_ok n_P 11 (by decide) k_fl_P_192 rfl rfl rfl d_P_findClean_15 (fun S15 eS H locs hI => ?_)
  replace h := h S15 eS
  refine lv_iconst (v := 0) hx hb d_P_findClean_18 (by decide) ?_
  refine lv_istore_n (lv' := [(1, .int 0), (0, .ref (ad 0))]) hx hb d_P_findClean_19 rfl hl (by decide) rfl (fun ls hl => ?_)
  obtain ⟨k20, h⟩ := h
  refine w_P_findClean_20 C hcs _ hR k20 0 S15 _ _ ls hI (lv_sub hl [1, 0] rfl) h
set_option maxHeartbeats 4000000 in
set_option maxRecDepth 100000 in
theorem w_P_smearAlong_53 (C : z_CT p s m args c R_P b_P_smearAlong 8 D cA 51 ad) (hcs : cells ≤ rm_P_smearAlong.cells ∧ slots ≤ rm_P_smearAlong.slots) (post : zS → Prop) (K78 : zS → Prop) (v1 : Int32) (v2 : Int32) (v3 : Int32) (v4 : Int32) (v6 : Int32) (hR : z_Rv p l e rm_P_smearAlong s m args below meth c Q b_P_smearAlong D cA 51 ad post) (kK78 : ∀ (S : zS) (H : Heap) (locs : List Loc) (ls : Array Slot), K78 S → z_I D cA 51 ad s.heap S H locs → lv_has ls 8 [(0, .ref (ad 0)), (1, .int v1), (2, .int v2), (3, .int v3), (4, .int v4), (6, .int v6)] → W p l e rm_P_smearAlong s m args below meth c H locs cells slots Q (F0 m 78 ls [])) : ∀ (n : Nat) (v7 : Int32) (S : zS) (H : Heap) (locs : List Loc) (ls : Array Slot), z_I D cA 51 ad s.heap S H locs → lv_has ls 8 [(0, .ref (ad 0)), (1, .int v1), (2, .int v2), (3, .int v3), (4, .int v4), (6, .int v6), (7, .int v7)] → L_P_smearAlong_53 post K78 v1 v2 v3 v4 v6 n v7 S → W p l e rm_P_smearAlong s m args below meth c H locs cells slots Q (F0 m 53 ls []) := by
  obtain ⟨hx, hb, hml, hown, hts, hK, hJ⟩ := id C
  intro n
  induction n with
  | zero => intro v7 S H locs ls hI hl h; exact h.elim
  | succ n ih =>
    intro v7 S H locs ls hI hl h
    rw [L_P_smearAlong_53] at h
    refine lv_iload hx hb d_P_smearAlong_53 (lv_at hl 6 rfl) ?_
    refine lv_iload hx hb d_P_smearAlong_55 (lv_at hl 5 rfl) ?_
    refine lv_icmp_ge (tgt := 78) hx hb d_P_smearAlong_57 (by decide) (fun q => ?_) (fun q => ?_)
    · replace h := h.1 q
      exact kK78 S _ _ ls h hI (lv_sub hl [0, 1, 2, 3, 4, 5] rfl)
    · replace h := h.2 q
      refine lv_aload_n hx hb d_P_smearAlong_60 rfl (lv_at hl 0 rfl) ?_
      refine z_getR C hI 0 (by decide) kd_0 cl_P iw_P 4 (by decide) k_fl_P_16 rfl d_P_smearAlong_61 ?_
      refine lv_iload_n hx hb d_P_smearAlong_64 rfl (lv_at hl 1 rfl) ?_
      refine lv_iload hx hb d_P_smearAlong_65 (lv_at hl 6 rfl) ?_
      refine lv_iload_n hx hb d_P_smearAlong_67 rfl (lv_at hl 2 rfl) ?_
      refine lv_imul hx hb d_P_smearAlong_68 ?_
      refine lv_iadd hx hb d_P_smearAlong_69 ?_
      refine lv_iconst (v := 1) hx hb d_P_smearAlong_70 (by decide) ?_
      obtain ⟨h1, h⟩ := h
      refine z_zst C hI 3 (by decide) kd_3 h1 (by decide) d_P_smearAlong_71 (fun S71 eS H locs hI => ?_)
      replace h := h S71 eS
      obtain ⟨x72, e72⟩ : ∃ y : Int32, y = v7 + 1 := ⟨_, rfl⟩
      replace h := h x72 e72
      refine lv_iinc (v := x72) (lv' := [(7, .int x72), (0, .ref (ad 0)), (1, .int v1), (2, .int v2), (3, .int v3), (4, .int v4), (6, .int v6)]) hx hb d_P_smearAlong_72 hl (k := 6) rfl (by rw [e72]; rfl) (by decide) rfl (fun ls hl => ?_)
      refine lv_goto (tgt := 53) hx hb d_P_smearAlong_75 (by decide) ?_
      exact ih x72 S71 _ _ ls hI (lv_sub hl [1, 2, 3, 4, 5, 6, 0] rfl) h
set_option maxHeartbeats 4000000 in
set_option maxRecDepth 100000 in
theorem w_P_smearAlong_6 (C : z_CT p s m args c R_P b_P_smearAlong 8 D cA 51 ad) (hcs : cells ≤ rm_P_smearAlong.cells ∧ slots ≤ rm_P_smearAlong.slots) (post : zS → Prop) (v1 : Int32) (v2 : Int32) (v3 : Int32) (v4 : Int32) (hR : z_Rv p l e rm_P_smearAlong s m args below meth c Q b_P_smearAlong D cA 51 ad post) : ∀ (n : Nat) (v5 : Int32) (v6 : Int32) (S : zS) (H : Heap) (locs : List Loc) (ls : Array Slot), z_I D cA 51 ad s.heap S H locs → lv_has ls 8 [(0, .ref (ad 0)), (1, .int v1), (2, .int v2), (3, .int v3), (4, .int v4), (5, .int v5), (6, .int v6)] → L_P_smearAlong_6 post v1 v2 v3 v4 n v5 v6 S → W p l e rm_P_smearAlong s m args below meth c H locs cells slots Q (F0 m 6 ls []) := by
  obtain ⟨hx, hb, hml, hown, hts, hK, hJ⟩ := id C
  intro n
  induction n with
  | zero => intro v5 v6 S H locs ls hI hl h; exact h.elim
  | succ n ih =>
    intro v5 v6 S H locs ls hI hl h
    rw [L_P_smearAlong_6] at h
    refine lv_iload hx hb d_P_smearAlong_6 (lv_at hl 6 rfl) ?_
    refine lv_iload_n hx hb d_P_smearAlong_8 rfl (lv_at hl 3 rfl) ?_
    refine lv_icmp_ge (tgt := 88) hx hb d_P_smearAlong_9 (by decide) (fun q => ?_) (fun q => ?_)
    · replace h := h.1 q
      exact hR _ _ hcs S _ _ 88 ls h hI d_P_smearAlong_88
    · replace h := h.2 q
      refine lv_aload_n hx hb d_P_smearAlong_12 rfl (lv_at hl 0 rfl) ?_
      refine z_getR C hI 0 (by decide) kd_0 cl_P iw_P 3 (by decide) k_fl_P_13 rfl d_P_smearAlong_13 ?_
      refine lv_iload_n hx hb d_P_smearAlong_16 rfl (lv_at hl 1 rfl) ?_
      refine lv_iload hx hb d_P_smearAlong_17 (lv_at hl 6 rfl) ?_
      refine lv_iload_n hx hb d_P_smearAlong_19 rfl (lv_at hl 2 rfl) ?_
      refine lv_imul hx hb d_P_smearAlong_20 ?_
      refine lv_iadd hx hb d_P_smearAlong_21 ?_
      obtain ⟨h1, h⟩ := h
      refine z_zld C hI 2 (by decide) kd_2 h1 d_P_smearAlong_22 ?_
      refine lv_if_ne (tgt := 29) hx hb d_P_smearAlong_23 (by decide) (fun q => ?_) (fun q => ?_)
      · replace h := h.1 q
        refine lv_iload hx hb d_P_smearAlong_29 (lv_at hl 5 rfl) ?_
        refine lv_iconst (v := (-1)) hx hb d_P_smearAlong_31 (by decide) ?_
        refine lv_icmp_eq (tgt := 78) hx hb d_P_smearAlong_32 (by decide) (fun q => ?_) (fun q => ?_)
        · replace h := h.1 q
          refine lv_iload hx hb d_P_smearAlong_78 (lv_at hl 6 rfl) ?_
          refine lv_istore (lv' := [(5, .int v6), (0, .ref (ad 0)), (1, .int v1), (2, .int v2), (3, .int v3), (4, .int v4), (6, .int v6)]) hx hb d_P_smearAlong_80 hl (by decide) rfl (fun ls hl => ?_)
          obtain ⟨x82, e82⟩ : ∃ y : Int32, y = v6 + 1 := ⟨_, rfl⟩
          replace h := h x82 e82
          refine lv_iinc (v := x82) (lv' := [(6, .int x82), (5, .int v6), (0, .ref (ad 0)), (1, .int v1), (2, .int v2), (3, .int v3), (4, .int v4)]) hx hb d_P_smearAlong_82 hl (k := 6) rfl (by rw [e82]; rfl) (by decide) rfl (fun ls hl => ?_)
          refine lv_goto (tgt := 6) hx hb d_P_smearAlong_85 (by decide) ?_
          exact ih v6 x82 S _ _ ls hI (lv_sub hl [2, 3, 4, 5, 6, 1, 0] rfl) h
        · replace h := h.2 q
          refine lv_iload hx hb d_P_smearAlong_35 (lv_at hl 6 rfl) ?_
          refine lv_iload hx hb d_P_smearAlong_37 (lv_at hl 5 rfl) ?_
          refine lv_isub hx hb d_P_smearAlong_39 ?_
          refine lv_iconst (v := 1) hx hb d_P_smearAlong_40 (by decide) ?_
          refine lv_isub hx hb d_P_smearAlong_41 ?_
          refine lv_iload hx hb d_P_smearAlong_42 (lv_at hl 4 rfl) ?_
          refine lv_icmp_gt (tgt := 78) hx hb d_P_smearAlong_44 (by decide) (fun q => ?_) (fun q => ?_)
          · replace h := h.1 q
            refine lv_iload hx hb d_P_smearAlong_78 (lv_at hl 6 rfl) ?_
            refine lv_istore (lv' := [(5, .int v6), (0, .ref (ad 0)), (1, .int v1), (2, .int v2), (3, .int v3), (4, .int v4), (6, .int v6)]) hx hb d_P_smearAlong_80 hl (by decide) rfl (fun ls hl => ?_)
            obtain ⟨x82, e82⟩ : ∃ y : Int32, y = v6 + 1 := ⟨_, rfl⟩
            replace h := h x82 e82
            refine lv_iinc (v := x82) (lv' := [(6, .int x82), (5, .int v6), (0, .ref (ad 0)), (1, .int v1), (2, .int v2), (3, .int v3), (4, .int v4)]) hx hb d_P_smearAlong_82 hl (k := 6) rfl (by rw [e82]; rfl) (by decide) rfl (fun ls hl => ?_)
            refine lv_goto (tgt := 6) hx hb d_P_smearAlong_85 (by decide) ?_
            exact ih v6 x82 S _ _ ls hI (lv_sub hl [2, 3, 4, 5, 6, 1, 0] rfl) h
          · replace h := h.2 q
            refine lv_iload hx hb d_P_smearAlong_47 (lv_at hl 5 rfl) ?_
            refine lv_iconst (v := 1) hx hb d_P_smearAlong_49 (by decide) ?_
            refine lv_iadd hx hb d_P_smearAlong_50 ?_
            refine lv_topi (fun x51 e51 => ?_)
            replace h := h x51 e51
            refine lv_istore (lv' := [(7, .int x51), (0, .ref (ad 0)), (1, .int v1), (2, .int v2), (3, .int v3), (4, .int v4), (5, .int v5), (6, .int v6)]) hx hb d_P_smearAlong_51 hl (by decide) rfl (fun ls hl => ?_)
            obtain ⟨k53, h⟩ := h
            refine w_P_smearAlong_53 C hcs _ _ v1 v2 v3 v4 v6 hR (fun S53e H locs ls h hI hl => ?_) k53 x51 S _ _ ls hI (lv_sub hl [1, 2, 3, 4, 5, 7, 0] rfl) h
            refine lv_iload hx hb d_P_smearAlong_78 (lv_at hl 5 rfl) ?_
            refine lv_istore (lv' := [(5, .int v6), (0, .ref (ad 0)), (1, .int v1), (2, .int v2), (3, .int v3), (4, .int v4), (6, .int v6)]) hx hb d_P_smearAlong_80 hl (by decide) rfl (fun ls hl => ?_)
            obtain ⟨x82, e82⟩ : ∃ y : Int32, y = v6 + 1 := ⟨_, rfl⟩
            replace h := h x82 e82
            refine lv_iinc (v := x82) (lv' := [(6, .int x82), (5, .int v6), (0, .ref (ad 0)), (1, .int v1), (2, .int v2), (3, .int v3), (4, .int v4)]) hx hb d_P_smearAlong_82 hl (k := 6) rfl (by rw [e82]; rfl) (by decide) rfl (fun ls hl => ?_)
            refine lv_goto (tgt := 6) hx hb d_P_smearAlong_85 (by decide) ?_
            exact ih v6 x82 S53e _ _ ls hI (lv_sub hl [2, 3, 4, 5, 6, 1, 0] rfl) h
      · replace h := h.2 q
        refine lv_goto (tgt := 82) hx hb d_P_smearAlong_26 (by decide) ?_
        obtain ⟨x82, e82⟩ : ∃ y : Int32, y = v6 + 1 := ⟨_, rfl⟩
        replace h := h x82 e82
        refine lv_iinc (v := x82) (lv' := [(6, .int x82), (0, .ref (ad 0)), (1, .int v1), (2, .int v2), (3, .int v3), (4, .int v4), (5, .int v5)]) hx hb d_P_smearAlong_82 hl (k := 6) rfl (by rw [e82]; rfl) (by decide) rfl (fun ls hl => ?_)
        refine lv_goto (tgt := 6) hx hb d_P_smearAlong_85 (by decide) ?_
        exact ih v5 x82 S _ _ ls hI (lv_sub hl [1, 2, 3, 4, 5, 6, 0] rfl) h
set_option maxHeartbeats 4000000 in
set_option maxRecDepth 100000 in
theorem c_P_smearAlong (v1 : Int32) (v2 : Int32) (v3 : Int32) (v4 : Int32) (S : zS) (post : zS → Prop) (h : P_P_smearAlong v1 v2 v3 v4 S post) : z_ctv l D cA 51 ad y_P_smearAlong b_P_smearAlong 8 none rm_P_smearAlong [.ref (ad 0), .int v1, .int v2, .int v3, .int v4] S post := by
  refine z_metv (av := [.ref (ad 0), .int v1, .int v2, .int v3, .int v4]) (by decide) (Nat.le_of_ble_eq_true rfl) ⟨rfl, rfl⟩ (fun p e s m args below meth c Q ls C hcs hl hI hR => ?_)
  obtain ⟨hx, hb, hml, hown, hts, hK, hJ⟩ := id C
  unfold P_P_smearAlong at h
  have hl : lv_has ls 8 [(0, .ref (ad 0)), (1, .int v1), (2, .int v2), (3, .int v3), (4, .int v4)] := hl
  refine lv_iconst (v := (-1)) hx hb d_P_smearAlong_0 (by decide) ?_
  refine lv_istore (lv' := [(5, .int (-1)), (0, .ref (ad 0)), (1, .int v1), (2, .int v2), (3, .int v3), (4, .int v4)]) hx hb d_P_smearAlong_1 hl (by decide) rfl (fun ls hl => ?_)
  refine lv_iconst (v := 0) hx hb d_P_smearAlong_3 (by decide) ?_
  refine lv_istore (lv' := [(6, .int 0), (5, .int (-1)), (0, .ref (ad 0)), (1, .int v1), (2, .int v2), (3, .int v3), (4, .int v4)]) hx hb d_P_smearAlong_4 hl (by decide) rfl (fun ls hl => ?_)
  obtain ⟨k6, h⟩ := h
  refine w_P_smearAlong_6 C hcs _ v1 v2 v3 v4 hR k6 (-1) 0 S _ _ ls hI (lv_sub hl [2, 3, 4, 5, 6, 1, 0] rfl) h
end ZW
