section ZW
variable {p : Program} {l : Launch} {e : Env} {s : State} {m : MethodId} {args : Array Value} {below : List Frame} {meth : Method} {c : Code} {cells slots : Nat} {Q : State → Prop} {D : va_G} {cA : Nat → ClassId} {n : Nat} {ad : Nat → Nat}
set_option maxHeartbeats 4000000 in
set_option maxRecDepth 100000 in
theorem w_P_countRowsOfLine_2 (C : z_CT p s m args c R_P b_P_countRowsOfLine 4 D cA 51 ad) (hcs : cells ≤ rm_P_countRowsOfLine.cells ∧ slots ≤ rm_P_countRowsOfLine.slots) (post : Int32 → zS → Prop) (K30 : Int32 → zS → Prop) (v1 : Int32) (v2 : Int32) (hR : z_Ri p l e rm_P_countRowsOfLine s m args below meth c Q b_P_countRowsOfLine D cA 51 ad post) (kK30 : ∀ (v3 : Int32) (S : zS) (H : Heap) (locs : List Loc) (ls : Array Slot), K30 v3 S → z_I D cA 51 ad s.heap S H locs → lv_has ls 4 [(2, .int v2), (3, .int v3)] → W p l e rm_P_countRowsOfLine s m args below meth c H locs cells slots Q (F0 m 30 ls [])) : ∀ (n : Nat) (v3 : Int32) (S : zS) (H : Heap) (locs : List Loc) (ls : Array Slot), z_I D cA 51 ad s.heap S H locs → lv_has ls 4 [(0, .ref (ad 0)), (1, .int v1), (2, .int v2), (3, .int v3)] → L_P_countRowsOfLine_2 post K30 v1 v2 n v3 S → W p l e rm_P_countRowsOfLine s m args below meth c H locs cells slots Q (F0 m 2 ls []) := by
  obtain ⟨hx, hb, hml, hown, hts, hK, hJ⟩ := id C
  intro n
  induction n with
  | zero => intro v3 S H locs ls hI hl h; exact h.elim
  | succ n ih =>
    intro v3 S H locs ls hI hl h
    rw [L_P_countRowsOfLine_2] at h
    refine lv_iload_n hx hb d_P_countRowsOfLine_2 rfl (lv_at hl 3 rfl) ?_
    refine lv_aload_n hx hb d_P_countRowsOfLine_3 rfl (lv_at hl 0 rfl) ?_
    refine z_getR C hI 0 (by decide) kd_0 cl_P iw_P 6 (by decide) k_fl_P_39 rfl d_P_countRowsOfLine_4 ?_
    refine z_getR C hI 5 (by decide) kd_5 cl_G iw_G 4 (by decide) k_fl_P_225 rfl d_P_countRowsOfLine_7 ?_
    refine lv_iload_n hx hb d_P_countRowsOfLine_10 rfl (lv_at hl 1 rfl) ?_
    obtain ⟨h1, h⟩ := h
    refine z_ild C hI 10 (by decide) kd_10 h1 d_P_countRowsOfLine_11 ?_
    refine lv_icmp_gt (tgt := 30) hx hb d_P_countRowsOfLine_12 (by decide) (fun q => ?_) (fun q => ?_)
    · replace h := h.1 q
      exact kK30 v3 S _ _ ls h hI (lv_sub hl [2, 3] rfl)
    · replace h := h.2 q
      refine lv_aload_n hx hb d_P_countRowsOfLine_15 rfl (lv_at hl 0 rfl) ?_
      refine lv_iload_n hx hb d_P_countRowsOfLine_16 rfl (lv_at hl 1 rfl) ?_
      refine lv_iload_n hx hb d_P_countRowsOfLine_17 rfl (lv_at hl 3 rfl) ?_
      refine z_callVi C hI 0 (by decide) kd_0 cl_P (As := [.int v1, .int v3]) (rest := []) (c_P_hasCleanOf v1 v3 _ _ h) wc_P_hasCleanOf k_ml_P_234 rfl rfl (Nat.le_of_ble_eq_true rfl) (Nat.le_of_ble_eq_true rfl) hcs hl.1 (Nat.le_of_ble_eq_true rfl) rfl d_P_countRowsOfLine_18 (fun r18 S18 H locs h hI => ?_)
      refine lv_if_eq (tgt := 30) hx hb d_P_countRowsOfLine_21 (by decide) (fun q => ?_) (fun q => ?_)
      · replace h := h.1 q
        exact kK30 v3 S18 _ _ ls h hI (lv_sub hl [2, 3] rfl)
      · replace h := h.2 q
        obtain ⟨x24, e24⟩ : ∃ y : Int32, y = v3 + 1 := ⟨_, rfl⟩
        replace h := h x24 e24
        refine lv_iinc (v := x24) (lv' := [(3, .int x24), (0, .ref (ad 0)), (1, .int v1), (2, .int v2)]) hx hb d_P_countRowsOfLine_24 hl (k := 3) rfl (by rw [e24]; rfl) (by decide) rfl (fun ls hl => ?_)
        refine lv_goto (tgt := 2) hx hb d_P_countRowsOfLine_27 (by decide) ?_
        exact ih x24 S18 _ _ ls hI (lv_sub hl [1, 2, 3, 0] rfl) h
set_option maxHeartbeats 4000000 in
set_option maxRecDepth 100000 in
theorem c_P_countRowsOfLine (v1 : Int32) (v2 : Int32) (S : zS) (post : Int32 → zS → Prop) (h : P_P_countRowsOfLine v1 v2 S post) : z_cti l D cA 51 ad y_P_countRowsOfLine b_P_countRowsOfLine 4 (some .int) rm_P_countRowsOfLine [.ref (ad 0), .int v1, .int v2] S post := by
  refine z_meti (av := [.ref (ad 0), .int v1, .int v2]) (by decide) (Nat.le_of_ble_eq_true rfl) ⟨rfl, rfl⟩ (fun p e s m args below meth c Q ls C hcs hl hI hR => ?_)
  obtain ⟨hx, hb, hml, hown, hts, hK, hJ⟩ := id C
  unfold P_P_countRowsOfLine at h
  have hl : lv_has ls 4 [(0, .ref (ad 0)), (1, .int v1), (2, .int v2)] := hl
  refine lv_iload_n hx hb d_P_countRowsOfLine_0 rfl (lv_at hl 2 rfl) ?_
  refine lv_istore_n (lv' := [(3, .int v2), (0, .ref (ad 0)), (1, .int v1), (2, .int v2)]) hx hb d_P_countRowsOfLine_1 rfl hl (by decide) rfl (fun ls hl => ?_)
  obtain ⟨k2, h⟩ := h
  refine w_P_countRowsOfLine_2 C hcs _ _ v1 v2 hR (fun v3_2e S2e H locs ls h hI hl => ?_) k2 v2 S _ _ ls hI (lv_sub hl [1, 2, 3, 0] rfl) h
  refine lv_iload_n hx hb d_P_countRowsOfLine_30 rfl (lv_at hl 1 rfl) ?_
  refine lv_iload_n hx hb d_P_countRowsOfLine_31 rfl (lv_at hl 0 rfl) ?_
  refine lv_isub hx hb d_P_countRowsOfLine_32 ?_
  exact hR _ _ hcs (v3_2e - v2) S2e _ _ 33 ls h hI d_P_countRowsOfLine_33
set_option maxHeartbeats 4000000 in
set_option maxRecDepth 100000 in
theorem c_P_toldOfParted (v1 : Int32) (S : zS) (post : Int32 → zS → Prop) (h : P_P_toldOfParted v1 S post) : z_cti l D cA 51 ad y_P_toldOfParted b_P_toldOfParted 2 (some .int) rm_P_toldOfParted [.ref (ad 0), .int v1] S post := by
  refine z_meti (av := [.ref (ad 0), .int v1]) (by decide) (Nat.le_of_ble_eq_true rfl) ⟨rfl, rfl⟩ (fun p e s m args below meth c Q ls C hcs hl hI hR => ?_)
  obtain ⟨hx, hb, hml, hown, hts, hK, hJ⟩ := id C
  unfold P_P_toldOfParted at h
  have hl : lv_has ls 2 [(0, .ref (ad 0)), (1, .int v1)] := hl
  refine lv_iload_n hx hb d_P_toldOfParted_0 rfl (lv_at hl 1 rfl) ?_
  by_cases q : v1 = 3
  · replace h := h.1 q
    refine lv_tableIn (tgt := 36) hx hb d_P_toldOfParted_1 (by rw [q]; decide) (by rw [q]; decide) (by rw [q]; rfl) (by decide) ?_
    refine lv_aload_n hx hb d_P_toldOfParted_36 rfl (lv_at hl 0 rfl) ?_
    refine z_getR C hI 0 (by decide) kd_0 cl_P iw_P 6 (by decide) k_fl_P_39 rfl d_P_toldOfParted_37 ?_
    refine z_getI C hI 5 (by decide) kd_5 cl_G iw_G 6 (by decide) k_fl_P_114 rfl d_P_toldOfParted_40 ?_
    exact hR _ _ hcs (S 5 6) S _ _ 43 ls h hI d_P_toldOfParted_43
  replace h := h.2
  have q3 := q
  clear q
  by_cases q : v1 = 4
  · replace h := h.1 q
    refine lv_tableIn (tgt := 44) hx hb d_P_toldOfParted_1 (by rw [q]; decide) (by rw [q]; decide) (by rw [q]; rfl) (by decide) ?_
    refine lv_aload_n hx hb d_P_toldOfParted_44 rfl (lv_at hl 0 rfl) ?_
    refine z_getR C hI 0 (by decide) kd_0 cl_P iw_P 8 (by decide) k_fl_P_49 rfl d_P_toldOfParted_45 ?_
    refine z_getI C hI 21 (by decide) kd_21 cl_C iw_C 4 (by decide) k_fl_P_153 rfl d_P_toldOfParted_48 ?_
    exact hR _ _ hcs (S 21 4) S _ _ 51 ls h hI d_P_toldOfParted_51
  replace h := h.2
  have q4 := q
  clear q
  by_cases q : v1 = 5
  · replace h := h.1 q
    refine lv_tableIn (tgt := 52) hx hb d_P_toldOfParted_1 (by rw [q]; decide) (by rw [q]; decide) (by rw [q]; rfl) (by decide) ?_
    refine lv_aload_n hx hb d_P_toldOfParted_52 rfl (lv_at hl 0 rfl) ?_
    refine z_getI C hI 0 (by decide) kd_0 cl_P iw_P 12 (by decide) k_fl_P_189 rfl d_P_toldOfParted_53 ?_
    exact hR _ _ hcs (S 0 12) S _ _ 56 ls h hI d_P_toldOfParted_56
  replace h := h.2
  have q5 := q
  clear q
  by_cases q : v1 = 6
  · replace h := h.1 q
    refine lv_tableIn (tgt := 57) hx hb d_P_toldOfParted_1 (by rw [q]; decide) (by rw [q]; decide) (by rw [q]; rfl) (by decide) ?_
    refine lv_aload_n hx hb d_P_toldOfParted_57 rfl (lv_at hl 0 rfl) ?_
    refine z_getR C hI 0 (by decide) kd_0 cl_P iw_P 7 (by decide) k_fl_P_43 rfl d_P_toldOfParted_58 ?_
    refine z_getI C hI 13 (by decide) kd_13 cl_G iw_G 6 (by decide) k_fl_P_114 rfl d_P_toldOfParted_61 ?_
    exact hR _ _ hcs (S 13 6) S _ _ 64 ls h hI d_P_toldOfParted_64
  replace h := h.2
  have q6 := q
  clear q
  by_cases q : v1 = 7
  · replace h := h.1 q
    refine lv_tableIn (tgt := 65) hx hb d_P_toldOfParted_1 (by rw [q]; decide) (by rw [q]; decide) (by rw [q]; rfl) (by decide) ?_
    refine lv_aload_n hx hb d_P_toldOfParted_65 rfl (lv_at hl 0 rfl) ?_
    refine z_getI C hI 0 (by decide) kd_0 cl_P iw_P 10 (by decide) k_fl_P_166 rfl d_P_toldOfParted_66 ?_
    refine lv_aload_n hx hb d_P_toldOfParted_69 rfl (lv_at hl 0 rfl) ?_
    refine z_getI C hI 0 (by decide) kd_0 cl_P iw_P 11 (by decide) k_fl_P_192 rfl d_P_toldOfParted_70 ?_
    refine lv_isub hx hb d_P_toldOfParted_73 ?_
    exact hR _ _ hcs ((S 0 10) - (S 0 11)) S _ _ 74 ls h hI d_P_toldOfParted_74
  replace h := h.2
  have q7 := q
  clear q
  replace h := h q3 q4 q5 q6 q7
  refine lv_tableOut (tgt := 75) hx hb d_P_toldOfParted_1 (by have a3 := lv_neT (a := 3) q3 (by decide); have a4 := lv_neT (a := 4) q4 (by decide); have a5 := lv_neT (a := 5) q5 (by decide); have a6 := lv_neT (a := 6) q6 (by decide); have a7 := lv_neT (a := 7) q7 (by decide); omega) (by decide) ?_
  refine lv_iconst (v := (-1)) hx hb d_P_toldOfParted_75 (by decide) ?_
  exact hR _ _ hcs (-1) S _ _ 76 ls h hI d_P_toldOfParted_76
set_option maxHeartbeats 4000000 in
set_option maxRecDepth 100000 in
theorem c_P_told (v1 : Int32) (S : zS) (post : Int32 → zS → Prop) (h : P_P_told v1 S post) : z_cti l D cA 51 ad y_P_told b_P_told 2 (some .int) rm_P_told [.ref (ad 0), .int v1] S post := by
  refine z_meti (av := [.ref (ad 0), .int v1]) (by decide) (Nat.le_of_ble_eq_true rfl) ⟨rfl, rfl⟩ (fun p e s m args below meth c Q ls C hcs hl hI hR => ?_)
  obtain ⟨hx, hb, hml, hown, hts, hK, hJ⟩ := id C
  unfold P_P_told at h
  have hl : lv_has ls 2 [(0, .ref (ad 0)), (1, .int v1)] := hl
  refine lv_iload_n hx hb d_P_told_0 rfl (lv_at hl 1 rfl) ?_
  by_cases q : v1 = 0
  · replace h := h.1 q
    refine lv_tableIn (tgt := 28) hx hb d_P_told_1 (by rw [q]; decide) (by rw [q]; decide) (by rw [q]; rfl) (by decide) ?_
    refine lv_aload_n hx hb d_P_told_28 rfl (lv_at hl 0 rfl) ?_
    refine z_getI C hI 0 (by decide) kd_0 cl_P iw_P 0 (by decide) k_fl_P_27 rfl d_P_told_29 ?_
    exact hR _ _ hcs (S 0 0) S _ _ 32 ls h hI d_P_told_32
  replace h := h.2
  have q0 := q
  clear q
  by_cases q : v1 = 1
  · replace h := h.1 q
    refine lv_tableIn (tgt := 33) hx hb d_P_told_1 (by rw [q]; decide) (by rw [q]; decide) (by rw [q]; rfl) (by decide) ?_
    refine lv_aload_n hx hb d_P_told_33 rfl (lv_at hl 0 rfl) ?_
    refine z_getI C hI 0 (by decide) kd_0 cl_P iw_P 1 (by decide) k_fl_P_31 rfl d_P_told_34 ?_
    exact hR _ _ hcs (S 0 1) S _ _ 37 ls h hI d_P_told_37
  replace h := h.2
  have q1 := q
  clear q
  by_cases q : v1 = 2
  · replace h := h.1 q
    refine lv_tableIn (tgt := 38) hx hb d_P_told_1 (by rw [q]; decide) (by rw [q]; decide) (by rw [q]; rfl) (by decide) ?_
    refine lv_aload_n hx hb d_P_told_38 rfl (lv_at hl 0 rfl) ?_
    refine z_getI C hI 0 (by decide) kd_0 cl_P iw_P 10 (by decide) k_fl_P_166 rfl d_P_told_39 ?_
    exact hR _ _ hcs (S 0 10) S _ _ 42 ls h hI d_P_told_42
  replace h := h.2
  have q2 := q
  clear q
  replace h := h q0 q1 q2
  refine lv_tableOut (tgt := 43) hx hb d_P_told_1 (by have a0 := lv_neT (a := 0) q0 (by decide); have a1 := lv_neT (a := 1) q1 (by decide); have a2 := lv_neT (a := 2) q2 (by decide); omega) (by decide) ?_
  refine lv_aload_n hx hb d_P_told_43 rfl (lv_at hl 0 rfl) ?_
  refine z_getI C hI 0 (by decide) kd_0 cl_P iw_P 14 (by decide) k_fl_P_66 rfl d_P_told_44 ?_
  refine lv_if_eq (tgt := 58) hx hb d_P_told_47 (by decide) (fun q => ?_) (fun q => ?_)
  · replace h := h.1 q
    refine lv_iconst (v := (-1)) hx hb d_P_told_58 (by decide) ?_
    exact hR _ _ hcs (-1) S _ _ 59 ls h hI d_P_told_59
  · replace h := h.2 q
    refine lv_aload_n hx hb d_P_told_50 rfl (lv_at hl 0 rfl) ?_
    refine lv_iload_n hx hb d_P_told_51 rfl (lv_at hl 1 rfl) ?_
    refine z_callVi C hI 0 (by decide) kd_0 cl_P (As := [.int v1]) (rest := []) (c_P_toldOfParted v1 _ _ h) wc_P_toldOfParted k_ml_P_169 rfl rfl (Nat.le_of_ble_eq_true rfl) (Nat.le_of_ble_eq_true rfl) hcs hl.1 (Nat.le_of_ble_eq_true rfl) rfl d_P_told_52 (fun r52 S52 H locs h hI => ?_)
    refine lv_goto (tgt := 59) hx hb d_P_told_55 (by decide) ?_
    exact hR _ _ hcs r52 S52 _ _ 59 ls h hI d_P_told_59
set_option maxHeartbeats 4000000 in
set_option maxRecDepth 100000 in
theorem w_P_clear_2 (C : z_CT p s m args c R_P b_P_clear 2 D cA 51 ad) (hcs : cells ≤ rm_P_clear.cells ∧ slots ≤ rm_P_clear.slots) (post : zS → Prop) (K22 : zS → Prop) (hR : z_Rv p l e rm_P_clear s m args below meth c Q b_P_clear D cA 51 ad post) (kK22 : ∀ (S : zS) (H : Heap) (locs : List Loc) (ls : Array Slot), K22 S → z_I D cA 51 ad s.heap S H locs → lv_has ls 2 [(0, .ref (ad 0))] → W p l e rm_P_clear s m args below meth c H locs cells slots Q (F0 m 22 ls [])) : ∀ (n : Nat) (v1 : Int32) (S : zS) (H : Heap) (locs : List Loc) (ls : Array Slot), z_I D cA 51 ad s.heap S H locs → lv_has ls 2 [(0, .ref (ad 0)), (1, .int v1)] → L_P_clear_2 post K22 n v1 S → W p l e rm_P_clear s m args below meth c H locs cells slots Q (F0 m 2 ls []) := by
  obtain ⟨hx, hb, hml, hown, hts, hK, hJ⟩ := id C
  intro n
  induction n with
  | zero => intro v1 S H locs ls hI hl h; exact h.elim
  | succ n ih =>
    intro v1 S H locs ls hI hl h
    rw [L_P_clear_2] at h
    refine lv_iload_n hx hb d_P_clear_2 rfl (lv_at hl 1 rfl) ?_
    refine lv_sipush (v := 576) hx hb d_P_clear_3 (by decide) ?_
    refine lv_icmp_ge (tgt := 22) hx hb d_P_clear_6 (by decide) (fun q => ?_) (fun q => ?_)
    · replace h := h.1 q
      exact kK22 S _ _ ls h hI (lv_sub hl [0] rfl)
    · replace h := h.2 q
      refine lv_aload_n hx hb d_P_clear_9 rfl (lv_at hl 0 rfl) ?_
      refine z_getR C hI 0 (by decide) kd_0 cl_P iw_P 2 (by decide) k_fl_P_9 rfl d_P_clear_10 ?_
      refine lv_iload_n hx hb d_P_clear_13 rfl (lv_at hl 1 rfl) ?_
      refine lv_iconst (v := 0) hx hb d_P_clear_14 (by decide) ?_
      obtain ⟨h1, h⟩ := h
      refine z_zst C hI 1 (by decide) kd_1 h1 (by decide) d_P_clear_15 (fun S15 eS H locs hI => ?_)
      replace h := h S15 eS
      obtain ⟨x16, e16⟩ : ∃ y : Int32, y = v1 + 1 := ⟨_, rfl⟩
      replace h := h x16 e16
      refine lv_iinc (v := x16) (lv' := [(1, .int x16), (0, .ref (ad 0))]) hx hb d_P_clear_16 hl (k := 1) rfl (by rw [e16]; rfl) (by decide) rfl (fun ls hl => ?_)
      refine lv_goto (tgt := 2) hx hb d_P_clear_19 (by decide) ?_
      exact ih x16 S15 _ _ ls hI (lv_sub hl [1, 0] rfl) h
set_option maxHeartbeats 4000000 in
set_option maxRecDepth 100000 in
theorem c_P_clear (S : zS) (post : zS → Prop) (h : P_P_clear S post) : z_ctv l D cA 51 ad y_P_clear b_P_clear 2 none rm_P_clear [.ref (ad 0)] S post := by
  refine z_metv (av := [.ref (ad 0)]) (by decide) (Nat.le_of_ble_eq_true rfl) ⟨rfl, rfl⟩ (fun p e s m args below meth c Q ls C hcs hl hI hR => ?_)
  obtain ⟨hx, hb, hml, hown, hts, hK, hJ⟩ := id C
  unfold P_P_clear at h
  have hl : lv_has ls 2 [(0, .ref (ad 0))] := hl
  refine lv_iconst (v := 0) hx hb d_P_clear_0 (by decide) ?_
  refine lv_istore_n (lv' := [(1, .int 0), (0, .ref (ad 0))]) hx hb d_P_clear_1 rfl hl (by decide) rfl (fun ls hl => ?_)
  obtain ⟨k2, h⟩ := h
  refine w_P_clear_2 C hcs _ _ hR (fun S2e H locs ls h hI hl => ?_) k2 0 S _ _ ls hI (lv_sub hl [1, 0] rfl) h
  refine lv_aload_n hx hb d_P_clear_22 rfl (lv_at hl 0 rfl) ?_
  refine lv_iconst (v := 0) hx hb d_P_clear_23 (by decide) ?_
  refine z_putI C hI 0 (by decide) kd_0 cl_P iw_P ty_P ty_P_ok n_P 10 (by decide) k_fl_P_166 rfl rfl rfl d_P_clear_24 (fun S24 eS H locs hI => ?_)
  replace h := h S24 eS
  refine lv_aload_n hx hb d_P_clear_27 rfl (lv_at hl 0 rfl) ?_
  refine lv_iconst (v := 3) hx hb d_P_clear_28 (by decide) ?_
  refine z_putI C hI 0 (by decide) kd_0 cl_P iw_P ty_P ty_P_ok n_P 13 (by decide) k_fl_P_60 rfl rfl rfl d_P_clear_29 (fun S29 eS H locs hI => ?_)
  replace h := h S29 eS
  refine lv_aload_n hx hb d_P_clear_32 rfl (lv_at hl 0 rfl) ?_
  refine lv_iconst (v := 0) hx hb d_P_clear_33 (by decide) ?_
  refine z_putZ C hI 0 (by decide) kd_0 cl_P iw_P ty_P ty_P_ok n_P 14 (by decide) k_fl_P_66 rfl rfl rfl (by decide) d_P_clear_34 (fun S34 eS H locs hI => ?_)
  replace h := h S34 eS
  exact hR _ _ hcs S34 _ _ 37 ls h hI d_P_clear_37
set_option maxHeartbeats 4000000 in
set_option maxRecDepth 100000 in
theorem c_M_nearest (v0 : Int32) (S : zS) (post : Int32 → zS → Prop) (h : P_M_nearest v0 S post) : z_cti l D cA n ad y_M_nearest b_M_nearest 1 (some .int) rm_M_nearest [.int v0] S post := by
  refine z_meti (av := [.int v0]) (by decide) (Nat.le_of_ble_eq_true rfl) ⟨rfl, rfl⟩ (fun p e s m args below meth c Q ls C hcs hl hI hR => ?_)
  obtain ⟨hx, hb, hml, hown, hts, hK, hJ⟩ := id C
  unfold P_M_nearest at h
  have hl : lv_has ls 1 [(0, .int v0)] := hl
  refine lv_iload_n hx hb d_M_nearest_0 rfl (lv_at hl 0 rfl) ?_
  refine lv_iconst (v := 1) hx hb d_M_nearest_1 (by decide) ?_
  refine lv_icmp_ge (tgt := 9) hx hb d_M_nearest_2 (by decide) (fun q => ?_) (fun q => ?_)
  · replace h := h.1 q
    refine lv_iload_n hx hb d_M_nearest_9 rfl (lv_at hl 0 rfl) ?_
    refine lv_bipush (v := 24) hx hb d_M_nearest_10 (by decide) ?_
    refine lv_icmp_le (tgt := 20) hx hb d_M_nearest_12 (by decide) (fun q => ?_) (fun q => ?_)
    · replace h := h.1 q
      refine lv_iload_n hx hb d_M_nearest_20 rfl (lv_at hl 0 rfl) ?_
      exact hR _ _ hcs v0 S _ _ 21 ls h hI d_M_nearest_21
    · replace h := h.2 q
      refine lv_bipush (v := 24) hx hb d_M_nearest_15 (by decide) ?_
      refine lv_goto (tgt := 21) hx hb d_M_nearest_17 (by decide) ?_
      exact hR _ _ hcs 24 S _ _ 21 ls h hI d_M_nearest_21
  · replace h := h.2 q
    refine lv_iconst (v := 1) hx hb d_M_nearest_5 (by decide) ?_
    refine lv_goto (tgt := 21) hx hb d_M_nearest_6 (by decide) ?_
    exact hR _ _ hcs 1 S _ _ 21 ls h hI d_M_nearest_21
set_option maxHeartbeats 4000000 in
set_option maxRecDepth 100000 in
theorem c_M_thrown (S : zS) (post : Int32 → zS → Prop) (h : P_M_thrown S post) : z_cti l D cA 51 ad y_M_thrown b_M_thrown 1 (some .int) rm_M_thrown [.ref (ad 31)] S post := by
  refine z_meti (av := [.ref (ad 31)]) (by decide) (Nat.le_of_ble_eq_true rfl) ⟨rfl, rfl⟩ (fun p e s m args below meth c Q ls C hcs hl hI hR => ?_)
  obtain ⟨hx, hb, hml, hown, hts, hK, hJ⟩ := id C
  unfold P_M_thrown at h
  have hl : lv_has ls 1 [(0, .ref (ad 31))] := hl
  refine lv_aload_n hx hb d_M_thrown_0 rfl (lv_at hl 0 rfl) ?_
  refine z_getI C hI 31 (by decide) kd_31 cl_M iw_M 0 (by decide) k_fl_M_79 rfl d_M_thrown_1 ?_
  exact hR _ _ hcs (S 31 0) S _ _ 4 ls h hI d_M_thrown_4
set_option maxHeartbeats 4000000 in
set_option maxRecDepth 100000 in
theorem c_M_in (v0 : Int32) (v1 : Int32) (v2 : Int32) (S : zS) (post : Int32 → zS → Prop) (h : P_M_in v0 v1 v2 S post) : z_cti l D cA n ad y_M_in b_M_in 3 (some .boolean) rm_M_in [.int v0, .int v1, .int v2] S post := by
  refine z_metz (av := [.int v0, .int v1, .int v2]) (by decide) (Nat.le_of_ble_eq_true rfl) ⟨rfl, rfl⟩ (fun p e s m args below meth c Q ls C hcs hl hI hR => ?_)
  obtain ⟨hx, hb, hml, hown, hts, hK, hJ⟩ := id C
  unfold P_M_in at h
  have hl : lv_has ls 3 [(0, .int v0), (1, .int v1), (2, .int v2)] := hl
  refine lv_iload_n hx hb d_M_in_0 rfl (lv_at hl 0 rfl) ?_
  refine lv_iload_n hx hb d_M_in_1 rfl (lv_at hl 1 rfl) ?_
  refine lv_icmp_lt (tgt := 14) hx hb d_M_in_2 (by decide) (fun q => ?_) (fun q => ?_)
  · replace h := h.1 q
    refine lv_iconst (v := 0) hx hb d_M_in_14 (by decide) ?_
    exact hR _ _ hcs 0 S _ _ 15 ls (by decide) h hI d_M_in_15
  · replace h := h.2 q
    refine lv_iload_n hx hb d_M_in_5 rfl (lv_at hl 0 rfl) ?_
    refine lv_iload_n hx hb d_M_in_6 rfl (lv_at hl 2 rfl) ?_
    refine lv_icmp_gt (tgt := 14) hx hb d_M_in_7 (by decide) (fun q => ?_) (fun q => ?_)
    · replace h := h.1 q
      refine lv_iconst (v := 0) hx hb d_M_in_14 (by decide) ?_
      exact hR _ _ hcs 0 S _ _ 15 ls (by decide) h hI d_M_in_15
    · replace h := h.2 q
      refine lv_iconst (v := 1) hx hb d_M_in_10 (by decide) ?_
      refine lv_goto (tgt := 15) hx hb d_M_in_11 (by decide) ?_
      exact hR _ _ hcs 1 S _ _ 15 ls (by decide) h hI d_M_in_15
set_option maxHeartbeats 4000000 in
set_option maxRecDepth 100000 in
theorem c_M_isSample (v1 : Int32) (v2 : Int32) (S : zS) (post : Int32 → zS → Prop) (h : P_M_isSample v1 v2 S post) : z_cti l D cA 51 ad y_M_isSample b_M_isSample 3 (some .boolean) rm_M_isSample [.ref (ad 31), .int v1, .int v2] S post := by
  refine z_metz (av := [.ref (ad 31), .int v1, .int v2]) (by decide) (Nat.le_of_ble_eq_true rfl) ⟨rfl, rfl⟩ (fun p e s m args below meth c Q ls C hcs hl hI hR => ?_)
  obtain ⟨hx, hb, hml, hown, hts, hK, hJ⟩ := id C
  unfold P_M_isSample at h
  have hl : lv_has ls 3 [(0, .ref (ad 31)), (1, .int v1), (2, .int v2)] := hl
  refine lv_iload_n hx hb d_M_isSample_0 rfl (lv_at hl 1 rfl) ?_
  refine lv_iconst (v := 0) hx hb d_M_isSample_1 (by decide) ?_
  refine lv_aload_n hx hb d_M_isSample_2 rfl (lv_at hl 0 rfl) ?_
  refine z_getI C hI 31 (by decide) kd_31 cl_M iw_M 1 (by decide) k_fl_M_73 rfl d_M_isSample_3 ?_
  refine lv_iconst (v := 1) hx hb d_M_isSample_6 (by decide) ?_
  refine lv_isub hx hb d_M_isSample_7 ?_
  refine z_callSi C hI (As := [.int v1, .int 0, .int ((S 31 1) - 1)]) (rest := []) (c_M_in v1 0 ((S 31 1) - 1) _ _ h) wc_M_in k_ml_M_82 rfl rfl (Nat.le_of_ble_eq_true rfl) (Nat.le_of_ble_eq_true rfl) hcs hl.1 (Nat.le_of_ble_eq_true rfl) rfl d_M_isSample_8 (fun r8 S8 H locs h hI => ?_)
  refine lv_if_eq (tgt := 32) hx hb d_M_isSample_11 (by decide) (fun q => ?_) (fun q => ?_)
  · replace h := h.1 q
    refine lv_iconst (v := 0) hx hb d_M_isSample_32 (by decide) ?_
    exact hR _ _ hcs 0 S8 _ _ 33 ls (by decide) h hI d_M_isSample_33
  · replace h := h.2 q
    refine lv_iload_n hx hb d_M_isSample_14 rfl (lv_at hl 2 rfl) ?_
    refine lv_iconst (v := 0) hx hb d_M_isSample_15 (by decide) ?_
    refine lv_aload_n hx hb d_M_isSample_16 rfl (lv_at hl 0 rfl) ?_
    refine z_getI C hI 31 (by decide) kd_31 cl_M iw_M 2 (by decide) k_fl_M_76 rfl d_M_isSample_17 ?_
    refine lv_iconst (v := 1) hx hb d_M_isSample_20 (by decide) ?_
    refine lv_isub hx hb d_M_isSample_21 ?_
    refine z_callSi C hI (As := [.int v2, .int 0, .int ((S8 31 2) - 1)]) (rest := []) (c_M_in v2 0 ((S8 31 2) - 1) _ _ h) wc_M_in k_ml_M_82 rfl rfl (Nat.le_of_ble_eq_true rfl) (Nat.le_of_ble_eq_true rfl) hcs hl.1 (Nat.le_of_ble_eq_true rfl) rfl d_M_isSample_22 (fun r22 S22 H locs h hI => ?_)
    refine lv_if_eq (tgt := 32) hx hb d_M_isSample_25 (by decide) (fun q => ?_) (fun q => ?_)
    · replace h := h.1 q
      refine lv_iconst (v := 0) hx hb d_M_isSample_32 (by decide) ?_
      exact hR _ _ hcs 0 S22 _ _ 33 ls (by decide) h hI d_M_isSample_33
    · replace h := h.2 q
      refine lv_iconst (v := 1) hx hb d_M_isSample_28 (by decide) ?_
      refine lv_goto (tgt := 33) hx hb d_M_isSample_29 (by decide) ?_
      exact hR _ _ hcs 1 S22 _ _ 33 ls (by decide) h hI d_M_isSample_33
set_option maxHeartbeats 4000000 in
set_option maxRecDepth 100000 in
theorem w_M_goes_26 (C : z_CT p s m args c R_M b_M_goes 4 D cA 51 ad) (hcs : cells ≤ rm_M_goes.cells ∧ slots ≤ rm_M_goes.slots) (post : Int32 → zS → Prop) (t0 : Int32) (hR : z_Rz p l e rm_M_goes s m args below meth c Q b_M_goes D cA 51 ad post) (S : zS) (H : Heap) (locs : List Loc) (ls : Array Slot) (hI : z_I D cA 51 ad s.heap S H locs) (hl : lv_has ls 4 [(0, .ref (ad 31))]) (h : J_M_goes_26 post t0 S) : W p l e rm_M_goes s m args below meth c H locs cells slots Q (F0 m 26 ls [.int t0, .ref (ad 31)]) := by
  obtain ⟨hx, hb, hml, hown, hts, hK, hJ⟩ := id C
  unfold J_M_goes_26 at h
  refine z_putI C hI 31 (by decide) kd_31 cl_M iw_M ty_M ty_M_ok n_M 0 (by decide) k_fl_M_79 rfl rfl rfl d_M_goes_26 (fun S26 eS H locs hI => ?_)
  replace h := h S26 eS
  refine lv_aload_n hx hb d_M_goes_29 rfl (lv_at hl 0 rfl) ?_
  refine z_getI C hI 31 (by decide) kd_31 cl_M iw_M 0 (by decide) k_fl_M_79 rfl d_M_goes_30 ?_
  refine lv_if_ne (tgt := 40) hx hb d_M_goes_33 (by decide) (fun q => ?_) (fun q => ?_)
  · replace h := h.1 q
    refine lv_iconst (v := 0) hx hb d_M_goes_40 (by decide) ?_
    exact hR _ _ hcs 0 S26 _ _ 41 ls (by decide) h hI d_M_goes_41
  · replace h := h.2 q
    refine lv_iconst (v := 1) hx hb d_M_goes_36 (by decide) ?_
    refine lv_goto (tgt := 41) hx hb d_M_goes_37 (by decide) ?_
    exact hR _ _ hcs 1 S26 _ _ 41 ls (by decide) h hI d_M_goes_41
set_option maxHeartbeats 4000000 in
set_option maxRecDepth 100000 in
theorem c_M_goes (v1 : Int32) (v2 : Int32) (v3 : Int32) (S : zS) (post : Int32 → zS → Prop) (h : P_M_goes v1 v2 v3 S post) : z_cti l D cA 51 ad y_M_goes b_M_goes 4 (some .boolean) rm_M_goes [.ref (ad 31), .int v1, .int v2, .int v3] S post := by
  refine z_metz (av := [.ref (ad 31), .int v1, .int v2, .int v3]) (by decide) (Nat.le_of_ble_eq_true rfl) ⟨rfl, rfl⟩ (fun p e s m args below meth c Q ls C hcs hl hI hR => ?_)
  obtain ⟨hx, hb, hml, hown, hts, hK, hJ⟩ := id C
  unfold P_M_goes at h
  have hl : lv_has ls 4 [(0, .ref (ad 31)), (1, .int v1), (2, .int v2), (3, .int v3)] := hl
  refine lv_aload_n hx hb d_M_goes_0 rfl (lv_at hl 0 rfl) ?_
  refine lv_iload_n hx hb d_M_goes_1 rfl (lv_at hl 1 rfl) ?_
  refine lv_if_ne (tgt := 9) hx hb d_M_goes_2 (by decide) (fun q => ?_) (fun q => ?_)
  · replace h := h.1 q
    refine lv_iload_n hx hb d_M_goes_9 rfl (lv_at hl 2 rfl) ?_
    refine lv_if_ne (tgt := 17) hx hb d_M_goes_10 (by decide) (fun q => ?_) (fun q => ?_)
    · replace h := h.1 q
      refine lv_iload_n hx hb d_M_goes_17 rfl (lv_at hl 3 rfl) ?_
      refine lv_if_ne (tgt := 25) hx hb d_M_goes_18 (by decide) (fun q => ?_) (fun q => ?_)
      · replace h := h.1 q
        refine lv_iconst (v := 0) hx hb d_M_goes_25 (by decide) ?_
        exact w_M_goes_26 C hcs _ 0 hR S _ _ ls hI (lv_sub hl [0] rfl) h
      · replace h := h.2 q
        refine lv_iconst (v := 3) hx hb d_M_goes_21 (by decide) ?_
        refine lv_goto (tgt := 26) hx hb d_M_goes_22 (by decide) ?_
        exact w_M_goes_26 C hcs _ 3 hR S _ _ ls hI (lv_sub hl [0] rfl) h
    · replace h := h.2 q
      refine lv_iconst (v := 2) hx hb d_M_goes_13 (by decide) ?_
      refine lv_goto (tgt := 26) hx hb d_M_goes_14 (by decide) ?_
      exact w_M_goes_26 C hcs _ 2 hR S _ _ ls hI (lv_sub hl [0] rfl) h
  · replace h := h.2 q
    refine lv_iconst (v := 1) hx hb d_M_goes_5 (by decide) ?_
    refine lv_goto (tgt := 26) hx hb d_M_goes_6 (by decide) ?_
    exact w_M_goes_26 C hcs _ 1 hR S _ _ ls hI (lv_sub hl [0] rfl) h
set_option maxHeartbeats 4000000 in
set_option maxRecDepth 100000 in
theorem w_M_put_41 (C : z_CT p s m args c R_M b_M_put 6 D cA 51 ad) (hcs : cells ≤ rm_M_put.cells ∧ slots ≤ rm_M_put.slots) (post : Int32 → zS → Prop) (v3 : Int32) (v4 : Int32) (t0 : Int32) (hR : z_Rz p l e rm_M_put s m args below meth c Q b_M_put D cA 51 ad post) (S : zS) (H : Heap) (locs : List Loc) (ls : Array Slot) (hI : z_I D cA 51 ad s.heap S H locs) (hl : lv_has ls 6 [(0, .ref (ad 31)), (3, .int v3), (4, .int v4)]) (h : J_M_put_41 post v3 v4 t0 S) : W p l e rm_M_put s m args below meth c H locs cells slots Q (F0 m 41 ls [.int t0]) := by
  obtain ⟨hx, hb, hml, hown, hts, hK, hJ⟩ := id C
  unfold J_M_put_41 at h
  refine lv_istore (lv' := [(5, .int t0), (0, .ref (ad 31)), (3, .int v3), (4, .int v4)]) hx hb d_M_put_41 hl (by decide) rfl (fun ls hl => ?_)
  refine lv_aload_n hx hb d_M_put_43 rfl (lv_at hl 1 rfl) ?_
  refine z_getR C hI 31 (by decide) kd_31 cl_M iw_M 3 (by decide) k_fl_M_7 rfl d_M_put_44 ?_
  refine lv_iload hx hb d_M_put_47 (lv_at hl 3 rfl) ?_
  refine lv_iload_n hx hb d_M_put_49 rfl (lv_at hl 2 rfl) ?_
  obtain ⟨h1, h⟩ := h
  obtain ⟨h2, h⟩ := h
  refine z_zst C hI 32 (by decide) kd_32 h1 h2 d_M_put_50 (fun S50 eS H locs hI => ?_)
  replace h := h S50 eS
  refine lv_aload_n hx hb d_M_put_51 rfl (lv_at hl 1 rfl) ?_
  refine lv_iconst (v := 0) hx hb d_M_put_52 (by decide) ?_
  refine z_putZ C hI 31 (by decide) kd_31 cl_M iw_M ty_M ty_M_ok n_M 5 (by decide) k_fl_M_94 rfl rfl rfl (by decide) d_M_put_53 (fun S53 eS H locs hI => ?_)
  replace h := h S53 eS
  refine lv_iload hx hb d_M_put_56 (lv_at hl 0 rfl) ?_
  exact hR _ _ hcs t0 S53 _ _ 58 ls h.1 h.2 hI d_M_put_58
set_option maxHeartbeats 4000000 in
set_option maxRecDepth 100000 in
theorem c_M_put (v1 : Int32) (v2 : Int32) (v3 : Int32) (S : zS) (post : Int32 → zS → Prop) (h : P_M_put v1 v2 v3 S post) : z_cti l D cA 51 ad y_M_put b_M_put 6 (some .boolean) rm_M_put [.ref (ad 31), .int v1, .int v2, .int v3] S post := by
  refine z_metz (av := [.ref (ad 31), .int v1, .int v2, .int v3]) (by decide) (Nat.le_of_ble_eq_true rfl) ⟨rfl, rfl⟩ (fun p e s m args below meth c Q ls C hcs hl hI hR => ?_)
  obtain ⟨hx, hb, hml, hown, hts, hK, hJ⟩ := id C
  unfold P_M_put at h
  have hl : lv_has ls 6 [(0, .ref (ad 31)), (1, .int v1), (2, .int v2), (3, .int v3)] := hl
  refine lv_aload_n hx hb d_M_put_0 rfl (lv_at hl 0 rfl) ?_
  refine lv_aload_n hx hb d_M_put_1 rfl (lv_at hl 0 rfl) ?_
  refine lv_iload_n hx hb d_M_put_2 rfl (lv_at hl 1 rfl) ?_
  refine lv_iload_n hx hb d_M_put_3 rfl (lv_at hl 2 rfl) ?_
  refine z_callVi C hI 31 (by decide) kd_31 cl_M (As := [.int v1, .int v2]) (rest := [.ref (ad 31)]) (c_M_isSample v1 v2 _ _ h) wc_M_isSample k_ml_M_86 rfl rfl (Nat.le_of_ble_eq_true rfl) (Nat.le_of_ble_eq_true rfl) hcs hl.1 (Nat.le_of_ble_eq_true rfl) rfl d_M_put_4 (fun r4 S4 H locs h hI => ?_)
  refine lv_iconst (v := 1) hx hb d_M_put_7 (by decide) ?_
  refine lv_iconst (v := 1) hx hb d_M_put_8 (by decide) ?_
  refine z_callVi C hI 31 (by decide) kd_31 cl_M (As := [.int r4, .int 1, .int 1]) (rest := []) (c_M_goes r4 1 1 _ _ h) wc_M_goes k_ml_M_90 rfl rfl (Nat.le_of_ble_eq_true rfl) (Nat.le_of_ble_eq_true rfl) hcs hl.1 (Nat.le_of_ble_eq_true rfl) rfl d_M_put_9 (fun r9 S9 H locs h hI => ?_)
  refine lv_if_ne (tgt := 17) hx hb d_M_put_12 (by decide) (fun q => ?_) (fun q => ?_)
  · replace h := h.1 q
    refine lv_bipush (v := 24) hx hb d_M_put_17 (by decide) ?_
    refine lv_iload_n hx hb d_M_put_19 rfl (lv_at hl 2 rfl) ?_
    refine lv_imul hx hb d_M_put_20 ?_
    refine lv_iload_n hx hb d_M_put_21 rfl (lv_at hl 1 rfl) ?_
    refine lv_iadd hx hb d_M_put_22 ?_
    refine lv_topi (fun x23 e23 => ?_)
    replace h := h x23 e23
    refine lv_istore (lv' := [(4, .int x23), (0, .ref (ad 31)), (1, .int v1), (2, .int v2), (3, .int v3)]) hx hb d_M_put_23 hl (by decide) rfl (fun ls hl => ?_)
    refine lv_aload_n hx hb d_M_put_25 rfl (lv_at hl 1 rfl) ?_
    refine z_getR C hI 31 (by decide) kd_31 cl_M iw_M 3 (by decide) k_fl_M_7 rfl d_M_put_26 ?_
    refine lv_iload hx hb d_M_put_29 (lv_at hl 0 rfl) ?_
    obtain ⟨h1, h⟩ := h
    refine z_zld C hI 32 (by decide) kd_32 h1 d_M_put_31 ?_
    refine lv_iload_n hx hb d_M_put_32 rfl (lv_at hl 4 rfl) ?_
    refine lv_icmp_eq (tgt := 40) hx hb d_M_put_33 (by decide) (fun q => ?_) (fun q => ?_)
    · replace h := h.1 q
      refine lv_iconst (v := 0) hx hb d_M_put_40 (by decide) ?_
      exact w_M_put_41 C hcs _ v3 x23 0 hR S9 _ _ ls hI (lv_sub hl [1, 4, 0] rfl) h
    · replace h := h.2 q
      refine lv_iconst (v := 1) hx hb d_M_put_36 (by decide) ?_
      refine lv_goto (tgt := 41) hx hb d_M_put_37 (by decide) ?_
      exact w_M_put_41 C hcs _ v3 x23 1 hR S9 _ _ ls hI (lv_sub hl [1, 4, 0] rfl) h
  · replace h := h.2 q
    refine lv_iconst (v := 0) hx hb d_M_put_15 (by decide) ?_
    exact hR _ _ hcs 0 S9 _ _ 16 ls (by decide) h hI d_M_put_16
set_option maxHeartbeats 4000000 in
set_option maxRecDepth 100000 in
theorem w_M_fill_103 (C : z_CT p s m args c R_M b_M_fill 9 D cA 51 ad) (hcs : cells ≤ rm_M_fill.cells ∧ slots ≤ rm_M_fill.slots) (post : Int32 → zS → Prop) (K59 : Int32 → Int32 → zS → Prop) (v1 : Int32) (v2 : Int32) (v3 : Int32) (v4 : Int32) (v5 : Int32) (v7 : Int32) (v8 : Int32) (t0 : Int32) (hR : z_Ri p l e rm_M_fill s m args below meth c Q b_M_fill D cA 51 ad post) (kK59 : ∀ (v6 : Int32) (v8 : Int32) (S : zS) (H : Heap) (locs : List Loc) (ls : Array Slot), K59 v6 v8 S → z_I D cA 51 ad s.heap S H locs → lv_has ls 9 [(0, .ref (ad 31)), (1, .int v1), (2, .int v2), (3, .int v3), (4, .int v4), (5, .int v5), (6, .int v6), (7, .int v7), (8, .int v8)] → W p l e rm_M_fill s m args below meth c H locs cells slots Q (F0 m 59 ls [])) (S : zS) (H : Heap) (locs : List Loc) (ls : Array Slot) (hI : z_I D cA 51 ad s.heap S H locs) (hl : lv_has ls 9 [(0, .ref (ad 31)), (1, .int v1), (2, .int v2), (3, .int v3), (4, .int v4), (5, .int v5), (7, .int v7), (8, .int v8)]) (h : J_M_fill_103 post K59 v1 v2 v3 v4 v5 v7 v8 t0 S) : W p l e rm_M_fill s m args below meth c H locs cells slots Q (F0 m 103 ls [.int t0]) := by
  obtain ⟨hx, hb, hml, hown, hts, hK, hJ⟩ := id C
  unfold J_M_fill_103 at h
  refine lv_istore (lv' := [(6, .int t0), (0, .ref (ad 31)), (1, .int v1), (2, .int v2), (3, .int v3), (4, .int v4), (5, .int v5), (7, .int v7), (8, .int v8)]) hx hb d_M_fill_103 hl (by decide) rfl (fun ls hl => ?_)
  refine lv_aload_n hx hb d_M_fill_105 rfl (lv_at hl 1 rfl) ?_
  refine z_getR C hI 31 (by decide) kd_31 cl_M iw_M 3 (by decide) k_fl_M_7 rfl d_M_fill_106 ?_
  refine lv_bipush (v := 24) hx hb d_M_fill_109 (by decide) ?_
  refine lv_iload hx hb d_M_fill_111 (lv_at hl 7 rfl) ?_
  refine lv_imul hx hb d_M_fill_113 ?_
  refine lv_iload hx hb d_M_fill_114 (lv_at hl 8 rfl) ?_
  refine lv_iadd hx hb d_M_fill_116 ?_
  refine lv_iload hx hb d_M_fill_117 (lv_at hl 6 rfl) ?_
  obtain ⟨h1, h⟩ := h
  obtain ⟨h2, h⟩ := h
  refine z_zst C hI 32 (by decide) kd_32 h1 h2 d_M_fill_119 (fun S119 eS H locs hI => ?_)
  replace h := h S119 eS
  obtain ⟨x120, e120⟩ : ∃ y : Int32, y = v8 + 1 := ⟨_, rfl⟩
  replace h := h x120 e120
  refine lv_iinc (v := x120) (lv' := [(8, .int x120), (6, .int t0), (0, .ref (ad 31)), (1, .int v1), (2, .int v2), (3, .int v3), (4, .int v4), (5, .int v5), (7, .int v7)]) hx hb d_M_fill_120 hl (k := 8) rfl (by rw [e120]; rfl) (by decide) rfl (fun ls hl => ?_)
  refine lv_goto (tgt := 59) hx hb d_M_fill_123 (by decide) ?_
  exact kK59 t0 x120 S119 _ _ ls h hI (lv_sub hl [2, 3, 4, 5, 6, 7, 1, 8, 0] rfl)
set_option maxHeartbeats 4000000 in
set_option maxRecDepth 100000 in
theorem w_M_fill_59 (C : z_CT p s m args c R_M b_M_fill 9 D cA 51 ad) (hcs : cells ≤ rm_M_fill.cells ∧ slots ≤ rm_M_fill.slots) (post : Int32 → zS → Prop) (K126 : Int32 → zS → Prop) (v1 : Int32) (v2 : Int32) (v3 : Int32) (v4 : Int32) (v5 : Int32) (v7 : Int32) (hR : z_Ri p l e rm_M_fill s m args below meth c Q b_M_fill D cA 51 ad post) (kK126 : ∀ (v6 : Int32) (S : zS) (H : Heap) (locs : List Loc) (ls : Array Slot), K126 v6 S → z_I D cA 51 ad s.heap S H locs → lv_has ls 9 [(0, .ref (ad 31)), (1, .int v1), (2, .int v2), (3, .int v3), (4, .int v4), (5, .int v5), (6, .int v6), (7, .int v7)] → W p l e rm_M_fill s m args below meth c H locs cells slots Q (F0 m 126 ls [])) : ∀ (n : Nat) (v6 : Int32) (v8 : Int32) (S : zS) (H : Heap) (locs : List Loc) (ls : Array Slot), z_I D cA 51 ad s.heap S H locs → lv_has ls 9 [(0, .ref (ad 31)), (1, .int v1), (2, .int v2), (3, .int v3), (4, .int v4), (5, .int v5), (6, .int v6), (7, .int v7), (8, .int v8)] → L_M_fill_59 post K126 v1 v2 v3 v4 v5 v7 n v6 v8 S → W p l e rm_M_fill s m args below meth c H locs cells slots Q (F0 m 59 ls []) := by
  obtain ⟨hx, hb, hml, hown, hts, hK, hJ⟩ := id C
  intro n
  induction n with
  | zero => intro v6 v8 S H locs ls hI hl h; exact h.elim
  | succ n ih =>
    intro v6 v8 S H locs ls hI hl h
    rw [L_M_fill_59] at h
    refine lv_iload hx hb d_M_fill_59 (lv_at hl 8 rfl) ?_
    refine lv_aload_n hx hb d_M_fill_61 rfl (lv_at hl 0 rfl) ?_
    refine z_getI C hI 31 (by decide) kd_31 cl_M iw_M 1 (by decide) k_fl_M_73 rfl d_M_fill_62 ?_
    refine lv_icmp_ge (tgt := 126) hx hb d_M_fill_65 (by decide) (fun q => ?_) (fun q => ?_)
    · replace h := h.1 q
      exact kK126 v6 S _ _ ls h hI (lv_sub hl [0, 1, 2, 3, 4, 5, 6, 7] rfl)
    · replace h := h.2 q
      refine lv_iload hx hb d_M_fill_68 (lv_at hl 8 rfl) ?_
      refine lv_iload_n hx hb d_M_fill_70 rfl (lv_at hl 1 rfl) ?_
      refine lv_isub hx hb d_M_fill_71 ?_
      refine lv_iload_n hx hb d_M_fill_72 rfl (lv_at hl 3 rfl) ?_
      refine lv_icmp_ge (tgt := 126) hx hb d_M_fill_73 (by decide) (fun q => ?_) (fun q => ?_)
      · replace h := h.1 q
        exact kK126 v6 S _ _ ls h hI (lv_sub hl [0, 1, 2, 3, 4, 5, 6, 7] rfl)
      · replace h := h.2 q
        refine lv_aload_n hx hb d_M_fill_76 rfl (lv_at hl 0 rfl) ?_
        refine z_getR C hI 31 (by decide) kd_31 cl_M iw_M 3 (by decide) k_fl_M_7 rfl d_M_fill_77 ?_
        refine lv_bipush (v := 24) hx hb d_M_fill_80 (by decide) ?_
        refine lv_iload hx hb d_M_fill_82 (lv_at hl 7 rfl) ?_
        refine lv_imul hx hb d_M_fill_84 ?_
        refine lv_iload hx hb d_M_fill_85 (lv_at hl 8 rfl) ?_
        refine lv_iadd hx hb d_M_fill_87 ?_
        obtain ⟨h1, h⟩ := h
        refine z_zld C hI 32 (by decide) kd_32 h1 d_M_fill_88 ?_
        refine lv_iload hx hb d_M_fill_89 (lv_at hl 5 rfl) ?_
        refine lv_icmp_eq (tgt := 101) hx hb d_M_fill_91 (by decide) (fun q => ?_) (fun q => ?_)
        · replace h := h.1 q
          refine lv_iload hx hb d_M_fill_101 (lv_at hl 6 rfl) ?_
          exact w_M_fill_103 C hcs _ _ v1 v2 v3 v4 v5 v7 v8 v6 hR (fun v6 v8 S H locs ls h hI hl => ih v6 v8 S H locs ls hI hl h) S _ _ ls hI (lv_sub hl [0, 1, 2, 3, 4, 5, 7, 8] rfl) h
        · replace h := h.2 q
          refine lv_iload hx hb d_M_fill_94 (lv_at hl 6 rfl) ?_
          refine lv_iconst (v := 1) hx hb d_M_fill_96 (by decide) ?_
          refine lv_iadd hx hb d_M_fill_97 ?_
          refine lv_goto (tgt := 103) hx hb d_M_fill_98 (by decide) ?_
          exact w_M_fill_103 C hcs _ _ v1 v2 v3 v4 v5 v7 v8 (v6 + 1) hR (fun v6 v8 S H locs ls h hI hl => ih v6 v8 S H locs ls hI hl h) S _ _ ls hI (lv_sub hl [0, 1, 2, 3, 4, 5, 7, 8] rfl) h
set_option maxHeartbeats 4000000 in
set_option maxRecDepth 100000 in
theorem w_M_fill_38 (C : z_CT p s m args c R_M b_M_fill 9 D cA 51 ad) (hcs : cells ≤ rm_M_fill.cells ∧ slots ≤ rm_M_fill.slots) (post : Int32 → zS → Prop) (K132 : Int32 → zS → Prop) (v1 : Int32) (v2 : Int32) (v3 : Int32) (v4 : Int32) (v5 : Int32) (hR : z_Ri p l e rm_M_fill s m args below meth c Q b_M_fill D cA 51 ad post) (kK132 : ∀ (v6 : Int32) (S : zS) (H : Heap) (locs : List Loc) (ls : Array Slot), K132 v6 S → z_I D cA 51 ad s.heap S H locs → lv_has ls 9 [(0, .ref (ad 31)), (6, .int v6)] → W p l e rm_M_fill s m args below meth c H locs cells slots Q (F0 m 132 ls [])) : ∀ (n : Nat) (v6 : Int32) (v7 : Int32) (S : zS) (H : Heap) (locs : List Loc) (ls : Array Slot), z_I D cA 51 ad s.heap S H locs → lv_has ls 9 [(0, .ref (ad 31)), (1, .int v1), (2, .int v2), (3, .int v3), (4, .int v4), (5, .int v5), (6, .int v6), (7, .int v7)] → L_M_fill_38 post K132 v1 v2 v3 v4 v5 n v6 v7 S → W p l e rm_M_fill s m args below meth c H locs cells slots Q (F0 m 38 ls []) := by
  obtain ⟨hx, hb, hml, hown, hts, hK, hJ⟩ := id C
  intro n
  induction n with
  | zero => intro v6 v7 S H locs ls hI hl h; exact h.elim
  | succ n ih =>
    intro v6 v7 S H locs ls hI hl h
    rw [L_M_fill_38] at h
    refine lv_iload hx hb d_M_fill_38 (lv_at hl 7 rfl) ?_
    refine lv_aload_n hx hb d_M_fill_40 rfl (lv_at hl 0 rfl) ?_
    refine z_getI C hI 31 (by decide) kd_31 cl_M iw_M 2 (by decide) k_fl_M_76 rfl d_M_fill_41 ?_
    refine lv_icmp_ge (tgt := 132) hx hb d_M_fill_44 (by decide) (fun q => ?_) (fun q => ?_)
    · replace h := h.1 q
      exact kK132 v6 S _ _ ls h hI (lv_sub hl [0, 6] rfl)
    · replace h := h.2 q
      refine lv_iload hx hb d_M_fill_47 (lv_at hl 7 rfl) ?_
      refine lv_iload_n hx hb d_M_fill_49 rfl (lv_at hl 2 rfl) ?_
      refine lv_isub hx hb d_M_fill_50 ?_
      refine lv_iload hx hb d_M_fill_51 (lv_at hl 4 rfl) ?_
      refine lv_icmp_ge (tgt := 132) hx hb d_M_fill_53 (by decide) (fun q => ?_) (fun q => ?_)
      · replace h := h.1 q
        exact kK132 v6 S _ _ ls h hI (lv_sub hl [0, 6] rfl)
      · replace h := h.2 q
        refine lv_iload_n hx hb d_M_fill_56 rfl (lv_at hl 1 rfl) ?_
        refine lv_istore (lv' := [(8, .int v1), (0, .ref (ad 31)), (1, .int v1), (2, .int v2), (3, .int v3), (4, .int v4), (5, .int v5), (6, .int v6), (7, .int v7)]) hx hb d_M_fill_57 hl (by decide) rfl (fun ls hl => ?_)
        obtain ⟨k59, h⟩ := h
        refine w_M_fill_59 C hcs _ _ v1 v2 v3 v4 v5 v7 hR (fun v6_59e S59e H locs ls h hI hl => ?_) k59 v6 v1 S _ _ ls hI (lv_sub hl [1, 2, 3, 4, 5, 6, 7, 8, 0] rfl) h
        obtain ⟨x126, e126⟩ : ∃ y : Int32, y = v7 + 1 := ⟨_, rfl⟩
        replace h := h x126 e126
        refine lv_iinc (v := x126) (lv' := [(7, .int x126), (0, .ref (ad 31)), (1, .int v1), (2, .int v2), (3, .int v3), (4, .int v4), (5, .int v5), (6, .int v6_59e)]) hx hb d_M_fill_126 hl (k := 7) rfl (by rw [e126]; rfl) (by decide) rfl (fun ls hl => ?_)
        refine lv_goto (tgt := 38) hx hb d_M_fill_129 (by decide) ?_
        exact ih v6_59e x126 S59e _ _ ls hI (lv_sub hl [1, 2, 3, 4, 5, 6, 7, 0] rfl) h
set_option maxHeartbeats 4000000 in
set_option maxRecDepth 100000 in
theorem w_M_fill_23 (C : z_CT p s m args c R_M b_M_fill 9 D cA 51 ad) (hcs : cells ≤ rm_M_fill.cells ∧ slots ≤ rm_M_fill.slots) (post : Int32 → zS → Prop) (v1 : Int32) (v2 : Int32) (v3 : Int32) (v4 : Int32) (v5 : Int32) (t0 : Int32) (t1 : Int32) (hR : z_Ri p l e rm_M_fill s m args below meth c Q b_M_fill D cA 51 ad post) (S : zS) (H : Heap) (locs : List Loc) (ls : Array Slot) (hI : z_I D cA 51 ad s.heap S H locs) (hl : lv_has ls 9 [(0, .ref (ad 31)), (1, .int v1), (2, .int v2), (3, .int v3), (4, .int v4), (5, .int v5)]) (h : J_M_fill_23 post v1 v2 v3 v4 v5 t0 t1 S) : W p l e rm_M_fill s m args below meth c H locs cells slots Q (F0 m 23 ls [.int t0, .int t1, .ref (ad 31)]) := by
  obtain ⟨hx, hb, hml, hown, hts, hK, hJ⟩ := id C
  unfold J_M_fill_23 at h
  refine lv_iconst (v := 1) hx hb d_M_fill_23 (by decide) ?_
  refine z_callVi C hI 31 (by decide) kd_31 cl_M (As := [.int t1, .int t0, .int 1]) (rest := []) (c_M_goes t1 t0 1 _ _ h) wc_M_goes k_ml_M_90 rfl rfl (Nat.le_of_ble_eq_true rfl) (Nat.le_of_ble_eq_true rfl) hcs hl.1 (Nat.le_of_ble_eq_true rfl) rfl d_M_fill_24 (fun r24 S24 H locs h hI => ?_)
  refine lv_if_ne (tgt := 32) hx hb d_M_fill_27 (by decide) (fun q => ?_) (fun q => ?_)
  · replace h := h.1 q
    refine lv_iconst (v := 0) hx hb d_M_fill_32 (by decide) ?_
    refine lv_istore (lv' := [(6, .int 0), (0, .ref (ad 31)), (1, .int v1), (2, .int v2), (3, .int v3), (4, .int v4), (5, .int v5)]) hx hb d_M_fill_33 hl (by decide) rfl (fun ls hl => ?_)
    refine lv_iload_n hx hb d_M_fill_35 rfl (lv_at hl 3 rfl) ?_
    refine lv_istore (lv' := [(7, .int v2), (6, .int 0), (0, .ref (ad 31)), (1, .int v1), (2, .int v2), (3, .int v3), (4, .int v4), (5, .int v5)]) hx hb d_M_fill_36 hl (by decide) rfl (fun ls hl => ?_)
    obtain ⟨k38, h⟩ := h
    refine w_M_fill_38 C hcs _ _ v1 v2 v3 v4 v5 hR (fun v6_38e S38e H locs ls h hI hl => ?_) k38 0 v2 S24 _ _ ls hI (lv_sub hl [2, 3, 4, 5, 6, 7, 1, 0] rfl) h
    refine lv_aload_n hx hb d_M_fill_132 rfl (lv_at hl 0 rfl) ?_
    refine lv_iconst (v := 0) hx hb d_M_fill_133 (by decide) ?_
    refine z_putZ C hI 31 (by decide) kd_31 cl_M iw_M ty_M ty_M_ok n_M 5 (by decide) k_fl_M_94 rfl rfl rfl (by decide) d_M_fill_134 (fun S134 eS H locs hI => ?_)
    replace h := h S134 eS
    refine lv_iload hx hb d_M_fill_137 (lv_at hl 1 rfl) ?_
    exact hR _ _ hcs v6_38e S134 _ _ 139 ls h hI d_M_fill_139
  · replace h := h.2 q
    refine lv_iconst (v := 0) hx hb d_M_fill_30 (by decide) ?_
    exact hR _ _ hcs 0 S24 _ _ 31 ls h hI d_M_fill_31
set_option maxHeartbeats 4000000 in
set_option maxRecDepth 100000 in
theorem w_M_fill_22 (C : z_CT p s m args c R_M b_M_fill 9 D cA 51 ad) (hcs : cells ≤ rm_M_fill.cells ∧ slots ≤ rm_M_fill.slots) (post : Int32 → zS → Prop) (v1 : Int32) (v2 : Int32) (v3 : Int32) (v4 : Int32) (v5 : Int32) (t0 : Int32) (hR : z_Ri p l e rm_M_fill s m args below meth c Q b_M_fill D cA 51 ad post) (S : zS) (H : Heap) (locs : List Loc) (ls : Array Slot) (hI : z_I D cA 51 ad s.heap S H locs) (hl : lv_has ls 9 [(0, .ref (ad 31)), (1, .int v1), (2, .int v2), (3, .int v3), (4, .int v4), (5, .int v5)]) (h : J_M_fill_22 post v1 v2 v3 v4 v5 t0 S) : W p l e rm_M_fill s m args below meth c H locs cells slots Q (F0 m 22 ls [.int t0, .ref (ad 31)]) := by
  obtain ⟨hx, hb, hml, hown, hts, hK, hJ⟩ := id C
  unfold J_M_fill_22 at h
  refine lv_iconst (v := 0) hx hb d_M_fill_22 (by decide) ?_
  exact w_M_fill_23 C hcs _ v1 v2 v3 v4 v5 0 t0 hR S _ _ ls hI (lv_sub hl [0, 1, 2, 3, 4, 5] rfl) h
set_option maxHeartbeats 4000000 in
set_option maxRecDepth 100000 in
theorem c_M_fill (v1 : Int32) (v2 : Int32) (v3 : Int32) (v4 : Int32) (v5 : Int32) (S : zS) (post : Int32 → zS → Prop) (h : P_M_fill v1 v2 v3 v4 v5 S post) : z_cti l D cA 51 ad y_M_fill b_M_fill 9 (some .int) rm_M_fill [.ref (ad 31), .int v1, .int v2, .int v3, .int v4, .int v5] S post := by
  refine z_meti (av := [.ref (ad 31), .int v1, .int v2, .int v3, .int v4, .int v5]) (by decide) (Nat.le_of_ble_eq_true rfl) ⟨rfl, rfl⟩ (fun p e s m args below meth c Q ls C hcs hl hI hR => ?_)
  obtain ⟨hx, hb, hml, hown, hts, hK, hJ⟩ := id C
  unfold P_M_fill at h
  have hl : lv_has ls 9 [(0, .ref (ad 31)), (1, .int v1), (2, .int v2), (3, .int v3), (4, .int v4), (5, .int v5)] := hl
  refine lv_aload_n hx hb d_M_fill_0 rfl (lv_at hl 0 rfl) ?_
  refine lv_aload_n hx hb d_M_fill_1 rfl (lv_at hl 0 rfl) ?_
  refine lv_iload_n hx hb d_M_fill_2 rfl (lv_at hl 1 rfl) ?_
  refine lv_iload_n hx hb d_M_fill_3 rfl (lv_at hl 2 rfl) ?_
  refine z_callVi C hI 31 (by decide) kd_31 cl_M (As := [.int v1, .int v2]) (rest := [.ref (ad 31)]) (c_M_isSample v1 v2 _ _ h) wc_M_isSample k_ml_M_86 rfl rfl (Nat.le_of_ble_eq_true rfl) (Nat.le_of_ble_eq_true rfl) hcs hl.1 (Nat.le_of_ble_eq_true rfl) rfl d_M_fill_4 (fun r4 S4 H locs h hI => ?_)
  refine lv_iload_n hx hb d_M_fill_7 rfl (lv_at hl 3 rfl) ?_
  refine lv_iconst (v := 1) hx hb d_M_fill_8 (by decide) ?_
  refine lv_icmp_lt (tgt := 22) hx hb d_M_fill_9 (by decide) (fun q => ?_) (fun q => ?_)
  · replace h := h.1 q
    exact w_M_fill_22 C hcs _ v1 v2 v3 v4 v5 r4 hR S4 _ _ ls hI (lv_sub hl [0, 1, 2, 3, 4, 5] rfl) h
  · replace h := h.2 q
    refine lv_iload hx hb d_M_fill_12 (lv_at hl 4 rfl) ?_
    refine lv_iconst (v := 1) hx hb d_M_fill_14 (by decide) ?_
    refine lv_icmp_lt (tgt := 22) hx hb d_M_fill_15 (by decide) (fun q => ?_) (fun q => ?_)
    · replace h := h.1 q
      exact w_M_fill_22 C hcs _ v1 v2 v3 v4 v5 r4 hR S4 _ _ ls hI (lv_sub hl [0, 1, 2, 3, 4, 5] rfl) h
    · replace h := h.2 q
      refine lv_iconst (v := 1) hx hb d_M_fill_18 (by decide) ?_
      refine lv_goto (tgt := 23) hx hb d_M_fill_19 (by decide) ?_
      exact w_M_fill_23 C hcs _ v1 v2 v3 v4 v5 1 r4 hR S4 _ _ ls hI (lv_sub hl [0, 1, 2, 3, 4, 5] rfl) h
set_option maxHeartbeats 4000000 in
set_option maxRecDepth 100000 in
theorem c_M_noise (v1 : Int32) (S : zS) (post : Int32 → zS → Prop) (h : P_M_noise v1 S post) : z_cti l D cA 51 ad y_M_noise b_M_noise 3 (some .int) rm_M_noise [.ref (ad 31), .int v1] S post := by
  refine z_meti (av := [.ref (ad 31), .int v1]) (by decide) (Nat.le_of_ble_eq_true rfl) ⟨rfl, rfl⟩ (fun p e s m args below meth c Q ls C hcs hl hI hR => ?_)
  obtain ⟨hx, hb, hml, hown, hts, hK, hJ⟩ := id C
  unfold P_M_noise at h
  have hl : lv_has ls 3 [(0, .ref (ad 31)), (1, .int v1)] := hl
  refine lv_aload_n hx hb d_M_noise_0 rfl (lv_at hl 0 rfl) ?_
  refine lv_iload_n hx hb d_M_noise_1 rfl (lv_at hl 1 rfl) ?_
  refine lv_iconst (v := 0) hx hb d_M_noise_2 (by decide) ?_
  refine lv_bipush (v := 100) hx hb d_M_noise_3 (by decide) ?_
  refine z_callSi C hI (As := [.int v1, .int 0, .int 100]) (rest := [.ref (ad 31)]) (c_M_in v1 0 100 _ _ h) wc_M_in k_ml_M_82 rfl rfl (Nat.le_of_ble_eq_true rfl) (Nat.le_of_ble_eq_true rfl) hcs hl.1 (Nat.le_of_ble_eq_true rfl) rfl d_M_noise_5 (fun r5 S5 H locs h hI => ?_)
  refine lv_iconst (v := 1) hx hb d_M_noise_8 (by decide) ?_
  refine lv_iconst (v := 1) hx hb d_M_noise_9 (by decide) ?_
  refine z_callVi C hI 31 (by decide) kd_31 cl_M (As := [.int r5, .int 1, .int 1]) (rest := []) (c_M_goes r5 1 1 _ _ h) wc_M_goes k_ml_M_90 rfl rfl (Nat.le_of_ble_eq_true rfl) (Nat.le_of_ble_eq_true rfl) hcs hl.1 (Nat.le_of_ble_eq_true rfl) rfl d_M_noise_10 (fun r10 S10 H locs h hI => ?_)
  refine lv_if_ne (tgt := 18) hx hb d_M_noise_13 (by decide) (fun q => ?_) (fun q => ?_)
  · replace h := h.1 q
    refine lv_aload_n hx hb d_M_noise_18 rfl (lv_at hl 0 rfl) ?_
    refine z_getI C hI 31 (by decide) kd_31 cl_M iw_M 4 (by decide) k_fl_M_13 rfl d_M_noise_19 ?_
    refine lv_topi (fun x22 e22 => ?_)
    replace h := h x22 e22
    refine lv_istore_n (lv' := [(2, .int x22), (0, .ref (ad 31)), (1, .int v1)]) hx hb d_M_noise_22 rfl hl (by decide) rfl (fun ls hl => ?_)
    refine lv_aload_n hx hb d_M_noise_23 rfl (lv_at hl 1 rfl) ?_
    refine lv_iload_n hx hb d_M_noise_24 rfl (lv_at hl 2 rfl) ?_
    refine z_putI C hI 31 (by decide) kd_31 cl_M iw_M ty_M ty_M_ok n_M 4 (by decide) k_fl_M_13 rfl rfl rfl d_M_noise_25 (fun S25 eS H locs hI => ?_)
    replace h := h S25 eS
    refine lv_aload_n hx hb d_M_noise_28 rfl (lv_at hl 1 rfl) ?_
    refine lv_iconst (v := 0) hx hb d_M_noise_29 (by decide) ?_
    refine z_putZ C hI 31 (by decide) kd_31 cl_M iw_M ty_M ty_M_ok n_M 5 (by decide) k_fl_M_94 rfl rfl rfl (by decide) d_M_noise_30 (fun S30 eS H locs hI => ?_)
    replace h := h S30 eS
    refine lv_iload_n hx hb d_M_noise_33 rfl (lv_at hl 0 rfl) ?_
    exact hR _ _ hcs x22 S30 _ _ 34 ls h hI d_M_noise_34
  · replace h := h.2 q
    refine lv_iconst (v := 0) hx hb d_M_noise_16 (by decide) ?_
    exact hR _ _ hcs 0 S10 _ _ 17 ls h hI d_M_noise_17
set_option maxHeartbeats 4000000 in
set_option maxRecDepth 100000 in
theorem w_M_clear_7 (C : z_CT p s m args c R_M b_M_clear 2 D cA 51 ad) (hcs : cells ≤ rm_M_clear.cells ∧ slots ≤ rm_M_clear.slots) (post : zS → Prop) (K27 : zS → Prop) (hR : z_Rv p l e rm_M_clear s m args below meth c Q b_M_clear D cA 51 ad post) (kK27 : ∀ (S : zS) (H : Heap) (locs : List Loc) (ls : Array Slot), K27 S → z_I D cA 51 ad s.heap S H locs → lv_has ls 2 [(0, .ref (ad 31))] → W p l e rm_M_clear s m args below meth c H locs cells slots Q (F0 m 27 ls [])) : ∀ (n : Nat) (v1 : Int32) (S : zS) (H : Heap) (locs : List Loc) (ls : Array Slot), z_I D cA 51 ad s.heap S H locs → lv_has ls 2 [(0, .ref (ad 31)), (1, .int v1)] → L_M_clear_7 post K27 n v1 S → W p l e rm_M_clear s m args below meth c H locs cells slots Q (F0 m 7 ls []) := by
  obtain ⟨hx, hb, hml, hown, hts, hK, hJ⟩ := id C
  intro n
  induction n with
  | zero => intro v1 S H locs ls hI hl h; exact h.elim
  | succ n ih =>
    intro v1 S H locs ls hI hl h
    rw [L_M_clear_7] at h
    refine lv_iload_n hx hb d_M_clear_7 rfl (lv_at hl 1 rfl) ?_
    refine lv_sipush (v := 576) hx hb d_M_clear_8 (by decide) ?_
    refine lv_icmp_ge (tgt := 27) hx hb d_M_clear_11 (by decide) (fun q => ?_) (fun q => ?_)
    · replace h := h.1 q
      exact kK27 S _ _ ls h hI (lv_sub hl [0] rfl)
    · replace h := h.2 q
      refine lv_aload_n hx hb d_M_clear_14 rfl (lv_at hl 0 rfl) ?_
      refine z_getR C hI 31 (by decide) kd_31 cl_M iw_M 3 (by decide) k_fl_M_7 rfl d_M_clear_15 ?_
      refine lv_iload_n hx hb d_M_clear_18 rfl (lv_at hl 1 rfl) ?_
      refine lv_iconst (v := 0) hx hb d_M_clear_19 (by decide) ?_
      obtain ⟨h1, h⟩ := h
      refine z_zst C hI 32 (by decide) kd_32 h1 (by decide) d_M_clear_20 (fun S20 eS H locs hI => ?_)
      replace h := h S20 eS
      obtain ⟨x21, e21⟩ : ∃ y : Int32, y = v1 + 1 := ⟨_, rfl⟩
      replace h := h x21 e21
      refine lv_iinc (v := x21) (lv' := [(1, .int x21), (0, .ref (ad 31))]) hx hb d_M_clear_21 hl (k := 1) rfl (by rw [e21]; rfl) (by decide) rfl (fun ls hl => ?_)
      refine lv_goto (tgt := 7) hx hb d_M_clear_24 (by decide) ?_
      exact ih x21 S20 _ _ ls hI (lv_sub hl [1, 0] rfl) h
set_option maxHeartbeats 4000000 in
set_option maxRecDepth 100000 in
theorem c_M_clear (S : zS) (post : zS → Prop) (h : P_M_clear S post) : z_ctv l D cA 51 ad y_M_clear b_M_clear 2 none rm_M_clear [.ref (ad 31)] S post := by
  refine z_metv (av := [.ref (ad 31)]) (by decide) (Nat.le_of_ble_eq_true rfl) ⟨rfl, rfl⟩ (fun p e s m args below meth c Q ls C hcs hl hI hR => ?_)
  obtain ⟨hx, hb, hml, hown, hts, hK, hJ⟩ := id C
  unfold P_M_clear at h
  have hl : lv_has ls 2 [(0, .ref (ad 31))] := hl
  refine lv_aload_n hx hb d_M_clear_0 rfl (lv_at hl 0 rfl) ?_
  refine lv_iconst (v := 0) hx hb d_M_clear_1 (by decide) ?_
  refine z_putI C hI 31 (by decide) kd_31 cl_M iw_M ty_M ty_M_ok n_M 0 (by decide) k_fl_M_79 rfl rfl rfl d_M_clear_2 (fun S2 eS H locs hI => ?_)
  replace h := h S2 eS
  refine lv_iconst (v := 0) hx hb d_M_clear_5 (by decide) ?_
  refine lv_istore_n (lv' := [(1, .int 0), (0, .ref (ad 31))]) hx hb d_M_clear_6 rfl hl (by decide) rfl (fun ls hl => ?_)
  obtain ⟨k7, h⟩ := h
  refine w_M_clear_7 C hcs _ _ hR (fun S7e H locs ls h hI hl => ?_) k7 0 S2 _ _ ls hI (lv_sub hl [1, 0] rfl) h
  refine lv_aload_n hx hb d_M_clear_27 rfl (lv_at hl 0 rfl) ?_
  refine lv_iconst (v := 3) hx hb d_M_clear_28 (by decide) ?_
  refine z_putI C hI 31 (by decide) kd_31 cl_M iw_M ty_M ty_M_ok n_M 4 (by decide) k_fl_M_13 rfl rfl rfl d_M_clear_29 (fun S29 eS H locs hI => ?_)
  replace h := h S29 eS
  refine lv_aload_n hx hb d_M_clear_32 rfl (lv_at hl 0 rfl) ?_
  refine lv_iconst (v := 0) hx hb d_M_clear_33 (by decide) ?_
  refine z_putZ C hI 31 (by decide) kd_31 cl_M iw_M ty_M ty_M_ok n_M 5 (by decide) k_fl_M_94 rfl rfl rfl (by decide) d_M_clear_34 (fun S34 eS H locs hI => ?_)
  replace h := h S34 eS
  exact hR _ _ hcs S34 _ _ 37 ls h hI d_M_clear_37
set_option maxHeartbeats 4000000 in
set_option maxRecDepth 100000 in
theorem c_M_is (v1 : Int32) (v2 : Int32) (S : zS) (post : Int32 → zS → Prop) (h : P_M_is v1 v2 S post) : z_cti l D cA 51 ad y_M_is b_M_is 3 (some .boolean) rm_M_is [.ref (ad 31), .int v1, .int v2] S post := by
  refine z_metz (av := [.ref (ad 31), .int v1, .int v2]) (by decide) (Nat.le_of_ble_eq_true rfl) ⟨rfl, rfl⟩ (fun p e s m args below meth c Q ls C hcs hl hI hR => ?_)
  obtain ⟨hx, hb, hml, hown, hts, hK, hJ⟩ := id C
  unfold P_M_is at h
  have hl : lv_has ls 3 [(0, .ref (ad 31)), (1, .int v1), (2, .int v2)] := hl
  refine lv_iload_n hx hb d_M_is_0 rfl (lv_at hl 1 rfl) ?_
  refine lv_if_ne (tgt := 13) hx hb d_M_is_1 (by decide) (fun q => ?_) (fun q => ?_)
  · replace h := h.1 q
    refine lv_iload_n hx hb d_M_is_13 rfl (lv_at hl 1 rfl) ?_
    refine lv_iconst (v := 1) hx hb d_M_is_14 (by decide) ?_
    refine lv_icmp_ne (tgt := 27) hx hb d_M_is_15 (by decide) (fun q => ?_) (fun q => ?_)
    · replace h := h.1 q
      refine lv_aload_n hx hb d_M_is_27 rfl (lv_at hl 0 rfl) ?_
      refine z_getR C hI 31 (by decide) kd_31 cl_M iw_M 7 (by decide) k_fl_M_20 rfl d_M_is_28 ?_
      refine lv_iload_n hx hb d_M_is_31 rfl (lv_at hl 2 rfl) ?_
      obtain ⟨h1, h⟩ := h
      refine z_zld C hI 34 (by decide) kd_34 h1 d_M_is_32 ?_
      refine lv_if_ne (tgt := 40) hx hb d_M_is_33 (by decide) (fun q => ?_) (fun q => ?_)
      · replace h := h.1 q
        refine lv_iconst (v := 0) hx hb d_M_is_40 (by decide) ?_
        exact hR _ _ hcs 0 S _ _ 41 ls (by decide) h hI d_M_is_41
      · replace h := h.2 q
        refine lv_iconst (v := 1) hx hb d_M_is_36 (by decide) ?_
        refine lv_goto (tgt := 41) hx hb d_M_is_37 (by decide) ?_
        exact hR _ _ hcs 1 S _ _ 41 ls (by decide) h hI d_M_is_41
    · replace h := h.2 q
      refine lv_aload_n hx hb d_M_is_18 rfl (lv_at hl 0 rfl) ?_
      refine z_getR C hI 31 (by decide) kd_31 cl_M iw_M 8 (by decide) k_fl_M_23 rfl d_M_is_19 ?_
      refine lv_iload_n hx hb d_M_is_22 rfl (lv_at hl 2 rfl) ?_
      obtain ⟨h1, h⟩ := h
      refine z_zld C hI 35 (by decide) kd_35 h1 d_M_is_23 ?_
      refine lv_goto (tgt := 41) hx hb d_M_is_24 (by decide) ?_
      exact hR _ _ hcs (S 35 (z_ix v2)) S _ _ 41 ls h.1 h.2 hI d_M_is_41
  · replace h := h.2 q
    refine lv_aload_n hx hb d_M_is_4 rfl (lv_at hl 0 rfl) ?_
    refine z_getR C hI 31 (by decide) kd_31 cl_M iw_M 3 (by decide) k_fl_M_7 rfl d_M_is_5 ?_
    refine lv_iload_n hx hb d_M_is_8 rfl (lv_at hl 2 rfl) ?_
    obtain ⟨h1, h⟩ := h
    refine z_zld C hI 32 (by decide) kd_32 h1 d_M_is_9 ?_
    refine lv_goto (tgt := 41) hx hb d_M_is_10 (by decide) ?_
    exact hR _ _ hcs (S 32 (z_ix v2)) S _ _ 41 ls h.1 h.2 hI d_M_is_41
set_option maxHeartbeats 4000000 in
set_option maxRecDepth 100000 in
theorem w_M_settles_60 (C : z_CT p s m args c R_M b_M_settles 10 D cA 51 ad) (hcs : cells ≤ rm_M_settles.cells ∧ slots ≤ rm_M_settles.slots) (post : Int32 → zS → Prop) (K35 : Int32 → Int32 → zS → Prop) (v1 : Int32) (v2 : Int32) (v3 : Int32) (v4 : Int32) (v5 : Int32) (v6 : Int32) (v7 : Int32) (t0 : Int32) (hR : z_Rz p l e rm_M_settles s m args below meth c Q b_M_settles D cA 51 ad post) (kK35 : ∀ (v5 : Int32) (v7 : Int32) (S : zS) (H : Heap) (locs : List Loc) (ls : Array Slot), K35 v5 v7 S → z_I D cA 51 ad s.heap S H locs → lv_has ls 10 [(0, .ref (ad 31)), (1, .int v1), (2, .int v2), (3, .int v3), (4, .int v4), (5, .int v5), (6, .int v6), (7, .int v7)] → W p l e rm_M_settles s m args below meth c H locs cells slots Q (F0 m 35 ls [])) (S : zS) (H : Heap) (locs : List Loc) (ls : Array Slot) (hI : z_I D cA 51 ad s.heap S H locs) (hl : lv_has ls 10 [(0, .ref (ad 31)), (1, .int v1), (2, .int v2), (3, .int v3), (4, .int v4), (5, .int v5), (6, .int v6), (7, .int v7)]) (h : J_M_settles_60 post K35 v1 v2 v3 v4 v5 v6 v7 t0 S) : W p l e rm_M_settles s m args below meth c H locs cells slots Q (F0 m 60 ls [.int t0]) := by
  obtain ⟨hx, hb, hml, hown, hts, hK, hJ⟩ := id C
  unfold J_M_settles_60 at h
  refine lv_istore (lv' := [(8, .int t0), (0, .ref (ad 31)), (1, .int v1), (2, .int v2), (3, .int v3), (4, .int v4), (5, .int v5), (6, .int v6), (7, .int v7)]) hx hb d_M_settles_60 hl (by decide) rfl (fun ls hl => ?_)
  refine lv_iload hx hb d_M_settles_62 (lv_at hl 0 rfl) ?_
  refine lv_if_eq (tgt := 122) hx hb d_M_settles_64 (by decide) (fun q => ?_) (fun q => ?_)
  · replace h := h.1 q
    obtain ⟨x122, e122⟩ : ∃ y : Int32, y = v7 + 1 := ⟨_, rfl⟩
    replace h := h x122 e122
    refine lv_iinc (v := x122) (lv' := [(7, .int x122), (8, .int t0), (0, .ref (ad 31)), (1, .int v1), (2, .int v2), (3, .int v3), (4, .int v4), (5, .int v5), (6, .int v6)]) hx hb d_M_settles_122 hl (k := 8) rfl (by rw [e122]; rfl) (by decide) rfl (fun ls hl => ?_)
    refine lv_goto (tgt := 35) hx hb d_M_settles_125 (by decide) ?_
    exact kK35 v5 x122 S _ _ ls h hI (lv_sub hl [2, 3, 4, 5, 6, 7, 8, 0] rfl)
  · replace h := h.2 q
    refine lv_aload_n hx hb d_M_settles_67 rfl (lv_at hl 1 rfl) ?_
    refine lv_iload_n hx hb d_M_settles_68 rfl (lv_at hl 2 rfl) ?_
    refine lv_iload hx hb d_M_settles_69 (lv_at hl 8 rfl) ?_
    refine lv_iadd hx hb d_M_settles_71 ?_
    refine lv_iload_n hx hb d_M_settles_72 rfl (lv_at hl 3 rfl) ?_
    refine lv_iload hx hb d_M_settles_73 (lv_at hl 7 rfl) ?_
    refine lv_iadd hx hb d_M_settles_75 ?_
    refine z_callVi C hI 31 (by decide) kd_31 cl_M (As := [.int (v1 + v7), .int (v2 + v6)]) (rest := []) (c_M_isSample (v1 + v7) (v2 + v6) _ _ h) wc_M_isSample k_ml_M_86 rfl rfl (Nat.le_of_ble_eq_true rfl) (Nat.le_of_ble_eq_true rfl) hcs hl.1 (Nat.le_of_ble_eq_true rfl) rfl d_M_settles_76 (fun r76 S76 H locs h hI => ?_)
    refine lv_if_eq (tgt := 122) hx hb d_M_settles_79 (by decide) (fun q => ?_) (fun q => ?_)
    · replace h := h.1 q
      obtain ⟨x122, e122⟩ : ∃ y : Int32, y = v7 + 1 := ⟨_, rfl⟩
      replace h := h x122 e122
      refine lv_iinc (v := x122) (lv' := [(7, .int x122), (8, .int t0), (0, .ref (ad 31)), (1, .int v1), (2, .int v2), (3, .int v3), (4, .int v4), (5, .int v5), (6, .int v6)]) hx hb d_M_settles_122 hl (k := 8) rfl (by rw [e122]; rfl) (by decide) rfl (fun ls hl => ?_)
      refine lv_goto (tgt := 35) hx hb d_M_settles_125 (by decide) ?_
      exact kK35 v5 x122 S76 _ _ ls h hI (lv_sub hl [2, 3, 4, 5, 6, 7, 8, 0] rfl)
    · replace h := h.2 q
      refine lv_aload_n hx hb d_M_settles_82 rfl (lv_at hl 1 rfl) ?_
      refine z_getR C hI 31 (by decide) kd_31 cl_M iw_M 10 (by decide) k_fl_M_29 rfl d_M_settles_83 ?_
      refine lv_iload hx hb d_M_settles_86 (lv_at hl 5 rfl) ?_
      refine lv_bipush (v := 24) hx hb d_M_settles_88 (by decide) ?_
      refine lv_iload hx hb d_M_settles_90 (lv_at hl 7 rfl) ?_
      refine lv_imul hx hb d_M_settles_92 ?_
      refine lv_iadd hx hb d_M_settles_93 ?_
      refine lv_iload hx hb d_M_settles_94 (lv_at hl 8 rfl) ?_
      refine lv_iadd hx hb d_M_settles_96 ?_
      obtain ⟨h1, h⟩ := h
      refine z_ild C hI 37 (by decide) kd_37 h1 d_M_settles_97 ?_
      refine lv_topi (fun x98 e98 => ?_)
      replace h := h x98 e98
      refine lv_istore (lv' := [(9, .int x98), (8, .int t0), (0, .ref (ad 31)), (1, .int v1), (2, .int v2), (3, .int v3), (4, .int v4), (5, .int v5), (6, .int v6), (7, .int v7)]) hx hb d_M_settles_98 hl (by decide) rfl (fun ls hl => ?_)
      refine lv_iload hx hb d_M_settles_100 (lv_at hl 0 rfl) ?_
      refine lv_iconst (v := (-1)) hx hb d_M_settles_102 (by decide) ?_
      refine lv_icmp_eq (tgt := 118) hx hb d_M_settles_103 (by decide) (fun q => ?_) (fun q => ?_)
      · replace h := h.1 q
        refine lv_iload hx hb d_M_settles_118 (lv_at hl 7 rfl) ?_
        refine lv_istore (lv' := [(5, .int v5), (9, .int x98), (8, .int t0), (0, .ref (ad 31)), (1, .int v1), (2, .int v2), (3, .int v3), (4, .int v4), (6, .int v6), (7, .int v7)]) hx hb d_M_settles_120 hl (by decide) rfl (fun ls hl => ?_)
        obtain ⟨x122, e122⟩ : ∃ y : Int32, y = v7 + 1 := ⟨_, rfl⟩
        replace h := h x122 e122
        refine lv_iinc (v := x122) (lv' := [(7, .int x122), (5, .int v5), (9, .int x98), (8, .int t0), (0, .ref (ad 31)), (1, .int v1), (2, .int v2), (3, .int v3), (4, .int v4), (6, .int v6)]) hx hb d_M_settles_122 hl (k := 9) rfl (by rw [e122]; rfl) (by decide) rfl (fun ls hl => ?_)
        refine lv_goto (tgt := 35) hx hb d_M_settles_125 (by decide) ?_
        exact kK35 v5 x122 S76 _ _ ls h hI (lv_sub hl [4, 5, 6, 7, 8, 1, 9, 0] rfl)
      · replace h := h.2 q
        refine lv_iload hx hb d_M_settles_106 (lv_at hl 0 rfl) ?_
        refine lv_iload hx hb d_M_settles_108 (lv_at hl 7 rfl) ?_
        refine lv_icmp_ge (tgt := 118) hx hb d_M_settles_110 (by decide) (fun q => ?_) (fun q => ?_)
        · replace h := h.1 q
          refine lv_iload hx hb d_M_settles_118 (lv_at hl 7 rfl) ?_
          refine lv_istore (lv' := [(5, .int v5), (9, .int x98), (8, .int t0), (0, .ref (ad 31)), (1, .int v1), (2, .int v2), (3, .int v3), (4, .int v4), (6, .int v6), (7, .int v7)]) hx hb d_M_settles_120 hl (by decide) rfl (fun ls hl => ?_)
          obtain ⟨x122, e122⟩ : ∃ y : Int32, y = v7 + 1 := ⟨_, rfl⟩
          replace h := h x122 e122
          refine lv_iinc (v := x122) (lv' := [(7, .int x122), (5, .int v5), (9, .int x98), (8, .int t0), (0, .ref (ad 31)), (1, .int v1), (2, .int v2), (3, .int v3), (4, .int v4), (6, .int v6)]) hx hb d_M_settles_122 hl (k := 9) rfl (by rw [e122]; rfl) (by decide) rfl (fun ls hl => ?_)
          refine lv_goto (tgt := 35) hx hb d_M_settles_125 (by decide) ?_
          exact kK35 v5 x122 S76 _ _ ls h hI (lv_sub hl [4, 5, 6, 7, 8, 1, 9, 0] rfl)
        · replace h := h.2 q
          refine lv_iload hx hb d_M_settles_113 (lv_at hl 0 rfl) ?_
          refine lv_goto (tgt := 120) hx hb d_M_settles_115 (by decide) ?_
          refine lv_istore (lv' := [(5, .int x98), (9, .int x98), (8, .int t0), (0, .ref (ad 31)), (1, .int v1), (2, .int v2), (3, .int v3), (4, .int v4), (6, .int v6), (7, .int v7)]) hx hb d_M_settles_120 hl (by decide) rfl (fun ls hl => ?_)
          obtain ⟨x122, e122⟩ : ∃ y : Int32, y = v7 + 1 := ⟨_, rfl⟩
          replace h := h x122 e122
          refine lv_iinc (v := x122) (lv' := [(7, .int x122), (5, .int x98), (9, .int x98), (8, .int t0), (0, .ref (ad 31)), (1, .int v1), (2, .int v2), (3, .int v3), (4, .int v4), (6, .int v6)]) hx hb d_M_settles_122 hl (k := 9) rfl (by rw [e122]; rfl) (by decide) rfl (fun ls hl => ?_)
          refine lv_goto (tgt := 35) hx hb d_M_settles_125 (by decide) ?_
          exact kK35 x98 x122 S76 _ _ ls h hI (lv_sub hl [4, 5, 6, 7, 8, 1, 9, 0] rfl)
set_option maxHeartbeats 4000000 in
set_option maxRecDepth 100000 in
theorem w_M_settles_55 (C : z_CT p s m args c R_M b_M_settles 10 D cA 51 ad) (hcs : cells ≤ rm_M_settles.cells ∧ slots ≤ rm_M_settles.slots) (post : Int32 → zS → Prop) (K35 : Int32 → Int32 → zS → Prop) (v1 : Int32) (v2 : Int32) (v3 : Int32) (v4 : Int32) (v5 : Int32) (v6 : Int32) (v7 : Int32) (hR : z_Rz p l e rm_M_settles s m args below meth c Q b_M_settles D cA 51 ad post) (kK35 : ∀ (v5 : Int32) (v7 : Int32) (S : zS) (H : Heap) (locs : List Loc) (ls : Array Slot), K35 v5 v7 S → z_I D cA 51 ad s.heap S H locs → lv_has ls 10 [(0, .ref (ad 31)), (1, .int v1), (2, .int v2), (3, .int v3), (4, .int v4), (5, .int v5), (6, .int v6), (7, .int v7)] → W p l e rm_M_settles s m args below meth c H locs cells slots Q (F0 m 35 ls [])) (S : zS) (H : Heap) (locs : List Loc) (ls : Array Slot) (hI : z_I D cA 51 ad s.heap S H locs) (hl : lv_has ls 10 [(0, .ref (ad 31)), (1, .int v1), (2, .int v2), (3, .int v3), (4, .int v4), (5, .int v5), (6, .int v6), (7, .int v7)]) (h : J_M_settles_55 post K35 v1 v2 v3 v4 v5 v6 v7 S) : W p l e rm_M_settles s m args below meth c H locs cells slots Q (F0 m 55 ls []) := by
  obtain ⟨hx, hb, hml, hown, hts, hK, hJ⟩ := id C
  unfold J_M_settles_55 at h
  refine lv_iconst (v := 1) hx hb d_M_settles_55 (by decide) ?_
  refine lv_goto (tgt := 60) hx hb d_M_settles_56 (by decide) ?_
  exact w_M_settles_60 C hcs _ _ v1 v2 v3 v4 v5 v6 v7 1 hR kK35 S _ _ ls hI (lv_sub hl [0, 1, 2, 3, 4, 5, 6, 7] rfl) h
set_option maxHeartbeats 4000000 in
set_option maxRecDepth 100000 in
theorem w_M_settles_35 (C : z_CT p s m args c R_M b_M_settles 10 D cA 51 ad) (hcs : cells ≤ rm_M_settles.cells ∧ slots ≤ rm_M_settles.slots) (post : Int32 → zS → Prop) (K128 : Int32 → zS → Prop) (v1 : Int32) (v2 : Int32) (v3 : Int32) (v4 : Int32) (v6 : Int32) (hR : z_Rz p l e rm_M_settles s m args below meth c Q b_M_settles D cA 51 ad post) (kK128 : ∀ (v5 : Int32) (S : zS) (H : Heap) (locs : List Loc) (ls : Array Slot), K128 v5 S → z_I D cA 51 ad s.heap S H locs → lv_has ls 10 [(0, .ref (ad 31)), (1, .int v1), (2, .int v2), (3, .int v3), (4, .int v4), (5, .int v5), (6, .int v6)] → W p l e rm_M_settles s m args below meth c H locs cells slots Q (F0 m 128 ls [])) : ∀ (n : Nat) (v5 : Int32) (v7 : Int32) (S : zS) (H : Heap) (locs : List Loc) (ls : Array Slot), z_I D cA 51 ad s.heap S H locs → lv_has ls 10 [(0, .ref (ad 31)), (1, .int v1), (2, .int v2), (3, .int v3), (4, .int v4), (5, .int v5), (6, .int v6), (7, .int v7)] → L_M_settles_35 post K128 v1 v2 v3 v4 v6 n v5 v7 S → W p l e rm_M_settles s m args below meth c H locs cells slots Q (F0 m 35 ls []) := by
  obtain ⟨hx, hb, hml, hown, hts, hK, hJ⟩ := id C
  intro n
  induction n with
  | zero => intro v5 v7 S H locs ls hI hl h; exact h.elim
  | succ n ih =>
    intro v5 v7 S H locs ls hI hl h
    rw [L_M_settles_35] at h
    refine lv_iload hx hb d_M_settles_35 (lv_at hl 7 rfl) ?_
    refine lv_iconst (v := 1) hx hb d_M_settles_37 (by decide) ?_
    refine lv_icmp_gt (tgt := 128) hx hb d_M_settles_38 (by decide) (fun q => ?_) (fun q => ?_)
    · replace h := h.1 q
      exact kK128 v5 S _ _ ls h hI (lv_sub hl [0, 1, 2, 3, 4, 5, 6] rfl)
    · replace h := h.2 q
      refine lv_iload_n hx hb d_M_settles_41 rfl (lv_at hl 3 rfl) ?_
      refine lv_if_ne (tgt := 55) hx hb d_M_settles_42 (by decide) (fun q => ?_) (fun q => ?_)
      · replace h := h.1 q
        exact w_M_settles_55 C hcs _ _ v1 v2 v3 v4 v5 v6 v7 hR (fun v5 v7 S H locs ls h hI hl => ih v5 v7 S H locs ls hI hl h) S _ _ ls hI (lv_sub hl [0, 1, 2, 3, 4, 5, 6, 7] rfl) h
      · replace h := h.2 q
        refine lv_iload hx hb d_M_settles_45 (lv_at hl 7 rfl) ?_
        refine lv_if_eq (tgt := 55) hx hb d_M_settles_47 (by decide) (fun q => ?_) (fun q => ?_)
        · replace h := h.1 q
          exact w_M_settles_55 C hcs _ _ v1 v2 v3 v4 v5 v6 v7 hR (fun v5 v7 S H locs ls h hI hl => ih v5 v7 S H locs ls hI hl h) S _ _ ls hI (lv_sub hl [0, 1, 2, 3, 4, 5, 6, 7] rfl) h
        · replace h := h.2 q
          refine lv_iload hx hb d_M_settles_50 (lv_at hl 6 rfl) ?_
          refine lv_if_ne (tgt := 59) hx hb d_M_settles_52 (by decide) (fun q => ?_) (fun q => ?_)
          · replace h := h.1 q
            refine lv_iconst (v := 0) hx hb d_M_settles_59 (by decide) ?_
            exact w_M_settles_60 C hcs _ _ v1 v2 v3 v4 v5 v6 v7 0 hR (fun v5 v7 S H locs ls h hI hl => ih v5 v7 S H locs ls hI hl h) S _ _ ls hI (lv_sub hl [0, 1, 2, 3, 4, 5, 6, 7] rfl) h
          · replace h := h.2 q
            exact w_M_settles_55 C hcs _ _ v1 v2 v3 v4 v5 v6 v7 hR (fun v5 v7 S H locs ls h hI hl => ih v5 v7 S H locs ls hI hl h) S _ _ ls hI (lv_sub hl [0, 1, 2, 3, 4, 5, 6, 7] rfl) h
set_option maxHeartbeats 4000000 in
set_option maxRecDepth 100000 in
theorem w_M_settles_20 (C : z_CT p s m args c R_M b_M_settles 10 D cA 51 ad) (hcs : cells ≤ rm_M_settles.cells ∧ slots ≤ rm_M_settles.slots) (post : Int32 → zS → Prop) (K134 : Int32 → zS → Prop) (v1 : Int32) (v2 : Int32) (v3 : Int32) (v4 : Int32) (hR : z_Rz p l e rm_M_settles s m args below meth c Q b_M_settles D cA 51 ad post) (kK134 : ∀ (v5 : Int32) (S : zS) (H : Heap) (locs : List Loc) (ls : Array Slot), K134 v5 S → z_I D cA 51 ad s.heap S H locs → lv_has ls 10 [(0, .ref (ad 31)), (4, .int v4), (5, .int v5)] → W p l e rm_M_settles s m args below meth c H locs cells slots Q (F0 m 134 ls [])) : ∀ (n : Nat) (v5 : Int32) (v6 : Int32) (S : zS) (H : Heap) (locs : List Loc) (ls : Array Slot), z_I D cA 51 ad s.heap S H locs → lv_has ls 10 [(0, .ref (ad 31)), (1, .int v1), (2, .int v2), (3, .int v3), (4, .int v4), (5, .int v5), (6, .int v6)] → L_M_settles_20 post K134 v1 v2 v3 v4 n v5 v6 S → W p l e rm_M_settles s m args below meth c H locs cells slots Q (F0 m 20 ls []) := by
  obtain ⟨hx, hb, hml, hown, hts, hK, hJ⟩ := id C
  intro n
  induction n with
  | zero => intro v5 v6 S H locs ls hI hl h; exact h.elim
  | succ n ih =>
    intro v5 v6 S H locs ls hI hl h
    rw [L_M_settles_20] at h
    refine lv_iload hx hb d_M_settles_20 (lv_at hl 6 rfl) ?_
    refine lv_iconst (v := 1) hx hb d_M_settles_22 (by decide) ?_
    refine lv_icmp_gt (tgt := 134) hx hb d_M_settles_23 (by decide) (fun q => ?_) (fun q => ?_)
    · replace h := h.1 q
      exact kK134 v5 S _ _ ls h hI (lv_sub hl [0, 4, 5] rfl)
    · replace h := h.2 q
      refine lv_iload hx hb d_M_settles_26 (lv_at hl 5 rfl) ?_
      refine lv_iconst (v := (-1)) hx hb d_M_settles_28 (by decide) ?_
      refine lv_icmp_eq (tgt := 134) hx hb d_M_settles_29 (by decide) (fun q => ?_) (fun q => ?_)
      · replace h := h.1 q
        exact kK134 v5 S _ _ ls h hI (lv_sub hl [0, 4, 5] rfl)
      · replace h := h.2 q
        refine lv_iconst (v := (-1)) hx hb d_M_settles_32 (by decide) ?_
        refine lv_istore (lv' := [(7, .int (-1)), (0, .ref (ad 31)), (1, .int v1), (2, .int v2), (3, .int v3), (4, .int v4), (5, .int v5), (6, .int v6)]) hx hb d_M_settles_33 hl (by decide) rfl (fun ls hl => ?_)
        obtain ⟨k35, h⟩ := h
        refine w_M_settles_35 C hcs _ _ v1 v2 v3 v4 v6 hR (fun v5_35e S35e H locs ls h hI hl => ?_) k35 v5 (-1) S _ _ ls hI (lv_sub hl [1, 2, 3, 4, 5, 6, 7, 0] rfl) h
        obtain ⟨x128, e128⟩ : ∃ y : Int32, y = v6 + 1 := ⟨_, rfl⟩
        replace h := h x128 e128
        refine lv_iinc (v := x128) (lv' := [(6, .int x128), (0, .ref (ad 31)), (1, .int v1), (2, .int v2), (3, .int v3), (4, .int v4), (5, .int v5_35e)]) hx hb d_M_settles_128 hl (k := 6) rfl (by rw [e128]; rfl) (by decide) rfl (fun ls hl => ?_)
        refine lv_goto (tgt := 20) hx hb d_M_settles_131 (by decide) ?_
        exact ih v5_35e x128 S35e _ _ ls hI (lv_sub hl [1, 2, 3, 4, 5, 6, 0] rfl) h
set_option maxHeartbeats 4000000 in
set_option maxRecDepth 100000 in
theorem w_M_settles_134 (C : z_CT p s m args c R_M b_M_settles 10 D cA 51 ad) (hcs : cells ≤ rm_M_settles.cells ∧ slots ≤ rm_M_settles.slots) (post : Int32 → zS → Prop) (v4 : Int32) (v5 : Int32) (hR : z_Rz p l e rm_M_settles s m args below meth c Q b_M_settles D cA 51 ad post) (S : zS) (H : Heap) (locs : List Loc) (ls : Array Slot) (hI : z_I D cA 51 ad s.heap S H locs) (hl : lv_has ls 10 [(0, .ref (ad 31)), (4, .int v4), (5, .int v5)]) (h : J_M_settles_134 post v4 v5 S) : W p l e rm_M_settles s m args below meth c H locs cells slots Q (F0 m 134 ls []) := by
  obtain ⟨hx, hb, hml, hown, hts, hK, hJ⟩ := id C
  unfold J_M_settles_134 at h
  refine lv_iload hx hb d_M_settles_134 (lv_at hl 2 rfl) ?_
  refine lv_aload_n hx hb d_M_settles_136 rfl (lv_at hl 0 rfl) ?_
  refine z_getR C hI 31 (by decide) kd_31 cl_M iw_M 10 (by decide) k_fl_M_29 rfl d_M_settles_137 ?_
  refine lv_iload hx hb d_M_settles_140 (lv_at hl 1 rfl) ?_
  obtain ⟨h1, h⟩ := h
  refine z_ild C hI 37 (by decide) kd_37 h1 d_M_settles_142 ?_
  refine lv_icmp_eq (tgt := 150) hx hb d_M_settles_143 (by decide) (fun q => ?_) (fun q => ?_)
  · replace h := h.1 q
    refine lv_iconst (v := 0) hx hb d_M_settles_150 (by decide) ?_
    refine lv_istore (lv' := [(6, .int 0), (0, .ref (ad 31)), (4, .int v4), (5, .int v5)]) hx hb d_M_settles_151 hl (by decide) rfl (fun ls hl => ?_)
    refine lv_aload_n hx hb d_M_settles_153 rfl (lv_at hl 1 rfl) ?_
    refine z_getR C hI 31 (by decide) kd_31 cl_M iw_M 10 (by decide) k_fl_M_29 rfl d_M_settles_154 ?_
    refine lv_iload hx hb d_M_settles_157 (lv_at hl 2 rfl) ?_
    refine lv_iload hx hb d_M_settles_159 (lv_at hl 3 rfl) ?_
    obtain ⟨h1, h⟩ := h
    refine z_ist C hI 37 (by decide) kd_37 h1 d_M_settles_161 (fun S161 eS H locs hI => ?_)
    replace h := h S161 eS
    refine lv_iload hx hb d_M_settles_162 (lv_at hl 0 rfl) ?_
    exact hR _ _ hcs 0 S161 _ _ 164 ls (by decide) h hI d_M_settles_164
  · replace h := h.2 q
    refine lv_iconst (v := 1) hx hb d_M_settles_146 (by decide) ?_
    refine lv_goto (tgt := 151) hx hb d_M_settles_147 (by decide) ?_
    refine lv_istore (lv' := [(6, .int 1), (0, .ref (ad 31)), (4, .int v4), (5, .int v5)]) hx hb d_M_settles_151 hl (by decide) rfl (fun ls hl => ?_)
    refine lv_aload_n hx hb d_M_settles_153 rfl (lv_at hl 1 rfl) ?_
    refine z_getR C hI 31 (by decide) kd_31 cl_M iw_M 10 (by decide) k_fl_M_29 rfl d_M_settles_154 ?_
    refine lv_iload hx hb d_M_settles_157 (lv_at hl 2 rfl) ?_
    refine lv_iload hx hb d_M_settles_159 (lv_at hl 3 rfl) ?_
    obtain ⟨h1, h⟩ := h
    refine z_ist C hI 37 (by decide) kd_37 h1 d_M_settles_161 (fun S161 eS H locs hI => ?_)
    replace h := h S161 eS
    refine lv_iload hx hb d_M_settles_162 (lv_at hl 0 rfl) ?_
    exact hR _ _ hcs 1 S161 _ _ 164 ls (by decide) h hI d_M_settles_164
set_option maxHeartbeats 4000000 in
set_option maxRecDepth 100000 in
theorem c_M_settles (v1 : Int32) (v2 : Int32) (v3 : Int32) (S : zS) (post : Int32 → zS → Prop) (h : P_M_settles v1 v2 v3 S post) : z_cti l D cA 51 ad y_M_settles b_M_settles 10 (some .boolean) rm_M_settles [.ref (ad 31), .int v1, .int v2, .int v3] S post := by
  refine z_metz (av := [.ref (ad 31), .int v1, .int v2, .int v3]) (by decide) (Nat.le_of_ble_eq_true rfl) ⟨rfl, rfl⟩ (fun p e s m args below meth c Q ls C hcs hl hI hR => ?_)
  obtain ⟨hx, hb, hml, hown, hts, hK, hJ⟩ := id C
  unfold P_M_settles at h
  have hl : lv_has ls 10 [(0, .ref (ad 31)), (1, .int v1), (2, .int v2), (3, .int v3)] := hl
  refine lv_bipush (v := 24) hx hb d_M_settles_0 (by decide) ?_
  refine lv_iload_n hx hb d_M_settles_2 rfl (lv_at hl 2 rfl) ?_
  refine lv_imul hx hb d_M_settles_3 ?_
  refine lv_iload_n hx hb d_M_settles_4 rfl (lv_at hl 1 rfl) ?_
  refine lv_iadd hx hb d_M_settles_5 ?_
  refine lv_topi (fun x6 e6 => ?_)
  replace h := h x6 e6
  refine lv_istore (lv' := [(4, .int x6), (0, .ref (ad 31)), (1, .int v1), (2, .int v2), (3, .int v3)]) hx hb d_M_settles_6 hl (by decide) rfl (fun ls hl => ?_)
  refine lv_aload_n hx hb d_M_settles_8 rfl (lv_at hl 1 rfl) ?_
  refine z_getR C hI 31 (by decide) kd_31 cl_M iw_M 10 (by decide) k_fl_M_29 rfl d_M_settles_9 ?_
  refine lv_iload hx hb d_M_settles_12 (lv_at hl 0 rfl) ?_
  obtain ⟨h1, h⟩ := h
  refine z_ild C hI 37 (by decide) kd_37 h1 d_M_settles_14 ?_
  refine lv_topi (fun x15 e15 => ?_)
  replace h := h x15 e15
  refine lv_istore (lv' := [(5, .int x15), (4, .int x6), (0, .ref (ad 31)), (1, .int v1), (2, .int v2), (3, .int v3)]) hx hb d_M_settles_15 hl (by decide) rfl (fun ls hl => ?_)
  refine lv_iconst (v := (-1)) hx hb d_M_settles_17 (by decide) ?_
  refine lv_istore (lv' := [(6, .int (-1)), (5, .int x15), (4, .int x6), (0, .ref (ad 31)), (1, .int v1), (2, .int v2), (3, .int v3)]) hx hb d_M_settles_18 hl (by decide) rfl (fun ls hl => ?_)
  obtain ⟨k20, h⟩ := h
  refine w_M_settles_20 C hcs _ _ v1 v2 v3 x6 hR (fun v5_20e S20e H locs ls h hI hl => ?_) k20 x15 (-1) S _ _ ls hI (lv_sub hl [3, 4, 5, 6, 2, 1, 0] rfl) h
  exact w_M_settles_134 C hcs _ x6 v5_20e hR S20e _ _ ls hI (lv_sub hl [0, 1, 2] rfl) h
end ZW
