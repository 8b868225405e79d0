section ZW
variable {p : Program} {l : Launch} {e : Env} {s : State} {m : MethodId} {args : Array Value} {below : List Frame} {meth : Method} {c : Code} {cells slots : Nat} {Q : State → Prop} {D : va_G} {cA : Nat → ClassId} {n : Nat} {ad : Nat → Nat}
set_option maxHeartbeats 4000000 in
set_option maxRecDepth 100000 in
theorem w_P_hasCleanOf_24 (C : z_CT p s m args c R_P b_P_hasCleanOf 5 D cA 51 ad) (hcs : cells ≤ rm_P_hasCleanOf.cells ∧ slots ≤ rm_P_hasCleanOf.slots) (post : Int32 → zS → Prop) (v1 : Int32) (v2 : Int32) (hR : z_Rz p l e rm_P_hasCleanOf s m args below meth c Q b_P_hasCleanOf D cA 51 ad post) : ∀ (n : Nat) (v3 : Int32) (S : zS) (H : Heap) (locs : List Loc) (ls : Array Slot), z_I D cA 51 ad s.heap S H locs → lv_has ls 5 [(0, .ref (ad 0)), (1, .int v1), (2, .int v2), (3, .int v3)] → L_P_hasCleanOf_24 post v1 v2 n v3 S → W p l e rm_P_hasCleanOf s m args below meth c H locs cells slots Q (F0 m 24 ls []) := by
  obtain ⟨hx, hb, hml, hown, hts, hK, hJ⟩ := id C
  intro n
  induction n with
  | zero => intro v3 S H locs ls hI hl h; exact h.elim
  | succ n ih =>
    intro v3 S H locs ls hI hl h
    rw [L_P_hasCleanOf_24] at h
    refine lv_iload_n hx hb d_P_hasCleanOf_24 rfl (lv_at hl 3 rfl) ?_
    refine lv_aload_n hx hb d_P_hasCleanOf_25 rfl (lv_at hl 0 rfl) ?_
    refine z_getR C hI 0 (by decide) kd_0 cl_P iw_P 6 (by decide) k_fl_P_39 rfl d_P_hasCleanOf_26 ?_
    refine z_getR C hI 5 (by decide) kd_5 cl_G iw_G 3 (by decide) k_fl_P_228 rfl d_P_hasCleanOf_29 ?_
    refine lv_iload_n hx hb d_P_hasCleanOf_32 rfl (lv_at hl 1 rfl) ?_
    obtain ⟨h1, h⟩ := h
    refine z_ild C hI 9 (by decide) kd_9 h1 d_P_hasCleanOf_33 ?_
    refine lv_icmp_gt (tgt := 77) hx hb d_P_hasCleanOf_34 (by decide) (fun q => ?_) (fun q => ?_)
    · replace h := h.1 q
      refine lv_iconst (v := 0) hx hb d_P_hasCleanOf_77 (by decide) ?_
      exact hR _ _ hcs 0 S _ _ 78 ls (by decide) h hI d_P_hasCleanOf_78
    · replace h := h.2 q
      refine lv_iload_n hx hb d_P_hasCleanOf_37 rfl (lv_at hl 2 rfl) ?_
      refine lv_bipush (v := 24) hx hb d_P_hasCleanOf_38 (by decide) ?_
      refine lv_imul hx hb d_P_hasCleanOf_40 ?_
      refine lv_iload_n hx hb d_P_hasCleanOf_41 rfl (lv_at hl 3 rfl) ?_
      refine lv_iadd hx hb d_P_hasCleanOf_42 ?_
      refine lv_topi (fun x43 e43 => ?_)
      replace h := h x43 e43
      refine lv_istore (lv' := [(4, .int x43), (0, .ref (ad 0)), (1, .int v1), (2, .int v2), (3, .int v3)]) hx hb d_P_hasCleanOf_43 hl (by decide) rfl (fun ls hl => ?_)
      refine lv_aload_n hx hb d_P_hasCleanOf_45 rfl (lv_at hl 1 rfl) ?_
      refine z_getR C hI 0 (by decide) kd_0 cl_P iw_P 3 (by decide) k_fl_P_13 rfl d_P_hasCleanOf_46 ?_
      refine lv_iload hx hb d_P_hasCleanOf_49 (lv_at hl 0 rfl) ?_
      obtain ⟨h1, h⟩ := h
      refine z_zld C hI 2 (by decide) kd_2 h1 d_P_hasCleanOf_51 ?_
      refine lv_if_eq (tgt := 71) hx hb d_P_hasCleanOf_52 (by decide) (fun q => ?_) (fun q => ?_)
      · replace h := h.1 q
        obtain ⟨x71, e71⟩ : ∃ y : Int32, y = v3 + 1 := ⟨_, rfl⟩
        replace h := h x71 e71
        refine lv_iinc (v := x71) (lv' := [(3, .int x71), (4, .int x43), (0, .ref (ad 0)), (1, .int v1), (2, .int v2)]) hx hb d_P_hasCleanOf_71 hl (k := 4) rfl (by rw [e71]; rfl) (by decide) rfl (fun ls hl => ?_)
        refine lv_goto (tgt := 24) hx hb d_P_hasCleanOf_74 (by decide) ?_
        exact ih x71 S _ _ ls hI (lv_sub hl [2, 3, 4, 0] rfl) h
      · replace h := h.2 q
        refine lv_aload_n hx hb d_P_hasCleanOf_55 rfl (lv_at hl 1 rfl) ?_
        refine z_getR C hI 0 (by decide) kd_0 cl_P iw_P 6 (by decide) k_fl_P_39 rfl d_P_hasCleanOf_56 ?_
        refine z_getR C hI 5 (by decide) kd_5 cl_G iw_G 0 (by decide) k_fl_P_141 rfl d_P_hasCleanOf_59 ?_
        refine lv_iload hx hb d_P_hasCleanOf_62 (lv_at hl 0 rfl) ?_
        obtain ⟨h1, h⟩ := h
        refine z_ild C hI 6 (by decide) kd_6 h1 d_P_hasCleanOf_64 ?_
        refine lv_iload_n hx hb d_P_hasCleanOf_65 rfl (lv_at hl 2 rfl) ?_
        refine lv_icmp_ne (tgt := 71) hx hb d_P_hasCleanOf_66 (by decide) (fun q => ?_) (fun q => ?_)
        · replace h := h.1 q
          obtain ⟨x71, e71⟩ : ∃ y : Int32, y = v3 + 1 := ⟨_, rfl⟩
          replace h := h x71 e71
          refine lv_iinc (v := x71) (lv' := [(3, .int x71), (4, .int x43), (0, .ref (ad 0)), (1, .int v1), (2, .int v2)]) hx hb d_P_hasCleanOf_71 hl (k := 4) rfl (by rw [e71]; rfl) (by decide) rfl (fun ls hl => ?_)
          refine lv_goto (tgt := 24) hx hb d_P_hasCleanOf_74 (by decide) ?_
          exact ih x71 S _ _ ls hI (lv_sub hl [2, 3, 4, 0] rfl) h
        · replace h := h.2 q
          refine lv_iconst (v := 1) hx hb d_P_hasCleanOf_69 (by decide) ?_
          exact hR _ _ hcs 1 S _ _ 70 ls (by decide) h hI d_P_hasCleanOf_70
set_option maxHeartbeats 4000000 in
set_option maxRecDepth 100000 in
theorem c_P_hasCleanOf (v1 : Int32) (v2 : Int32) (S : zS) (post : Int32 → zS → Prop) (h : P_P_hasCleanOf v1 v2 S post) : z_cti l D cA 51 ad y_P_hasCleanOf b_P_hasCleanOf 5 (some .boolean) rm_P_hasCleanOf [.ref (ad 0), .int v1, .int v2] S post := by
  refine z_metz (av := [.ref (ad 0), .int v1, .int v2]) (by decide) (Nat.le_of_ble_eq_true rfl) ⟨rfl, rfl⟩ (fun p e s m args below meth c Q ls C hcs hl hI hR => ?_)
  obtain ⟨hx, hb, hml, hown, hts, hK, hJ⟩ := id C
  unfold P_P_hasCleanOf at h
  have hl : lv_has ls 5 [(0, .ref (ad 0)), (1, .int v1), (2, .int v2)] := hl
  refine lv_iload_n hx hb d_P_hasCleanOf_0 rfl (lv_at hl 2 rfl) ?_
  refine lv_if_lt (tgt := 12) hx hb d_P_hasCleanOf_1 (by decide) (fun q => ?_) (fun q => ?_)
  · replace h := h.1 q
    refine lv_iconst (v := 0) hx hb d_P_hasCleanOf_12 (by decide) ?_
    exact hR _ _ hcs 0 S _ _ 13 ls (by decide) h hI d_P_hasCleanOf_13
  · replace h := h.2 q
    refine lv_iload_n hx hb d_P_hasCleanOf_4 rfl (lv_at hl 2 rfl) ?_
    refine lv_aload_n hx hb d_P_hasCleanOf_5 rfl (lv_at hl 0 rfl) ?_
    refine z_getI C hI 0 (by decide) kd_0 cl_P iw_P 1 (by decide) k_fl_P_31 rfl d_P_hasCleanOf_6 ?_
    refine lv_icmp_lt (tgt := 14) hx hb d_P_hasCleanOf_9 (by decide) (fun q => ?_) (fun q => ?_)
    · replace h := h.1 q
      refine lv_aload_n hx hb d_P_hasCleanOf_14 rfl (lv_at hl 0 rfl) ?_
      refine z_getR C hI 0 (by decide) kd_0 cl_P iw_P 6 (by decide) k_fl_P_39 rfl d_P_hasCleanOf_15 ?_
      refine z_getR C hI 5 (by decide) kd_5 cl_G iw_G 1 (by decide) k_fl_P_219 rfl d_P_hasCleanOf_18 ?_
      refine lv_iload_n hx hb d_P_hasCleanOf_21 rfl (lv_at hl 1 rfl) ?_
      obtain ⟨h1, h⟩ := h
      refine z_ild C hI 7 (by decide) kd_7 h1 d_P_hasCleanOf_22 ?_
      refine lv_topi (fun x23 e23 => ?_)
      replace h := h x23 e23
      refine lv_istore_n (lv' := [(3, .int x23), (0, .ref (ad 0)), (1, .int v1), (2, .int v2)]) hx hb d_P_hasCleanOf_23 rfl hl (by decide) rfl (fun ls hl => ?_)
      obtain ⟨k24, h⟩ := h
      refine w_P_hasCleanOf_24 C hcs _ v1 v2 hR k24 x23 S _ _ ls hI (lv_sub hl [1, 2, 3, 0] rfl) h
    · replace h := h.2 q
      refine lv_iconst (v := 0) hx hb d_P_hasCleanOf_12 (by decide) ?_
      exact hR _ _ hcs 0 S _ _ 13 ls (by decide) h hI d_P_hasCleanOf_13
set_option maxHeartbeats 4000000 in
set_option maxRecDepth 100000 in
theorem c_P_beginsLine (v1 : Int32) (v2 : Int32) (S : zS) (post : Int32 → zS → Prop) (h : P_P_beginsLine v1 v2 S post) : z_cti l D cA 51 ad y_P_beginsLine b_P_beginsLine 3 (some .boolean) rm_P_beginsLine [.ref (ad 0), .int v1, .int v2] S post := by
  refine z_metz (av := [.ref (ad 0), .int v1, .int v2]) (by decide) (Nat.le_of_ble_eq_true rfl) ⟨rfl, rfl⟩ (fun p e s m args below meth c Q ls C hcs hl hI hR => ?_)
  obtain ⟨hx, hb, hml, hown, hts, hK, hJ⟩ := id C
  unfold P_P_beginsLine at h
  have hl : lv_has ls 3 [(0, .ref (ad 0)), (1, .int v1), (2, .int v2)] := hl
  refine lv_aload_n hx hb d_P_beginsLine_0 rfl (lv_at hl 0 rfl) ?_
  refine lv_iload_n hx hb d_P_beginsLine_1 rfl (lv_at hl 1 rfl) ?_
  refine lv_iload_n hx hb d_P_beginsLine_2 rfl (lv_at hl 2 rfl) ?_
  refine z_callVi C hI 0 (by decide) kd_0 cl_P (As := [.int v1, .int v2]) (rest := []) (c_P_hasCleanOf v1 v2 _ _ h) wc_P_hasCleanOf k_ml_P_234 rfl rfl (Nat.le_of_ble_eq_true rfl) (Nat.le_of_ble_eq_true rfl) hcs hl.1 (Nat.le_of_ble_eq_true rfl) rfl d_P_beginsLine_3 (fun r3 S3 H locs h hI => ?_)
  refine lv_if_eq (tgt := 24) hx hb d_P_beginsLine_6 (by decide) (fun q => ?_) (fun q => ?_)
  · replace h := h.1 q
    refine lv_iconst (v := 0) hx hb d_P_beginsLine_24 (by decide) ?_
    exact hR _ _ hcs 0 S3 _ _ 25 ls (by decide) h hI d_P_beginsLine_25
  · replace h := h.2 q
    refine lv_aload_n hx hb d_P_beginsLine_9 rfl (lv_at hl 0 rfl) ?_
    refine lv_iload_n hx hb d_P_beginsLine_10 rfl (lv_at hl 1 rfl) ?_
    refine lv_iload_n hx hb d_P_beginsLine_11 rfl (lv_at hl 2 rfl) ?_
    refine lv_iconst (v := 1) hx hb d_P_beginsLine_12 (by decide) ?_
    refine lv_isub hx hb d_P_beginsLine_13 ?_
    refine z_callVi C hI 0 (by decide) kd_0 cl_P (As := [.int v1, .int (v2 - 1)]) (rest := []) (c_P_hasCleanOf v1 (v2 - 1) _ _ h) wc_P_hasCleanOf k_ml_P_234 rfl rfl (Nat.le_of_ble_eq_true rfl) (Nat.le_of_ble_eq_true rfl) hcs hl.1 (Nat.le_of_ble_eq_true rfl) rfl d_P_beginsLine_14 (fun r14 S14 H locs h hI => ?_)
    refine lv_if_ne (tgt := 24) hx hb d_P_beginsLine_17 (by decide) (fun q => ?_) (fun q => ?_)
    · replace h := h.1 q
      refine lv_iconst (v := 0) hx hb d_P_beginsLine_24 (by decide) ?_
      exact hR _ _ hcs 0 S14 _ _ 25 ls (by decide) h hI d_P_beginsLine_25
    · replace h := h.2 q
      refine lv_iconst (v := 1) hx hb d_P_beginsLine_20 (by decide) ?_
      refine lv_goto (tgt := 25) hx hb d_P_beginsLine_21 (by decide) ?_
      exact hR _ _ hcs 1 S14 _ _ 25 ls (by decide) h hI d_P_beginsLine_25
set_option maxHeartbeats 4000000 in
set_option maxRecDepth 100000 in
theorem w_P_countLines_12 (C : z_CT p s m args c R_P b_P_countLines 4 D cA 51 ad) (hcs : cells ≤ rm_P_countLines.cells ∧ slots ≤ rm_P_countLines.slots) (post : Int32 → zS → Prop) (v1 : Int32) (hR : z_Ri p l e rm_P_countLines s m args below meth c Q b_P_countLines D cA 51 ad post) : ∀ (n : Nat) (v2 : Int32) (v3 : Int32) (S : zS) (H : Heap) (locs : List Loc) (ls : Array Slot), z_I D cA 51 ad s.heap S H locs → lv_has ls 4 [(0, .ref (ad 0)), (1, .int v1), (2, .int v2), (3, .int v3)] → L_P_countLines_12 post v1 n v2 v3 S → W p l e rm_P_countLines s m args below meth c H locs cells slots Q (F0 m 12 ls []) := by
  obtain ⟨hx, hb, hml, hown, hts, hK, hJ⟩ := id C
  intro n
  induction n with
  | zero => intro v2 v3 S H locs ls hI hl h; exact h.elim
  | succ n ih =>
    intro v2 v3 S H locs ls hI hl h
    rw [L_P_countLines_12] at h
    refine lv_iload_n hx hb d_P_countLines_12 rfl (lv_at hl 3 rfl) ?_
    refine lv_aload_n hx hb d_P_countLines_13 rfl (lv_at hl 0 rfl) ?_
    refine z_getR C hI 0 (by decide) kd_0 cl_P iw_P 6 (by decide) k_fl_P_39 rfl d_P_countLines_14 ?_
    refine z_getR C hI 5 (by decide) kd_5 cl_G iw_G 4 (by decide) k_fl_P_225 rfl d_P_countLines_17 ?_
    refine lv_iload_n hx hb d_P_countLines_20 rfl (lv_at hl 1 rfl) ?_
    obtain ⟨h1, h⟩ := h
    refine z_ild C hI 10 (by decide) kd_10 h1 d_P_countLines_21 ?_
    refine lv_icmp_gt (tgt := 43) hx hb d_P_countLines_22 (by decide) (fun q => ?_) (fun q => ?_)
    · replace h := h.1 q
      refine lv_iload_n hx hb d_P_countLines_43 rfl (lv_at hl 2 rfl) ?_
      exact hR _ _ hcs v2 S _ _ 44 ls h hI d_P_countLines_44
    · replace h := h.2 q
      refine lv_aload_n hx hb d_P_countLines_25 rfl (lv_at hl 0 rfl) ?_
      refine lv_iload_n hx hb d_P_countLines_26 rfl (lv_at hl 1 rfl) ?_
      refine lv_iload_n hx hb d_P_countLines_27 rfl (lv_at hl 3 rfl) ?_
      refine z_callVi C hI 0 (by decide) kd_0 cl_P (As := [.int v1, .int v3]) (rest := []) (c_P_beginsLine v1 v3 _ _ h) wc_P_beginsLine k_ml_P_231 rfl rfl (Nat.le_of_ble_eq_true rfl) (Nat.le_of_ble_eq_true rfl) hcs hl.1 (Nat.le_of_ble_eq_true rfl) rfl d_P_countLines_28 (fun r28 S28 H locs h hI => ?_)
      refine lv_if_eq (tgt := 37) hx hb d_P_countLines_31 (by decide) (fun q => ?_) (fun q => ?_)
      · replace h := h.1 q
        obtain ⟨x37, e37⟩ : ∃ y : Int32, y = v3 + 1 := ⟨_, rfl⟩
        replace h := h x37 e37
        refine lv_iinc (v := x37) (lv' := [(3, .int x37), (0, .ref (ad 0)), (1, .int v1), (2, .int v2)]) hx hb d_P_countLines_37 hl (k := 3) rfl (by rw [e37]; rfl) (by decide) rfl (fun ls hl => ?_)
        refine lv_goto (tgt := 12) hx hb d_P_countLines_40 (by decide) ?_
        exact ih v2 x37 S28 _ _ ls hI (lv_sub hl [1, 2, 3, 0] rfl) h
      · replace h := h.2 q
        obtain ⟨x34, e34⟩ : ∃ y : Int32, y = v2 + 1 := ⟨_, rfl⟩
        replace h := h x34 e34
        refine lv_iinc (v := x34) (lv' := [(2, .int x34), (0, .ref (ad 0)), (1, .int v1), (3, .int v3)]) hx hb d_P_countLines_34 hl (k := 2) rfl (by rw [e34]; rfl) (by decide) rfl (fun ls hl => ?_)
        obtain ⟨x37, e37⟩ : ∃ y : Int32, y = v3 + 1 := ⟨_, rfl⟩
        replace h := h x37 e37
        refine lv_iinc (v := x37) (lv' := [(3, .int x37), (2, .int x34), (0, .ref (ad 0)), (1, .int v1)]) hx hb d_P_countLines_37 hl (k := 3) rfl (by rw [e37]; rfl) (by decide) rfl (fun ls hl => ?_)
        refine lv_goto (tgt := 12) hx hb d_P_countLines_40 (by decide) ?_
        exact ih x34 x37 S28 _ _ ls hI (lv_sub hl [2, 3, 1, 0] rfl) h
set_option maxHeartbeats 4000000 in
set_option maxRecDepth 100000 in
theorem c_P_countLines (v1 : Int32) (S : zS) (post : Int32 → zS → Prop) (h : P_P_countLines v1 S post) : z_cti l D cA 51 ad y_P_countLines b_P_countLines 4 (some .int) rm_P_countLines [.ref (ad 0), .int v1] S post := by
  refine z_meti (av := [.ref (ad 0), .int v1]) (by decide) (Nat.le_of_ble_eq_true rfl) ⟨rfl, rfl⟩ (fun p e s m args below meth c Q ls C hcs hl hI hR => ?_)
  obtain ⟨hx, hb, hml, hown, hts, hK, hJ⟩ := id C
  unfold P_P_countLines at h
  have hl : lv_has ls 4 [(0, .ref (ad 0)), (1, .int v1)] := hl
  refine lv_iconst (v := 0) hx hb d_P_countLines_0 (by decide) ?_
  refine lv_istore_n (lv' := [(2, .int 0), (0, .ref (ad 0)), (1, .int v1)]) hx hb d_P_countLines_1 rfl hl (by decide) rfl (fun ls hl => ?_)
  refine lv_aload_n hx hb d_P_countLines_2 rfl (lv_at hl 1 rfl) ?_
  refine z_getR C hI 0 (by decide) kd_0 cl_P iw_P 6 (by decide) k_fl_P_39 rfl d_P_countLines_3 ?_
  refine z_getR C hI 5 (by decide) kd_5 cl_G iw_G 2 (by decide) k_fl_P_220 rfl d_P_countLines_6 ?_
  refine lv_iload_n hx hb d_P_countLines_9 rfl (lv_at hl 2 rfl) ?_
  obtain ⟨h1, h⟩ := h
  refine z_ild C hI 8 (by decide) kd_8 h1 d_P_countLines_10 ?_
  refine lv_topi (fun x11 e11 => ?_)
  replace h := h x11 e11
  refine lv_istore_n (lv' := [(3, .int x11), (2, .int 0), (0, .ref (ad 0)), (1, .int v1)]) hx hb d_P_countLines_11 rfl hl (by decide) rfl (fun ls hl => ?_)
  obtain ⟨k12, h⟩ := h
  refine w_P_countLines_12 C hcs _ v1 hR k12 0 x11 S _ _ ls hI (lv_sub hl [2, 3, 1, 0] rfl) h
set_option maxHeartbeats 4000000 in
set_option maxRecDepth 100000 in
theorem c_G_boxOf (g : Nat) (hg : z_G g) (v1 : Int32) (v2 : Int32) (S : zS) (post : Int32 → zS → Prop) (h : P_G_boxOf g v1 v2 S post) : z_cti l D cA 51 ad y_G_boxOf b_G_boxOf 3 (some .int) rm_G_boxOf [.ref (ad g), .int v1, .int v2] S post := by
  refine z_meti (av := [.ref (ad g), .int v1, .int v2]) (by decide) (Nat.le_of_ble_eq_true rfl) ⟨rfl, rfl⟩ (fun p e s m args below meth c Q ls C hcs hl hI hR => ?_)
  obtain ⟨hx, hb, hml, hown, hts, hK, hJ⟩ := id C
  unfold P_G_boxOf at h
  have hl : lv_has ls 3 [(0, .ref (ad g)), (1, .int v1), (2, .int v2)] := hl
  refine lv_iload_n hx hb d_G_boxOf_0 rfl (lv_at hl 2 rfl) ?_
  by_cases q : v2 = 0
  · replace h := h.1 q
    refine lv_tableIn (tgt := 28) hx hb d_G_boxOf_1 (by rw [q]; decide) (by rw [q]; decide) (by rw [q]; rfl) (by decide) ?_
    refine lv_aload_n hx hb d_G_boxOf_28 rfl (lv_at hl 0 rfl) ?_
    refine z_getR C hI g (z_lt0 hg) hg.2.1 cl_G iw_G 1 (by decide) k_fl_G_15 rfl d_G_boxOf_29 ?_
    refine lv_iload_n hx hb d_G_boxOf_32 rfl (lv_at hl 1 rfl) ?_
    obtain ⟨h1, h⟩ := h
    refine z_ild C hI (g + 2) (z_lt hg 2 (by decide)) hg.2.2.2.1 h1 d_G_boxOf_33 ?_
    exact hR _ _ hcs (S (g + 2) (z_ix v1)) S _ _ 34 ls h hI d_G_boxOf_34
  replace h := h.2
  have q0 := q
  clear q
  by_cases q : v2 = 1
  · replace h := h.1 q
    refine lv_tableIn (tgt := 35) hx hb d_G_boxOf_1 (by rw [q]; decide) (by rw [q]; decide) (by rw [q]; rfl) (by decide) ?_
    refine lv_aload_n hx hb d_G_boxOf_35 rfl (lv_at hl 0 rfl) ?_
    refine z_getR C hI g (z_lt0 hg) hg.2.1 cl_G iw_G 2 (by decide) k_fl_G_18 rfl d_G_boxOf_36 ?_
    refine lv_iload_n hx hb d_G_boxOf_39 rfl (lv_at hl 1 rfl) ?_
    obtain ⟨h1, h⟩ := h
    refine z_ild C hI (g + 3) (z_lt hg 3 (by decide)) hg.2.2.2.2.1 h1 d_G_boxOf_40 ?_
    exact hR _ _ hcs (S (g + 3) (z_ix v1)) S _ _ 41 ls h hI d_G_boxOf_41
  replace h := h.2
  have q1 := q
  clear q
  by_cases q : v2 = 2
  · replace h := h.1 q
    refine lv_tableIn (tgt := 42) hx hb d_G_boxOf_1 (by rw [q]; decide) (by rw [q]; decide) (by rw [q]; rfl) (by decide) ?_
    refine lv_aload_n hx hb d_G_boxOf_42 rfl (lv_at hl 0 rfl) ?_
    refine lv_iload_n hx hb d_G_boxOf_43 rfl (lv_at hl 1 rfl) ?_
    refine z_callVi C hI g (z_lt0 hg) hg.2.1 cl_G (As := [.int v1]) (rest := []) (c_G_wideOf g hg v1 _ _ h) wc_G_wideOf k_ml_G_73 rfl rfl (Nat.le_of_ble_eq_true rfl) (Nat.le_of_ble_eq_true rfl) hcs hl.1 (Nat.le_of_ble_eq_true rfl) rfl d_G_boxOf_44 (fun r44 S44 H locs h hI => ?_)
    exact hR _ _ hcs r44 S44 _ _ 47 ls h hI d_G_boxOf_47
  replace h := h.2
  have q2 := q
  clear q
  replace h := h q0 q1 q2
  refine lv_tableOut (tgt := 48) hx hb d_G_boxOf_1 (by have a0 := lv_neT (a := 0) q0 (by decide); have a1 := lv_neT (a := 1) q1 (by decide); have a2 := lv_neT (a := 2) q2 (by decide); omega) (by decide) ?_
  refine lv_aload_n hx hb d_G_boxOf_48 rfl (lv_at hl 0 rfl) ?_
  refine lv_iload_n hx hb d_G_boxOf_49 rfl (lv_at hl 1 rfl) ?_
  refine z_callVi C hI g (z_lt0 hg) hg.2.1 cl_G (As := [.int v1]) (rest := []) (c_G_highOf g hg v1 _ _ h) wc_G_highOf k_ml_G_77 rfl rfl (Nat.le_of_ble_eq_true rfl) (Nat.le_of_ble_eq_true rfl) hcs hl.1 (Nat.le_of_ble_eq_true rfl) rfl d_G_boxOf_50 (fun r50 S50 H locs h hI => ?_)
  exact hR _ _ hcs r50 S50 _ _ 53 ls h hI d_G_boxOf_53
set_option maxHeartbeats 4000000 in
set_option maxRecDepth 100000 in
theorem c_P_part (v1 : Int32) (v2 : Int32) (S : zS) (post : Int32 → zS → Prop) (h : P_P_part v1 v2 S post) : z_cti l D cA 51 ad y_P_part b_P_part 3 (some .int) rm_P_part [.ref (ad 0), .int v1, .int v2] S post := by
  refine z_meti (av := [.ref (ad 0), .int v1, .int v2]) (by decide) (Nat.le_of_ble_eq_true rfl) ⟨rfl, rfl⟩ (fun p e s m args below meth c Q ls C hcs hl hI hR => ?_)
  obtain ⟨hx, hb, hml, hown, hts, hK, hJ⟩ := id C
  unfold P_P_part at h
  have hl : lv_has ls 3 [(0, .ref (ad 0)), (1, .int v1), (2, .int v2)] := hl
  refine lv_aload_n hx hb d_P_part_0 rfl (lv_at hl 0 rfl) ?_
  refine z_callVv C hI 0 (by decide) kd_0 cl_P (As := []) (rest := []) (c_P_mustBeParted _ _ h) wc_P_mustBeParted k_ml_P_117 rfl rfl (Nat.le_of_ble_eq_true rfl) (Nat.le_of_ble_eq_true rfl) hcs hl.1 (Nat.le_of_ble_eq_true rfl) rfl d_P_part_1 (fun S1 H locs h hI => ?_)
  refine lv_iload_n hx hb d_P_part_4 rfl (lv_at hl 1 rfl) ?_
  refine lv_aload_n hx hb d_P_part_5 rfl (lv_at hl 0 rfl) ?_
  refine z_getR C hI 0 (by decide) kd_0 cl_P iw_P 6 (by decide) k_fl_P_39 rfl d_P_part_6 ?_
  refine z_getI C hI 5 (by decide) kd_5 cl_G iw_G 6 (by decide) k_fl_P_114 rfl d_P_part_9 ?_
  refine z_callSv C hI (As := [.int v1, .int (S1 5 6)]) (rest := []) (c_P_mustBeBelow v1 (S1 5 6) _ _ h) wc_P_mustBeBelow k_ml_P_120 rfl rfl (Nat.le_of_ble_eq_true rfl) (Nat.le_of_ble_eq_true rfl) hcs hl.1 (Nat.le_of_ble_eq_true rfl) rfl d_P_part_12 (fun S12 H locs h hI => ?_)
  refine lv_iload_n hx hb d_P_part_15 rfl (lv_at hl 2 rfl) ?_
  refine lv_bipush (v := 8) hx hb d_P_part_16 (by decide) ?_
  refine z_callSv C hI (As := [.int v2, .int 8]) (rest := []) (c_P_mustBeTold v2 8 _ _ h) wc_P_mustBeTold k_ml_P_123 rfl rfl (Nat.le_of_ble_eq_true rfl) (Nat.le_of_ble_eq_true rfl) hcs hl.1 (Nat.le_of_ble_eq_true rfl) rfl d_P_part_18 (fun S18 H locs h hI => ?_)
  refine lv_iload_n hx hb d_P_part_21 rfl (lv_at hl 2 rfl) ?_
  by_cases q : v2 = 4
  · replace h := h.1 q
    refine lv_tableIn (tgt := 52) hx hb d_P_part_22 (by rw [q]; decide) (by rw [q]; decide) (by rw [q]; rfl) (by decide) ?_
    refine lv_aload_n hx hb d_P_part_52 rfl (lv_at hl 0 rfl) ?_
    refine lv_iload_n hx hb d_P_part_53 rfl (lv_at hl 1 rfl) ?_
    refine z_callVi C hI 0 (by decide) kd_0 cl_P (As := [.int v1]) (rest := []) (c_P_weightOf v1 _ _ h) wc_P_weightOf k_ml_P_126 rfl rfl (Nat.le_of_ble_eq_true rfl) (Nat.le_of_ble_eq_true rfl) hcs hl.1 (Nat.le_of_ble_eq_true rfl) rfl d_P_part_54 (fun r54 S54 H locs h hI => ?_)
    exact hR _ _ hcs r54 S54 _ _ 57 ls h hI d_P_part_57
  replace h := h.2
  have q4 := q
  clear q
  by_cases q : v2 = 5
  · replace h := h.1 q
    refine lv_tableIn (tgt := 58) hx hb d_P_part_22 (by rw [q]; decide) (by rw [q]; decide) (by rw [q]; rfl) (by decide) ?_
    refine lv_aload_n hx hb d_P_part_58 rfl (lv_at hl 0 rfl) ?_
    refine lv_iload_n hx hb d_P_part_59 rfl (lv_at hl 1 rfl) ?_
    refine z_callVi C hI 0 (by decide) kd_0 cl_P (As := [.int v1]) (rest := []) (c_P_kindOf v1 _ _ h) wc_P_kindOf k_ml_P_129 rfl rfl (Nat.le_of_ble_eq_true rfl) (Nat.le_of_ble_eq_true rfl) hcs hl.1 (Nat.le_of_ble_eq_true rfl) rfl d_P_part_60 (fun r60 S60 H locs h hI => ?_)
    exact hR _ _ hcs r60 S60 _ _ 63 ls h hI d_P_part_63
  replace h := h.2
  have q5 := q
  clear q
  by_cases q : v2 = 6
  · replace h := h.1 q
    refine lv_tableIn (tgt := 64) hx hb d_P_part_22 (by rw [q]; decide) (by rw [q]; decide) (by rw [q]; rfl) (by decide) ?_
    refine lv_aload_n hx hb d_P_part_64 rfl (lv_at hl 0 rfl) ?_
    refine lv_iload_n hx hb d_P_part_65 rfl (lv_at hl 1 rfl) ?_
    refine z_callVi C hI 0 (by decide) kd_0 cl_P (As := [.int v1]) (rest := []) (c_P_countLines v1 _ _ h) wc_P_countLines k_ml_P_132 rfl rfl (Nat.le_of_ble_eq_true rfl) (Nat.le_of_ble_eq_true rfl) hcs hl.1 (Nat.le_of_ble_eq_true rfl) rfl d_P_part_66 (fun r66 S66 H locs h hI => ?_)
    exact hR _ _ hcs r66 S66 _ _ 69 ls h hI d_P_part_69
  replace h := h.2
  have q6 := q
  clear q
  by_cases q : v2 = 7
  · replace h := h.1 q
    refine lv_tableIn (tgt := 70) hx hb d_P_part_22 (by rw [q]; decide) (by rw [q]; decide) (by rw [q]; rfl) (by decide) ?_
    refine lv_aload_n hx hb d_P_part_70 rfl (lv_at hl 0 rfl) ?_
    refine z_getR C hI 0 (by decide) kd_0 cl_P iw_P 6 (by decide) k_fl_P_39 rfl d_P_part_71 ?_
    refine z_getR C hI 5 (by decide) kd_5 cl_G iw_G 5 (by decide) k_fl_P_135 rfl d_P_part_74 ?_
    refine lv_iload_n hx hb d_P_part_77 rfl (lv_at hl 1 rfl) ?_
    obtain ⟨h1, h⟩ := h
    refine z_ild C hI 11 (by decide) kd_11 h1 d_P_part_78 ?_
    exact hR _ _ hcs (S18 11 (z_ix v1)) S18 _ _ 79 ls h hI d_P_part_79
  replace h := h.2
  have q7 := q
  clear q
  replace h := h q4 q5 q6 q7
  refine lv_tableOut (tgt := 80) hx hb d_P_part_22 (by have a4 := lv_neT (a := 4) q4 (by decide); have a5 := lv_neT (a := 5) q5 (by decide); have a6 := lv_neT (a := 6) q6 (by decide); have a7 := lv_neT (a := 7) q7 (by decide); omega) (by decide) ?_
  refine lv_aload_n hx hb d_P_part_80 rfl (lv_at hl 0 rfl) ?_
  refine z_getR C hI 0 (by decide) kd_0 cl_P iw_P 6 (by decide) k_fl_P_39 rfl d_P_part_81 ?_
  refine lv_iload_n hx hb d_P_part_84 rfl (lv_at hl 1 rfl) ?_
  refine lv_iload_n hx hb d_P_part_85 rfl (lv_at hl 2 rfl) ?_
  refine z_callVi C hI 5 (by decide) kd_5 cl_G (As := [.int v1, .int v2]) (rest := []) (c_G_boxOf 5 z_G_5 v1 v2 _ _ h) wc_G_boxOf k_ml_P_138 rfl rfl (Nat.le_of_ble_eq_true rfl) (Nat.le_of_ble_eq_true rfl) hcs hl.1 (Nat.le_of_ble_eq_true rfl) rfl d_P_part_86 (fun r86 S86 H locs h hI => ?_)
  exact hR _ _ hcs r86 S86 _ _ 89 ls h hI d_P_part_89
set_option maxHeartbeats 4000000 in
set_option maxRecDepth 100000 in
theorem c_P_partOf (v1 : Int32) (v2 : Int32) (S : zS) (post : Int32 → zS → Prop) (h : P_P_partOf v1 v2 S post) : z_cti l D cA 51 ad y_P_partOf b_P_partOf 3 (some .int) rm_P_partOf [.ref (ad 0), .int v1, .int v2] S post := by
  refine z_meti (av := [.ref (ad 0), .int v1, .int v2]) (by decide) (Nat.le_of_ble_eq_true rfl) ⟨rfl, rfl⟩ (fun p e s m args below meth c Q ls C hcs hl hI hR => ?_)
  obtain ⟨hx, hb, hml, hown, hts, hK, hJ⟩ := id C
  unfold P_P_partOf at h
  have hl : lv_has ls 3 [(0, .ref (ad 0)), (1, .int v1), (2, .int v2)] := hl
  refine lv_aload_n hx hb d_P_partOf_0 rfl (lv_at hl 0 rfl) ?_
  refine z_callVv C hI 0 (by decide) kd_0 cl_P (As := []) (rest := []) (c_P_mustBeParted _ _ h) wc_P_mustBeParted k_ml_P_117 rfl rfl (Nat.le_of_ble_eq_true rfl) (Nat.le_of_ble_eq_true rfl) hcs hl.1 (Nat.le_of_ble_eq_true rfl) rfl d_P_partOf_1 (fun S1 H locs h hI => ?_)
  refine lv_aload_n hx hb d_P_partOf_4 rfl (lv_at hl 0 rfl) ?_
  refine lv_iload_n hx hb d_P_partOf_5 rfl (lv_at hl 1 rfl) ?_
  refine lv_iload_n hx hb d_P_partOf_6 rfl (lv_at hl 2 rfl) ?_
  refine z_callVv C hI 0 (by decide) kd_0 cl_P (As := [.int v1, .int v2]) (rest := []) (c_P_mustBeSample v1 v2 _ _ h) wc_P_mustBeSample k_ml_P_63 rfl rfl (Nat.le_of_ble_eq_true rfl) (Nat.le_of_ble_eq_true rfl) hcs hl.1 (Nat.le_of_ble_eq_true rfl) rfl d_P_partOf_7 (fun S7 H locs h hI => ?_)
  refine lv_aload_n hx hb d_P_partOf_10 rfl (lv_at hl 0 rfl) ?_
  refine z_getR C hI 0 (by decide) kd_0 cl_P iw_P 6 (by decide) k_fl_P_39 rfl d_P_partOf_11 ?_
  refine z_getR C hI 5 (by decide) kd_5 cl_G iw_G 0 (by decide) k_fl_P_141 rfl d_P_partOf_14 ?_
  refine lv_iload_n hx hb d_P_partOf_17 rfl (lv_at hl 2 rfl) ?_
  refine lv_bipush (v := 24) hx hb d_P_partOf_18 (by decide) ?_
  refine lv_imul hx hb d_P_partOf_20 ?_
  refine lv_iload_n hx hb d_P_partOf_21 rfl (lv_at hl 1 rfl) ?_
  refine lv_iadd hx hb d_P_partOf_22 ?_
  obtain ⟨h1, h⟩ := h
  refine z_ild C hI 6 (by decide) kd_6 h1 d_P_partOf_23 ?_
  exact hR _ _ hcs (S7 6 (z_ix ((v2 * 24) + v1))) S7 _ _ 24 ls h hI d_P_partOf_24
set_option maxHeartbeats 4000000 in
set_option maxRecDepth 100000 in
theorem w_P_firstRowOfLine_13 (C : z_CT p s m args c R_P b_P_firstRowOfLine 5 D cA 51 ad) (hcs : cells ≤ rm_P_firstRowOfLine.cells ∧ slots ≤ rm_P_firstRowOfLine.slots) (post : Int32 → zS → Prop) (v1 : Int32) (v2 : Int32) (hR : z_Ri p l e rm_P_firstRowOfLine s m args below meth c Q b_P_firstRowOfLine D cA 51 ad post) : ∀ (n : Nat) (v3 : Int32) (v4 : Int32) (S : zS) (H : Heap) (locs : List Loc) (ls : Array Slot), z_I D cA 51 ad s.heap S H locs → lv_has ls 5 [(0, .ref (ad 0)), (1, .int v1), (2, .int v2), (3, .int v3), (4, .int v4)] → L_P_firstRowOfLine_13 post v1 v2 n v3 v4 S → W p l e rm_P_firstRowOfLine s m args below meth c H locs cells slots Q (F0 m 13 ls []) := by
  obtain ⟨hx, hb, hml, hown, hts, hK, hJ⟩ := id C
  intro n
  induction n with
  | zero => intro v3 v4 S H locs ls hI hl h; exact h.elim
  | succ n ih =>
    intro v3 v4 S H locs ls hI hl h
    rw [L_P_firstRowOfLine_13] at h
    refine lv_iload hx hb d_P_firstRowOfLine_13 (lv_at hl 4 rfl) ?_
    refine lv_aload_n hx hb d_P_firstRowOfLine_15 rfl (lv_at hl 0 rfl) ?_
    refine z_getR C hI 0 (by decide) kd_0 cl_P iw_P 6 (by decide) k_fl_P_39 rfl d_P_firstRowOfLine_16 ?_
    refine z_getR C hI 5 (by decide) kd_5 cl_G iw_G 4 (by decide) k_fl_P_225 rfl d_P_firstRowOfLine_19 ?_
    refine lv_iload_n hx hb d_P_firstRowOfLine_22 rfl (lv_at hl 1 rfl) ?_
    obtain ⟨h1, h⟩ := h
    refine z_ild C hI 10 (by decide) kd_10 h1 d_P_firstRowOfLine_23 ?_
    refine lv_icmp_gt (tgt := 54) hx hb d_P_firstRowOfLine_24 (by decide) (fun q => ?_) (fun q => ?_)
    · replace h := h.1 q
      refine lv_iconst (v := (-1)) hx hb d_P_firstRowOfLine_54 (by decide) ?_
      exact hR _ _ hcs (-1) S _ _ 55 ls h hI d_P_firstRowOfLine_55
    · replace h := h.2 q
      refine lv_aload_n hx hb d_P_firstRowOfLine_27 rfl (lv_at hl 0 rfl) ?_
      refine lv_iload_n hx hb d_P_firstRowOfLine_28 rfl (lv_at hl 1 rfl) ?_
      refine lv_iload hx hb d_P_firstRowOfLine_29 (lv_at hl 4 rfl) ?_
      refine z_callVi C hI 0 (by decide) kd_0 cl_P (As := [.int v1, .int v4]) (rest := []) (c_P_beginsLine v1 v4 _ _ h) wc_P_beginsLine k_ml_P_231 rfl rfl (Nat.le_of_ble_eq_true rfl) (Nat.le_of_ble_eq_true rfl) hcs hl.1 (Nat.le_of_ble_eq_true rfl) rfl d_P_firstRowOfLine_31 (fun r31 S31 H locs h hI => ?_)
      refine lv_if_eq (tgt := 48) hx hb d_P_firstRowOfLine_34 (by decide) (fun q => ?_) (fun q => ?_)
      · replace h := h.1 q
        obtain ⟨x48, e48⟩ : ∃ y : Int32, y = v4 + 1 := ⟨_, rfl⟩
        replace h := h x48 e48
        refine lv_iinc (v := x48) (lv' := [(4, .int x48), (0, .ref (ad 0)), (1, .int v1), (2, .int v2), (3, .int v3)]) hx hb d_P_firstRowOfLine_48 hl (k := 4) rfl (by rw [e48]; rfl) (by decide) rfl (fun ls hl => ?_)
        refine lv_goto (tgt := 13) hx hb d_P_firstRowOfLine_51 (by decide) ?_
        exact ih v3 x48 S31 _ _ ls hI (lv_sub hl [1, 2, 3, 4, 0] rfl) h
      · replace h := h.2 q
        refine lv_iload_n hx hb d_P_firstRowOfLine_37 rfl (lv_at hl 3 rfl) ?_
        refine lv_iload_n hx hb d_P_firstRowOfLine_38 rfl (lv_at hl 2 rfl) ?_
        refine lv_icmp_ne (tgt := 45) hx hb d_P_firstRowOfLine_39 (by decide) (fun q => ?_) (fun q => ?_)
        · replace h := h.1 q
          obtain ⟨x45, e45⟩ : ∃ y : Int32, y = v3 + 1 := ⟨_, rfl⟩
          replace h := h x45 e45
          refine lv_iinc (v := x45) (lv' := [(3, .int x45), (0, .ref (ad 0)), (1, .int v1), (2, .int v2), (4, .int v4)]) hx hb d_P_firstRowOfLine_45 hl (k := 3) rfl (by rw [e45]; rfl) (by decide) rfl (fun ls hl => ?_)
          obtain ⟨x48, e48⟩ : ∃ y : Int32, y = v4 + 1 := ⟨_, rfl⟩
          replace h := h x48 e48
          refine lv_iinc (v := x48) (lv' := [(4, .int x48), (3, .int x45), (0, .ref (ad 0)), (1, .int v1), (2, .int v2)]) hx hb d_P_firstRowOfLine_48 hl (k := 4) rfl (by rw [e48]; rfl) (by decide) rfl (fun ls hl => ?_)
          refine lv_goto (tgt := 13) hx hb d_P_firstRowOfLine_51 (by decide) ?_
          exact ih x45 x48 S31 _ _ ls hI (lv_sub hl [2, 3, 4, 1, 0] rfl) h
        · replace h := h.2 q
          refine lv_iload hx hb d_P_firstRowOfLine_42 (lv_at hl 4 rfl) ?_
          exact hR _ _ hcs v4 S31 _ _ 44 ls h hI d_P_firstRowOfLine_44
set_option maxHeartbeats 4000000 in
set_option maxRecDepth 100000 in
theorem c_P_firstRowOfLine (v1 : Int32) (v2 : Int32) (S : zS) (post : Int32 → zS → Prop) (h : P_P_firstRowOfLine v1 v2 S post) : z_cti l D cA 51 ad y_P_firstRowOfLine b_P_firstRowOfLine 5 (some .int) rm_P_firstRowOfLine [.ref (ad 0), .int v1, .int v2] S post := by
  refine z_meti (av := [.ref (ad 0), .int v1, .int v2]) (by decide) (Nat.le_of_ble_eq_true rfl) ⟨rfl, rfl⟩ (fun p e s m args below meth c Q ls C hcs hl hI hR => ?_)
  obtain ⟨hx, hb, hml, hown, hts, hK, hJ⟩ := id C
  unfold P_P_firstRowOfLine at h
  have hl : lv_has ls 5 [(0, .ref (ad 0)), (1, .int v1), (2, .int v2)] := hl
  refine lv_iconst (v := 0) hx hb d_P_firstRowOfLine_0 (by decide) ?_
  refine lv_istore_n (lv' := [(3, .int 0), (0, .ref (ad 0)), (1, .int v1), (2, .int v2)]) hx hb d_P_firstRowOfLine_1 rfl hl (by decide) rfl (fun ls hl => ?_)
  refine lv_aload_n hx hb d_P_firstRowOfLine_2 rfl (lv_at hl 1 rfl) ?_
  refine z_getR C hI 0 (by decide) kd_0 cl_P iw_P 6 (by decide) k_fl_P_39 rfl d_P_firstRowOfLine_3 ?_
  refine z_getR C hI 5 (by decide) kd_5 cl_G iw_G 2 (by decide) k_fl_P_220 rfl d_P_firstRowOfLine_6 ?_
  refine lv_iload_n hx hb d_P_firstRowOfLine_9 rfl (lv_at hl 2 rfl) ?_
  obtain ⟨h1, h⟩ := h
  refine z_ild C hI 8 (by decide) kd_8 h1 d_P_firstRowOfLine_10 ?_
  refine lv_topi (fun x11 e11 => ?_)
  replace h := h x11 e11
  refine lv_istore (lv' := [(4, .int x11), (3, .int 0), (0, .ref (ad 0)), (1, .int v1), (2, .int v2)]) hx hb d_P_firstRowOfLine_11 hl (by decide) rfl (fun ls hl => ?_)
  obtain ⟨k13, h⟩ := h
  refine w_P_firstRowOfLine_13 C hcs _ v1 v2 hR k13 0 x11 S _ _ ls hI (lv_sub hl [2, 3, 4, 1, 0] rfl) h
set_option maxHeartbeats 4000000 in
set_option maxRecDepth 100000 in
theorem w_P_countRowsOfLine_2 (C : z_CT p s m args c R_P b_P_countRowsOfLine 4 D cA 51 ad) (hcs : cells ≤ rm_P_countRowsOfLine.cells ∧ slots ≤ rm_P_countRowsOfLine.slots) (post : Int32 → zS → Prop) (K30 : Int32 → zS → Prop) (v1 : Int32) (v2 : Int32) (hR : z_Ri p l e rm_P_countRowsOfLine s m args below meth c Q b_P_countRowsOfLine D cA 51 ad post) (kK30 : ∀ (v3 : Int32) (S : zS) (H : Heap) (locs : List Loc) (ls : Array Slot), K30 v3 S → z_I D cA 51 ad s.heap S H locs → lv_has ls 4 [(2, .int v2), (3, .int v3)] → W p l e rm_P_countRowsOfLine s m args below meth c H locs cells slots Q (F0 m 30 ls [])) : ∀ (n : Nat) (v3 : Int32) (S : zS) (H : Heap) (locs : List Loc) (ls : Array Slot), z_I D cA 51 ad s.heap S H locs → lv_has ls 4 [(0, .ref (ad 0)), (1, .int v1), (2, .int v2), (3, .int v3)] → L_P_countRowsOfLine_2 post K30 v1 v2 n v3 S → W p l e rm_P_countRowsOfLine s m args below meth c H locs cells slots Q (F0 m 2 ls []) := by
  obtain ⟨hx, hb, hml, hown, hts, hK, hJ⟩ := id C
  intro n
  induction n with
  | zero => intro v3 S H locs ls hI hl h; exact h.elim
  | succ n ih =>
    intro v3 S H locs ls hI hl h
    rw [L_P_countRowsOfLine_2] at h
    refine lv_iload_n hx hb d_P_countRowsOfLine_2 rfl (lv_at hl 3 rfl) ?_
    refine lv_aload_n hx hb d_P_countRowsOfLine_3 rfl (lv_at hl 0 rfl) ?_
    refine z_getR C hI 0 (by decide) kd_0 cl_P iw_P 6 (by decide) k_fl_P_39 rfl d_P_countRowsOfLine_4 ?_
    refine z_getR C hI 5 (by decide) kd_5 cl_G iw_G 4 (by decide) k_fl_P_225 rfl d_P_countRowsOfLine_7 ?_
    refine lv_iload_n hx hb d_P_countRowsOfLine_10 rfl (lv_at hl 1 rfl) ?_
    obtain ⟨h1, h⟩ := h
    refine z_ild C hI 10 (by decide) kd_10 h1 d_P_countRowsOfLine_11 ?_
    refine lv_icmp_gt (tgt := 30) hx hb d_P_countRowsOfLine_12 (by decide) (fun q => ?_) (fun q => ?_)
    · replace h := h.1 q
      exact kK30 v3 S _ _ ls h hI (lv_sub hl [2, 3] rfl)
    · replace h := h.2 q
      refine lv_aload_n hx hb d_P_countRowsOfLine_15 rfl (lv_at hl 0 rfl) ?_
      refine lv_iload_n hx hb d_P_countRowsOfLine_16 rfl (lv_at hl 1 rfl) ?_
      refine lv_iload_n hx hb d_P_countRowsOfLine_17 rfl (lv_at hl 3 rfl) ?_
      refine z_callVi C hI 0 (by decide) kd_0 cl_P (As := [.int v1, .int v3]) (rest := []) (c_P_hasCleanOf v1 v3 _ _ h) wc_P_hasCleanOf k_ml_P_234 rfl rfl (Nat.le_of_ble_eq_true rfl) (Nat.le_of_ble_eq_true rfl) hcs hl.1 (Nat.le_of_ble_eq_true rfl) rfl d_P_countRowsOfLine_18 (fun r18 S18 H locs h hI => ?_)
      refine lv_if_eq (tgt := 30) hx hb d_P_countRowsOfLine_21 (by decide) (fun q => ?_) (fun q => ?_)
      · replace h := h.1 q
        exact kK30 v3 S18 _ _ ls h hI (lv_sub hl [2, 3] rfl)
      · replace h := h.2 q
        obtain ⟨x24, e24⟩ : ∃ y : Int32, y = v3 + 1 := ⟨_, rfl⟩
        replace h := h x24 e24
        refine lv_iinc (v := x24) (lv' := [(3, .int x24), (0, .ref (ad 0)), (1, .int v1), (2, .int v2)]) hx hb d_P_countRowsOfLine_24 hl (k := 3) rfl (by rw [e24]; rfl) (by decide) rfl (fun ls hl => ?_)
        refine lv_goto (tgt := 2) hx hb d_P_countRowsOfLine_27 (by decide) ?_
        exact ih x24 S18 _ _ ls hI (lv_sub hl [1, 2, 3, 0] rfl) h
set_option maxHeartbeats 4000000 in
set_option maxRecDepth 100000 in
theorem c_P_countRowsOfLine (v1 : Int32) (v2 : Int32) (S : zS) (post : Int32 → zS → Prop) (h : P_P_countRowsOfLine v1 v2 S post) : z_cti l D cA 51 ad y_P_countRowsOfLine b_P_countRowsOfLine 4 (some .int) rm_P_countRowsOfLine [.ref (ad 0), .int v1, .int v2] S post := by
  refine z_meti (av := [.ref (ad 0), .int v1, .int v2]) (by decide) (Nat.le_of_ble_eq_true rfl) ⟨rfl, rfl⟩ (fun p e s m args below meth c Q ls C hcs hl hI hR => ?_)
  obtain ⟨hx, hb, hml, hown, hts, hK, hJ⟩ := id C
  unfold P_P_countRowsOfLine at h
  have hl : lv_has ls 4 [(0, .ref (ad 0)), (1, .int v1), (2, .int v2)] := hl
  refine lv_iload_n hx hb d_P_countRowsOfLine_0 rfl (lv_at hl 2 rfl) ?_
  refine lv_istore_n (lv' := [(3, .int v2), (0, .ref (ad 0)), (1, .int v1), (2, .int v2)]) hx hb d_P_countRowsOfLine_1 rfl hl (by decide) rfl (fun ls hl => ?_)
  obtain ⟨k2, h⟩ := h
  refine w_P_countRowsOfLine_2 C hcs _ _ v1 v2 hR (fun v3_2e S2e H locs ls h hI hl => ?_) k2 v2 S _ _ ls hI (lv_sub hl [1, 2, 3, 0] rfl) h
  refine lv_iload_n hx hb d_P_countRowsOfLine_30 rfl (lv_at hl 1 rfl) ?_
  refine lv_iload_n hx hb d_P_countRowsOfLine_31 rfl (lv_at hl 0 rfl) ?_
  refine lv_isub hx hb d_P_countRowsOfLine_32 ?_
  exact hR _ _ hcs (v3_2e - v2) S2e _ _ 33 ls h hI d_P_countRowsOfLine_33
set_option maxHeartbeats 4000000 in
set_option maxRecDepth 100000 in
theorem c_P_line (v1 : Int32) (v2 : Int32) (v3 : Int32) (S : zS) (post : Int32 → zS → Prop) (h : P_P_line v1 v2 v3 S post) : z_cti l D cA 51 ad y_P_line b_P_line 5 (some .int) rm_P_line [.ref (ad 0), .int v1, .int v2, .int v3] S post := by
  refine z_meti (av := [.ref (ad 0), .int v1, .int v2, .int v3]) (by decide) (Nat.le_of_ble_eq_true rfl) ⟨rfl, rfl⟩ (fun p e s m args below meth c Q ls C hcs hl hI hR => ?_)
  obtain ⟨hx, hb, hml, hown, hts, hK, hJ⟩ := id C
  unfold P_P_line at h
  have hl : lv_has ls 5 [(0, .ref (ad 0)), (1, .int v1), (2, .int v2), (3, .int v3)] := hl
  refine lv_aload_n hx hb d_P_line_0 rfl (lv_at hl 0 rfl) ?_
  refine z_callVv C hI 0 (by decide) kd_0 cl_P (As := []) (rest := []) (c_P_mustBeParted _ _ h) wc_P_mustBeParted k_ml_P_117 rfl rfl (Nat.le_of_ble_eq_true rfl) (Nat.le_of_ble_eq_true rfl) hcs hl.1 (Nat.le_of_ble_eq_true rfl) rfl d_P_line_1 (fun S1 H locs h hI => ?_)
  refine lv_iload_n hx hb d_P_line_4 rfl (lv_at hl 1 rfl) ?_
  refine lv_aload_n hx hb d_P_line_5 rfl (lv_at hl 0 rfl) ?_
  refine z_getR C hI 0 (by decide) kd_0 cl_P iw_P 6 (by decide) k_fl_P_39 rfl d_P_line_6 ?_
  refine z_getI C hI 5 (by decide) kd_5 cl_G iw_G 6 (by decide) k_fl_P_114 rfl d_P_line_9 ?_
  refine z_callSv C hI (As := [.int v1, .int (S1 5 6)]) (rest := []) (c_P_mustBeBelow v1 (S1 5 6) _ _ h) wc_P_mustBeBelow k_ml_P_120 rfl rfl (Nat.le_of_ble_eq_true rfl) (Nat.le_of_ble_eq_true rfl) hcs hl.1 (Nat.le_of_ble_eq_true rfl) rfl d_P_line_12 (fun S12 H locs h hI => ?_)
  refine lv_iload_n hx hb d_P_line_15 rfl (lv_at hl 2 rfl) ?_
  refine lv_aload_n hx hb d_P_line_16 rfl (lv_at hl 0 rfl) ?_
  refine lv_iload_n hx hb d_P_line_17 rfl (lv_at hl 1 rfl) ?_
  refine z_callVi C hI 0 (by decide) kd_0 cl_P (As := [.int v1]) (rest := [.int v2]) (c_P_countLines v1 _ _ h) wc_P_countLines k_ml_P_132 rfl rfl (Nat.le_of_ble_eq_true rfl) (Nat.le_of_ble_eq_true rfl) hcs hl.1 (Nat.le_of_ble_eq_true rfl) rfl d_P_line_18 (fun r18 S18 H locs h hI => ?_)
  refine z_callSv C hI (As := [.int v2, .int r18]) (rest := []) (c_P_mustBeBelow v2 r18 _ _ h) wc_P_mustBeBelow k_ml_P_120 rfl rfl (Nat.le_of_ble_eq_true rfl) (Nat.le_of_ble_eq_true rfl) hcs hl.1 (Nat.le_of_ble_eq_true rfl) rfl d_P_line_21 (fun S21 H locs h hI => ?_)
  refine lv_iload_n hx hb d_P_line_24 rfl (lv_at hl 3 rfl) ?_
  refine lv_iconst (v := 2) hx hb d_P_line_25 (by decide) ?_
  refine z_callSv C hI (As := [.int v3, .int 2]) (rest := []) (c_P_mustBeTold v3 2 _ _ h) wc_P_mustBeTold k_ml_P_123 rfl rfl (Nat.le_of_ble_eq_true rfl) (Nat.le_of_ble_eq_true rfl) hcs hl.1 (Nat.le_of_ble_eq_true rfl) rfl d_P_line_26 (fun S26 H locs h hI => ?_)
  refine lv_aload_n hx hb d_P_line_29 rfl (lv_at hl 0 rfl) ?_
  refine lv_iload_n hx hb d_P_line_30 rfl (lv_at hl 1 rfl) ?_
  refine lv_iload_n hx hb d_P_line_31 rfl (lv_at hl 2 rfl) ?_
  refine z_callVi C hI 0 (by decide) kd_0 cl_P (As := [.int v1, .int v2]) (rest := []) (c_P_firstRowOfLine v1 v2 _ _ h) wc_P_firstRowOfLine k_ml_P_144 rfl rfl (Nat.le_of_ble_eq_true rfl) (Nat.le_of_ble_eq_true rfl) hcs hl.1 (Nat.le_of_ble_eq_true rfl) rfl d_P_line_32 (fun r32 S32 H locs h hI => ?_)
  refine lv_istore (lv' := [(4, .int r32), (0, .ref (ad 0)), (1, .int v1), (2, .int v2), (3, .int v3)]) hx hb d_P_line_35 hl (by decide) rfl (fun ls hl => ?_)
  refine lv_iload_n hx hb d_P_line_37 rfl (lv_at hl 4 rfl) ?_
  refine lv_if_ne (tgt := 46) hx hb d_P_line_38 (by decide) (fun q => ?_) (fun q => ?_)
  · replace h := h.1 q
    refine lv_aload_n hx hb d_P_line_46 rfl (lv_at hl 1 rfl) ?_
    refine lv_iload_n hx hb d_P_line_47 rfl (lv_at hl 2 rfl) ?_
    refine lv_iload hx hb d_P_line_48 (lv_at hl 0 rfl) ?_
    refine z_callVi C hI 0 (by decide) kd_0 cl_P (As := [.int v1, .int r32]) (rest := []) (c_P_countRowsOfLine v1 r32 _ _ h) wc_P_countRowsOfLine k_ml_P_147 rfl rfl (Nat.le_of_ble_eq_true rfl) (Nat.le_of_ble_eq_true rfl) hcs hl.1 (Nat.le_of_ble_eq_true rfl) rfl d_P_line_50 (fun r50 S50 H locs h hI => ?_)
    exact hR _ _ hcs r50 S50 _ _ 53 ls h hI d_P_line_53
  · replace h := h.2 q
    refine lv_iload hx hb d_P_line_41 (lv_at hl 0 rfl) ?_
    refine lv_goto (tgt := 53) hx hb d_P_line_43 (by decide) ?_
    exact hR _ _ hcs r32 S32 _ _ 53 ls h hI d_P_line_53
set_option maxHeartbeats 4000000 in
set_option maxRecDepth 100000 in
theorem c_P_order (v1 : Int32) (S : zS) (post : Int32 → zS → Prop) (h : P_P_order v1 S post) : z_cti l D cA 51 ad y_P_order b_P_order 2 (some .int) rm_P_order [.ref (ad 0), .int v1] S post := by
  refine z_meti (av := [.ref (ad 0), .int v1]) (by decide) (Nat.le_of_ble_eq_true rfl) ⟨rfl, rfl⟩ (fun p e s m args below meth c Q ls C hcs hl hI hR => ?_)
  obtain ⟨hx, hb, hml, hown, hts, hK, hJ⟩ := id C
  unfold P_P_order at h
  have hl : lv_has ls 2 [(0, .ref (ad 0)), (1, .int v1)] := hl
  refine lv_aload_n hx hb d_P_order_0 rfl (lv_at hl 0 rfl) ?_
  refine z_callVv C hI 0 (by decide) kd_0 cl_P (As := []) (rest := []) (c_P_mustBeParted _ _ h) wc_P_mustBeParted k_ml_P_117 rfl rfl (Nat.le_of_ble_eq_true rfl) (Nat.le_of_ble_eq_true rfl) hcs hl.1 (Nat.le_of_ble_eq_true rfl) rfl d_P_order_1 (fun S1 H locs h hI => ?_)
  refine lv_iload_n hx hb d_P_order_4 rfl (lv_at hl 1 rfl) ?_
  refine lv_aload_n hx hb d_P_order_5 rfl (lv_at hl 0 rfl) ?_
  refine z_getR C hI 0 (by decide) kd_0 cl_P iw_P 6 (by decide) k_fl_P_39 rfl d_P_order_6 ?_
  refine z_getI C hI 5 (by decide) kd_5 cl_G iw_G 6 (by decide) k_fl_P_114 rfl d_P_order_9 ?_
  refine z_callSv C hI (As := [.int v1, .int (S1 5 6)]) (rest := []) (c_P_mustBeBelow v1 (S1 5 6) _ _ h) wc_P_mustBeBelow k_ml_P_120 rfl rfl (Nat.le_of_ble_eq_true rfl) (Nat.le_of_ble_eq_true rfl) hcs hl.1 (Nat.le_of_ble_eq_true rfl) rfl d_P_order_12 (fun S12 H locs h hI => ?_)
  refine lv_aload_n hx hb d_P_order_15 rfl (lv_at hl 0 rfl) ?_
  refine z_getR C hI 0 (by decide) kd_0 cl_P iw_P 9 (by decide) k_fl_P_56 rfl d_P_order_16 ?_
  refine z_getR C hI 27 (by decide) kd_27 cl_R iw_R 0 (by decide) k_fl_P_150 rfl d_P_order_19 ?_
  refine lv_iload_n hx hb d_P_order_22 rfl (lv_at hl 1 rfl) ?_
  obtain ⟨h1, h⟩ := h
  refine z_ild C hI 28 (by decide) kd_28 h1 d_P_order_23 ?_
  exact hR _ _ hcs (S12 28 (z_ix v1)) S12 _ _ 24 ls h hI d_P_order_24
set_option maxHeartbeats 4000000 in
set_option maxRecDepth 100000 in
theorem c_P_cover (v1 : Int32) (v2 : Int32) (S : zS) (post : Int32 → zS → Prop) (h : P_P_cover v1 v2 S post) : z_cti l D cA 51 ad y_P_cover b_P_cover 3 (some .int) rm_P_cover [.ref (ad 0), .int v1, .int v2] S post := by
  refine z_meti (av := [.ref (ad 0), .int v1, .int v2]) (by decide) (Nat.le_of_ble_eq_true rfl) ⟨rfl, rfl⟩ (fun p e s m args below meth c Q ls C hcs hl hI hR => ?_)
  obtain ⟨hx, hb, hml, hown, hts, hK, hJ⟩ := id C
  unfold P_P_cover at h
  have hl : lv_has ls 3 [(0, .ref (ad 0)), (1, .int v1), (2, .int v2)] := hl
  refine lv_aload_n hx hb d_P_cover_0 rfl (lv_at hl 0 rfl) ?_
  refine z_callVv C hI 0 (by decide) kd_0 cl_P (As := []) (rest := []) (c_P_mustBeParted _ _ h) wc_P_mustBeParted k_ml_P_117 rfl rfl (Nat.le_of_ble_eq_true rfl) (Nat.le_of_ble_eq_true rfl) hcs hl.1 (Nat.le_of_ble_eq_true rfl) rfl d_P_cover_1 (fun S1 H locs h hI => ?_)
  refine lv_iload_n hx hb d_P_cover_4 rfl (lv_at hl 1 rfl) ?_
  refine lv_aload_n hx hb d_P_cover_5 rfl (lv_at hl 0 rfl) ?_
  refine z_getR C hI 0 (by decide) kd_0 cl_P iw_P 8 (by decide) k_fl_P_49 rfl d_P_cover_6 ?_
  refine z_getI C hI 21 (by decide) kd_21 cl_C iw_C 4 (by decide) k_fl_P_153 rfl d_P_cover_9 ?_
  refine z_callSv C hI (As := [.int v1, .int (S1 21 4)]) (rest := []) (c_P_mustBeBelow v1 (S1 21 4) _ _ h) wc_P_mustBeBelow k_ml_P_120 rfl rfl (Nat.le_of_ble_eq_true rfl) (Nat.le_of_ble_eq_true rfl) hcs hl.1 (Nat.le_of_ble_eq_true rfl) rfl d_P_cover_12 (fun S12 H locs h hI => ?_)
  refine lv_iload_n hx hb d_P_cover_15 rfl (lv_at hl 2 rfl) ?_
  refine lv_iconst (v := 4) hx hb d_P_cover_16 (by decide) ?_
  refine z_callSv C hI (As := [.int v2, .int 4]) (rest := []) (c_P_mustBeTold v2 4 _ _ h) wc_P_mustBeTold k_ml_P_123 rfl rfl (Nat.le_of_ble_eq_true rfl) (Nat.le_of_ble_eq_true rfl) hcs hl.1 (Nat.le_of_ble_eq_true rfl) rfl d_P_cover_17 (fun S17 H locs h hI => ?_)
  refine lv_iload_n hx hb d_P_cover_20 rfl (lv_at hl 2 rfl) ?_
  by_cases q : v2 = 0
  · replace h := h.1 q
    refine lv_tableIn (tgt := 48) hx hb d_P_cover_21 (by rw [q]; decide) (by rw [q]; decide) (by rw [q]; rfl) (by decide) ?_
    refine lv_aload_n hx hb d_P_cover_48 rfl (lv_at hl 0 rfl) ?_
    refine z_getR C hI 0 (by decide) kd_0 cl_P iw_P 8 (by decide) k_fl_P_49 rfl d_P_cover_49 ?_
    refine z_getR C hI 21 (by decide) kd_21 cl_C iw_C 0 (by decide) k_fl_P_154 rfl d_P_cover_52 ?_
    refine lv_iload_n hx hb d_P_cover_55 rfl (lv_at hl 1 rfl) ?_
    obtain ⟨h1, h⟩ := h
    refine z_ild C hI 22 (by decide) kd_22 h1 d_P_cover_56 ?_
    exact hR _ _ hcs (S17 22 (z_ix v1)) S17 _ _ 57 ls h hI d_P_cover_57
  replace h := h.2
  have q0 := q
  clear q
  by_cases q : v2 = 1
  · replace h := h.1 q
    refine lv_tableIn (tgt := 58) hx hb d_P_cover_21 (by rw [q]; decide) (by rw [q]; decide) (by rw [q]; rfl) (by decide) ?_
    refine lv_aload_n hx hb d_P_cover_58 rfl (lv_at hl 0 rfl) ?_
    refine z_getR C hI 0 (by decide) kd_0 cl_P iw_P 8 (by decide) k_fl_P_49 rfl d_P_cover_59 ?_
    refine z_getR C hI 21 (by decide) kd_21 cl_C iw_C 1 (by decide) k_fl_P_157 rfl d_P_cover_62 ?_
    refine lv_iload_n hx hb d_P_cover_65 rfl (lv_at hl 1 rfl) ?_
    obtain ⟨h1, h⟩ := h
    refine z_ild C hI 23 (by decide) kd_23 h1 d_P_cover_66 ?_
    exact hR _ _ hcs (S17 23 (z_ix v1)) S17 _ _ 67 ls h hI d_P_cover_67
  replace h := h.2
  have q1 := q
  clear q
  by_cases q : v2 = 2
  · replace h := h.1 q
    refine lv_tableIn (tgt := 68) hx hb d_P_cover_21 (by rw [q]; decide) (by rw [q]; decide) (by rw [q]; rfl) (by decide) ?_
    refine lv_aload_n hx hb d_P_cover_68 rfl (lv_at hl 0 rfl) ?_
    refine z_getR C hI 0 (by decide) kd_0 cl_P iw_P 8 (by decide) k_fl_P_49 rfl d_P_cover_69 ?_
    refine z_getR C hI 21 (by decide) kd_21 cl_C iw_C 2 (by decide) k_fl_P_160 rfl d_P_cover_72 ?_
    refine lv_iload_n hx hb d_P_cover_75 rfl (lv_at hl 1 rfl) ?_
    obtain ⟨h1, h⟩ := h
    refine z_ild C hI 24 (by decide) kd_24 h1 d_P_cover_76 ?_
    exact hR _ _ hcs (S17 24 (z_ix v1)) S17 _ _ 77 ls h hI d_P_cover_77
  replace h := h.2
  have q2 := q
  clear q
  replace h := h q0 q1 q2
  refine lv_tableOut (tgt := 78) hx hb d_P_cover_21 (by have a0 := lv_neT (a := 0) q0 (by decide); have a1 := lv_neT (a := 1) q1 (by decide); have a2 := lv_neT (a := 2) q2 (by decide); omega) (by decide) ?_
  refine lv_aload_n hx hb d_P_cover_78 rfl (lv_at hl 0 rfl) ?_
  refine z_getR C hI 0 (by decide) kd_0 cl_P iw_P 8 (by decide) k_fl_P_49 rfl d_P_cover_79 ?_
  refine z_getR C hI 21 (by decide) kd_21 cl_C iw_C 3 (by decide) k_fl_P_163 rfl d_P_cover_82 ?_
  refine lv_iload_n hx hb d_P_cover_85 rfl (lv_at hl 1 rfl) ?_
  obtain ⟨h1, h⟩ := h
  refine z_ild C hI 25 (by decide) kd_25 h1 d_P_cover_86 ?_
  exact hR _ _ hcs (S17 25 (z_ix v1)) S17 _ _ 87 ls h hI d_P_cover_87
set_option maxHeartbeats 4000000 in
set_option maxRecDepth 100000 in
theorem c_P_strip (v1 : Int32) (S : zS) (post : Int32 → zS → Prop) (h : P_P_strip v1 S post) : z_cti l D cA 51 ad y_P_strip b_P_strip 2 (some .int) rm_P_strip [.ref (ad 0), .int v1] S post := by
  refine z_meti (av := [.ref (ad 0), .int v1]) (by decide) (Nat.le_of_ble_eq_true rfl) ⟨rfl, rfl⟩ (fun p e s m args below meth c Q ls C hcs hl hI hR => ?_)
  obtain ⟨hx, hb, hml, hown, hts, hK, hJ⟩ := id C
  unfold P_P_strip at h
  have hl : lv_has ls 2 [(0, .ref (ad 0)), (1, .int v1)] := hl
  refine lv_aload_n hx hb d_P_strip_0 rfl (lv_at hl 0 rfl) ?_
  refine z_callVv C hI 0 (by decide) kd_0 cl_P (As := []) (rest := []) (c_P_mustBeParted _ _ h) wc_P_mustBeParted k_ml_P_117 rfl rfl (Nat.le_of_ble_eq_true rfl) (Nat.le_of_ble_eq_true rfl) hcs hl.1 (Nat.le_of_ble_eq_true rfl) rfl d_P_strip_1 (fun S1 H locs h hI => ?_)
  refine lv_iload_n hx hb d_P_strip_4 rfl (lv_at hl 1 rfl) ?_
  refine lv_aload_n hx hb d_P_strip_5 rfl (lv_at hl 0 rfl) ?_
  refine z_getI C hI 0 (by decide) kd_0 cl_P iw_P 0 (by decide) k_fl_P_27 rfl d_P_strip_6 ?_
  refine z_callSv C hI (As := [.int v1, .int (S1 0 0)]) (rest := []) (c_P_mustBeBelow v1 (S1 0 0) _ _ h) wc_P_mustBeBelow k_ml_P_120 rfl rfl (Nat.le_of_ble_eq_true rfl) (Nat.le_of_ble_eq_true rfl) hcs hl.1 (Nat.le_of_ble_eq_true rfl) rfl d_P_strip_9 (fun S9 H locs h hI => ?_)
  refine lv_aload_n hx hb d_P_strip_12 rfl (lv_at hl 0 rfl) ?_
  refine z_getR C hI 0 (by decide) kd_0 cl_P iw_P 5 (by decide) k_fl_P_19 rfl d_P_strip_13 ?_
  refine lv_iload_n hx hb d_P_strip_16 rfl (lv_at hl 1 rfl) ?_
  obtain ⟨h1, h⟩ := h
  refine z_ild C hI 4 (by decide) kd_4 h1 d_P_strip_17 ?_
  exact hR _ _ hcs (S9 4 (z_ix v1)) S9 _ _ 18 ls h hI d_P_strip_18
set_option maxHeartbeats 4000000 in
set_option maxRecDepth 100000 in
theorem c_P_cell (v1 : Int32) (v2 : Int32) (S : zS) (post : Int32 → zS → Prop) (h : P_P_cell v1 v2 S post) : z_cti l D cA 51 ad y_P_cell b_P_cell 3 (some .int) rm_P_cell [.ref (ad 0), .int v1, .int v2] S post := by
  refine z_meti (av := [.ref (ad 0), .int v1, .int v2]) (by decide) (Nat.le_of_ble_eq_true rfl) ⟨rfl, rfl⟩ (fun p e s m args below meth c Q ls C hcs hl hI hR => ?_)
  obtain ⟨hx, hb, hml, hown, hts, hK, hJ⟩ := id C
  unfold P_P_cell at h
  have hl : lv_has ls 3 [(0, .ref (ad 0)), (1, .int v1), (2, .int v2)] := hl
  refine lv_aload_n hx hb d_P_cell_0 rfl (lv_at hl 0 rfl) ?_
  refine z_callVv C hI 0 (by decide) kd_0 cl_P (As := []) (rest := []) (c_P_mustBeParted _ _ h) wc_P_mustBeParted k_ml_P_117 rfl rfl (Nat.le_of_ble_eq_true rfl) (Nat.le_of_ble_eq_true rfl) hcs hl.1 (Nat.le_of_ble_eq_true rfl) rfl d_P_cell_1 (fun S1 H locs h hI => ?_)
  refine lv_iload_n hx hb d_P_cell_4 rfl (lv_at hl 1 rfl) ?_
  refine lv_aload_n hx hb d_P_cell_5 rfl (lv_at hl 0 rfl) ?_
  refine z_getR C hI 0 (by decide) kd_0 cl_P iw_P 7 (by decide) k_fl_P_43 rfl d_P_cell_6 ?_
  refine z_getI C hI 13 (by decide) kd_13 cl_G iw_G 6 (by decide) k_fl_P_114 rfl d_P_cell_9 ?_
  refine z_callSv C hI (As := [.int v1, .int (S1 13 6)]) (rest := []) (c_P_mustBeBelow v1 (S1 13 6) _ _ h) wc_P_mustBeBelow k_ml_P_120 rfl rfl (Nat.le_of_ble_eq_true rfl) (Nat.le_of_ble_eq_true rfl) hcs hl.1 (Nat.le_of_ble_eq_true rfl) rfl d_P_cell_12 (fun S12 H locs h hI => ?_)
  refine lv_iload_n hx hb d_P_cell_15 rfl (lv_at hl 2 rfl) ?_
  refine lv_iconst (v := 5) hx hb d_P_cell_16 (by decide) ?_
  refine z_callSv C hI (As := [.int v2, .int 5]) (rest := []) (c_P_mustBeTold v2 5 _ _ h) wc_P_mustBeTold k_ml_P_123 rfl rfl (Nat.le_of_ble_eq_true rfl) (Nat.le_of_ble_eq_true rfl) hcs hl.1 (Nat.le_of_ble_eq_true rfl) rfl d_P_cell_17 (fun S17 H locs h hI => ?_)
  refine lv_iload_n hx hb d_P_cell_20 rfl (lv_at hl 2 rfl) ?_
  refine lv_iconst (v := 4) hx hb d_P_cell_21 (by decide) ?_
  refine lv_icmp_ne (tgt := 37) hx hb d_P_cell_22 (by decide) (fun q => ?_) (fun q => ?_)
  · replace h := h.1 q
    refine lv_aload_n hx hb d_P_cell_37 rfl (lv_at hl 0 rfl) ?_
    refine z_getR C hI 0 (by decide) kd_0 cl_P iw_P 7 (by decide) k_fl_P_43 rfl d_P_cell_38 ?_
    refine lv_iload_n hx hb d_P_cell_41 rfl (lv_at hl 1 rfl) ?_
    refine lv_iload_n hx hb d_P_cell_42 rfl (lv_at hl 2 rfl) ?_
    refine z_callVi C hI 13 (by decide) kd_13 cl_G (As := [.int v1, .int v2]) (rest := []) (c_G_boxOf 13 z_G_13 v1 v2 _ _ h) wc_G_boxOf k_ml_P_138 rfl rfl (Nat.le_of_ble_eq_true rfl) (Nat.le_of_ble_eq_true rfl) hcs hl.1 (Nat.le_of_ble_eq_true rfl) rfl d_P_cell_43 (fun r43 S43 H locs h hI => ?_)
    exact hR _ _ hcs r43 S43 _ _ 46 ls h hI d_P_cell_46
  · replace h := h.2 q
    refine lv_aload_n hx hb d_P_cell_25 rfl (lv_at hl 0 rfl) ?_
    refine z_getR C hI 0 (by decide) kd_0 cl_P iw_P 7 (by decide) k_fl_P_43 rfl d_P_cell_26 ?_
    refine z_getR C hI 13 (by decide) kd_13 cl_G iw_G 5 (by decide) k_fl_P_135 rfl d_P_cell_29 ?_
    refine lv_iload_n hx hb d_P_cell_32 rfl (lv_at hl 1 rfl) ?_
    obtain ⟨h1, h⟩ := h
    refine z_ild C hI 19 (by decide) kd_19 h1 d_P_cell_33 ?_
    refine lv_goto (tgt := 46) hx hb d_P_cell_34 (by decide) ?_
    exact hR _ _ hcs (S17 19 (z_ix v1)) S17 _ _ 46 ls h hI d_P_cell_46
set_option maxHeartbeats 4000000 in
set_option maxRecDepth 100000 in
theorem c_P_isSpeck (v1 : Int32) (v2 : Int32) (S : zS) (post : Int32 → zS → Prop) (h : P_P_isSpeck v1 v2 S post) : z_cti l D cA 51 ad y_P_isSpeck b_P_isSpeck 4 (some .boolean) rm_P_isSpeck [.ref (ad 0), .int v1, .int v2] S post := by
  refine z_metz (av := [.ref (ad 0), .int v1, .int v2]) (by decide) (Nat.le_of_ble_eq_true rfl) ⟨rfl, rfl⟩ (fun p e s m args below meth c Q ls C hcs hl hI hR => ?_)
  obtain ⟨hx, hb, hml, hown, hts, hK, hJ⟩ := id C
  unfold P_P_isSpeck at h
  have hl : lv_has ls 4 [(0, .ref (ad 0)), (1, .int v1), (2, .int v2)] := hl
  refine lv_aload_n hx hb d_P_isSpeck_0 rfl (lv_at hl 0 rfl) ?_
  refine z_callVv C hI 0 (by decide) kd_0 cl_P (As := []) (rest := []) (c_P_mustBeParted _ _ h) wc_P_mustBeParted k_ml_P_117 rfl rfl (Nat.le_of_ble_eq_true rfl) (Nat.le_of_ble_eq_true rfl) hcs hl.1 (Nat.le_of_ble_eq_true rfl) rfl d_P_isSpeck_1 (fun S1 H locs h hI => ?_)
  refine lv_aload_n hx hb d_P_isSpeck_4 rfl (lv_at hl 0 rfl) ?_
  refine lv_iload_n hx hb d_P_isSpeck_5 rfl (lv_at hl 1 rfl) ?_
  refine lv_iload_n hx hb d_P_isSpeck_6 rfl (lv_at hl 2 rfl) ?_
  refine z_callVv C hI 0 (by decide) kd_0 cl_P (As := [.int v1, .int v2]) (rest := []) (c_P_mustBeSample v1 v2 _ _ h) wc_P_mustBeSample k_ml_P_63 rfl rfl (Nat.le_of_ble_eq_true rfl) (Nat.le_of_ble_eq_true rfl) hcs hl.1 (Nat.le_of_ble_eq_true rfl) rfl d_P_isSpeck_7 (fun S7 H locs h hI => ?_)
  refine lv_iload_n hx hb d_P_isSpeck_10 rfl (lv_at hl 2 rfl) ?_
  refine lv_bipush (v := 24) hx hb d_P_isSpeck_11 (by decide) ?_
  refine lv_imul hx hb d_P_isSpeck_13 ?_
  refine lv_iload_n hx hb d_P_isSpeck_14 rfl (lv_at hl 1 rfl) ?_
  refine lv_iadd hx hb d_P_isSpeck_15 ?_
  refine lv_topi (fun x16 e16 => ?_)
  replace h := h x16 e16
  refine lv_istore_n (lv' := [(3, .int x16), (0, .ref (ad 0)), (1, .int v1), (2, .int v2)]) hx hb d_P_isSpeck_16 rfl hl (by decide) rfl (fun ls hl => ?_)
  refine lv_aload_n hx hb d_P_isSpeck_17 rfl (lv_at hl 1 rfl) ?_
  refine z_getR C hI 0 (by decide) kd_0 cl_P iw_P 2 (by decide) k_fl_P_9 rfl d_P_isSpeck_18 ?_
  refine lv_iload_n hx hb d_P_isSpeck_21 rfl (lv_at hl 0 rfl) ?_
  obtain ⟨h1, h⟩ := h
  refine z_zld C hI 1 (by decide) kd_1 h1 d_P_isSpeck_22 ?_
  refine lv_if_eq (tgt := 39) hx hb d_P_isSpeck_23 (by decide) (fun q => ?_) (fun q => ?_)
  · replace h := h.1 q
    refine lv_iconst (v := 0) hx hb d_P_isSpeck_39 (by decide) ?_
    exact hR _ _ hcs 0 S7 _ _ 40 ls (by decide) h hI d_P_isSpeck_40
  · replace h := h.2 q
    refine lv_aload_n hx hb d_P_isSpeck_26 rfl (lv_at hl 1 rfl) ?_
    refine z_getR C hI 0 (by decide) kd_0 cl_P iw_P 3 (by decide) k_fl_P_13 rfl d_P_isSpeck_27 ?_
    refine lv_iload_n hx hb d_P_isSpeck_30 rfl (lv_at hl 0 rfl) ?_
    obtain ⟨h1, h⟩ := h
    refine z_zld C hI 2 (by decide) kd_2 h1 d_P_isSpeck_31 ?_
    refine lv_if_ne (tgt := 39) hx hb d_P_isSpeck_32 (by decide) (fun q => ?_) (fun q => ?_)
    · replace h := h.1 q
      refine lv_iconst (v := 0) hx hb d_P_isSpeck_39 (by decide) ?_
      exact hR _ _ hcs 0 S7 _ _ 40 ls (by decide) h hI d_P_isSpeck_40
    · replace h := h.2 q
      refine lv_iconst (v := 1) hx hb d_P_isSpeck_35 (by decide) ?_
      refine lv_goto (tgt := 40) hx hb d_P_isSpeck_36 (by decide) ?_
      exact hR _ _ hcs 1 S7 _ _ 40 ls (by decide) h hI d_P_isSpeck_40
set_option maxHeartbeats 4000000 in
set_option maxRecDepth 100000 in
theorem c_P_toldOfParted (v1 : Int32) (S : zS) (post : Int32 → zS → Prop) (h : P_P_toldOfParted v1 S post) : z_cti l D cA 51 ad y_P_toldOfParted b_P_toldOfParted 2 (some .int) rm_P_toldOfParted [.ref (ad 0), .int v1] S post := by
  refine z_meti (av := [.ref (ad 0), .int v1]) (by decide) (Nat.le_of_ble_eq_true rfl) ⟨rfl, rfl⟩ (fun p e s m args below meth c Q ls C hcs hl hI hR => ?_)
  obtain ⟨hx, hb, hml, hown, hts, hK, hJ⟩ := id C
  unfold P_P_toldOfParted at h
  have hl : lv_has ls 2 [(0, .ref (ad 0)), (1, .int v1)] := hl
  refine lv_iload_n hx hb d_P_toldOfParted_0 rfl (lv_at hl 1 rfl) ?_
  by_cases q : v1 = 3
  · replace h := h.1 q
    refine lv_tableIn (tgt := 36) hx hb d_P_toldOfParted_1 (by rw [q]; decide) (by rw [q]; decide) (by rw [q]; rfl) (by decide) ?_
    refine lv_aload_n hx hb d_P_toldOfParted_36 rfl (lv_at hl 0 rfl) ?_
    refine z_getR C hI 0 (by decide) kd_0 cl_P iw_P 6 (by decide) k_fl_P_39 rfl d_P_toldOfParted_37 ?_
    refine z_getI C hI 5 (by decide) kd_5 cl_G iw_G 6 (by decide) k_fl_P_114 rfl d_P_toldOfParted_40 ?_
    exact hR _ _ hcs (S 5 6) S _ _ 43 ls h hI d_P_toldOfParted_43
  replace h := h.2
  have q3 := q
  clear q
  by_cases q : v1 = 4
  · replace h := h.1 q
    refine lv_tableIn (tgt := 44) hx hb d_P_toldOfParted_1 (by rw [q]; decide) (by rw [q]; decide) (by rw [q]; rfl) (by decide) ?_
    refine lv_aload_n hx hb d_P_toldOfParted_44 rfl (lv_at hl 0 rfl) ?_
    refine z_getR C hI 0 (by decide) kd_0 cl_P iw_P 8 (by decide) k_fl_P_49 rfl d_P_toldOfParted_45 ?_
    refine z_getI C hI 21 (by decide) kd_21 cl_C iw_C 4 (by decide) k_fl_P_153 rfl d_P_toldOfParted_48 ?_
    exact hR _ _ hcs (S 21 4) S _ _ 51 ls h hI d_P_toldOfParted_51
  replace h := h.2
  have q4 := q
  clear q
  by_cases q : v1 = 5
  · replace h := h.1 q
    refine lv_tableIn (tgt := 52) hx hb d_P_toldOfParted_1 (by rw [q]; decide) (by rw [q]; decide) (by rw [q]; rfl) (by decide) ?_
    refine lv_aload_n hx hb d_P_toldOfParted_52 rfl (lv_at hl 0 rfl) ?_
    refine z_getI C hI 0 (by decide) kd_0 cl_P iw_P 12 (by decide) k_fl_P_189 rfl d_P_toldOfParted_53 ?_
    exact hR _ _ hcs (S 0 12) S _ _ 56 ls h hI d_P_toldOfParted_56
  replace h := h.2
  have q5 := q
  clear q
  by_cases q : v1 = 6
  · replace h := h.1 q
    refine lv_tableIn (tgt := 57) hx hb d_P_toldOfParted_1 (by rw [q]; decide) (by rw [q]; decide) (by rw [q]; rfl) (by decide) ?_
    refine lv_aload_n hx hb d_P_toldOfParted_57 rfl (lv_at hl 0 rfl) ?_
    refine z_getR C hI 0 (by decide) kd_0 cl_P iw_P 7 (by decide) k_fl_P_43 rfl d_P_toldOfParted_58 ?_
    refine z_getI C hI 13 (by decide) kd_13 cl_G iw_G 6 (by decide) k_fl_P_114 rfl d_P_toldOfParted_61 ?_
    exact hR _ _ hcs (S 13 6) S _ _ 64 ls h hI d_P_toldOfParted_64
  replace h := h.2
  have q6 := q
  clear q
  by_cases q : v1 = 7
  · replace h := h.1 q
    refine lv_tableIn (tgt := 65) hx hb d_P_toldOfParted_1 (by rw [q]; decide) (by rw [q]; decide) (by rw [q]; rfl) (by decide) ?_
    refine lv_aload_n hx hb d_P_toldOfParted_65 rfl (lv_at hl 0 rfl) ?_
    refine z_getI C hI 0 (by decide) kd_0 cl_P iw_P 10 (by decide) k_fl_P_166 rfl d_P_toldOfParted_66 ?_
    refine lv_aload_n hx hb d_P_toldOfParted_69 rfl (lv_at hl 0 rfl) ?_
    refine z_getI C hI 0 (by decide) kd_0 cl_P iw_P 11 (by decide) k_fl_P_192 rfl d_P_toldOfParted_70 ?_
    refine lv_isub hx hb d_P_toldOfParted_73 ?_
    exact hR _ _ hcs ((S 0 10) - (S 0 11)) S _ _ 74 ls h hI d_P_toldOfParted_74
  replace h := h.2
  have q7 := q
  clear q
  replace h := h q3 q4 q5 q6 q7
  refine lv_tableOut (tgt := 75) hx hb d_P_toldOfParted_1 (by have a3 := lv_neT (a := 3) q3 (by decide); have a4 := lv_neT (a := 4) q4 (by decide); have a5 := lv_neT (a := 5) q5 (by decide); have a6 := lv_neT (a := 6) q6 (by decide); have a7 := lv_neT (a := 7) q7 (by decide); omega) (by decide) ?_
  refine lv_iconst (v := (-1)) hx hb d_P_toldOfParted_75 (by decide) ?_
  exact hR _ _ hcs (-1) S _ _ 76 ls h hI d_P_toldOfParted_76
set_option maxHeartbeats 4000000 in
set_option maxRecDepth 100000 in
theorem c_P_told (v1 : Int32) (S : zS) (post : Int32 → zS → Prop) (h : P_P_told v1 S post) : z_cti l D cA 51 ad y_P_told b_P_told 2 (some .int) rm_P_told [.ref (ad 0), .int v1] S post := by
  refine z_meti (av := [.ref (ad 0), .int v1]) (by decide) (Nat.le_of_ble_eq_true rfl) ⟨rfl, rfl⟩ (fun p e s m args below meth c Q ls C hcs hl hI hR => ?_)
  obtain ⟨hx, hb, hml, hown, hts, hK, hJ⟩ := id C
  unfold P_P_told at h
  have hl : lv_has ls 2 [(0, .ref (ad 0)), (1, .int v1)] := hl
  refine lv_iload_n hx hb d_P_told_0 rfl (lv_at hl 1 rfl) ?_
  by_cases q : v1 = 0
  · replace h := h.1 q
    refine lv_tableIn (tgt := 28) hx hb d_P_told_1 (by rw [q]; decide) (by rw [q]; decide) (by rw [q]; rfl) (by decide) ?_
    refine lv_aload_n hx hb d_P_told_28 rfl (lv_at hl 0 rfl) ?_
    refine z_getI C hI 0 (by decide) kd_0 cl_P iw_P 0 (by decide) k_fl_P_27 rfl d_P_told_29 ?_
    exact hR _ _ hcs (S 0 0) S _ _ 32 ls h hI d_P_told_32
  replace h := h.2
  have q0 := q
  clear q
  by_cases q : v1 = 1
  · replace h := h.1 q
    refine lv_tableIn (tgt := 33) hx hb d_P_told_1 (by rw [q]; decide) (by rw [q]; decide) (by rw [q]; rfl) (by decide) ?_
    refine lv_aload_n hx hb d_P_told_33 rfl (lv_at hl 0 rfl) ?_
    refine z_getI C hI 0 (by decide) kd_0 cl_P iw_P 1 (by decide) k_fl_P_31 rfl d_P_told_34 ?_
    exact hR _ _ hcs (S 0 1) S _ _ 37 ls h hI d_P_told_37
  replace h := h.2
  have q1 := q
  clear q
  by_cases q : v1 = 2
  · replace h := h.1 q
    refine lv_tableIn (tgt := 38) hx hb d_P_told_1 (by rw [q]; decide) (by rw [q]; decide) (by rw [q]; rfl) (by decide) ?_
    refine lv_aload_n hx hb d_P_told_38 rfl (lv_at hl 0 rfl) ?_
    refine z_getI C hI 0 (by decide) kd_0 cl_P iw_P 10 (by decide) k_fl_P_166 rfl d_P_told_39 ?_
    exact hR _ _ hcs (S 0 10) S _ _ 42 ls h hI d_P_told_42
  replace h := h.2
  have q2 := q
  clear q
  replace h := h q0 q1 q2
  refine lv_tableOut (tgt := 43) hx hb d_P_told_1 (by have a0 := lv_neT (a := 0) q0 (by decide); have a1 := lv_neT (a := 1) q1 (by decide); have a2 := lv_neT (a := 2) q2 (by decide); omega) (by decide) ?_
  refine lv_aload_n hx hb d_P_told_43 rfl (lv_at hl 0 rfl) ?_
  refine z_getI C hI 0 (by decide) kd_0 cl_P iw_P 14 (by decide) k_fl_P_66 rfl d_P_told_44 ?_
  refine lv_if_eq (tgt := 58) hx hb d_P_told_47 (by decide) (fun q => ?_) (fun q => ?_)
  · replace h := h.1 q
    refine lv_iconst (v := (-1)) hx hb d_P_told_58 (by decide) ?_
    exact hR _ _ hcs (-1) S _ _ 59 ls h hI d_P_told_59
  · replace h := h.2 q
    refine lv_aload_n hx hb d_P_told_50 rfl (lv_at hl 0 rfl) ?_
    refine lv_iload_n hx hb d_P_told_51 rfl (lv_at hl 1 rfl) ?_
    refine z_callVi C hI 0 (by decide) kd_0 cl_P (As := [.int v1]) (rest := []) (c_P_toldOfParted v1 _ _ h) wc_P_toldOfParted k_ml_P_169 rfl rfl (Nat.le_of_ble_eq_true rfl) (Nat.le_of_ble_eq_true rfl) hcs hl.1 (Nat.le_of_ble_eq_true rfl) rfl d_P_told_52 (fun r52 S52 H locs h hI => ?_)
    refine lv_goto (tgt := 59) hx hb d_P_told_55 (by decide) ?_
    exact hR _ _ hcs r52 S52 _ _ 59 ls h hI d_P_told_59
set_option maxHeartbeats 4000000 in
set_option maxRecDepth 100000 in
theorem w_P_clear_2 (C : z_CT p s m args c R_P b_P_clear 2 D cA 51 ad) (hcs : cells ≤ rm_P_clear.cells ∧ slots ≤ rm_P_clear.slots) (post : zS → Prop) (K22 : zS → Prop) (hR : z_Rv p l e rm_P_clear s m args below meth c Q b_P_clear D cA 51 ad post) (kK22 : ∀ (S : zS) (H : Heap) (locs : List Loc) (ls : Array Slot), K22 S → z_I D cA 51 ad s.heap S H locs → lv_has ls 2 [(0, .ref (ad 0))] → W p l e rm_P_clear s m args below meth c H locs cells slots Q (F0 m 22 ls [])) : ∀ (n : Nat) (v1 : Int32) (S : zS) (H : Heap) (locs : List Loc) (ls : Array Slot), z_I D cA 51 ad s.heap S H locs → lv_has ls 2 [(0, .ref (ad 0)), (1, .int v1)] → L_P_clear_2 post K22 n v1 S → W p l e rm_P_clear s m args below meth c H locs cells slots Q (F0 m 2 ls []) := by
  obtain ⟨hx, hb, hml, hown, hts, hK, hJ⟩ := id C
  intro n
  induction n with
  | zero => intro v1 S H locs ls hI hl h; exact h.elim
  | succ n ih =>
    intro v1 S H locs ls hI hl h
    rw [L_P_clear_2] at h
    refine lv_iload_n hx hb d_P_clear_2 rfl (lv_at hl 1 rfl) ?_
    refine lv_sipush (v := 576) hx hb d_P_clear_3 (by decide) ?_
    refine lv_icmp_ge (tgt := 22) hx hb d_P_clear_6 (by decide) (fun q => ?_) (fun q => ?_)
    · replace h := h.1 q
      exact kK22 S _ _ ls h hI (lv_sub hl [0] rfl)
    · replace h := h.2 q
      refine lv_aload_n hx hb d_P_clear_9 rfl (lv_at hl 0 rfl) ?_
      refine z_getR C hI 0 (by decide) kd_0 cl_P iw_P 2 (by decide) k_fl_P_9 rfl d_P_clear_10 ?_
      refine lv_iload_n hx hb d_P_clear_13 rfl (lv_at hl 1 rfl) ?_
      refine lv_iconst (v := 0) hx hb d_P_clear_14 (by decide) ?_
      obtain ⟨h1, h⟩ := h
      refine z_zst C hI 1 (by decide) kd_1 h1 (by decide) d_P_clear_15 (fun S15 eS H locs hI => ?_)
      replace h := h S15 eS
      obtain ⟨x16, e16⟩ : ∃ y : Int32, y = v1 + 1 := ⟨_, rfl⟩
      replace h := h x16 e16
      refine lv_iinc (v := x16) (lv' := [(1, .int x16), (0, .ref (ad 0))]) hx hb d_P_clear_16 hl (k := 1) rfl (by rw [e16]; rfl) (by decide) rfl (fun ls hl => ?_)
      refine lv_goto (tgt := 2) hx hb d_P_clear_19 (by decide) ?_
      exact ih x16 S15 _ _ ls hI (lv_sub hl [1, 0] rfl) h
set_option maxHeartbeats 4000000 in
set_option maxRecDepth 100000 in
theorem c_P_clear (S : zS) (post : zS → Prop) (h : P_P_clear S post) : z_ctv l D cA 51 ad y_P_clear b_P_clear 2 none rm_P_clear [.ref (ad 0)] S post := by
  refine z_metv (av := [.ref (ad 0)]) (by decide) (Nat.le_of_ble_eq_true rfl) ⟨rfl, rfl⟩ (fun p e s m args below meth c Q ls C hcs hl hI hR => ?_)
  obtain ⟨hx, hb, hml, hown, hts, hK, hJ⟩ := id C
  unfold P_P_clear at h
  have hl : lv_has ls 2 [(0, .ref (ad 0))] := hl
  refine lv_iconst (v := 0) hx hb d_P_clear_0 (by decide) ?_
  refine lv_istore_n (lv' := [(1, .int 0), (0, .ref (ad 0))]) hx hb d_P_clear_1 rfl hl (by decide) rfl (fun ls hl => ?_)
  obtain ⟨k2, h⟩ := h
  refine w_P_clear_2 C hcs _ _ hR (fun S2e H locs ls h hI hl => ?_) k2 0 S _ _ ls hI (lv_sub hl [1, 0] rfl) h
  refine lv_aload_n hx hb d_P_clear_22 rfl (lv_at hl 0 rfl) ?_
  refine lv_iconst (v := 0) hx hb d_P_clear_23 (by decide) ?_
  refine z_putI C hI 0 (by decide) kd_0 cl_P iw_P ty_P ty_P_ok n_P 10 (by decide) k_fl_P_166 rfl rfl rfl d_P_clear_24 (fun S24 eS H locs hI => ?_)
  replace h := h S24 eS
  refine lv_aload_n hx hb d_P_clear_27 rfl (lv_at hl 0 rfl) ?_
  refine lv_iconst (v := 3) hx hb d_P_clear_28 (by decide) ?_
  refine z_putI C hI 0 (by decide) kd_0 cl_P iw_P ty_P ty_P_ok n_P 13 (by decide) k_fl_P_60 rfl rfl rfl d_P_clear_29 (fun S29 eS H locs hI => ?_)
  replace h := h S29 eS
  refine lv_aload_n hx hb d_P_clear_32 rfl (lv_at hl 0 rfl) ?_
  refine lv_iconst (v := 0) hx hb d_P_clear_33 (by decide) ?_
  refine z_putZ C hI 0 (by decide) kd_0 cl_P iw_P ty_P ty_P_ok n_P 14 (by decide) k_fl_P_66 rfl rfl rfl (by decide) d_P_clear_34 (fun S34 eS H locs hI => ?_)
  replace h := h S34 eS
  exact hR _ _ hcs S34 _ _ 37 ls h hI d_P_clear_37
set_option maxHeartbeats 4000000 in
set_option maxRecDepth 100000 in
theorem c_M_nearest (v0 : Int32) (S : zS) (post : Int32 → zS → Prop) (h : P_M_nearest v0 S post) : z_cti l D cA n ad y_M_nearest b_M_nearest 1 (some .int) rm_M_nearest [.int v0] S post := by
  refine z_meti (av := [.int v0]) (by decide) (Nat.le_of_ble_eq_true rfl) ⟨rfl, rfl⟩ (fun p e s m args below meth c Q ls C hcs hl hI hR => ?_)
  obtain ⟨hx, hb, hml, hown, hts, hK, hJ⟩ := id C
  unfold P_M_nearest at h
  have hl : lv_has ls 1 [(0, .int v0)] := hl
  refine lv_iload_n hx hb d_M_nearest_0 rfl (lv_at hl 0 rfl) ?_
  refine lv_iconst (v := 1) hx hb d_M_nearest_1 (by decide) ?_
  refine lv_icmp_ge (tgt := 9) hx hb d_M_nearest_2 (by decide) (fun q => ?_) (fun q => ?_)
  · replace h := h.1 q
    refine lv_iload_n hx hb d_M_nearest_9 rfl (lv_at hl 0 rfl) ?_
    refine lv_bipush (v := 24) hx hb d_M_nearest_10 (by decide) ?_
    refine lv_icmp_le (tgt := 20) hx hb d_M_nearest_12 (by decide) (fun q => ?_) (fun q => ?_)
    · replace h := h.1 q
      refine lv_iload_n hx hb d_M_nearest_20 rfl (lv_at hl 0 rfl) ?_
      exact hR _ _ hcs v0 S _ _ 21 ls h hI d_M_nearest_21
    · replace h := h.2 q
      refine lv_bipush (v := 24) hx hb d_M_nearest_15 (by decide) ?_
      refine lv_goto (tgt := 21) hx hb d_M_nearest_17 (by decide) ?_
      exact hR _ _ hcs 24 S _ _ 21 ls h hI d_M_nearest_21
  · replace h := h.2 q
    refine lv_iconst (v := 1) hx hb d_M_nearest_5 (by decide) ?_
    refine lv_goto (tgt := 21) hx hb d_M_nearest_6 (by decide) ?_
    exact hR _ _ hcs 1 S _ _ 21 ls h hI d_M_nearest_21
set_option maxHeartbeats 4000000 in
set_option maxRecDepth 100000 in
theorem c_M_thrown (S : zS) (post : Int32 → zS → Prop) (h : P_M_thrown S post) : z_cti l D cA 51 ad y_M_thrown b_M_thrown 1 (some .int) rm_M_thrown [.ref (ad 31)] S post := by
  refine z_meti (av := [.ref (ad 31)]) (by decide) (Nat.le_of_ble_eq_true rfl) ⟨rfl, rfl⟩ (fun p e s m args below meth c Q ls C hcs hl hI hR => ?_)
  obtain ⟨hx, hb, hml, hown, hts, hK, hJ⟩ := id C
  unfold P_M_thrown at h
  have hl : lv_has ls 1 [(0, .ref (ad 31))] := hl
  refine lv_aload_n hx hb d_M_thrown_0 rfl (lv_at hl 0 rfl) ?_
  refine z_getI C hI 31 (by decide) kd_31 cl_M iw_M 0 (by decide) k_fl_M_79 rfl d_M_thrown_1 ?_
  exact hR _ _ hcs (S 31 0) S _ _ 4 ls h hI d_M_thrown_4
set_option maxHeartbeats 4000000 in
set_option maxRecDepth 100000 in
theorem c_M_in (v0 : Int32) (v1 : Int32) (v2 : Int32) (S : zS) (post : Int32 → zS → Prop) (h : P_M_in v0 v1 v2 S post) : z_cti l D cA n ad y_M_in b_M_in 3 (some .boolean) rm_M_in [.int v0, .int v1, .int v2] S post := by
  refine z_metz (av := [.int v0, .int v1, .int v2]) (by decide) (Nat.le_of_ble_eq_true rfl) ⟨rfl, rfl⟩ (fun p e s m args below meth c Q ls C hcs hl hI hR => ?_)
  obtain ⟨hx, hb, hml, hown, hts, hK, hJ⟩ := id C
  unfold P_M_in at h
  have hl : lv_has ls 3 [(0, .int v0), (1, .int v1), (2, .int v2)] := hl
  refine lv_iload_n hx hb d_M_in_0 rfl (lv_at hl 0 rfl) ?_
  refine lv_iload_n hx hb d_M_in_1 rfl (lv_at hl 1 rfl) ?_
  refine lv_icmp_lt (tgt := 14) hx hb d_M_in_2 (by decide) (fun q => ?_) (fun q => ?_)
  · replace h := h.1 q
    refine lv_iconst (v := 0) hx hb d_M_in_14 (by decide) ?_
    exact hR _ _ hcs 0 S _ _ 15 ls (by decide) h hI d_M_in_15
  · replace h := h.2 q
    refine lv_iload_n hx hb d_M_in_5 rfl (lv_at hl 0 rfl) ?_
    refine lv_iload_n hx hb d_M_in_6 rfl (lv_at hl 2 rfl) ?_
    refine lv_icmp_gt (tgt := 14) hx hb d_M_in_7 (by decide) (fun q => ?_) (fun q => ?_)
    · replace h := h.1 q
      refine lv_iconst (v := 0) hx hb d_M_in_14 (by decide) ?_
      exact hR _ _ hcs 0 S _ _ 15 ls (by decide) h hI d_M_in_15
    · replace h := h.2 q
      refine lv_iconst (v := 1) hx hb d_M_in_10 (by decide) ?_
      refine lv_goto (tgt := 15) hx hb d_M_in_11 (by decide) ?_
      exact hR _ _ hcs 1 S _ _ 15 ls (by decide) h hI d_M_in_15
set_option maxHeartbeats 4000000 in
set_option maxRecDepth 100000 in
theorem c_M_isSample (v1 : Int32) (v2 : Int32) (S : zS) (post : Int32 → zS → Prop) (h : P_M_isSample v1 v2 S post) : z_cti l D cA 51 ad y_M_isSample b_M_isSample 3 (some .boolean) rm_M_isSample [.ref (ad 31), .int v1, .int v2] S post := by
  refine z_metz (av := [.ref (ad 31), .int v1, .int v2]) (by decide) (Nat.le_of_ble_eq_true rfl) ⟨rfl, rfl⟩ (fun p e s m args below meth c Q ls C hcs hl hI hR => ?_)
  obtain ⟨hx, hb, hml, hown, hts, hK, hJ⟩ := id C
  unfold P_M_isSample at h
  have hl : lv_has ls 3 [(0, .ref (ad 31)), (1, .int v1), (2, .int v2)] := hl
  refine lv_iload_n hx hb d_M_isSample_0 rfl (lv_at hl 1 rfl) ?_
  refine lv_iconst (v := 0) hx hb d_M_isSample_1 (by decide) ?_
  refine lv_aload_n hx hb d_M_isSample_2 rfl (lv_at hl 0 rfl) ?_
  refine z_getI C hI 31 (by decide) kd_31 cl_M iw_M 1 (by decide) k_fl_M_73 rfl d_M_isSample_3 ?_
  refine lv_iconst (v := 1) hx hb d_M_isSample_6 (by decide) ?_
  refine lv_isub hx hb d_M_isSample_7 ?_
  refine z_callSi C hI (As := [.int v1, .int 0, .int ((S 31 1) - 1)]) (rest := []) (c_M_in v1 0 ((S 31 1) - 1) _ _ h) wc_M_in k_ml_M_82 rfl rfl (Nat.le_of_ble_eq_true rfl) (Nat.le_of_ble_eq_true rfl) hcs hl.1 (Nat.le_of_ble_eq_true rfl) rfl d_M_isSample_8 (fun r8 S8 H locs h hI => ?_)
  refine lv_if_eq (tgt := 32) hx hb d_M_isSample_11 (by decide) (fun q => ?_) (fun q => ?_)
  · replace h := h.1 q
    refine lv_iconst (v := 0) hx hb d_M_isSample_32 (by decide) ?_
    exact hR _ _ hcs 0 S8 _ _ 33 ls (by decide) h hI d_M_isSample_33
  · replace h := h.2 q
    refine lv_iload_n hx hb d_M_isSample_14 rfl (lv_at hl 2 rfl) ?_
    refine lv_iconst (v := 0) hx hb d_M_isSample_15 (by decide) ?_
    refine lv_aload_n hx hb d_M_isSample_16 rfl (lv_at hl 0 rfl) ?_
    refine z_getI C hI 31 (by decide) kd_31 cl_M iw_M 2 (by decide) k_fl_M_76 rfl d_M_isSample_17 ?_
    refine lv_iconst (v := 1) hx hb d_M_isSample_20 (by decide) ?_
    refine lv_isub hx hb d_M_isSample_21 ?_
    refine z_callSi C hI (As := [.int v2, .int 0, .int ((S8 31 2) - 1)]) (rest := []) (c_M_in v2 0 ((S8 31 2) - 1) _ _ h) wc_M_in k_ml_M_82 rfl rfl (Nat.le_of_ble_eq_true rfl) (Nat.le_of_ble_eq_true rfl) hcs hl.1 (Nat.le_of_ble_eq_true rfl) rfl d_M_isSample_22 (fun r22 S22 H locs h hI => ?_)
    refine lv_if_eq (tgt := 32) hx hb d_M_isSample_25 (by decide) (fun q => ?_) (fun q => ?_)
    · replace h := h.1 q
      refine lv_iconst (v := 0) hx hb d_M_isSample_32 (by decide) ?_
      exact hR _ _ hcs 0 S22 _ _ 33 ls (by decide) h hI d_M_isSample_33
    · replace h := h.2 q
      refine lv_iconst (v := 1) hx hb d_M_isSample_28 (by decide) ?_
      refine lv_goto (tgt := 33) hx hb d_M_isSample_29 (by decide) ?_
      exact hR _ _ hcs 1 S22 _ _ 33 ls (by decide) h hI d_M_isSample_33
set_option maxHeartbeats 4000000 in
set_option maxRecDepth 100000 in
theorem w_M_goes_26 (C : z_CT p s m args c R_M b_M_goes 4 D cA 51 ad) (hcs : cells ≤ rm_M_goes.cells ∧ slots ≤ rm_M_goes.slots) (post : Int32 → zS → Prop) (t0 : Int32) (hR : z_Rz p l e rm_M_goes s m args below meth c Q b_M_goes D cA 51 ad post) (S : zS) (H : Heap) (locs : List Loc) (ls : Array Slot) (hI : z_I D cA 51 ad s.heap S H locs) (hl : lv_has ls 4 [(0, .ref (ad 31))]) (h : J_M_goes_26 post t0 S) : W p l e rm_M_goes s m args below meth c H locs cells slots Q (F0 m 26 ls [.int t0, .ref (ad 31)]) := by
  obtain ⟨hx, hb, hml, hown, hts, hK, hJ⟩ := id C
  unfold J_M_goes_26 at h
  refine z_putI C hI 31 (by decide) kd_31 cl_M iw_M ty_M ty_M_ok n_M 0 (by decide) k_fl_M_79 rfl rfl rfl d_M_goes_26 (fun S26 eS H locs hI => ?_)
  replace h := h S26 eS
  refine lv_aload_n hx hb d_M_goes_29 rfl (lv_at hl 0 rfl) ?_
  refine z_getI C hI 31 (by decide) kd_31 cl_M iw_M 0 (by decide) k_fl_M_79 rfl d_M_goes_30 ?_
  refine lv_if_ne (tgt := 40) hx hb d_M_goes_33 (by decide) (fun q => ?_) (fun q => ?_)
  · replace h := h.1 q
    refine lv_iconst (v := 0) hx hb d_M_goes_40 (by decide) ?_
    exact hR _ _ hcs 0 S26 _ _ 41 ls (by decide) h hI d_M_goes_41
  · replace h := h.2 q
    refine lv_iconst (v := 1) hx hb d_M_goes_36 (by decide) ?_
    refine lv_goto (tgt := 41) hx hb d_M_goes_37 (by decide) ?_
    exact hR _ _ hcs 1 S26 _ _ 41 ls (by decide) h hI d_M_goes_41
set_option maxHeartbeats 4000000 in
set_option maxRecDepth 100000 in
theorem c_M_goes (v1 : Int32) (v2 : Int32) (v3 : Int32) (S : zS) (post : Int32 → zS → Prop) (h : P_M_goes v1 v2 v3 S post) : z_cti l D cA 51 ad y_M_goes b_M_goes 4 (some .boolean) rm_M_goes [.ref (ad 31), .int v1, .int v2, .int v3] S post := by
  refine z_metz (av := [.ref (ad 31), .int v1, .int v2, .int v3]) (by decide) (Nat.le_of_ble_eq_true rfl) ⟨rfl, rfl⟩ (fun p e s m args below meth c Q ls C hcs hl hI hR => ?_)
  obtain ⟨hx, hb, hml, hown, hts, hK, hJ⟩ := id C
  unfold P_M_goes at h
  have hl : lv_has ls 4 [(0, .ref (ad 31)), (1, .int v1), (2, .int v2), (3, .int v3)] := hl
  refine lv_aload_n hx hb d_M_goes_0 rfl (lv_at hl 0 rfl) ?_
  refine lv_iload_n hx hb d_M_goes_1 rfl (lv_at hl 1 rfl) ?_
  refine lv_if_ne (tgt := 9) hx hb d_M_goes_2 (by decide) (fun q => ?_) (fun q => ?_)
  · replace h := h.1 q
    refine lv_iload_n hx hb d_M_goes_9 rfl (lv_at hl 2 rfl) ?_
    refine lv_if_ne (tgt := 17) hx hb d_M_goes_10 (by decide) (fun q => ?_) (fun q => ?_)
    · replace h := h.1 q
      refine lv_iload_n hx hb d_M_goes_17 rfl (lv_at hl 3 rfl) ?_
      refine lv_if_ne (tgt := 25) hx hb d_M_goes_18 (by decide) (fun q => ?_) (fun q => ?_)
      · replace h := h.1 q
        refine lv_iconst (v := 0) hx hb d_M_goes_25 (by decide) ?_
        exact w_M_goes_26 C hcs _ 0 hR S _ _ ls hI (lv_sub hl [0] rfl) h
      · replace h := h.2 q
        refine lv_iconst (v := 3) hx hb d_M_goes_21 (by decide) ?_
        refine lv_goto (tgt := 26) hx hb d_M_goes_22 (by decide) ?_
        exact w_M_goes_26 C hcs _ 3 hR S _ _ ls hI (lv_sub hl [0] rfl) h
    · replace h := h.2 q
      refine lv_iconst (v := 2) hx hb d_M_goes_13 (by decide) ?_
      refine lv_goto (tgt := 26) hx hb d_M_goes_14 (by decide) ?_
      exact w_M_goes_26 C hcs _ 2 hR S _ _ ls hI (lv_sub hl [0] rfl) h
  · replace h := h.2 q
    refine lv_iconst (v := 1) hx hb d_M_goes_5 (by decide) ?_
    refine lv_goto (tgt := 26) hx hb d_M_goes_6 (by decide) ?_
    exact w_M_goes_26 C hcs _ 1 hR S _ _ ls hI (lv_sub hl [0] rfl) h
set_option maxHeartbeats 4000000 in
set_option maxRecDepth 100000 in
theorem w_M_put_41 (C : z_CT p s m args c R_M b_M_put 6 D cA 51 ad) (hcs : cells ≤ rm_M_put.cells ∧ slots ≤ rm_M_put.slots) (post : Int32 → zS → Prop) (v3 : Int32) (v4 : Int32) (t0 : Int32) (hR : z_Rz p l e rm_M_put s m args below meth c Q b_M_put D cA 51 ad post) (S : zS) (H : Heap) (locs : List Loc) (ls : Array Slot) (hI : z_I D cA 51 ad s.heap S H locs) (hl : lv_has ls 6 [(0, .ref (ad 31)), (3, .int v3), (4, .int v4)]) (h : J_M_put_41 post v3 v4 t0 S) : W p l e rm_M_put s m args below meth c H locs cells slots Q (F0 m 41 ls [.int t0]) := by
  obtain ⟨hx, hb, hml, hown, hts, hK, hJ⟩ := id C
  unfold J_M_put_41 at h
  refine lv_istore (lv' := [(5, .int t0), (0, .ref (ad 31)), (3, .int v3), (4, .int v4)]) hx hb d_M_put_41 hl (by decide) rfl (fun ls hl => ?_)
  refine lv_aload_n hx hb d_M_put_43 rfl (lv_at hl 1 rfl) ?_
  refine z_getR C hI 31 (by decide) kd_31 cl_M iw_M 3 (by decide) k_fl_M_7 rfl d_M_put_44 ?_
  refine lv_iload hx hb d_M_put_47 (lv_at hl 3 rfl) ?_
  refine lv_iload_n hx hb d_M_put_49 rfl (lv_at hl 2 rfl) ?_
  obtain ⟨h1, h⟩ := h
  obtain ⟨h2, h⟩ := h
  refine z_zst C hI 32 (by decide) kd_32 h1 h2 d_M_put_50 (fun S50 eS H locs hI => ?_)
  replace h := h S50 eS
  refine lv_aload_n hx hb d_M_put_51 rfl (lv_at hl 1 rfl) ?_
  refine lv_iconst (v := 0) hx hb d_M_put_52 (by decide) ?_
  refine z_putZ C hI 31 (by decide) kd_31 cl_M iw_M ty_M ty_M_ok n_M 5 (by decide) k_fl_M_94 rfl rfl rfl (by decide) d_M_put_53 (fun S53 eS H locs hI => ?_)
  replace h := h S53 eS
  refine lv_iload hx hb d_M_put_56 (lv_at hl 0 rfl) ?_
  exact hR _ _ hcs t0 S53 _ _ 58 ls h.1 h.2 hI d_M_put_58
set_option maxHeartbeats 4000000 in
set_option maxRecDepth 100000 in
theorem c_M_put (v1 : Int32) (v2 : Int32) (v3 : Int32) (S : zS) (post : Int32 → zS → Prop) (h : P_M_put v1 v2 v3 S post) : z_cti l D cA 51 ad y_M_put b_M_put 6 (some .boolean) rm_M_put [.ref (ad 31), .int v1, .int v2, .int v3] S post := by
  refine z_metz (av := [.ref (ad 31), .int v1, .int v2, .int v3]) (by decide) (Nat.le_of_ble_eq_true rfl) ⟨rfl, rfl⟩ (fun p e s m args below meth c Q ls C hcs hl hI hR => ?_)
  obtain ⟨hx, hb, hml, hown, hts, hK, hJ⟩ := id C
  unfold P_M_put at h
  have hl : lv_has ls 6 [(0, .ref (ad 31)), (1, .int v1), (2, .int v2), (3, .int v3)] := hl
  refine lv_aload_n hx hb d_M_put_0 rfl (lv_at hl 0 rfl) ?_
  refine lv_aload_n hx hb d_M_put_1 rfl (lv_at hl 0 rfl) ?_
  refine lv_iload_n hx hb d_M_put_2 rfl (lv_at hl 1 rfl) ?_
  refine lv_iload_n hx hb d_M_put_3 rfl (lv_at hl 2 rfl) ?_
  refine z_callVi C hI 31 (by decide) kd_31 cl_M (As := [.int v1, .int v2]) (rest := [.ref (ad 31)]) (c_M_isSample v1 v2 _ _ h) wc_M_isSample k_ml_M_86 rfl rfl (Nat.le_of_ble_eq_true rfl) (Nat.le_of_ble_eq_true rfl) hcs hl.1 (Nat.le_of_ble_eq_true rfl) rfl d_M_put_4 (fun r4 S4 H locs h hI => ?_)
  refine lv_iconst (v := 1) hx hb d_M_put_7 (by decide) ?_
  refine lv_iconst (v := 1) hx hb d_M_put_8 (by decide) ?_
  refine z_callVi C hI 31 (by decide) kd_31 cl_M (As := [.int r4, .int 1, .int 1]) (rest := []) (c_M_goes r4 1 1 _ _ h) wc_M_goes k_ml_M_90 rfl rfl (Nat.le_of_ble_eq_true rfl) (Nat.le_of_ble_eq_true rfl) hcs hl.1 (Nat.le_of_ble_eq_true rfl) rfl d_M_put_9 (fun r9 S9 H locs h hI => ?_)
  refine lv_if_ne (tgt := 17) hx hb d_M_put_12 (by decide) (fun q => ?_) (fun q => ?_)
  · replace h := h.1 q
    refine lv_bipush (v := 24) hx hb d_M_put_17 (by decide) ?_
    refine lv_iload_n hx hb d_M_put_19 rfl (lv_at hl 2 rfl) ?_
    refine lv_imul hx hb d_M_put_20 ?_
    refine lv_iload_n hx hb d_M_put_21 rfl (lv_at hl 1 rfl) ?_
    refine lv_iadd hx hb d_M_put_22 ?_
    refine lv_topi (fun x23 e23 => ?_)
    replace h := h x23 e23
    refine lv_istore (lv' := [(4, .int x23), (0, .ref (ad 31)), (1, .int v1), (2, .int v2), (3, .int v3)]) hx hb d_M_put_23 hl (by decide) rfl (fun ls hl => ?_)
    refine lv_aload_n hx hb d_M_put_25 rfl (lv_at hl 1 rfl) ?_
    refine z_getR C hI 31 (by decide) kd_31 cl_M iw_M 3 (by decide) k_fl_M_7 rfl d_M_put_26 ?_
    refine lv_iload hx hb d_M_put_29 (lv_at hl 0 rfl) ?_
    obtain ⟨h1, h⟩ := h
    refine z_zld C hI 32 (by decide) kd_32 h1 d_M_put_31 ?_
    refine lv_iload_n hx hb d_M_put_32 rfl (lv_at hl 4 rfl) ?_
    refine lv_icmp_eq (tgt := 40) hx hb d_M_put_33 (by decide) (fun q => ?_) (fun q => ?_)
    · replace h := h.1 q
      refine lv_iconst (v := 0) hx hb d_M_put_40 (by decide) ?_
      exact w_M_put_41 C hcs _ v3 x23 0 hR S9 _ _ ls hI (lv_sub hl [1, 4, 0] rfl) h
    · replace h := h.2 q
      refine lv_iconst (v := 1) hx hb d_M_put_36 (by decide) ?_
      refine lv_goto (tgt := 41) hx hb d_M_put_37 (by decide) ?_
      exact w_M_put_41 C hcs _ v3 x23 1 hR S9 _ _ ls hI (lv_sub hl [1, 4, 0] rfl) h
  · replace h := h.2 q
    refine lv_iconst (v := 0) hx hb d_M_put_15 (by decide) ?_
    exact hR _ _ hcs 0 S9 _ _ 16 ls (by decide) h hI d_M_put_16
end ZW
