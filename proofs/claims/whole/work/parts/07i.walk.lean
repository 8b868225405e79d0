section ZW
variable {p : Program} {l : Launch} {e : Env} {s : State} {m : MethodId} {args : Array Value} {below : List Frame} {meth : Method} {c : Code} {cells slots : Nat} {Q : State → Prop} {D : va_G} {cA : Nat → ClassId} {n : Nat} {ad : Nat → Nat}
set_option maxHeartbeats 4000000 in
set_option maxRecDepth 100000 in
theorem c_M_part (v1 : Int32) (v2 : Int32) (S : zS) (post : Int32 → zS → Prop) (h : P_M_part v1 v2 S post) : z_cti l D cA 51 ad y_M_part b_M_part 3 (some .int) rm_M_part [.ref (ad 31), .int v1, .int v2] S post := by
  refine z_meti (av := [.ref (ad 31), .int v1, .int v2]) (by decide) (Nat.le_of_ble_eq_true rfl) ⟨rfl, rfl⟩ (fun p e s m args below meth c Q ls C hcs hl hI hR => ?_)
  obtain ⟨hx, hb, hml, hown, hts, hK, hJ⟩ := id C
  unfold P_M_part at h
  have hl : lv_has ls 3 [(0, .ref (ad 31)), (1, .int v1), (2, .int v2)] := hl
  refine lv_aload_n hx hb d_M_part_0 rfl (lv_at hl 0 rfl) ?_
  refine lv_aload_n hx hb d_M_part_1 rfl (lv_at hl 0 rfl) ?_
  refine z_getI C hI 31 (by decide) kd_31 cl_M iw_M 5 (by decide) k_fl_M_94 rfl d_M_part_2 ?_
  refine lv_iload_n hx hb d_M_part_5 rfl (lv_at hl 1 rfl) ?_
  refine lv_iconst (v := 0) hx hb d_M_part_6 (by decide) ?_
  refine lv_aload_n hx hb d_M_part_7 rfl (lv_at hl 0 rfl) ?_
  refine z_getI C hI 31 (by decide) kd_31 cl_M iw_M 12 (by decide) k_fl_M_116 rfl d_M_part_8 ?_
  refine lv_iconst (v := 1) hx hb d_M_part_11 (by decide) ?_
  refine lv_isub hx hb d_M_part_12 ?_
  refine z_callSi C hI (As := [.int v1, .int 0, .int ((S 31 12) - 1)]) (rest := [.int (S 31 5), .ref (ad 31)]) (c_M_in v1 0 ((S 31 12) - 1) _ _ h) wc_M_in k_ml_M_82 rfl rfl (Nat.le_of_ble_eq_true rfl) (Nat.le_of_ble_eq_true rfl) hcs hl.1 (Nat.le_of_ble_eq_true rfl) rfl d_M_part_13 (fun r13 S13 H locs h hI => ?_)
  refine lv_iload_n hx hb d_M_part_16 rfl (lv_at hl 2 rfl) ?_
  refine lv_iconst (v := 0) hx hb d_M_part_17 (by decide) ?_
  refine lv_bipush (v := 7) hx hb d_M_part_18 (by decide) ?_
  refine z_callSi C hI (As := [.int v2, .int 0, .int 7]) (rest := [.int r13, .int (S 31 5), .ref (ad 31)]) (c_M_in v2 0 7 _ _ h) wc_M_in k_ml_M_82 rfl rfl (Nat.le_of_ble_eq_true rfl) (Nat.le_of_ble_eq_true rfl) hcs hl.1 (Nat.le_of_ble_eq_true rfl) rfl d_M_part_20 (fun r20 S20 H locs h hI => ?_)
  refine z_callVi C hI 31 (by decide) kd_31 cl_M (As := [.int (S 31 5), .int r13, .int r20]) (rest := []) (c_M_goes (S 31 5) r13 r20 _ _ h) wc_M_goes k_ml_M_90 rfl rfl (Nat.le_of_ble_eq_true rfl) (Nat.le_of_ble_eq_true rfl) hcs hl.1 (Nat.le_of_ble_eq_true rfl) rfl d_M_part_23 (fun r23 S23 H locs h hI => ?_)
  refine lv_if_ne (tgt := 31) hx hb d_M_part_26 (by decide) (fun q => ?_) (fun q => ?_)
  · replace h := h.1 q
    refine lv_iload_n hx hb d_M_part_31 rfl (lv_at hl 2 rfl) ?_
    by_cases q : v2 = 0
    · replace h := h.1 q
      refine lv_tableIn (tgt := 76) hx hb d_M_part_32 (by rw [q]; decide) (by rw [q]; decide) (by rw [q]; rfl) (by decide) ?_
      refine lv_aload_n hx hb d_M_part_76 rfl (lv_at hl 0 rfl) ?_
      refine z_getR C hI 31 (by decide) kd_31 cl_M iw_M 13 (by decide) k_fl_M_36 rfl d_M_part_77 ?_
      refine lv_iload_n hx hb d_M_part_80 rfl (lv_at hl 1 rfl) ?_
      obtain ⟨h1, h⟩ := h
      refine z_ild C hI 39 (by decide) kd_39 h1 d_M_part_81 ?_
      exact hR _ _ hcs (S23 39 (z_ix v1)) S23 _ _ 82 ls h hI d_M_part_82
    replace h := h.2
    have q0 := q
    clear q
    by_cases q : v2 = 1
    · replace h := h.1 q
      refine lv_tableIn (tgt := 83) hx hb d_M_part_32 (by rw [q]; decide) (by rw [q]; decide) (by rw [q]; rfl) (by decide) ?_
      refine lv_aload_n hx hb d_M_part_83 rfl (lv_at hl 0 rfl) ?_
      refine z_getR C hI 31 (by decide) kd_31 cl_M iw_M 14 (by decide) k_fl_M_39 rfl d_M_part_84 ?_
      refine lv_iload_n hx hb d_M_part_87 rfl (lv_at hl 1 rfl) ?_
      obtain ⟨h1, h⟩ := h
      refine z_ild C hI 40 (by decide) kd_40 h1 d_M_part_88 ?_
      exact hR _ _ hcs (S23 40 (z_ix v1)) S23 _ _ 89 ls h hI d_M_part_89
    replace h := h.2
    have q1 := q
    clear q
    by_cases q : v2 = 2
    · replace h := h.1 q
      refine lv_tableIn (tgt := 90) hx hb d_M_part_32 (by rw [q]; decide) (by rw [q]; decide) (by rw [q]; rfl) (by decide) ?_
      refine lv_aload_n hx hb d_M_part_90 rfl (lv_at hl 0 rfl) ?_
      refine z_getR C hI 31 (by decide) kd_31 cl_M iw_M 15 (by decide) k_fl_M_42 rfl d_M_part_91 ?_
      refine lv_iload_n hx hb d_M_part_94 rfl (lv_at hl 1 rfl) ?_
      obtain ⟨h1, h⟩ := h
      refine z_ild C hI 41 (by decide) kd_41 h1 d_M_part_95 ?_
      refine lv_aload_n hx hb d_M_part_96 rfl (lv_at hl 0 rfl) ?_
      refine z_getR C hI 31 (by decide) kd_31 cl_M iw_M 13 (by decide) k_fl_M_36 rfl d_M_part_97 ?_
      refine lv_iload_n hx hb d_M_part_100 rfl (lv_at hl 1 rfl) ?_
      obtain ⟨h1, h⟩ := h
      refine z_ild C hI 39 (by decide) kd_39 h1 d_M_part_101 ?_
      refine lv_isub hx hb d_M_part_102 ?_
      refine lv_iconst (v := 1) hx hb d_M_part_103 (by decide) ?_
      refine lv_iadd hx hb d_M_part_104 ?_
      exact hR _ _ hcs (((S23 41 (z_ix v1)) - (S23 39 (z_ix v1))) + 1) S23 _ _ 105 ls h hI d_M_part_105
    replace h := h.2
    have q2 := q
    clear q
    by_cases q : v2 = 3
    · replace h := h.1 q
      refine lv_tableIn (tgt := 106) hx hb d_M_part_32 (by rw [q]; decide) (by rw [q]; decide) (by rw [q]; rfl) (by decide) ?_
      refine lv_aload_n hx hb d_M_part_106 rfl (lv_at hl 0 rfl) ?_
      refine z_getR C hI 31 (by decide) kd_31 cl_M iw_M 16 (by decide) k_fl_M_45 rfl d_M_part_107 ?_
      refine lv_iload_n hx hb d_M_part_110 rfl (lv_at hl 1 rfl) ?_
      obtain ⟨h1, h⟩ := h
      refine z_ild C hI 42 (by decide) kd_42 h1 d_M_part_111 ?_
      refine lv_aload_n hx hb d_M_part_112 rfl (lv_at hl 0 rfl) ?_
      refine z_getR C hI 31 (by decide) kd_31 cl_M iw_M 14 (by decide) k_fl_M_39 rfl d_M_part_113 ?_
      refine lv_iload_n hx hb d_M_part_116 rfl (lv_at hl 1 rfl) ?_
      obtain ⟨h1, h⟩ := h
      refine z_ild C hI 40 (by decide) kd_40 h1 d_M_part_117 ?_
      refine lv_isub hx hb d_M_part_118 ?_
      refine lv_iconst (v := 1) hx hb d_M_part_119 (by decide) ?_
      refine lv_iadd hx hb d_M_part_120 ?_
      exact hR _ _ hcs (((S23 42 (z_ix v1)) - (S23 40 (z_ix v1))) + 1) S23 _ _ 121 ls h hI d_M_part_121
    replace h := h.2
    have q3 := q
    clear q
    by_cases q : v2 = 4
    · replace h := h.1 q
      refine lv_tableIn (tgt := 122) hx hb d_M_part_32 (by rw [q]; decide) (by rw [q]; decide) (by rw [q]; rfl) (by decide) ?_
      refine lv_aload_n hx hb d_M_part_122 rfl (lv_at hl 0 rfl) ?_
      refine lv_iconst (v := 0) hx hb d_M_part_123 (by decide) ?_
      refine lv_iconst (v := 0) hx hb d_M_part_124 (by decide) ?_
      refine lv_aload_n hx hb d_M_part_125 rfl (lv_at hl 0 rfl) ?_
      refine z_getI C hI 31 (by decide) kd_31 cl_M iw_M 1 (by decide) k_fl_M_73 rfl d_M_part_126 ?_
      refine lv_iconst (v := 1) hx hb d_M_part_129 (by decide) ?_
      refine lv_isub hx hb d_M_part_130 ?_
      refine lv_aload_n hx hb d_M_part_131 rfl (lv_at hl 0 rfl) ?_
      refine z_getI C hI 31 (by decide) kd_31 cl_M iw_M 2 (by decide) k_fl_M_76 rfl d_M_part_132 ?_
      refine lv_iconst (v := 1) hx hb d_M_part_135 (by decide) ?_
      refine lv_isub hx hb d_M_part_136 ?_
      refine lv_iload_n hx hb d_M_part_137 rfl (lv_at hl 1 rfl) ?_
      refine z_callVi C hI 31 (by decide) kd_31 cl_M (As := [.int 0, .int 0, .int ((S23 31 1) - 1), .int ((S23 31 2) - 1), .int v1]) (rest := []) (c_M_cleanIn 0 0 ((S23 31 1) - 1) ((S23 31 2) - 1) v1 _ _ h) wc_M_cleanIn k_ml_M_123 rfl rfl (Nat.le_of_ble_eq_true rfl) (Nat.le_of_ble_eq_true rfl) hcs hl.1 (Nat.le_of_ble_eq_true rfl) rfl d_M_part_138 (fun r138 S138 H locs h hI => ?_)
      exact hR _ _ hcs r138 S138 _ _ 141 ls h hI d_M_part_141
    replace h := h.2
    have q4 := q
    clear q
    by_cases q : v2 = 5
    · replace h := h.1 q
      refine lv_tableIn (tgt := 142) hx hb d_M_part_32 (by rw [q]; decide) (by rw [q]; decide) (by rw [q]; rfl) (by decide) ?_
      refine lv_aload_n hx hb d_M_part_142 rfl (lv_at hl 0 rfl) ?_
      refine z_getR C hI 31 (by decide) kd_31 cl_M iw_M 17 (by decide) k_fl_M_48 rfl d_M_part_143 ?_
      refine lv_iload_n hx hb d_M_part_146 rfl (lv_at hl 1 rfl) ?_
      obtain ⟨h1, h⟩ := h
      refine z_ild C hI 43 (by decide) kd_43 h1 d_M_part_147 ?_
      exact hR _ _ hcs (S23 43 (z_ix v1)) S23 _ _ 148 ls h hI d_M_part_148
    replace h := h.2
    have q5 := q
    clear q
    by_cases q : v2 = 6
    · replace h := h.1 q
      refine lv_tableIn (tgt := 149) hx hb d_M_part_32 (by rw [q]; decide) (by rw [q]; decide) (by rw [q]; rfl) (by decide) ?_
      refine lv_aload_n hx hb d_M_part_149 rfl (lv_at hl 0 rfl) ?_
      refine lv_iload_n hx hb d_M_part_150 rfl (lv_at hl 1 rfl) ?_
      refine z_callVi C hI 31 (by decide) kd_31 cl_M (As := [.int v1]) (rest := []) (c_M_lines v1 _ _ h) wc_M_lines k_ml_M_186 rfl rfl (Nat.le_of_ble_eq_true rfl) (Nat.le_of_ble_eq_true rfl) hcs hl.1 (Nat.le_of_ble_eq_true rfl) rfl d_M_part_151 (fun r151 S151 H locs h hI => ?_)
      exact hR _ _ hcs r151 S151 _ _ 154 ls h hI d_M_part_154
    replace h := h.2
    have q6 := q
    clear q
    replace h := h q0 q1 q2 q3 q4 q5 q6
    refine lv_tableOut (tgt := 155) hx hb d_M_part_32 (by have a0 := lv_neT (a := 0) q0 (by decide); have a1 := lv_neT (a := 1) q1 (by decide); have a2 := lv_neT (a := 2) q2 (by decide); have a3 := lv_neT (a := 3) q3 (by decide); have a4 := lv_neT (a := 4) q4 (by decide); have a5 := lv_neT (a := 5) q5 (by decide); have a6 := lv_neT (a := 6) q6 (by decide); omega) (by decide) ?_
    refine lv_aload_n hx hb d_M_part_155 rfl (lv_at hl 0 rfl) ?_
    refine lv_iload_n hx hb d_M_part_156 rfl (lv_at hl 1 rfl) ?_
    refine z_callVi C hI 31 (by decide) kd_31 cl_M (As := [.int v1]) (rest := []) (c_M_inkOf v1 _ _ h) wc_M_inkOf k_ml_M_189 rfl rfl (Nat.le_of_ble_eq_true rfl) (Nat.le_of_ble_eq_true rfl) hcs hl.1 (Nat.le_of_ble_eq_true rfl) rfl d_M_part_157 (fun r157 S157 H locs h hI => ?_)
    exact hR _ _ hcs r157 S157 _ _ 160 ls h hI d_M_part_160
  · replace h := h.2 q
    refine lv_iconst (v := 0) hx hb d_M_part_29 (by decide) ?_
    exact hR _ _ hcs 0 S23 _ _ 30 ls h hI d_M_part_30
set_option maxHeartbeats 4000000 in
set_option maxRecDepth 100000 in
theorem c_M_partOf (v1 : Int32) (v2 : Int32) (S : zS) (post : Int32 → zS → Prop) (h : P_M_partOf v1 v2 S post) : z_cti l D cA 51 ad y_M_partOf b_M_partOf 3 (some .int) rm_M_partOf [.ref (ad 31), .int v1, .int v2] S post := by
  refine z_meti (av := [.ref (ad 31), .int v1, .int v2]) (by decide) (Nat.le_of_ble_eq_true rfl) ⟨rfl, rfl⟩ (fun p e s m args below meth c Q ls C hcs hl hI hR => ?_)
  obtain ⟨hx, hb, hml, hown, hts, hK, hJ⟩ := id C
  unfold P_M_partOf at h
  have hl : lv_has ls 3 [(0, .ref (ad 31)), (1, .int v1), (2, .int v2)] := hl
  refine lv_aload_n hx hb d_M_partOf_0 rfl (lv_at hl 0 rfl) ?_
  refine lv_aload_n hx hb d_M_partOf_1 rfl (lv_at hl 0 rfl) ?_
  refine z_getI C hI 31 (by decide) kd_31 cl_M iw_M 5 (by decide) k_fl_M_94 rfl d_M_partOf_2 ?_
  refine lv_aload_n hx hb d_M_partOf_5 rfl (lv_at hl 0 rfl) ?_
  refine lv_iload_n hx hb d_M_partOf_6 rfl (lv_at hl 1 rfl) ?_
  refine lv_iload_n hx hb d_M_partOf_7 rfl (lv_at hl 2 rfl) ?_
  refine z_callVi C hI 31 (by decide) kd_31 cl_M (As := [.int v1, .int v2]) (rest := [.int (S 31 5), .ref (ad 31)]) (c_M_isSample v1 v2 _ _ h) wc_M_isSample k_ml_M_86 rfl rfl (Nat.le_of_ble_eq_true rfl) (Nat.le_of_ble_eq_true rfl) hcs hl.1 (Nat.le_of_ble_eq_true rfl) rfl d_M_partOf_8 (fun r8 S8 H locs h hI => ?_)
  refine lv_iconst (v := 1) hx hb d_M_partOf_11 (by decide) ?_
  refine z_callVi C hI 31 (by decide) kd_31 cl_M (As := [.int (S 31 5), .int r8, .int 1]) (rest := []) (c_M_goes (S 31 5) r8 1 _ _ h) wc_M_goes k_ml_M_90 rfl rfl (Nat.le_of_ble_eq_true rfl) (Nat.le_of_ble_eq_true rfl) hcs hl.1 (Nat.le_of_ble_eq_true rfl) rfl d_M_partOf_12 (fun r12 S12 H locs h hI => ?_)
  refine lv_if_eq (tgt := 32) hx hb d_M_partOf_15 (by decide) (fun q => ?_) (fun q => ?_)
  · replace h := h.1 q
    refine lv_iconst (v := 0) hx hb d_M_partOf_32 (by decide) ?_
    exact hR _ _ hcs 0 S12 _ _ 33 ls h hI d_M_partOf_33
  · replace h := h.2 q
    refine lv_aload_n hx hb d_M_partOf_18 rfl (lv_at hl 0 rfl) ?_
    refine z_getR C hI 31 (by decide) kd_31 cl_M iw_M 11 (by decide) k_fl_M_33 rfl d_M_partOf_19 ?_
    refine lv_bipush (v := 24) hx hb d_M_partOf_22 (by decide) ?_
    refine lv_iload_n hx hb d_M_partOf_24 rfl (lv_at hl 2 rfl) ?_
    refine lv_imul hx hb d_M_partOf_25 ?_
    refine lv_iload_n hx hb d_M_partOf_26 rfl (lv_at hl 1 rfl) ?_
    refine lv_iadd hx hb d_M_partOf_27 ?_
    obtain ⟨h1, h⟩ := h
    refine z_ild C hI 38 (by decide) kd_38 h1 d_M_partOf_28 ?_
    refine lv_goto (tgt := 33) hx hb d_M_partOf_29 (by decide) ?_
    exact hR _ _ hcs (S12 38 (z_ix ((24 * v2) + v1))) S12 _ _ 33 ls h hI d_M_partOf_33
set_option maxHeartbeats 4000000 in
set_option maxRecDepth 100000 in
theorem w_M_line_109 (C : z_CT p s m args c R_M b_M_line 8 D cA 51 ad) (hcs : cells ≤ rm_M_line.cells ∧ slots ≤ rm_M_line.slots) (post : Int32 → zS → Prop) (K150 : Int32 → zS → Prop) (v1 : Int32) (v3 : Int32) (v5 : Int32) (v6 : Int32) (hR : z_Ri p l e rm_M_line s m args below meth c Q b_M_line D cA 51 ad post) (kK150 : ∀ (v7 : Int32) (S : zS) (H : Heap) (locs : List Loc) (ls : Array Slot), K150 v7 S → z_I D cA 51 ad s.heap S H locs → lv_has ls 8 [(0, .ref (ad 31)), (1, .int v1), (3, .int v3), (5, .int v5), (6, .int v6), (7, .int v7)] → W p l e rm_M_line s m args below meth c H locs cells slots Q (F0 m 150 ls [])) : ∀ (n : Nat) (v7 : Int32) (S : zS) (H : Heap) (locs : List Loc) (ls : Array Slot), z_I D cA 51 ad s.heap S H locs → lv_has ls 8 [(0, .ref (ad 31)), (1, .int v1), (3, .int v3), (5, .int v5), (6, .int v6), (7, .int v7)] → L_M_line_109 post K150 v1 v3 v5 v6 n v7 S → W p l e rm_M_line s m args below meth c H locs cells slots Q (F0 m 109 ls []) := by
  obtain ⟨hx, hb, hml, hown, hts, hK, hJ⟩ := id C
  intro n
  induction n with
  | zero => intro v7 S H locs ls hI hl h; exact h.elim
  | succ n ih =>
    intro v7 S H locs ls hI hl h
    rw [L_M_line_109] at h
    refine lv_iload hx hb d_M_line_109 (lv_at hl 5 rfl) ?_
    refine lv_aload_n hx hb d_M_line_111 rfl (lv_at hl 0 rfl) ?_
    refine z_getR C hI 31 (by decide) kd_31 cl_M iw_M 16 (by decide) k_fl_M_45 rfl d_M_line_112 ?_
    refine lv_iload_n hx hb d_M_line_115 rfl (lv_at hl 1 rfl) ?_
    obtain ⟨h1, h⟩ := h
    refine z_ild C hI 42 (by decide) kd_42 h1 d_M_line_116 ?_
    refine lv_icmp_gt (tgt := 150) hx hb d_M_line_117 (by decide) (fun q => ?_) (fun q => ?_)
    · replace h := h.1 q
      exact kK150 v7 S _ _ ls h hI (lv_sub hl [0, 1, 2, 3, 4, 5] rfl)
    · replace h := h.2 q
      refine lv_aload_n hx hb d_M_line_120 rfl (lv_at hl 0 rfl) ?_
      refine lv_aload_n hx hb d_M_line_121 rfl (lv_at hl 0 rfl) ?_
      refine z_getR C hI 31 (by decide) kd_31 cl_M iw_M 13 (by decide) k_fl_M_36 rfl d_M_line_122 ?_
      refine lv_iload_n hx hb d_M_line_125 rfl (lv_at hl 1 rfl) ?_
      obtain ⟨h1, h⟩ := h
      refine z_ild C hI 39 (by decide) kd_39 h1 d_M_line_126 ?_
      refine lv_iload hx hb d_M_line_127 (lv_at hl 5 rfl) ?_
      refine lv_aload_n hx hb d_M_line_129 rfl (lv_at hl 0 rfl) ?_
      refine z_getR C hI 31 (by decide) kd_31 cl_M iw_M 15 (by decide) k_fl_M_42 rfl d_M_line_130 ?_
      refine lv_iload_n hx hb d_M_line_133 rfl (lv_at hl 1 rfl) ?_
      obtain ⟨h1, h⟩ := h
      refine z_ild C hI 41 (by decide) kd_41 h1 d_M_line_134 ?_
      refine lv_iload hx hb d_M_line_135 (lv_at hl 5 rfl) ?_
      refine lv_iload_n hx hb d_M_line_137 rfl (lv_at hl 1 rfl) ?_
      refine z_callVi C hI 31 (by decide) kd_31 cl_M (As := [.int (S 39 (z_ix v1)), .int v7, .int (S 41 (z_ix v1)), .int v7, .int v1]) (rest := []) (c_M_cleanIn (S 39 (z_ix v1)) v7 (S 41 (z_ix v1)) v7 v1 _ _ h) wc_M_cleanIn k_ml_M_123 rfl rfl (Nat.le_of_ble_eq_true rfl) (Nat.le_of_ble_eq_true rfl) hcs hl.1 (Nat.le_of_ble_eq_true rfl) rfl d_M_line_138 (fun r138 S138 H locs h hI => ?_)
      refine lv_if_le (tgt := 150) hx hb d_M_line_141 (by decide) (fun q => ?_) (fun q => ?_)
      · replace h := h.1 q
        exact kK150 v7 S138 _ _ ls h hI (lv_sub hl [0, 1, 2, 3, 4, 5] rfl)
      · replace h := h.2 q
        obtain ⟨x144, e144⟩ : ∃ y : Int32, y = v7 + 1 := ⟨_, rfl⟩
        replace h := h x144 e144
        refine lv_iinc (v := x144) (lv' := [(7, .int x144), (0, .ref (ad 31)), (1, .int v1), (3, .int v3), (5, .int v5), (6, .int v6)]) hx hb d_M_line_144 hl (k := 5) rfl (by rw [e144]; rfl) (by decide) rfl (fun ls hl => ?_)
        refine lv_goto (tgt := 109) hx hb d_M_line_147 (by decide) ?_
        exact ih x144 S138 _ _ ls hI (lv_sub hl [1, 2, 3, 4, 5, 0] rfl) h
set_option maxHeartbeats 4000000 in
set_option maxRecDepth 100000 in
theorem w_M_line_150 (C : z_CT p s m args c R_M b_M_line 8 D cA 51 ad) (hcs : cells ≤ rm_M_line.cells ∧ slots ≤ rm_M_line.slots) (post : Int32 → zS → Prop) (K75 : Int32 → Int32 → zS → Prop) (K155 : Int32 → Int32 → zS → Prop) (v1 : Int32) (v3 : Int32) (v5 : Int32) (v6 : Int32) (v7 : Int32) (hR : z_Ri p l e rm_M_line s m args below meth c Q b_M_line D cA 51 ad post) (kK75 : ∀ (v5 : Int32) (v6 : Int32) (S : zS) (H : Heap) (locs : List Loc) (ls : Array Slot), K75 v5 v6 S → z_I D cA 51 ad s.heap S H locs → lv_has ls 8 [(0, .ref (ad 31)), (1, .int v1), (3, .int v3), (5, .int v5), (6, .int v6)] → W p l e rm_M_line s m args below meth c H locs cells slots Q (F0 m 75 ls [])) (kK155 : ∀ (v6 : Int32) (v7 : Int32) (S : zS) (H : Heap) (locs : List Loc) (ls : Array Slot), K155 v6 v7 S → z_I D cA 51 ad s.heap S H locs → lv_has ls 8 [(3, .int v3), (6, .int v6), (7, .int v7)] → W p l e rm_M_line s m args below meth c H locs cells slots Q (F0 m 155 ls [])) (S : zS) (H : Heap) (locs : List Loc) (ls : Array Slot) (hI : z_I D cA 51 ad s.heap S H locs) (hl : lv_has ls 8 [(0, .ref (ad 31)), (1, .int v1), (3, .int v3), (5, .int v5), (6, .int v6), (7, .int v7)]) (h : J_M_line_150 post K75 K155 v1 v3 v5 v6 v7 S) : W p l e rm_M_line s m args below meth c H locs cells slots Q (F0 m 150 ls []) := by
  obtain ⟨hx, hb, hml, hown, hts, hK, hJ⟩ := id C
  unfold J_M_line_150 at h
  refine lv_iload hx hb d_M_line_150 (lv_at hl 3 rfl) ?_
  refine lv_if_ne (tgt := 170) hx hb d_M_line_152 (by decide) (fun q => ?_) (fun q => ?_)
  · replace h := h.1 q
    obtain ⟨x170, e170⟩ : ∃ y : Int32, y = v5 + (-1) := ⟨_, rfl⟩
    replace h := h x170 e170
    refine lv_iinc (v := x170) (lv' := [(5, .int x170), (0, .ref (ad 31)), (1, .int v1), (3, .int v3), (6, .int v6), (7, .int v7)]) hx hb d_M_line_170 hl (k := 3) rfl (by rw [e170]; rfl) (by decide) rfl (fun ls hl => ?_)
    refine lv_iload hx hb d_M_line_173 (lv_at hl 5 rfl) ?_
    refine lv_istore (lv' := [(6, .int v7), (5, .int x170), (0, .ref (ad 31)), (1, .int v1), (3, .int v3), (7, .int v7)]) hx hb d_M_line_175 hl (by decide) rfl (fun ls hl => ?_)
    refine lv_goto (tgt := 75) hx hb d_M_line_177 (by decide) ?_
    exact kK75 x170 v7 S _ _ ls h hI (lv_sub hl [2, 3, 4, 1, 0] rfl)
  · replace h := h.2 q
    exact kK155 v6 v7 S _ _ ls h hI (lv_sub hl [2, 4, 5] rfl)
set_option maxHeartbeats 4000000 in
set_option maxRecDepth 100000 in
theorem w_M_line_75 (C : z_CT p s m args c R_M b_M_line 8 D cA 51 ad) (hcs : cells ≤ rm_M_line.cells ∧ slots ≤ rm_M_line.slots) (post : Int32 → zS → Prop) (K155 : Int32 → Int32 → zS → Prop) (v1 : Int32) (v3 : Int32) (hR : z_Ri p l e rm_M_line s m args below meth c Q b_M_line D cA 51 ad post) (kK155 : ∀ (v6 : Int32) (v7 : Int32) (S : zS) (H : Heap) (locs : List Loc) (ls : Array Slot), K155 v6 v7 S → z_I D cA 51 ad s.heap S H locs → lv_has ls 8 [(3, .int v3), (6, .int v6), (7, .int v7)] → W p l e rm_M_line s m args below meth c H locs cells slots Q (F0 m 155 ls [])) : ∀ (n : Nat) (v5 : Int32) (v6 : Int32) (S : zS) (H : Heap) (locs : List Loc) (ls : Array Slot), z_I D cA 51 ad s.heap S H locs → lv_has ls 8 [(0, .ref (ad 31)), (1, .int v1), (3, .int v3), (5, .int v5), (6, .int v6)] → L_M_line_75 post K155 v1 v3 n v5 v6 S → W p l e rm_M_line s m args below meth c H locs cells slots Q (F0 m 75 ls []) := by
  obtain ⟨hx, hb, hml, hown, hts, hK, hJ⟩ := id C
  intro n
  induction n with
  | zero => intro v5 v6 S H locs ls hI hl h; exact h.elim
  | succ n ih =>
    intro v5 v6 S H locs ls hI hl h
    rw [L_M_line_75] at h
    refine lv_aload_n hx hb d_M_line_75 rfl (lv_at hl 0 rfl) ?_
    refine lv_aload_n hx hb d_M_line_76 rfl (lv_at hl 0 rfl) ?_
    refine z_getR C hI 31 (by decide) kd_31 cl_M iw_M 13 (by decide) k_fl_M_36 rfl d_M_line_77 ?_
    refine lv_iload_n hx hb d_M_line_80 rfl (lv_at hl 1 rfl) ?_
    obtain ⟨h1, h⟩ := h
    refine z_ild C hI 39 (by decide) kd_39 h1 d_M_line_81 ?_
    refine lv_iload hx hb d_M_line_82 (lv_at hl 4 rfl) ?_
    refine lv_aload_n hx hb d_M_line_84 rfl (lv_at hl 0 rfl) ?_
    refine z_getR C hI 31 (by decide) kd_31 cl_M iw_M 15 (by decide) k_fl_M_42 rfl d_M_line_85 ?_
    refine lv_iload_n hx hb d_M_line_88 rfl (lv_at hl 1 rfl) ?_
    obtain ⟨h1, h⟩ := h
    refine z_ild C hI 41 (by decide) kd_41 h1 d_M_line_89 ?_
    refine lv_iload hx hb d_M_line_90 (lv_at hl 4 rfl) ?_
    refine lv_iload_n hx hb d_M_line_92 rfl (lv_at hl 1 rfl) ?_
    refine z_callVi C hI 31 (by decide) kd_31 cl_M (As := [.int (S 39 (z_ix v1)), .int v6, .int (S 41 (z_ix v1)), .int v6, .int v1]) (rest := []) (c_M_cleanIn (S 39 (z_ix v1)) v6 (S 41 (z_ix v1)) v6 v1 _ _ h) wc_M_cleanIn k_ml_M_123 rfl rfl (Nat.le_of_ble_eq_true rfl) (Nat.le_of_ble_eq_true rfl) hcs hl.1 (Nat.le_of_ble_eq_true rfl) rfl d_M_line_93 (fun r93 S93 H locs h hI => ?_)
    refine lv_if_ne (tgt := 105) hx hb d_M_line_96 (by decide) (fun q => ?_) (fun q => ?_)
    · replace h := h.1 q
      refine lv_iload hx hb d_M_line_105 (lv_at hl 4 rfl) ?_
      refine lv_istore (lv' := [(7, .int v6), (0, .ref (ad 31)), (1, .int v1), (3, .int v3), (5, .int v5), (6, .int v6)]) hx hb d_M_line_107 hl (by decide) rfl (fun ls hl => ?_)
      obtain ⟨k109, h⟩ := h
      refine w_M_line_109 C hcs _ _ v1 v3 v5 v6 hR (fun v7_109e S109e H locs ls h hI hl => ?_) k109 v6 S93 _ _ ls hI (lv_sub hl [1, 2, 3, 4, 5, 0] rfl) h
      exact w_M_line_150 C hcs _ _ _ v1 v3 v5 v6 v7_109e hR (fun v5 v6 S H locs ls h hI hl => ih v5 v6 S H locs ls hI hl h) kK155 S109e _ _ ls hI (lv_sub hl [0, 1, 2, 3, 4, 5] rfl) h
    · replace h := h.2 q
      obtain ⟨x99, e99⟩ : ∃ y : Int32, y = v6 + 1 := ⟨_, rfl⟩
      replace h := h x99 e99
      refine lv_iinc (v := x99) (lv' := [(6, .int x99), (0, .ref (ad 31)), (1, .int v1), (3, .int v3), (5, .int v5)]) hx hb d_M_line_99 hl (k := 4) rfl (by rw [e99]; rfl) (by decide) rfl (fun ls hl => ?_)
      refine lv_goto (tgt := 75) hx hb d_M_line_102 (by decide) ?_
      exact ih v5 x99 S93 _ _ ls hI (lv_sub hl [1, 2, 3, 4, 0] rfl) h
set_option maxHeartbeats 4000000 in
set_option maxRecDepth 100000 in
theorem w_M_line_41 (C : z_CT p s m args c R_M b_M_line 8 D cA 51 ad) (hcs : cells ≤ rm_M_line.cells ∧ slots ≤ rm_M_line.slots) (post : Int32 → zS → Prop) (v1 : Int32) (v2 : Int32) (v3 : Int32) (t0 : Int32) (hR : z_Ri p l e rm_M_line s m args below meth c Q b_M_line D cA 51 ad post) (S : zS) (H : Heap) (locs : List Loc) (ls : Array Slot) (hI : z_I D cA 51 ad s.heap S H locs) (hl : lv_has ls 8 [(0, .ref (ad 31)), (1, .int v1), (2, .int v2), (3, .int v3)]) (h : J_M_line_41 post v1 v2 v3 t0 S) : W p l e rm_M_line s m args below meth c H locs cells slots Q (F0 m 41 ls [.int t0]) := by
  obtain ⟨hx, hb, hml, hown, hts, hK, hJ⟩ := id C
  unfold J_M_line_41 at h
  refine lv_istore (lv' := [(4, .int t0), (0, .ref (ad 31)), (1, .int v1), (2, .int v2), (3, .int v3)]) hx hb d_M_line_41 hl (by decide) rfl (fun ls hl => ?_)
  refine lv_aload_n hx hb d_M_line_43 rfl (lv_at hl 1 rfl) ?_
  refine lv_aload_n hx hb d_M_line_44 rfl (lv_at hl 1 rfl) ?_
  refine z_getI C hI 31 (by decide) kd_31 cl_M iw_M 5 (by decide) k_fl_M_94 rfl d_M_line_45 ?_
  refine lv_iload hx hb d_M_line_48 (lv_at hl 0 rfl) ?_
  refine lv_iload_n hx hb d_M_line_50 rfl (lv_at hl 4 rfl) ?_
  refine lv_iconst (v := 0) hx hb d_M_line_51 (by decide) ?_
  refine lv_iconst (v := 1) hx hb d_M_line_52 (by decide) ?_
  refine z_callSi C hI (As := [.int v3, .int 0, .int 1]) (rest := [.int t0, .int (S 31 5), .ref (ad 31)]) (c_M_in v3 0 1 _ _ h) wc_M_in k_ml_M_82 rfl rfl (Nat.le_of_ble_eq_true rfl) (Nat.le_of_ble_eq_true rfl) hcs hl.1 (Nat.le_of_ble_eq_true rfl) rfl d_M_line_53 (fun r53 S53 H locs h hI => ?_)
  refine z_callVi C hI 31 (by decide) kd_31 cl_M (As := [.int (S 31 5), .int t0, .int r53]) (rest := []) (c_M_goes (S 31 5) t0 r53 _ _ h) wc_M_goes k_ml_M_90 rfl rfl (Nat.le_of_ble_eq_true rfl) (Nat.le_of_ble_eq_true rfl) hcs hl.1 (Nat.le_of_ble_eq_true rfl) rfl d_M_line_56 (fun r56 S56 H locs h hI => ?_)
  refine lv_if_ne (tgt := 64) hx hb d_M_line_59 (by decide) (fun q => ?_) (fun q => ?_)
  · replace h := h.1 q
    refine lv_iload_n hx hb d_M_line_64 rfl (lv_at hl 3 rfl) ?_
    refine lv_istore (lv' := [(5, .int v2), (4, .int t0), (0, .ref (ad 31)), (1, .int v1), (2, .int v2), (3, .int v3)]) hx hb d_M_line_65 hl (by decide) rfl (fun ls hl => ?_)
    refine lv_aload_n hx hb d_M_line_67 rfl (lv_at hl 2 rfl) ?_
    refine z_getR C hI 31 (by decide) kd_31 cl_M iw_M 14 (by decide) k_fl_M_39 rfl d_M_line_68 ?_
    refine lv_iload_n hx hb d_M_line_71 rfl (lv_at hl 3 rfl) ?_
    obtain ⟨h1, h⟩ := h
    refine z_ild C hI 40 (by decide) kd_40 h1 d_M_line_72 ?_
    refine lv_topi (fun x73 e73 => ?_)
    replace h := h x73 e73
    refine lv_istore (lv' := [(6, .int x73), (5, .int v2), (4, .int t0), (0, .ref (ad 31)), (1, .int v1), (2, .int v2), (3, .int v3)]) hx hb d_M_line_73 hl (by decide) rfl (fun ls hl => ?_)
    obtain ⟨k75, h⟩ := h
    refine w_M_line_75 C hcs _ _ v1 v3 hR (fun v6_75e v7_75e S75e H locs ls h hI hl => ?_) k75 v2 x73 S56 _ _ ls hI (lv_sub hl [3, 4, 6, 1, 0] rfl) h
    refine lv_iload_n hx hb d_M_line_155 rfl (lv_at hl 0 rfl) ?_
    refine lv_if_ne (tgt := 164) hx hb d_M_line_156 (by decide) (fun q => ?_) (fun q => ?_)
    · replace h := h.1 q
      refine lv_iload hx hb d_M_line_164 (lv_at hl 2 rfl) ?_
      refine lv_iload hx hb d_M_line_166 (lv_at hl 1 rfl) ?_
      refine lv_isub hx hb d_M_line_168 ?_
      exact hR _ _ hcs (v7_75e - v6_75e) S75e _ _ 169 ls h hI d_M_line_169
    · replace h := h.2 q
      refine lv_iload hx hb d_M_line_159 (lv_at hl 1 rfl) ?_
      refine lv_goto (tgt := 169) hx hb d_M_line_161 (by decide) ?_
      exact hR _ _ hcs v6_75e S75e _ _ 169 ls h hI d_M_line_169
  · replace h := h.2 q
    refine lv_iconst (v := 0) hx hb d_M_line_62 (by decide) ?_
    exact hR _ _ hcs 0 S56 _ _ 63 ls h hI d_M_line_63
set_option maxHeartbeats 4000000 in
set_option maxRecDepth 100000 in
theorem w_M_line_40 (C : z_CT p s m args c R_M b_M_line 8 D cA 51 ad) (hcs : cells ≤ rm_M_line.cells ∧ slots ≤ rm_M_line.slots) (post : Int32 → zS → Prop) (v1 : Int32) (v2 : Int32) (v3 : Int32) (hR : z_Ri p l e rm_M_line s m args below meth c Q b_M_line D cA 51 ad post) (S : zS) (H : Heap) (locs : List Loc) (ls : Array Slot) (hI : z_I D cA 51 ad s.heap S H locs) (hl : lv_has ls 8 [(0, .ref (ad 31)), (1, .int v1), (2, .int v2), (3, .int v3)]) (h : J_M_line_40 post v1 v2 v3 S) : W p l e rm_M_line s m args below meth c H locs cells slots Q (F0 m 40 ls []) := by
  obtain ⟨hx, hb, hml, hown, hts, hK, hJ⟩ := id C
  unfold J_M_line_40 at h
  refine lv_iconst (v := 0) hx hb d_M_line_40 (by decide) ?_
  exact w_M_line_41 C hcs _ v1 v2 v3 0 hR S _ _ ls hI (lv_sub hl [0, 1, 2, 3] rfl) h
set_option maxHeartbeats 4000000 in
set_option maxRecDepth 100000 in
theorem c_M_line (v1 : Int32) (v2 : Int32) (v3 : Int32) (S : zS) (post : Int32 → zS → Prop) (h : P_M_line v1 v2 v3 S post) : z_cti l D cA 51 ad y_M_line b_M_line 8 (some .int) rm_M_line [.ref (ad 31), .int v1, .int v2, .int v3] S post := by
  refine z_meti (av := [.ref (ad 31), .int v1, .int v2, .int v3]) (by decide) (Nat.le_of_ble_eq_true rfl) ⟨rfl, rfl⟩ (fun p e s m args below meth c Q ls C hcs hl hI hR => ?_)
  obtain ⟨hx, hb, hml, hown, hts, hK, hJ⟩ := id C
  unfold P_M_line at h
  have hl : lv_has ls 8 [(0, .ref (ad 31)), (1, .int v1), (2, .int v2), (3, .int v3)] := hl
  refine lv_aload_n hx hb d_M_line_0 rfl (lv_at hl 0 rfl) ?_
  refine z_getI C hI 31 (by decide) kd_31 cl_M iw_M 5 (by decide) k_fl_M_94 rfl d_M_line_1 ?_
  refine lv_if_eq (tgt := 40) hx hb d_M_line_4 (by decide) (fun q => ?_) (fun q => ?_)
  · replace h := h.1 q
    exact w_M_line_40 C hcs _ v1 v2 v3 hR S _ _ ls hI (lv_sub hl [0, 1, 2, 3] rfl) h
  · replace h := h.2 q
    refine lv_iload_n hx hb d_M_line_7 rfl (lv_at hl 1 rfl) ?_
    refine lv_iconst (v := 0) hx hb d_M_line_8 (by decide) ?_
    refine lv_aload_n hx hb d_M_line_9 rfl (lv_at hl 0 rfl) ?_
    refine z_getI C hI 31 (by decide) kd_31 cl_M iw_M 12 (by decide) k_fl_M_116 rfl d_M_line_10 ?_
    refine lv_iconst (v := 1) hx hb d_M_line_13 (by decide) ?_
    refine lv_isub hx hb d_M_line_14 ?_
    refine z_callSi C hI (As := [.int v1, .int 0, .int ((S 31 12) - 1)]) (rest := []) (c_M_in v1 0 ((S 31 12) - 1) _ _ h) wc_M_in k_ml_M_82 rfl rfl (Nat.le_of_ble_eq_true rfl) (Nat.le_of_ble_eq_true rfl) hcs hl.1 (Nat.le_of_ble_eq_true rfl) rfl d_M_line_15 (fun r15 S15 H locs h hI => ?_)
    refine lv_if_eq (tgt := 40) hx hb d_M_line_18 (by decide) (fun q => ?_) (fun q => ?_)
    · replace h := h.1 q
      exact w_M_line_40 C hcs _ v1 v2 v3 hR S15 _ _ ls hI (lv_sub hl [0, 1, 2, 3] rfl) h
    · replace h := h.2 q
      refine lv_iload_n hx hb d_M_line_21 rfl (lv_at hl 2 rfl) ?_
      refine lv_iconst (v := 0) hx hb d_M_line_22 (by decide) ?_
      refine lv_aload_n hx hb d_M_line_23 rfl (lv_at hl 0 rfl) ?_
      refine lv_iload_n hx hb d_M_line_24 rfl (lv_at hl 1 rfl) ?_
      refine z_callVi C hI 31 (by decide) kd_31 cl_M (As := [.int v1]) (rest := [.int 0, .int v2]) (c_M_lines v1 _ _ h) wc_M_lines k_ml_M_186 rfl rfl (Nat.le_of_ble_eq_true rfl) (Nat.le_of_ble_eq_true rfl) hcs hl.1 (Nat.le_of_ble_eq_true rfl) rfl d_M_line_25 (fun r25 S25 H locs h hI => ?_)
      refine lv_iconst (v := 1) hx hb d_M_line_28 (by decide) ?_
      refine lv_isub hx hb d_M_line_29 ?_
      refine z_callSi C hI (As := [.int v2, .int 0, .int (r25 - 1)]) (rest := []) (c_M_in v2 0 (r25 - 1) _ _ h) wc_M_in k_ml_M_82 rfl rfl (Nat.le_of_ble_eq_true rfl) (Nat.le_of_ble_eq_true rfl) hcs hl.1 (Nat.le_of_ble_eq_true rfl) rfl d_M_line_30 (fun r30 S30 H locs h hI => ?_)
      refine lv_if_eq (tgt := 40) hx hb d_M_line_33 (by decide) (fun q => ?_) (fun q => ?_)
      · replace h := h.1 q
        exact w_M_line_40 C hcs _ v1 v2 v3 hR S30 _ _ ls hI (lv_sub hl [0, 1, 2, 3] rfl) h
      · replace h := h.2 q
        refine lv_iconst (v := 1) hx hb d_M_line_36 (by decide) ?_
        refine lv_goto (tgt := 41) hx hb d_M_line_37 (by decide) ?_
        exact w_M_line_41 C hcs _ v1 v2 v3 1 hR S30 _ _ ls hI (lv_sub hl [0, 1, 2, 3] rfl) h
set_option maxHeartbeats 4000000 in
set_option maxRecDepth 100000 in
theorem c_M_order (v1 : Int32) (S : zS) (post : Int32 → zS → Prop) (h : P_M_order v1 S post) : z_cti l D cA 51 ad y_M_order b_M_order 2 (some .int) rm_M_order [.ref (ad 31), .int v1] S post := by
  refine z_meti (av := [.ref (ad 31), .int v1]) (by decide) (Nat.le_of_ble_eq_true rfl) ⟨rfl, rfl⟩ (fun p e s m args below meth c Q ls C hcs hl hI hR => ?_)
  obtain ⟨hx, hb, hml, hown, hts, hK, hJ⟩ := id C
  unfold P_M_order at h
  have hl : lv_has ls 2 [(0, .ref (ad 31)), (1, .int v1)] := hl
  refine lv_aload_n hx hb d_M_order_0 rfl (lv_at hl 0 rfl) ?_
  refine lv_aload_n hx hb d_M_order_1 rfl (lv_at hl 0 rfl) ?_
  refine z_getI C hI 31 (by decide) kd_31 cl_M iw_M 5 (by decide) k_fl_M_94 rfl d_M_order_2 ?_
  refine lv_iload_n hx hb d_M_order_5 rfl (lv_at hl 1 rfl) ?_
  refine lv_iconst (v := 0) hx hb d_M_order_6 (by decide) ?_
  refine lv_aload_n hx hb d_M_order_7 rfl (lv_at hl 0 rfl) ?_
  refine z_getI C hI 31 (by decide) kd_31 cl_M iw_M 12 (by decide) k_fl_M_116 rfl d_M_order_8 ?_
  refine lv_iconst (v := 1) hx hb d_M_order_11 (by decide) ?_
  refine lv_isub hx hb d_M_order_12 ?_
  refine z_callSi C hI (As := [.int v1, .int 0, .int ((S 31 12) - 1)]) (rest := [.int (S 31 5), .ref (ad 31)]) (c_M_in v1 0 ((S 31 12) - 1) _ _ h) wc_M_in k_ml_M_82 rfl rfl (Nat.le_of_ble_eq_true rfl) (Nat.le_of_ble_eq_true rfl) hcs hl.1 (Nat.le_of_ble_eq_true rfl) rfl d_M_order_13 (fun r13 S13 H locs h hI => ?_)
  refine lv_iconst (v := 1) hx hb d_M_order_16 (by decide) ?_
  refine z_callVi C hI 31 (by decide) kd_31 cl_M (As := [.int (S 31 5), .int r13, .int 1]) (rest := []) (c_M_goes (S 31 5) r13 1 _ _ h) wc_M_goes k_ml_M_90 rfl rfl (Nat.le_of_ble_eq_true rfl) (Nat.le_of_ble_eq_true rfl) hcs hl.1 (Nat.le_of_ble_eq_true rfl) rfl d_M_order_17 (fun r17 S17 H locs h hI => ?_)
  refine lv_if_eq (tgt := 32) hx hb d_M_order_20 (by decide) (fun q => ?_) (fun q => ?_)
  · replace h := h.1 q
    refine lv_iconst (v := 0) hx hb d_M_order_32 (by decide) ?_
    exact hR _ _ hcs 0 S17 _ _ 33 ls h hI d_M_order_33
  · replace h := h.2 q
    refine lv_aload_n hx hb d_M_order_23 rfl (lv_at hl 0 rfl) ?_
    refine z_getR C hI 31 (by decide) kd_31 cl_M iw_M 18 (by decide) k_fl_M_51 rfl d_M_order_24 ?_
    refine lv_iload_n hx hb d_M_order_27 rfl (lv_at hl 1 rfl) ?_
    obtain ⟨h1, h⟩ := h
    refine z_ild C hI 44 (by decide) kd_44 h1 d_M_order_28 ?_
    refine lv_goto (tgt := 33) hx hb d_M_order_29 (by decide) ?_
    exact hR _ _ hcs (S17 44 (z_ix v1)) S17 _ _ 33 ls h hI d_M_order_33
set_option maxHeartbeats 4000000 in
set_option maxRecDepth 100000 in
theorem c_M_cover (v1 : Int32) (v2 : Int32) (S : zS) (post : Int32 → zS → Prop) (h : P_M_cover v1 v2 S post) : z_cti l D cA 51 ad y_M_cover b_M_cover 3 (some .int) rm_M_cover [.ref (ad 31), .int v1, .int v2] S post := by
  refine z_meti (av := [.ref (ad 31), .int v1, .int v2]) (by decide) (Nat.le_of_ble_eq_true rfl) ⟨rfl, rfl⟩ (fun p e s m args below meth c Q ls C hcs hl hI hR => ?_)
  obtain ⟨hx, hb, hml, hown, hts, hK, hJ⟩ := id C
  unfold P_M_cover at h
  have hl : lv_has ls 3 [(0, .ref (ad 31)), (1, .int v1), (2, .int v2)] := hl
  refine lv_aload_n hx hb d_M_cover_0 rfl (lv_at hl 0 rfl) ?_
  refine lv_aload_n hx hb d_M_cover_1 rfl (lv_at hl 0 rfl) ?_
  refine z_getI C hI 31 (by decide) kd_31 cl_M iw_M 5 (by decide) k_fl_M_94 rfl d_M_cover_2 ?_
  refine lv_iload_n hx hb d_M_cover_5 rfl (lv_at hl 1 rfl) ?_
  refine lv_iconst (v := 0) hx hb d_M_cover_6 (by decide) ?_
  refine lv_aload_n hx hb d_M_cover_7 rfl (lv_at hl 0 rfl) ?_
  refine z_getI C hI 31 (by decide) kd_31 cl_M iw_M 19 (by decide) k_fl_M_127 rfl d_M_cover_8 ?_
  refine lv_iconst (v := 1) hx hb d_M_cover_11 (by decide) ?_
  refine lv_isub hx hb d_M_cover_12 ?_
  refine z_callSi C hI (As := [.int v1, .int 0, .int ((S 31 19) - 1)]) (rest := [.int (S 31 5), .ref (ad 31)]) (c_M_in v1 0 ((S 31 19) - 1) _ _ h) wc_M_in k_ml_M_82 rfl rfl (Nat.le_of_ble_eq_true rfl) (Nat.le_of_ble_eq_true rfl) hcs hl.1 (Nat.le_of_ble_eq_true rfl) rfl d_M_cover_13 (fun r13 S13 H locs h hI => ?_)
  refine lv_iload_n hx hb d_M_cover_16 rfl (lv_at hl 2 rfl) ?_
  refine lv_iconst (v := 0) hx hb d_M_cover_17 (by decide) ?_
  refine lv_iconst (v := 3) hx hb d_M_cover_18 (by decide) ?_
  refine z_callSi C hI (As := [.int v2, .int 0, .int 3]) (rest := [.int r13, .int (S 31 5), .ref (ad 31)]) (c_M_in v2 0 3 _ _ h) wc_M_in k_ml_M_82 rfl rfl (Nat.le_of_ble_eq_true rfl) (Nat.le_of_ble_eq_true rfl) hcs hl.1 (Nat.le_of_ble_eq_true rfl) rfl d_M_cover_19 (fun r19 S19 H locs h hI => ?_)
  refine z_callVi C hI 31 (by decide) kd_31 cl_M (As := [.int (S 31 5), .int r13, .int r19]) (rest := []) (c_M_goes (S 31 5) r13 r19 _ _ h) wc_M_goes k_ml_M_90 rfl rfl (Nat.le_of_ble_eq_true rfl) (Nat.le_of_ble_eq_true rfl) hcs hl.1 (Nat.le_of_ble_eq_true rfl) rfl d_M_cover_22 (fun r22 S22 H locs h hI => ?_)
  refine lv_if_eq (tgt := 41) hx hb d_M_cover_25 (by decide) (fun q => ?_) (fun q => ?_)
  · replace h := h.1 q
    refine lv_iconst (v := 0) hx hb d_M_cover_41 (by decide) ?_
    exact hR _ _ hcs 0 S22 _ _ 42 ls h hI d_M_cover_42
  · replace h := h.2 q
    refine lv_aload_n hx hb d_M_cover_28 rfl (lv_at hl 0 rfl) ?_
    refine z_getR C hI 31 (by decide) kd_31 cl_M iw_M 20 (by decide) k_fl_M_54 rfl d_M_cover_29 ?_
    refine lv_iconst (v := 4) hx hb d_M_cover_32 (by decide) ?_
    refine lv_iload_n hx hb d_M_cover_33 rfl (lv_at hl 1 rfl) ?_
    refine lv_imul hx hb d_M_cover_34 ?_
    refine lv_iload_n hx hb d_M_cover_35 rfl (lv_at hl 2 rfl) ?_
    refine lv_iadd hx hb d_M_cover_36 ?_
    obtain ⟨h1, h⟩ := h
    refine z_ild C hI 45 (by decide) kd_45 h1 d_M_cover_37 ?_
    refine lv_goto (tgt := 42) hx hb d_M_cover_38 (by decide) ?_
    exact hR _ _ hcs (S22 45 (z_ix ((4 * v1) + v2))) S22 _ _ 42 ls h hI d_M_cover_42
set_option maxHeartbeats 4000000 in
set_option maxRecDepth 100000 in
theorem c_M_strip (v1 : Int32) (S : zS) (post : Int32 → zS → Prop) (h : P_M_strip v1 S post) : z_cti l D cA 51 ad y_M_strip b_M_strip 2 (some .int) rm_M_strip [.ref (ad 31), .int v1] S post := by
  refine z_meti (av := [.ref (ad 31), .int v1]) (by decide) (Nat.le_of_ble_eq_true rfl) ⟨rfl, rfl⟩ (fun p e s m args below meth c Q ls C hcs hl hI hR => ?_)
  obtain ⟨hx, hb, hml, hown, hts, hK, hJ⟩ := id C
  unfold P_M_strip at h
  have hl : lv_has ls 2 [(0, .ref (ad 31)), (1, .int v1)] := hl
  refine lv_aload_n hx hb d_M_strip_0 rfl (lv_at hl 0 rfl) ?_
  refine lv_aload_n hx hb d_M_strip_1 rfl (lv_at hl 0 rfl) ?_
  refine z_getI C hI 31 (by decide) kd_31 cl_M iw_M 5 (by decide) k_fl_M_94 rfl d_M_strip_2 ?_
  refine lv_iload_n hx hb d_M_strip_5 rfl (lv_at hl 1 rfl) ?_
  refine lv_iconst (v := 0) hx hb d_M_strip_6 (by decide) ?_
  refine lv_aload_n hx hb d_M_strip_7 rfl (lv_at hl 0 rfl) ?_
  refine z_getI C hI 31 (by decide) kd_31 cl_M iw_M 1 (by decide) k_fl_M_73 rfl d_M_strip_8 ?_
  refine lv_iconst (v := 1) hx hb d_M_strip_11 (by decide) ?_
  refine lv_isub hx hb d_M_strip_12 ?_
  refine z_callSi C hI (As := [.int v1, .int 0, .int ((S 31 1) - 1)]) (rest := [.int (S 31 5), .ref (ad 31)]) (c_M_in v1 0 ((S 31 1) - 1) _ _ h) wc_M_in k_ml_M_82 rfl rfl (Nat.le_of_ble_eq_true rfl) (Nat.le_of_ble_eq_true rfl) hcs hl.1 (Nat.le_of_ble_eq_true rfl) rfl d_M_strip_13 (fun r13 S13 H locs h hI => ?_)
  refine lv_iconst (v := 1) hx hb d_M_strip_16 (by decide) ?_
  refine z_callVi C hI 31 (by decide) kd_31 cl_M (As := [.int (S 31 5), .int r13, .int 1]) (rest := []) (c_M_goes (S 31 5) r13 1 _ _ h) wc_M_goes k_ml_M_90 rfl rfl (Nat.le_of_ble_eq_true rfl) (Nat.le_of_ble_eq_true rfl) hcs hl.1 (Nat.le_of_ble_eq_true rfl) rfl d_M_strip_17 (fun r17 S17 H locs h hI => ?_)
  refine lv_if_eq (tgt := 32) hx hb d_M_strip_20 (by decide) (fun q => ?_) (fun q => ?_)
  · replace h := h.1 q
    refine lv_iconst (v := 0) hx hb d_M_strip_32 (by decide) ?_
    exact hR _ _ hcs 0 S17 _ _ 33 ls h hI d_M_strip_33
  · replace h := h.2 q
    refine lv_aload_n hx hb d_M_strip_23 rfl (lv_at hl 0 rfl) ?_
    refine z_getR C hI 31 (by decide) kd_31 cl_M iw_M 22 (by decide) k_fl_M_57 rfl d_M_strip_24 ?_
    refine lv_iload_n hx hb d_M_strip_27 rfl (lv_at hl 1 rfl) ?_
    obtain ⟨h1, h⟩ := h
    refine z_ild C hI 46 (by decide) kd_46 h1 d_M_strip_28 ?_
    refine lv_goto (tgt := 33) hx hb d_M_strip_29 (by decide) ?_
    exact hR _ _ hcs (S17 46 (z_ix v1)) S17 _ _ 33 ls h hI d_M_strip_33
set_option maxHeartbeats 4000000 in
set_option maxRecDepth 100000 in
theorem w_M_cell_130 (C : z_CT p s m args c R_M b_M_cell 10 D cA 51 ad) (hcs : cells ≤ rm_M_cell.cells ∧ slots ≤ rm_M_cell.slots) (post : Int32 → zS → Prop) (K61 : Int32 → Int32 → Int32 → Int32 → Int32 → Int32 → zS → Prop) (v1 : Int32) (v2 : Int32) (v3 : Int32) (v4 : Int32) (v7 : Int32) (v8 : Int32) (v9 : Int32) (t0 : Int32) (hR : z_Ri p l e rm_M_cell s m args below meth c Q b_M_cell D cA 51 ad post) (kK61 : ∀ (v3 : Int32) (v4 : Int32) (v5 : Int32) (v6 : Int32) (v7 : Int32) (v9 : Int32) (S : zS) (H : Heap) (locs : List Loc) (ls : Array Slot), K61 v3 v4 v5 v6 v7 v9 S → z_I D cA 51 ad s.heap S H locs → lv_has ls 10 [(0, .ref (ad 31)), (1, .int v1), (2, .int v2), (3, .int v3), (4, .int v4), (5, .int v5), (6, .int v6), (7, .int v7), (8, .int v8), (9, .int v9)] → W p l e rm_M_cell s m args below meth c H locs cells slots Q (F0 m 61 ls [])) (S : zS) (H : Heap) (locs : List Loc) (ls : Array Slot) (hI : z_I D cA 51 ad s.heap S H locs) (hl : lv_has ls 10 [(0, .ref (ad 31)), (1, .int v1), (2, .int v2), (3, .int v3), (4, .int v4), (7, .int v7), (8, .int v8), (9, .int v9)]) (h : J_M_cell_130 post K61 v1 v2 v3 v4 v7 v8 v9 t0 S) : W p l e rm_M_cell s m args below meth c H locs cells slots Q (F0 m 130 ls [.int t0]) := by
  obtain ⟨hx, hb, hml, hown, hts, hK, hJ⟩ := id C
  unfold J_M_cell_130 at h
  refine lv_istore (lv' := [(5, .int t0), (0, .ref (ad 31)), (1, .int v1), (2, .int v2), (3, .int v3), (4, .int v4), (7, .int v7), (8, .int v8), (9, .int v9)]) hx hb d_M_cell_130 hl (by decide) rfl (fun ls hl => ?_)
  refine lv_iload hx hb d_M_cell_132 (lv_at hl 7 rfl) ?_
  refine lv_istore (lv' := [(6, .int v8), (5, .int t0), (0, .ref (ad 31)), (1, .int v1), (2, .int v2), (3, .int v3), (4, .int v4), (7, .int v7), (8, .int v8), (9, .int v9)]) hx hb d_M_cell_134 hl (by decide) rfl (fun ls hl => ?_)
  obtain ⟨x136, e136⟩ : ∃ y : Int32, y = v7 + 1 := ⟨_, rfl⟩
  replace h := h x136 e136
  refine lv_iinc (v := x136) (lv' := [(7, .int x136), (6, .int v8), (5, .int t0), (0, .ref (ad 31)), (1, .int v1), (2, .int v2), (3, .int v3), (4, .int v4), (8, .int v8), (9, .int v9)]) hx hb d_M_cell_136 hl (k := 7) rfl (by rw [e136]; rfl) (by decide) rfl (fun ls hl => ?_)
  obtain ⟨x139, e139⟩ : ∃ y : Int32, y = v9 + 1 := ⟨_, rfl⟩
  replace h := h x139 e139
  refine lv_iinc (v := x139) (lv' := [(9, .int x139), (7, .int x136), (6, .int v8), (5, .int t0), (0, .ref (ad 31)), (1, .int v1), (2, .int v2), (3, .int v3), (4, .int v4), (8, .int v8)]) hx hb d_M_cell_139 hl (k := 9) rfl (by rw [e139]; rfl) (by decide) rfl (fun ls hl => ?_)
  refine lv_goto (tgt := 61) hx hb d_M_cell_142 (by decide) ?_
  exact kK61 v3 v4 t0 v8 x136 x139 S _ _ ls h hI (lv_sub hl [4, 5, 6, 7, 8, 3, 2, 1, 9, 0] rfl)
set_option maxHeartbeats 4000000 in
set_option maxRecDepth 100000 in
theorem w_M_cell_114 (C : z_CT p s m args c R_M b_M_cell 10 D cA 51 ad) (hcs : cells ≤ rm_M_cell.cells ∧ slots ≤ rm_M_cell.slots) (post : Int32 → zS → Prop) (K61 : Int32 → Int32 → Int32 → Int32 → Int32 → Int32 → zS → Prop) (v1 : Int32) (v2 : Int32) (v3 : Int32) (v5 : Int32) (v7 : Int32) (v8 : Int32) (v9 : Int32) (t0 : Int32) (hR : z_Ri p l e rm_M_cell s m args below meth c Q b_M_cell D cA 51 ad post) (kK61 : ∀ (v3 : Int32) (v4 : Int32) (v5 : Int32) (v6 : Int32) (v7 : Int32) (v9 : Int32) (S : zS) (H : Heap) (locs : List Loc) (ls : Array Slot), K61 v3 v4 v5 v6 v7 v9 S → z_I D cA 51 ad s.heap S H locs → lv_has ls 10 [(0, .ref (ad 31)), (1, .int v1), (2, .int v2), (3, .int v3), (4, .int v4), (5, .int v5), (6, .int v6), (7, .int v7), (8, .int v8), (9, .int v9)] → W p l e rm_M_cell s m args below meth c H locs cells slots Q (F0 m 61 ls [])) (S : zS) (H : Heap) (locs : List Loc) (ls : Array Slot) (hI : z_I D cA 51 ad s.heap S H locs) (hl : lv_has ls 10 [(0, .ref (ad 31)), (1, .int v1), (2, .int v2), (3, .int v3), (5, .int v5), (7, .int v7), (8, .int v8), (9, .int v9)]) (h : J_M_cell_114 post K61 v1 v2 v3 v5 v7 v8 v9 t0 S) : W p l e rm_M_cell s m args below meth c H locs cells slots Q (F0 m 114 ls [.int t0]) := by
  obtain ⟨hx, hb, hml, hown, hts, hK, hJ⟩ := id C
  unfold J_M_cell_114 at h
  refine lv_istore (lv' := [(4, .int t0), (0, .ref (ad 31)), (1, .int v1), (2, .int v2), (3, .int v3), (5, .int v5), (7, .int v7), (8, .int v8), (9, .int v9)]) hx hb d_M_cell_114 hl (by decide) rfl (fun ls hl => ?_)
  refine lv_iload hx hb d_M_cell_116 (lv_at hl 7 rfl) ?_
  refine lv_iload hx hb d_M_cell_118 (lv_at hl 5 rfl) ?_
  refine lv_icmp_ge (tgt := 128) hx hb d_M_cell_120 (by decide) (fun q => ?_) (fun q => ?_)
  · replace h := h.1 q
    refine lv_iload hx hb d_M_cell_128 (lv_at hl 5 rfl) ?_
    exact w_M_cell_130 C hcs _ _ v1 v2 v3 t0 v7 v8 v9 v5 hR kK61 S _ _ ls hI (lv_sub hl [1, 2, 3, 4, 0, 6, 7, 8] rfl) h
  · replace h := h.2 q
    refine lv_iload hx hb d_M_cell_123 (lv_at hl 7 rfl) ?_
    refine lv_goto (tgt := 130) hx hb d_M_cell_125 (by decide) ?_
    exact w_M_cell_130 C hcs _ _ v1 v2 v3 t0 v7 v8 v9 v8 hR kK61 S _ _ ls hI (lv_sub hl [1, 2, 3, 4, 0, 6, 7, 8] rfl) h
set_option maxHeartbeats 4000000 in
set_option maxRecDepth 100000 in
theorem w_M_cell_99 (C : z_CT p s m args c R_M b_M_cell 10 D cA 51 ad) (hcs : cells ≤ rm_M_cell.cells ∧ slots ≤ rm_M_cell.slots) (post : Int32 → zS → Prop) (K61 : Int32 → Int32 → Int32 → Int32 → Int32 → Int32 → zS → Prop) (v1 : Int32) (v2 : Int32) (v4 : Int32) (v5 : Int32) (v7 : Int32) (v8 : Int32) (v9 : Int32) (t0 : Int32) (hR : z_Ri p l e rm_M_cell s m args below meth c Q b_M_cell D cA 51 ad post) (kK61 : ∀ (v3 : Int32) (v4 : Int32) (v5 : Int32) (v6 : Int32) (v7 : Int32) (v9 : Int32) (S : zS) (H : Heap) (locs : List Loc) (ls : Array Slot), K61 v3 v4 v5 v6 v7 v9 S → z_I D cA 51 ad s.heap S H locs → lv_has ls 10 [(0, .ref (ad 31)), (1, .int v1), (2, .int v2), (3, .int v3), (4, .int v4), (5, .int v5), (6, .int v6), (7, .int v7), (8, .int v8), (9, .int v9)] → W p l e rm_M_cell s m args below meth c H locs cells slots Q (F0 m 61 ls [])) (S : zS) (H : Heap) (locs : List Loc) (ls : Array Slot) (hI : z_I D cA 51 ad s.heap S H locs) (hl : lv_has ls 10 [(0, .ref (ad 31)), (1, .int v1), (2, .int v2), (4, .int v4), (5, .int v5), (7, .int v7), (8, .int v8), (9, .int v9)]) (h : J_M_cell_99 post K61 v1 v2 v4 v5 v7 v8 v9 t0 S) : W p l e rm_M_cell s m args below meth c H locs cells slots Q (F0 m 99 ls [.int t0]) := by
  obtain ⟨hx, hb, hml, hown, hts, hK, hJ⟩ := id C
  unfold J_M_cell_99 at h
  refine lv_istore_n (lv' := [(3, .int t0), (0, .ref (ad 31)), (1, .int v1), (2, .int v2), (4, .int v4), (5, .int v5), (7, .int v7), (8, .int v8), (9, .int v9)]) hx hb d_M_cell_99 rfl hl (by decide) rfl (fun ls hl => ?_)
  refine lv_iload hx hb d_M_cell_100 (lv_at hl 8 rfl) ?_
  refine lv_iload hx hb d_M_cell_102 (lv_at hl 4 rfl) ?_
  refine lv_icmp_le (tgt := 112) hx hb d_M_cell_104 (by decide) (fun q => ?_) (fun q => ?_)
  · replace h := h.1 q
    refine lv_iload hx hb d_M_cell_112 (lv_at hl 4 rfl) ?_
    exact w_M_cell_114 C hcs _ _ v1 v2 t0 v5 v7 v8 v9 v4 hR kK61 S _ _ ls hI (lv_sub hl [1, 2, 3, 0, 5, 6, 7, 8] rfl) h
  · replace h := h.2 q
    refine lv_iload hx hb d_M_cell_107 (lv_at hl 8 rfl) ?_
    refine lv_goto (tgt := 114) hx hb d_M_cell_109 (by decide) ?_
    exact w_M_cell_114 C hcs _ _ v1 v2 t0 v5 v7 v8 v9 v9 hR kK61 S _ _ ls hI (lv_sub hl [1, 2, 3, 0, 5, 6, 7, 8] rfl) h
set_option maxHeartbeats 4000000 in
set_option maxRecDepth 100000 in
theorem w_M_cell_61 (C : z_CT p s m args c R_M b_M_cell 10 D cA 51 ad) (hcs : cells ≤ rm_M_cell.cells ∧ slots ≤ rm_M_cell.slots) (post : Int32 → zS → Prop) (K145 : Int32 → Int32 → Int32 → Int32 → Int32 → zS → Prop) (v1 : Int32) (v2 : Int32) (v8 : Int32) (hR : z_Ri p l e rm_M_cell s m args below meth c Q b_M_cell D cA 51 ad post) (kK145 : ∀ (v3 : Int32) (v4 : Int32) (v5 : Int32) (v6 : Int32) (v7 : Int32) (S : zS) (H : Heap) (locs : List Loc) (ls : Array Slot), K145 v3 v4 v5 v6 v7 S → z_I D cA 51 ad s.heap S H locs → lv_has ls 10 [(0, .ref (ad 31)), (1, .int v1), (2, .int v2), (3, .int v3), (4, .int v4), (5, .int v5), (6, .int v6), (7, .int v7), (8, .int v8)] → W p l e rm_M_cell s m args below meth c H locs cells slots Q (F0 m 145 ls [])) : ∀ (n : Nat) (v3 : Int32) (v4 : Int32) (v5 : Int32) (v6 : Int32) (v7 : Int32) (v9 : Int32) (S : zS) (H : Heap) (locs : List Loc) (ls : Array Slot), z_I D cA 51 ad s.heap S H locs → lv_has ls 10 [(0, .ref (ad 31)), (1, .int v1), (2, .int v2), (3, .int v3), (4, .int v4), (5, .int v5), (6, .int v6), (7, .int v7), (8, .int v8), (9, .int v9)] → L_M_cell_61 post K145 v1 v2 v8 n v3 v4 v5 v6 v7 v9 S → W p l e rm_M_cell s m args below meth c H locs cells slots Q (F0 m 61 ls []) := by
  obtain ⟨hx, hb, hml, hown, hts, hK, hJ⟩ := id C
  intro n
  induction n with
  | zero => intro v3 v4 v5 v6 v7 v9 S H locs ls hI hl h; exact h.elim
  | succ n ih =>
    intro v3 v4 v5 v6 v7 v9 S H locs ls hI hl h
    rw [L_M_cell_61] at h
    refine lv_iload hx hb d_M_cell_61 (lv_at hl 9 rfl) ?_
    refine lv_aload_n hx hb d_M_cell_63 rfl (lv_at hl 0 rfl) ?_
    refine z_getI C hI 31 (by decide) kd_31 cl_M iw_M 1 (by decide) k_fl_M_73 rfl d_M_cell_64 ?_
    refine lv_icmp_ge (tgt := 145) hx hb d_M_cell_67 (by decide) (fun q => ?_) (fun q => ?_)
    · replace h := h.1 q
      exact kK145 v3 v4 v5 v6 v7 S _ _ ls h hI (lv_sub hl [0, 1, 2, 3, 4, 5, 6, 7, 8] rfl)
    · replace h := h.2 q
      refine lv_aload_n hx hb d_M_cell_70 rfl (lv_at hl 0 rfl) ?_
      refine z_getR C hI 31 (by decide) kd_31 cl_M iw_M 24 (by decide) k_fl_M_60 rfl d_M_cell_71 ?_
      refine lv_bipush (v := 24) hx hb d_M_cell_74 (by decide) ?_
      refine lv_iload hx hb d_M_cell_76 (lv_at hl 8 rfl) ?_
      refine lv_imul hx hb d_M_cell_78 ?_
      refine lv_iload hx hb d_M_cell_79 (lv_at hl 9 rfl) ?_
      refine lv_iadd hx hb d_M_cell_81 ?_
      obtain ⟨h1, h⟩ := h
      refine z_ild C hI 47 (by decide) kd_47 h1 d_M_cell_82 ?_
      refine lv_iload_n hx hb d_M_cell_83 rfl (lv_at hl 1 rfl) ?_
      refine lv_icmp_ne (tgt := 139) hx hb d_M_cell_84 (by decide) (fun q => ?_) (fun q => ?_)
      · replace h := h.1 q
        obtain ⟨x139, e139⟩ : ∃ y : Int32, y = v9 + 1 := ⟨_, rfl⟩
        replace h := h x139 e139
        refine lv_iinc (v := x139) (lv' := [(9, .int x139), (0, .ref (ad 31)), (1, .int v1), (2, .int v2), (3, .int v3), (4, .int v4), (5, .int v5), (6, .int v6), (7, .int v7), (8, .int v8)]) hx hb d_M_cell_139 hl (k := 9) rfl (by rw [e139]; rfl) (by decide) rfl (fun ls hl => ?_)
        refine lv_goto (tgt := 61) hx hb d_M_cell_142 (by decide) ?_
        exact ih v3 v4 v5 v6 v7 x139 S _ _ ls hI (lv_sub hl [1, 2, 3, 4, 5, 6, 7, 8, 9, 0] rfl) h
      · replace h := h.2 q
        refine lv_iload hx hb d_M_cell_87 (lv_at hl 9 rfl) ?_
        refine lv_iload_n hx hb d_M_cell_89 rfl (lv_at hl 3 rfl) ?_
        refine lv_icmp_ge (tgt := 98) hx hb d_M_cell_90 (by decide) (fun q => ?_) (fun q => ?_)
        · replace h := h.1 q
          refine lv_iload_n hx hb d_M_cell_98 rfl (lv_at hl 3 rfl) ?_
          exact w_M_cell_99 C hcs _ _ v1 v2 v4 v5 v7 v8 v9 v3 hR (fun v3 v4 v5 v6 v7 v9 S H locs ls h hI hl => ih v3 v4 v5 v6 v7 v9 S H locs ls hI hl h) S _ _ ls hI (lv_sub hl [0, 1, 2, 4, 5, 7, 8, 9] rfl) h
        · replace h := h.2 q
          refine lv_iload hx hb d_M_cell_93 (lv_at hl 9 rfl) ?_
          refine lv_goto (tgt := 99) hx hb d_M_cell_95 (by decide) ?_
          exact w_M_cell_99 C hcs _ _ v1 v2 v4 v5 v7 v8 v9 v9 hR (fun v3 v4 v5 v6 v7 v9 S H locs ls h hI hl => ih v3 v4 v5 v6 v7 v9 S H locs ls hI hl h) S _ _ ls hI (lv_sub hl [0, 1, 2, 4, 5, 7, 8, 9] rfl) h
set_option maxHeartbeats 4000000 in
set_option maxRecDepth 100000 in
theorem w_M_cell_49 (C : z_CT p s m args c R_M b_M_cell 10 D cA 51 ad) (hcs : cells ≤ rm_M_cell.cells ∧ slots ≤ rm_M_cell.slots) (post : Int32 → zS → Prop) (K151 : Int32 → Int32 → Int32 → Int32 → Int32 → zS → Prop) (v1 : Int32) (v2 : Int32) (hR : z_Ri p l e rm_M_cell s m args below meth c Q b_M_cell D cA 51 ad post) (kK151 : ∀ (v3 : Int32) (v4 : Int32) (v5 : Int32) (v6 : Int32) (v7 : Int32) (S : zS) (H : Heap) (locs : List Loc) (ls : Array Slot), K151 v3 v4 v5 v6 v7 S → z_I D cA 51 ad s.heap S H locs → lv_has ls 10 [(2, .int v2), (3, .int v3), (4, .int v4), (5, .int v5), (6, .int v6), (7, .int v7)] → W p l e rm_M_cell s m args below meth c H locs cells slots Q (F0 m 151 ls [])) : ∀ (n : Nat) (v3 : Int32) (v4 : Int32) (v5 : Int32) (v6 : Int32) (v7 : Int32) (v8 : Int32) (S : zS) (H : Heap) (locs : List Loc) (ls : Array Slot), z_I D cA 51 ad s.heap S H locs → lv_has ls 10 [(0, .ref (ad 31)), (1, .int v1), (2, .int v2), (3, .int v3), (4, .int v4), (5, .int v5), (6, .int v6), (7, .int v7), (8, .int v8)] → L_M_cell_49 post K151 v1 v2 n v3 v4 v5 v6 v7 v8 S → W p l e rm_M_cell s m args below meth c H locs cells slots Q (F0 m 49 ls []) := by
  obtain ⟨hx, hb, hml, hown, hts, hK, hJ⟩ := id C
  intro n
  induction n with
  | zero => intro v3 v4 v5 v6 v7 v8 S H locs ls hI hl h; exact h.elim
  | succ n ih =>
    intro v3 v4 v5 v6 v7 v8 S H locs ls hI hl h
    rw [L_M_cell_49] at h
    refine lv_iload hx hb d_M_cell_49 (lv_at hl 8 rfl) ?_
    refine lv_aload_n hx hb d_M_cell_51 rfl (lv_at hl 0 rfl) ?_
    refine z_getI C hI 31 (by decide) kd_31 cl_M iw_M 2 (by decide) k_fl_M_76 rfl d_M_cell_52 ?_
    refine lv_icmp_ge (tgt := 151) hx hb d_M_cell_55 (by decide) (fun q => ?_) (fun q => ?_)
    · replace h := h.1 q
      exact kK151 v3 v4 v5 v6 v7 S _ _ ls h hI (lv_sub hl [2, 3, 4, 5, 6, 7] rfl)
    · replace h := h.2 q
      refine lv_iconst (v := 0) hx hb d_M_cell_58 (by decide) ?_
      refine lv_istore (lv' := [(9, .int 0), (0, .ref (ad 31)), (1, .int v1), (2, .int v2), (3, .int v3), (4, .int v4), (5, .int v5), (6, .int v6), (7, .int v7), (8, .int v8)]) hx hb d_M_cell_59 hl (by decide) rfl (fun ls hl => ?_)
      obtain ⟨k61, h⟩ := h
      refine w_M_cell_61 C hcs _ _ v1 v2 v8 hR (fun v3_61e v4_61e v5_61e v6_61e v7_61e S61e H locs ls h hI hl => ?_) k61 v3 v4 v5 v6 v7 0 S _ _ ls hI (lv_sub hl [1, 2, 3, 4, 5, 6, 7, 8, 9, 0] rfl) h
      obtain ⟨x145, e145⟩ : ∃ y : Int32, y = v8 + 1 := ⟨_, rfl⟩
      replace h := h x145 e145
      refine lv_iinc (v := x145) (lv' := [(8, .int x145), (0, .ref (ad 31)), (1, .int v1), (2, .int v2), (3, .int v3_61e), (4, .int v4_61e), (5, .int v5_61e), (6, .int v6_61e), (7, .int v7_61e)]) hx hb d_M_cell_145 hl (k := 8) rfl (by rw [e145]; rfl) (by decide) rfl (fun ls hl => ?_)
      refine lv_goto (tgt := 49) hx hb d_M_cell_148 (by decide) ?_
      exact ih v3_61e v4_61e v5_61e v6_61e v7_61e x145 S61e _ _ ls hI (lv_sub hl [1, 2, 3, 4, 5, 6, 7, 8, 0] rfl) h
set_option maxHeartbeats 4000000 in
set_option maxRecDepth 100000 in
theorem c_M_cell (v1 : Int32) (v2 : Int32) (S : zS) (post : Int32 → zS → Prop) (h : P_M_cell v1 v2 S post) : z_cti l D cA 51 ad y_M_cell b_M_cell 10 (some .int) rm_M_cell [.ref (ad 31), .int v1, .int v2] S post := by
  refine z_meti (av := [.ref (ad 31), .int v1, .int v2]) (by decide) (Nat.le_of_ble_eq_true rfl) ⟨rfl, rfl⟩ (fun p e s m args below meth c Q ls C hcs hl hI hR => ?_)
  obtain ⟨hx, hb, hml, hown, hts, hK, hJ⟩ := id C
  unfold P_M_cell at h
  have hl : lv_has ls 10 [(0, .ref (ad 31)), (1, .int v1), (2, .int v2)] := hl
  refine lv_aload_n hx hb d_M_cell_0 rfl (lv_at hl 0 rfl) ?_
  refine lv_aload_n hx hb d_M_cell_1 rfl (lv_at hl 0 rfl) ?_
  refine z_getI C hI 31 (by decide) kd_31 cl_M iw_M 5 (by decide) k_fl_M_94 rfl d_M_cell_2 ?_
  refine lv_iload_n hx hb d_M_cell_5 rfl (lv_at hl 1 rfl) ?_
  refine lv_iconst (v := 0) hx hb d_M_cell_6 (by decide) ?_
  refine lv_aload_n hx hb d_M_cell_7 rfl (lv_at hl 0 rfl) ?_
  refine z_getI C hI 31 (by decide) kd_31 cl_M iw_M 23 (by decide) k_fl_M_137 rfl d_M_cell_8 ?_
  refine lv_iconst (v := 1) hx hb d_M_cell_11 (by decide) ?_
  refine lv_isub hx hb d_M_cell_12 ?_
  refine z_callSi C hI (As := [.int v1, .int 0, .int ((S 31 23) - 1)]) (rest := [.int (S 31 5), .ref (ad 31)]) (c_M_in v1 0 ((S 31 23) - 1) _ _ h) wc_M_in k_ml_M_82 rfl rfl (Nat.le_of_ble_eq_true rfl) (Nat.le_of_ble_eq_true rfl) hcs hl.1 (Nat.le_of_ble_eq_true rfl) rfl d_M_cell_13 (fun r13 S13 H locs h hI => ?_)
  refine lv_iload_n hx hb d_M_cell_16 rfl (lv_at hl 2 rfl) ?_
  refine lv_iconst (v := 0) hx hb d_M_cell_17 (by decide) ?_
  refine lv_iconst (v := 4) hx hb d_M_cell_18 (by decide) ?_
  refine z_callSi C hI (As := [.int v2, .int 0, .int 4]) (rest := [.int r13, .int (S 31 5), .ref (ad 31)]) (c_M_in v2 0 4 _ _ h) wc_M_in k_ml_M_82 rfl rfl (Nat.le_of_ble_eq_true rfl) (Nat.le_of_ble_eq_true rfl) hcs hl.1 (Nat.le_of_ble_eq_true rfl) rfl d_M_cell_19 (fun r19 S19 H locs h hI => ?_)
  refine z_callVi C hI 31 (by decide) kd_31 cl_M (As := [.int (S 31 5), .int r13, .int r19]) (rest := []) (c_M_goes (S 31 5) r13 r19 _ _ h) wc_M_goes k_ml_M_90 rfl rfl (Nat.le_of_ble_eq_true rfl) (Nat.le_of_ble_eq_true rfl) hcs hl.1 (Nat.le_of_ble_eq_true rfl) rfl d_M_cell_22 (fun r22 S22 H locs h hI => ?_)
  refine lv_if_ne (tgt := 30) hx hb d_M_cell_25 (by decide) (fun q => ?_) (fun q => ?_)
  · replace h := h.1 q
    refine lv_bipush (v := 24) hx hb d_M_cell_30 (by decide) ?_
    refine lv_istore_n (lv' := [(3, .int 24), (0, .ref (ad 31)), (1, .int v1), (2, .int v2)]) hx hb d_M_cell_32 rfl hl (by decide) rfl (fun ls hl => ?_)
    refine lv_iconst (v := 0) hx hb d_M_cell_33 (by decide) ?_
    refine lv_istore (lv' := [(4, .int 0), (3, .int 24), (0, .ref (ad 31)), (1, .int v1), (2, .int v2)]) hx hb d_M_cell_34 hl (by decide) rfl (fun ls hl => ?_)
    refine lv_bipush (v := 24) hx hb d_M_cell_36 (by decide) ?_
    refine lv_istore (lv' := [(5, .int 24), (4, .int 0), (3, .int 24), (0, .ref (ad 31)), (1, .int v1), (2, .int v2)]) hx hb d_M_cell_38 hl (by decide) rfl (fun ls hl => ?_)
    refine lv_iconst (v := 0) hx hb d_M_cell_40 (by decide) ?_
    refine lv_istore (lv' := [(6, .int 0), (5, .int 24), (4, .int 0), (3, .int 24), (0, .ref (ad 31)), (1, .int v1), (2, .int v2)]) hx hb d_M_cell_41 hl (by decide) rfl (fun ls hl => ?_)
    refine lv_iconst (v := 0) hx hb d_M_cell_43 (by decide) ?_
    refine lv_istore (lv' := [(7, .int 0), (6, .int 0), (5, .int 24), (4, .int 0), (3, .int 24), (0, .ref (ad 31)), (1, .int v1), (2, .int v2)]) hx hb d_M_cell_44 hl (by decide) rfl (fun ls hl => ?_)
    refine lv_iconst (v := 0) hx hb d_M_cell_46 (by decide) ?_
    refine lv_istore (lv' := [(8, .int 0), (7, .int 0), (6, .int 0), (5, .int 24), (4, .int 0), (3, .int 24), (0, .ref (ad 31)), (1, .int v1), (2, .int v2)]) hx hb d_M_cell_47 hl (by decide) rfl (fun ls hl => ?_)
    obtain ⟨k49, h⟩ := h
    refine w_M_cell_49 C hcs _ _ v1 v2 hR (fun v3_49e v4_49e v5_49e v6_49e v7_49e S49e H locs ls h hI hl => ?_) k49 24 0 24 0 0 0 S22 _ _ ls hI (lv_sub hl [6, 7, 8, 5, 4, 3, 2, 1, 0] rfl) h
    refine lv_iload_n hx hb d_M_cell_151 rfl (lv_at hl 0 rfl) ?_
    refine lv_if_ne (tgt := 159) hx hb d_M_cell_152 (by decide) (fun q => ?_) (fun q => ?_)
    · replace h := h.1 q
      refine lv_iload_n hx hb d_M_cell_159 rfl (lv_at hl 0 rfl) ?_
      refine lv_iconst (v := 1) hx hb d_M_cell_160 (by decide) ?_
      refine lv_icmp_ne (tgt := 169) hx hb d_M_cell_161 (by decide) (fun q => ?_) (fun q => ?_)
      · replace h := h.1 q
        refine lv_iload_n hx hb d_M_cell_169 rfl (lv_at hl 0 rfl) ?_
        refine lv_iconst (v := 2) hx hb d_M_cell_170 (by decide) ?_
        refine lv_icmp_ne (tgt := 183) hx hb d_M_cell_171 (by decide) (fun q => ?_) (fun q => ?_)
        · replace h := h.1 q
          refine lv_iload_n hx hb d_M_cell_183 rfl (lv_at hl 0 rfl) ?_
          refine lv_iconst (v := 3) hx hb d_M_cell_184 (by decide) ?_
          refine lv_icmp_ne (tgt := 198) hx hb d_M_cell_185 (by decide) (fun q => ?_) (fun q => ?_)
          · replace h := h.1 q
            refine lv_iload hx hb d_M_cell_198 (lv_at hl 5 rfl) ?_
            exact hR _ _ hcs v7_49e S49e _ _ 200 ls h hI d_M_cell_200
          · replace h := h.2 q
            refine lv_iload hx hb d_M_cell_188 (lv_at hl 4 rfl) ?_
            refine lv_iload hx hb d_M_cell_190 (lv_at hl 3 rfl) ?_
            refine lv_isub hx hb d_M_cell_192 ?_
            refine lv_iconst (v := 1) hx hb d_M_cell_193 (by decide) ?_
            refine lv_iadd hx hb d_M_cell_194 ?_
            refine lv_goto (tgt := 200) hx hb d_M_cell_195 (by decide) ?_
            exact hR _ _ hcs ((v6_49e - v5_49e) + 1) S49e _ _ 200 ls h hI d_M_cell_200
        · replace h := h.2 q
          refine lv_iload hx hb d_M_cell_174 (lv_at hl 2 rfl) ?_
          refine lv_iload_n hx hb d_M_cell_176 rfl (lv_at hl 1 rfl) ?_
          refine lv_isub hx hb d_M_cell_177 ?_
          refine lv_iconst (v := 1) hx hb d_M_cell_178 (by decide) ?_
          refine lv_iadd hx hb d_M_cell_179 ?_
          refine lv_goto (tgt := 200) hx hb d_M_cell_180 (by decide) ?_
          exact hR _ _ hcs ((v4_49e - v3_49e) + 1) S49e _ _ 200 ls h hI d_M_cell_200
      · replace h := h.2 q
        refine lv_iload hx hb d_M_cell_164 (lv_at hl 3 rfl) ?_
        refine lv_goto (tgt := 200) hx hb d_M_cell_166 (by decide) ?_
        exact hR _ _ hcs v5_49e S49e _ _ 200 ls h hI d_M_cell_200
    · replace h := h.2 q
      refine lv_iload_n hx hb d_M_cell_155 rfl (lv_at hl 1 rfl) ?_
      refine lv_goto (tgt := 200) hx hb d_M_cell_156 (by decide) ?_
      exact hR _ _ hcs v3_49e S49e _ _ 200 ls h hI d_M_cell_200
  · replace h := h.2 q
    refine lv_iconst (v := 0) hx hb d_M_cell_28 (by decide) ?_
    exact hR _ _ hcs 0 S22 _ _ 29 ls h hI d_M_cell_29
set_option maxHeartbeats 4000000 in
set_option maxRecDepth 100000 in
theorem c_M_isSpeck (v1 : Int32) (v2 : Int32) (S : zS) (post : Int32 → zS → Prop) (h : P_M_isSpeck v1 v2 S post) : z_cti l D cA 51 ad y_M_isSpeck b_M_isSpeck 3 (some .boolean) rm_M_isSpeck [.ref (ad 31), .int v1, .int v2] S post := by
  refine z_metz (av := [.ref (ad 31), .int v1, .int v2]) (by decide) (Nat.le_of_ble_eq_true rfl) ⟨rfl, rfl⟩ (fun p e s m args below meth c Q ls C hcs hl hI hR => ?_)
  obtain ⟨hx, hb, hml, hown, hts, hK, hJ⟩ := id C
  unfold P_M_isSpeck at h
  have hl : lv_has ls 3 [(0, .ref (ad 31)), (1, .int v1), (2, .int v2)] := hl
  refine lv_aload_n hx hb d_M_isSpeck_0 rfl (lv_at hl 0 rfl) ?_
  refine lv_aload_n hx hb d_M_isSpeck_1 rfl (lv_at hl 0 rfl) ?_
  refine z_getI C hI 31 (by decide) kd_31 cl_M iw_M 5 (by decide) k_fl_M_94 rfl d_M_isSpeck_2 ?_
  refine lv_aload_n hx hb d_M_isSpeck_5 rfl (lv_at hl 0 rfl) ?_
  refine lv_iload_n hx hb d_M_isSpeck_6 rfl (lv_at hl 1 rfl) ?_
  refine lv_iload_n hx hb d_M_isSpeck_7 rfl (lv_at hl 2 rfl) ?_
  refine z_callVi C hI 31 (by decide) kd_31 cl_M (As := [.int v1, .int v2]) (rest := [.int (S 31 5), .ref (ad 31)]) (c_M_isSample v1 v2 _ _ h) wc_M_isSample k_ml_M_86 rfl rfl (Nat.le_of_ble_eq_true rfl) (Nat.le_of_ble_eq_true rfl) hcs hl.1 (Nat.le_of_ble_eq_true rfl) rfl d_M_isSpeck_8 (fun r8 S8 H locs h hI => ?_)
  refine lv_iconst (v := 1) hx hb d_M_isSpeck_11 (by decide) ?_
  refine z_callVi C hI 31 (by decide) kd_31 cl_M (As := [.int (S 31 5), .int r8, .int 1]) (rest := []) (c_M_goes (S 31 5) r8 1 _ _ h) wc_M_goes k_ml_M_90 rfl rfl (Nat.le_of_ble_eq_true rfl) (Nat.le_of_ble_eq_true rfl) hcs hl.1 (Nat.le_of_ble_eq_true rfl) rfl d_M_isSpeck_12 (fun r12 S12 H locs h hI => ?_)
  refine lv_if_eq (tgt := 36) hx hb d_M_isSpeck_15 (by decide) (fun q => ?_) (fun q => ?_)
  · replace h := h.1 q
    refine lv_iconst (v := 0) hx hb d_M_isSpeck_36 (by decide) ?_
    exact hR _ _ hcs 0 S12 _ _ 37 ls (by decide) h hI d_M_isSpeck_37
  · replace h := h.2 q
    refine lv_aload_n hx hb d_M_isSpeck_18 rfl (lv_at hl 0 rfl) ?_
    refine z_getR C hI 31 (by decide) kd_31 cl_M iw_M 6 (by decide) k_fl_M_17 rfl d_M_isSpeck_19 ?_
    refine lv_bipush (v := 24) hx hb d_M_isSpeck_22 (by decide) ?_
    refine lv_iload_n hx hb d_M_isSpeck_24 rfl (lv_at hl 2 rfl) ?_
    refine lv_imul hx hb d_M_isSpeck_25 ?_
    refine lv_iload_n hx hb d_M_isSpeck_26 rfl (lv_at hl 1 rfl) ?_
    refine lv_iadd hx hb d_M_isSpeck_27 ?_
    obtain ⟨h1, h⟩ := h
    refine z_zld C hI 33 (by decide) kd_33 h1 d_M_isSpeck_28 ?_
    refine lv_if_eq (tgt := 36) hx hb d_M_isSpeck_29 (by decide) (fun q => ?_) (fun q => ?_)
    · replace h := h.1 q
      refine lv_iconst (v := 0) hx hb d_M_isSpeck_36 (by decide) ?_
      exact hR _ _ hcs 0 S12 _ _ 37 ls (by decide) h hI d_M_isSpeck_37
    · replace h := h.2 q
      refine lv_iconst (v := 1) hx hb d_M_isSpeck_32 (by decide) ?_
      refine lv_goto (tgt := 37) hx hb d_M_isSpeck_33 (by decide) ?_
      exact hR _ _ hcs 1 S12 _ _ 37 ls (by decide) h hI d_M_isSpeck_37
set_option maxHeartbeats 4000000 in
set_option maxRecDepth 100000 in
theorem w_M_told_56 (C : z_CT p s m args c R_M b_M_told 6 D cA 51 ad) (hcs : cells ≤ rm_M_told.cells ∧ slots ≤ rm_M_told.slots) (post : Int32 → zS → Prop) (K24 : Int32 → Int32 → Int32 → zS → Prop) (v1 : Int32) (v3 : Int32) (v4 : Int32) (v5 : Int32) (t0 : Int32) (hR : z_Ri p l e rm_M_told s m args below meth c Q b_M_told D cA 51 ad post) (kK24 : ∀ (v2 : Int32) (v3 : Int32) (v5 : Int32) (S : zS) (H : Heap) (locs : List Loc) (ls : Array Slot), K24 v2 v3 v5 S → z_I D cA 51 ad s.heap S H locs → lv_has ls 6 [(0, .ref (ad 31)), (1, .int v1), (2, .int v2), (3, .int v3), (4, .int v4), (5, .int v5)] → W p l e rm_M_told s m args below meth c H locs cells slots Q (F0 m 24 ls [])) (S : zS) (H : Heap) (locs : List Loc) (ls : Array Slot) (hI : z_I D cA 51 ad s.heap S H locs) (hl : lv_has ls 6 [(0, .ref (ad 31)), (1, .int v1), (3, .int v3), (4, .int v4), (5, .int v5)]) (h : J_M_told_56 post K24 v1 v3 v4 v5 t0 S) : W p l e rm_M_told s m args below meth c H locs cells slots Q (F0 m 56 ls [.int t0]) := by
  obtain ⟨hx, hb, hml, hown, hts, hK, hJ⟩ := id C
  unfold J_M_told_56 at h
  refine lv_istore_n (lv' := [(2, .int t0), (0, .ref (ad 31)), (1, .int v1), (3, .int v3), (4, .int v4), (5, .int v5)]) hx hb d_M_told_56 rfl hl (by decide) rfl (fun ls hl => ?_)
  refine lv_aload_n hx hb d_M_told_57 rfl (lv_at hl 1 rfl) ?_
  refine z_getI C hI 31 (by decide) kd_31 cl_M iw_M 5 (by decide) k_fl_M_94 rfl d_M_told_58 ?_
  refine lv_if_eq (tgt := 86) hx hb d_M_told_61 (by decide) (fun q => ?_) (fun q => ?_)
  · replace h := h.1 q
    refine lv_iload_n hx hb d_M_told_86 rfl (lv_at hl 3 rfl) ?_
    refine lv_istore_n (lv' := [(3, .int v3), (2, .int t0), (0, .ref (ad 31)), (1, .int v1), (4, .int v4), (5, .int v5)]) hx hb d_M_told_87 rfl hl (by decide) rfl (fun ls hl => ?_)
    obtain ⟨x88, e88⟩ : ∃ y : Int32, y = v5 + 1 := ⟨_, rfl⟩
    replace h := h x88 e88
    refine lv_iinc (v := x88) (lv' := [(5, .int x88), (3, .int v3), (2, .int t0), (0, .ref (ad 31)), (1, .int v1), (4, .int v4)]) hx hb d_M_told_88 hl (k := 5) rfl (by rw [e88]; rfl) (by decide) rfl (fun ls hl => ?_)
    refine lv_goto (tgt := 24) hx hb d_M_told_91 (by decide) ?_
    exact kK24 t0 v3 x88 S _ _ ls h hI (lv_sub hl [3, 4, 2, 1, 5, 0] rfl)
  · replace h := h.2 q
    refine lv_aload_n hx hb d_M_told_64 rfl (lv_at hl 1 rfl) ?_
    refine z_getR C hI 31 (by decide) kd_31 cl_M iw_M 6 (by decide) k_fl_M_17 rfl d_M_told_65 ?_
    refine lv_bipush (v := 24) hx hb d_M_told_68 (by decide) ?_
    refine lv_iload hx hb d_M_told_70 (lv_at hl 4 rfl) ?_
    refine lv_imul hx hb d_M_told_72 ?_
    refine lv_iload hx hb d_M_told_73 (lv_at hl 5 rfl) ?_
    refine lv_iadd hx hb d_M_told_75 ?_
    obtain ⟨h1, h⟩ := h
    refine z_zld C hI 33 (by decide) kd_33 h1 d_M_told_76 ?_
    refine lv_if_eq (tgt := 86) hx hb d_M_told_77 (by decide) (fun q => ?_) (fun q => ?_)
    · replace h := h.1 q
      refine lv_iload_n hx hb d_M_told_86 rfl (lv_at hl 3 rfl) ?_
      refine lv_istore_n (lv' := [(3, .int v3), (2, .int t0), (0, .ref (ad 31)), (1, .int v1), (4, .int v4), (5, .int v5)]) hx hb d_M_told_87 rfl hl (by decide) rfl (fun ls hl => ?_)
      obtain ⟨x88, e88⟩ : ∃ y : Int32, y = v5 + 1 := ⟨_, rfl⟩
      replace h := h x88 e88
      refine lv_iinc (v := x88) (lv' := [(5, .int x88), (3, .int v3), (2, .int t0), (0, .ref (ad 31)), (1, .int v1), (4, .int v4)]) hx hb d_M_told_88 hl (k := 5) rfl (by rw [e88]; rfl) (by decide) rfl (fun ls hl => ?_)
      refine lv_goto (tgt := 24) hx hb d_M_told_91 (by decide) ?_
      exact kK24 t0 v3 x88 S _ _ ls h hI (lv_sub hl [3, 4, 2, 1, 5, 0] rfl)
    · replace h := h.2 q
      refine lv_iload_n hx hb d_M_told_80 rfl (lv_at hl 3 rfl) ?_
      refine lv_iconst (v := 1) hx hb d_M_told_81 (by decide) ?_
      refine lv_iadd hx hb d_M_told_82 ?_
      refine lv_goto (tgt := 87) hx hb d_M_told_83 (by decide) ?_
      refine lv_topi (fun x87 e87 => ?_)
      replace h := h x87 e87
      refine lv_istore_n (lv' := [(3, .int x87), (2, .int t0), (0, .ref (ad 31)), (1, .int v1), (4, .int v4), (5, .int v5)]) hx hb d_M_told_87 rfl hl (by decide) rfl (fun ls hl => ?_)
      obtain ⟨x88, e88⟩ : ∃ y : Int32, y = v5 + 1 := ⟨_, rfl⟩
      replace h := h x88 e88
      refine lv_iinc (v := x88) (lv' := [(5, .int x88), (3, .int x87), (2, .int t0), (0, .ref (ad 31)), (1, .int v1), (4, .int v4)]) hx hb d_M_told_88 hl (k := 5) rfl (by rw [e88]; rfl) (by decide) rfl (fun ls hl => ?_)
      refine lv_goto (tgt := 24) hx hb d_M_told_91 (by decide) ?_
      exact kK24 t0 x87 x88 S _ _ ls h hI (lv_sub hl [3, 4, 2, 1, 5, 0] rfl)
set_option maxHeartbeats 4000000 in
set_option maxRecDepth 100000 in
theorem w_M_told_24 (C : z_CT p s m args c R_M b_M_told 6 D cA 51 ad) (hcs : cells ≤ rm_M_told.cells ∧ slots ≤ rm_M_told.slots) (post : Int32 → zS → Prop) (K94 : Int32 → Int32 → zS → Prop) (v1 : Int32) (v4 : Int32) (hR : z_Ri p l e rm_M_told s m args below meth c Q b_M_told D cA 51 ad post) (kK94 : ∀ (v2 : Int32) (v3 : Int32) (S : zS) (H : Heap) (locs : List Loc) (ls : Array Slot), K94 v2 v3 S → z_I D cA 51 ad s.heap S H locs → lv_has ls 6 [(0, .ref (ad 31)), (1, .int v1), (2, .int v2), (3, .int v3), (4, .int v4)] → W p l e rm_M_told s m args below meth c H locs cells slots Q (F0 m 94 ls [])) : ∀ (n : Nat) (v2 : Int32) (v3 : Int32) (v5 : Int32) (S : zS) (H : Heap) (locs : List Loc) (ls : Array Slot), z_I D cA 51 ad s.heap S H locs → lv_has ls 6 [(0, .ref (ad 31)), (1, .int v1), (2, .int v2), (3, .int v3), (4, .int v4), (5, .int v5)] → L_M_told_24 post K94 v1 v4 n v2 v3 v5 S → W p l e rm_M_told s m args below meth c H locs cells slots Q (F0 m 24 ls []) := by
  obtain ⟨hx, hb, hml, hown, hts, hK, hJ⟩ := id C
  intro n
  induction n with
  | zero => intro v2 v3 v5 S H locs ls hI hl h; exact h.elim
  | succ n ih =>
    intro v2 v3 v5 S H locs ls hI hl h
    rw [L_M_told_24] at h
    refine lv_iload hx hb d_M_told_24 (lv_at hl 5 rfl) ?_
    refine lv_aload_n hx hb d_M_told_26 rfl (lv_at hl 0 rfl) ?_
    refine z_getI C hI 31 (by decide) kd_31 cl_M iw_M 1 (by decide) k_fl_M_73 rfl d_M_told_27 ?_
    refine lv_icmp_ge (tgt := 94) hx hb d_M_told_30 (by decide) (fun q => ?_) (fun q => ?_)
    · replace h := h.1 q
      exact kK94 v2 v3 S _ _ ls h hI (lv_sub hl [0, 1, 2, 3, 4] rfl)
    · replace h := h.2 q
      refine lv_aload_n hx hb d_M_told_33 rfl (lv_at hl 0 rfl) ?_
      refine z_getR C hI 31 (by decide) kd_31 cl_M iw_M 3 (by decide) k_fl_M_7 rfl d_M_told_34 ?_
      refine lv_bipush (v := 24) hx hb d_M_told_37 (by decide) ?_
      refine lv_iload hx hb d_M_told_39 (lv_at hl 4 rfl) ?_
      refine lv_imul hx hb d_M_told_41 ?_
      refine lv_iload hx hb d_M_told_42 (lv_at hl 5 rfl) ?_
      refine lv_iadd hx hb d_M_told_44 ?_
      obtain ⟨h1, h⟩ := h
      refine z_zld C hI 32 (by decide) kd_32 h1 d_M_told_45 ?_
      refine lv_if_eq (tgt := 55) hx hb d_M_told_46 (by decide) (fun q => ?_) (fun q => ?_)
      · replace h := h.1 q
        refine lv_iload_n hx hb d_M_told_55 rfl (lv_at hl 2 rfl) ?_
        exact w_M_told_56 C hcs _ _ v1 v3 v4 v5 v2 hR (fun v2 v3 v5 S H locs ls h hI hl => ih v2 v3 v5 S H locs ls hI hl h) S _ _ ls hI (lv_sub hl [0, 1, 3, 4, 5] rfl) h
      · replace h := h.2 q
        refine lv_iload_n hx hb d_M_told_49 rfl (lv_at hl 2 rfl) ?_
        refine lv_iconst (v := 1) hx hb d_M_told_50 (by decide) ?_
        refine lv_iadd hx hb d_M_told_51 ?_
        refine lv_goto (tgt := 56) hx hb d_M_told_52 (by decide) ?_
        exact w_M_told_56 C hcs _ _ v1 v3 v4 v5 (v2 + 1) hR (fun v2 v3 v5 S H locs ls h hI hl => ih v2 v3 v5 S H locs ls hI hl h) S _ _ ls hI (lv_sub hl [0, 1, 3, 4, 5] rfl) h
set_option maxHeartbeats 4000000 in
set_option maxRecDepth 100000 in
theorem w_M_told_12 (C : z_CT p s m args c R_M b_M_told 6 D cA 51 ad) (hcs : cells ≤ rm_M_told.cells ∧ slots ≤ rm_M_told.slots) (post : Int32 → zS → Prop) (K100 : Int32 → Int32 → zS → Prop) (v1 : Int32) (hR : z_Ri p l e rm_M_told s m args below meth c Q b_M_told D cA 51 ad post) (kK100 : ∀ (v2 : Int32) (v3 : Int32) (S : zS) (H : Heap) (locs : List Loc) (ls : Array Slot), K100 v2 v3 S → z_I D cA 51 ad s.heap S H locs → lv_has ls 6 [(0, .ref (ad 31)), (1, .int v1), (2, .int v2), (3, .int v3)] → W p l e rm_M_told s m args below meth c H locs cells slots Q (F0 m 100 ls [])) : ∀ (n : Nat) (v2 : Int32) (v3 : Int32) (v4 : Int32) (S : zS) (H : Heap) (locs : List Loc) (ls : Array Slot), z_I D cA 51 ad s.heap S H locs → lv_has ls 6 [(0, .ref (ad 31)), (1, .int v1), (2, .int v2), (3, .int v3), (4, .int v4)] → L_M_told_12 post K100 v1 n v2 v3 v4 S → W p l e rm_M_told s m args below meth c H locs cells slots Q (F0 m 12 ls []) := by
  obtain ⟨hx, hb, hml, hown, hts, hK, hJ⟩ := id C
  intro n
  induction n with
  | zero => intro v2 v3 v4 S H locs ls hI hl h; exact h.elim
  | succ n ih =>
    intro v2 v3 v4 S H locs ls hI hl h
    rw [L_M_told_12] at h
    refine lv_iload hx hb d_M_told_12 (lv_at hl 4 rfl) ?_
    refine lv_aload_n hx hb d_M_told_14 rfl (lv_at hl 0 rfl) ?_
    refine z_getI C hI 31 (by decide) kd_31 cl_M iw_M 2 (by decide) k_fl_M_76 rfl d_M_told_15 ?_
    refine lv_icmp_ge (tgt := 100) hx hb d_M_told_18 (by decide) (fun q => ?_) (fun q => ?_)
    · replace h := h.1 q
      exact kK100 v2 v3 S _ _ ls h hI (lv_sub hl [0, 1, 2, 3] rfl)
    · replace h := h.2 q
      refine lv_iconst (v := 0) hx hb d_M_told_21 (by decide) ?_
      refine lv_istore (lv' := [(5, .int 0), (0, .ref (ad 31)), (1, .int v1), (2, .int v2), (3, .int v3), (4, .int v4)]) hx hb d_M_told_22 hl (by decide) rfl (fun ls hl => ?_)
      obtain ⟨k24, h⟩ := h
      refine w_M_told_24 C hcs _ _ v1 v4 hR (fun v2_24e v3_24e S24e H locs ls h hI hl => ?_) k24 v2 v3 0 S _ _ ls hI (lv_sub hl [1, 2, 3, 4, 5, 0] rfl) h
      obtain ⟨x94, e94⟩ : ∃ y : Int32, y = v4 + 1 := ⟨_, rfl⟩
      replace h := h x94 e94
      refine lv_iinc (v := x94) (lv' := [(4, .int x94), (0, .ref (ad 31)), (1, .int v1), (2, .int v2_24e), (3, .int v3_24e)]) hx hb d_M_told_94 hl (k := 4) rfl (by rw [e94]; rfl) (by decide) rfl (fun ls hl => ?_)
      refine lv_goto (tgt := 12) hx hb d_M_told_97 (by decide) ?_
      exact ih v2_24e v3_24e x94 S24e _ _ ls hI (lv_sub hl [1, 2, 3, 4, 0] rfl) h
set_option maxHeartbeats 4000000 in
set_option maxRecDepth 100000 in
theorem c_M_told (v1 : Int32) (S : zS) (post : Int32 → zS → Prop) (h : P_M_told v1 S post) : z_cti l D cA 51 ad y_M_told b_M_told 6 (some .int) rm_M_told [.ref (ad 31), .int v1] S post := by
  refine z_meti (av := [.ref (ad 31), .int v1]) (by decide) (Nat.le_of_ble_eq_true rfl) ⟨rfl, rfl⟩ (fun p e s m args below meth c Q ls C hcs hl hI hR => ?_)
  obtain ⟨hx, hb, hml, hown, hts, hK, hJ⟩ := id C
  unfold P_M_told at h
  have hl : lv_has ls 6 [(0, .ref (ad 31)), (1, .int v1)] := hl
  refine lv_aload_n hx hb d_M_told_0 rfl (lv_at hl 0 rfl) ?_
  refine lv_iconst (v := 0) hx hb d_M_told_1 (by decide) ?_
  refine z_putI C hI 31 (by decide) kd_31 cl_M iw_M ty_M ty_M_ok n_M 0 (by decide) k_fl_M_79 rfl rfl rfl d_M_told_2 (fun S2 eS H locs hI => ?_)
  replace h := h S2 eS
  refine lv_iconst (v := 0) hx hb d_M_told_5 (by decide) ?_
  refine lv_istore_n (lv' := [(2, .int 0), (0, .ref (ad 31)), (1, .int v1)]) hx hb d_M_told_6 rfl hl (by decide) rfl (fun ls hl => ?_)
  refine lv_iconst (v := 0) hx hb d_M_told_7 (by decide) ?_
  refine lv_istore_n (lv' := [(3, .int 0), (2, .int 0), (0, .ref (ad 31)), (1, .int v1)]) hx hb d_M_told_8 rfl hl (by decide) rfl (fun ls hl => ?_)
  refine lv_iconst (v := 0) hx hb d_M_told_9 (by decide) ?_
  refine lv_istore (lv' := [(4, .int 0), (3, .int 0), (2, .int 0), (0, .ref (ad 31)), (1, .int v1)]) hx hb d_M_told_10 hl (by decide) rfl (fun ls hl => ?_)
  obtain ⟨k12, h⟩ := h
  refine w_M_told_12 C hcs _ _ v1 hR (fun v2_12e v3_12e S12e H locs ls h hI hl => ?_) k12 0 0 0 S2 _ _ ls hI (lv_sub hl [3, 4, 2, 1, 0] rfl) h
  refine lv_iload_n hx hb d_M_told_100 rfl (lv_at hl 1 rfl) ?_
  refine lv_iconst (v := 3) hx hb d_M_told_101 (by decide) ?_
  refine lv_icmp_ge (tgt := 139) hx hb d_M_told_102 (by decide) (fun q => ?_) (fun q => ?_)
  · replace h := h.1 q
    refine lv_aload_n hx hb d_M_told_139 rfl (lv_at hl 0 rfl) ?_
    refine z_getI C hI 31 (by decide) kd_31 cl_M iw_M 5 (by decide) k_fl_M_94 rfl d_M_told_140 ?_
    refine lv_if_ne (tgt := 148) hx hb d_M_told_143 (by decide) (fun q => ?_) (fun q => ?_)
    · replace h := h.1 q
      refine lv_iload_n hx hb d_M_told_148 rfl (lv_at hl 1 rfl) ?_
      refine lv_iconst (v := 3) hx hb d_M_told_149 (by decide) ?_
      refine lv_icmp_ne (tgt := 160) hx hb d_M_told_150 (by decide) (fun q => ?_) (fun q => ?_)
      · replace h := h.1 q
        refine lv_iload_n hx hb d_M_told_160 rfl (lv_at hl 1 rfl) ?_
        refine lv_iconst (v := 4) hx hb d_M_told_161 (by decide) ?_
        refine lv_icmp_ne (tgt := 172) hx hb d_M_told_162 (by decide) (fun q => ?_) (fun q => ?_)
        · replace h := h.1 q
          refine lv_iload_n hx hb d_M_told_172 rfl (lv_at hl 1 rfl) ?_
          refine lv_iconst (v := 5) hx hb d_M_told_173 (by decide) ?_
          refine lv_icmp_ne (tgt := 184) hx hb d_M_told_174 (by decide) (fun q => ?_) (fun q => ?_)
          · replace h := h.1 q
            refine lv_iload_n hx hb d_M_told_184 rfl (lv_at hl 1 rfl) ?_
            refine lv_bipush (v := 6) hx hb d_M_told_185 (by decide) ?_
            refine lv_icmp_ne (tgt := 197) hx hb d_M_told_187 (by decide) (fun q => ?_) (fun q => ?_)
            · replace h := h.1 q
              refine lv_iload_n hx hb d_M_told_197 rfl (lv_at hl 1 rfl) ?_
              refine lv_bipush (v := 7) hx hb d_M_told_198 (by decide) ?_
              refine lv_icmp_ne (tgt := 207) hx hb d_M_told_200 (by decide) (fun q => ?_) (fun q => ?_)
              · replace h := h.1 q
                refine lv_iconst (v := (-1)) hx hb d_M_told_207 (by decide) ?_
                exact hR _ _ hcs (-1) S12e _ _ 208 ls h hI d_M_told_208
              · replace h := h.2 q
                refine lv_iload_n hx hb d_M_told_203 rfl (lv_at hl 3 rfl) ?_
                refine lv_goto (tgt := 208) hx hb d_M_told_204 (by decide) ?_
                exact hR _ _ hcs v3_12e S12e _ _ 208 ls h hI d_M_told_208
            · replace h := h.2 q
              refine lv_aload_n hx hb d_M_told_190 rfl (lv_at hl 0 rfl) ?_
              refine z_getI C hI 31 (by decide) kd_31 cl_M iw_M 23 (by decide) k_fl_M_137 rfl d_M_told_191 ?_
              refine lv_goto (tgt := 208) hx hb d_M_told_194 (by decide) ?_
              exact hR _ _ hcs (S12e 31 23) S12e _ _ 208 ls h hI d_M_told_208
          · replace h := h.2 q
            refine lv_aload_n hx hb d_M_told_177 rfl (lv_at hl 0 rfl) ?_
            refine z_getI C hI 31 (by decide) kd_31 cl_M iw_M 21 (by decide) k_fl_M_134 rfl d_M_told_178 ?_
            refine lv_goto (tgt := 208) hx hb d_M_told_181 (by decide) ?_
            exact hR _ _ hcs (S12e 31 21) S12e _ _ 208 ls h hI d_M_told_208
        · replace h := h.2 q
          refine lv_aload_n hx hb d_M_told_165 rfl (lv_at hl 0 rfl) ?_
          refine z_getI C hI 31 (by decide) kd_31 cl_M iw_M 19 (by decide) k_fl_M_127 rfl d_M_told_166 ?_
          refine lv_goto (tgt := 208) hx hb d_M_told_169 (by decide) ?_
          exact hR _ _ hcs (S12e 31 19) S12e _ _ 208 ls h hI d_M_told_208
      · replace h := h.2 q
        refine lv_aload_n hx hb d_M_told_153 rfl (lv_at hl 0 rfl) ?_
        refine z_getI C hI 31 (by decide) kd_31 cl_M iw_M 12 (by decide) k_fl_M_116 rfl d_M_told_154 ?_
        refine lv_goto (tgt := 208) hx hb d_M_told_157 (by decide) ?_
        exact hR _ _ hcs (S12e 31 12) S12e _ _ 208 ls h hI d_M_told_208
    · replace h := h.2 q
      refine lv_iconst (v := (-1)) hx hb d_M_told_146 (by decide) ?_
      exact hR _ _ hcs (-1) S12e _ _ 147 ls h hI d_M_told_147
  · replace h := h.2 q
    refine lv_iload_n hx hb d_M_told_105 rfl (lv_at hl 1 rfl) ?_
    refine lv_if_ne (tgt := 116) hx hb d_M_told_106 (by decide) (fun q => ?_) (fun q => ?_)
    · replace h := h.1 q
      refine lv_iload_n hx hb d_M_told_116 rfl (lv_at hl 1 rfl) ?_
      refine lv_iconst (v := 1) hx hb d_M_told_117 (by decide) ?_
      refine lv_icmp_ne (tgt := 128) hx hb d_M_told_118 (by decide) (fun q => ?_) (fun q => ?_)
      · replace h := h.1 q
        refine lv_iload_n hx hb d_M_told_128 rfl (lv_at hl 1 rfl) ?_
        refine lv_iconst (v := 2) hx hb d_M_told_129 (by decide) ?_
        refine lv_icmp_ne (tgt := 137) hx hb d_M_told_130 (by decide) (fun q => ?_) (fun q => ?_)
        · replace h := h.1 q
          refine lv_iconst (v := (-1)) hx hb d_M_told_137 (by decide) ?_
          exact hR _ _ hcs (-1) S12e _ _ 138 ls h hI d_M_told_138
        · replace h := h.2 q
          refine lv_iload_n hx hb d_M_told_133 rfl (lv_at hl 2 rfl) ?_
          refine lv_goto (tgt := 138) hx hb d_M_told_134 (by decide) ?_
          exact hR _ _ hcs v2_12e S12e _ _ 138 ls h hI d_M_told_138
      · replace h := h.2 q
        refine lv_aload_n hx hb d_M_told_121 rfl (lv_at hl 0 rfl) ?_
        refine z_getI C hI 31 (by decide) kd_31 cl_M iw_M 2 (by decide) k_fl_M_76 rfl d_M_told_122 ?_
        refine lv_goto (tgt := 138) hx hb d_M_told_125 (by decide) ?_
        exact hR _ _ hcs (S12e 31 2) S12e _ _ 138 ls h hI d_M_told_138
    · replace h := h.2 q
      refine lv_aload_n hx hb d_M_told_109 rfl (lv_at hl 0 rfl) ?_
      refine z_getI C hI 31 (by decide) kd_31 cl_M iw_M 1 (by decide) k_fl_M_73 rfl d_M_told_110 ?_
      refine lv_goto (tgt := 138) hx hb d_M_told_113 (by decide) ?_
      exact hR _ _ hcs (S12e 31 1) S12e _ _ 138 ls h hI d_M_told_138
end ZW
