section ZW
variable {p : Program} {l : Launch} {e : Env} {s : State} {m : MethodId} {args : Array Value} {below : List Frame} {meth : Method} {c : Code} {cells slots : Nat} {Q : State → Prop} {D : va_G} {cA : Nat → ClassId} {n : Nat} {ad : Nat → Nat}
set_option maxHeartbeats 4000000 in
set_option maxRecDepth 100000 in
theorem c_M_strip (v1 : Int32) (S : zS) (post : Int32 → zS → Prop) (h : P_M_strip v1 S post) : z_cti l D cA 51 ad y_M_strip b_M_strip 2 (some .int) rm_M_strip [.ref (ad 31), .int v1] S post := by
  refine z_meti (av := [.ref (ad 31), .int v1]) (by decide) (Nat.le_of_ble_eq_true rfl) ⟨rfl, rfl⟩ (fun p e s m args below meth c Q ls C hcs hl hI hR => ?_)
  obtain ⟨hx, hb, hml, hown, hts, hK, hJ⟩ := id C
  unfold P_M_strip at h
  have hl : lv_has ls 2 [(0, .ref (ad 31)), (1, .int v1)] := hl
  refine lv_aload_n hx hb d_M_strip_0 rfl (lv_at hl 0 rfl) ?_
  refine lv_aload_n hx hb d_M_strip_1 rfl (lv_at hl 0 rfl) ?_
  refine z_getI C hI 31 (by decide) kd_31 cl_M iw_M 5 (by decide) k_fl_M_94 rfl d_M_strip_2 ?_
  refine lv_iload_n hx hb d_M_strip_5 rfl (lv_at hl 1 rfl) ?_
  refine lv_iconst (v := 0) hx hb d_M_strip_6 (by decide) ?_
  refine lv_aload_n hx hb d_M_strip_7 rfl (lv_at hl 0 rfl) ?_
  refine z_getI C hI 31 (by decide) kd_31 cl_M iw_M 1 (by decide) k_fl_M_73 rfl d_M_strip_8 ?_
  refine lv_iconst (v := 1) hx hb d_M_strip_11 (by decide) ?_
  refine lv_isub hx hb d_M_strip_12 ?_
  refine z_callSi C hI (As := [.int v1, .int 0, .int ((S 31 1) - 1)]) (rest := [.int (S 31 5), .ref (ad 31)]) (c_M_in v1 0 ((S 31 1) - 1) _ _ h) wc_M_in k_ml_M_82 rfl rfl (Nat.le_of_ble_eq_true rfl) (Nat.le_of_ble_eq_true rfl) hcs hl.1 (Nat.le_of_ble_eq_true rfl) rfl d_M_strip_13 (fun r13 S13 H locs h hI => ?_)
  refine lv_iconst (v := 1) hx hb d_M_strip_16 (by decide) ?_
  refine z_callVi C hI 31 (by decide) kd_31 cl_M (As := [.int (S 31 5), .int r13, .int 1]) (rest := []) (c_M_goes (S 31 5) r13 1 _ _ h) wc_M_goes k_ml_M_90 rfl rfl (Nat.le_of_ble_eq_true rfl) (Nat.le_of_ble_eq_true rfl) hcs hl.1 (Nat.le_of_ble_eq_true rfl) rfl d_M_strip_17 (fun r17 S17 H locs h hI => ?_)
  refine lv_if_eq (tgt := 32) hx hb d_M_strip_20 (by decide) (fun q => ?_) (fun q => ?_)
  · replace h := h.1 q
    refine lv_iconst (v := 0) hx hb d_M_strip_32 (by decide) ?_
    exact hR _ _ hcs 0 S17 _ _ 33 ls h hI d_M_strip_33
  · replace h := h.2 q
    refine lv_aload_n hx hb d_M_strip_23 rfl (lv_at hl 0 rfl) ?_
    refine z_getR C hI 31 (by decide) kd_31 cl_M iw_M 22 (by decide) k_fl_M_57 rfl d_M_strip_24 ?_
    refine lv_iload_n hx hb d_M_strip_27 rfl (lv_at hl 1 rfl) ?_
    obtain ⟨h1, h⟩ := h
    refine z_ild C hI 46 (by decide) kd_46 h1 d_M_strip_28 ?_
    refine lv_goto (tgt := 33) hx hb d_M_strip_29 (by decide) ?_
    exact hR _ _ hcs (S17 46 (z_ix v1)) S17 _ _ 33 ls h hI d_M_strip_33
set_option maxHeartbeats 4000000 in
set_option maxRecDepth 100000 in
theorem w_M_cell_130 (C : z_CT p s m args c R_M b_M_cell 10 D cA 51 ad) (hcs : cells ≤ rm_M_cell.cells ∧ slots ≤ rm_M_cell.slots) (post : Int32 → zS → Prop) (K61 : Int32 → Int32 → Int32 → Int32 → Int32 → Int32 → zS → Prop) (v1 : Int32) (v2 : Int32) (v3 : Int32) (v4 : Int32) (v7 : Int32) (v8 : Int32) (v9 : Int32) (t0 : Int32) (hR : z_Ri p l e rm_M_cell s m args below meth c Q b_M_cell D cA 51 ad post) (kK61 : ∀ (v3 : Int32) (v4 : Int32) (v5 : Int32) (v6 : Int32) (v7 : Int32) (v9 : Int32) (S : zS) (H : Heap) (locs : List Loc) (ls : Array Slot), K61 v3 v4 v5 v6 v7 v9 S → z_I D cA 51 ad s.heap S H locs → lv_has ls 10 [(0, .ref (ad 31)), (1, .int v1), (2, .int v2), (3, .int v3), (4, .int v4), (5, .int v5), (6, .int v6), (7, .int v7), (8, .int v8), (9, .int v9)] → W p l e rm_M_cell s m args below meth c H locs cells slots Q (F0 m 61 ls [])) (S : zS) (H : Heap) (locs : List Loc) (ls : Array Slot) (hI : z_I D cA 51 ad s.heap S H locs) (hl : lv_has ls 10 [(0, .ref (ad 31)), (1, .int v1), (2, .int v2), (3, .int v3), (4, .int v4), (7, .int v7), (8, .int v8), (9, .int v9)]) (h : J_M_cell_130 post K61 v1 v2 v3 v4 v7 v8 v9 t0 S) : W p l e rm_M_cell s m args below meth c H locs cells slots Q (F0 m 130 ls [.int t0]) := by
  obtain ⟨hx, hb, hml, hown, hts, hK, hJ⟩ := id C
  unfold J_M_cell_130 at h
  refine lv_istore (lv' := [(5, .int t0), (0, .ref (ad 31)), (1, .int v1), (2, .int v2), (3, .int v3), (4, .int v4), (7, .int v7), (8, .int v8), (9, .int v9)]) hx hb d_M_cell_130 hl (by decide) rfl (fun ls hl => ?_)
  refine lv_iload hx hb d_M_cell_132 (lv_at hl 7 rfl) ?_
  refine lv_istore (lv' := [(6, .int v8), (5, .int t0), (0, .ref (ad 31)), (1, .int v1), (2, .int v2), (3, .int v3), (4, .int v4), (7, .int v7), (8, .int v8), (9, .int v9)]) hx hb d_M_cell_134 hl (by decide) rfl (fun ls hl => ?_)
  obtain ⟨x136, e136⟩ : ∃ y : Int32, y = v7 + 1 := ⟨_, rfl⟩
  replace h := h x136 e136
  refine lv_iinc (v := x136) (lv' := [(7, .int x136), (6, .int v8), (5, .int t0), (0, .ref (ad 31)), (1, .int v1), (2, .int v2), (3, .int v3), (4, .int v4), (8, .int v8), (9, .int v9)]) hx hb d_M_cell_136 hl (k := 7) rfl (by rw [e136]; rfl) (by decide) rfl (fun ls hl => ?_)
  obtain ⟨x139, e139⟩ : ∃ y : Int32, y = v9 + 1 := ⟨_, rfl⟩
  replace h := h x139 e139
  refine lv_iinc (v := x139) (lv' := [(9, .int x139), (7, .int x136), (6, .int v8), (5, .int t0), (0, .ref (ad 31)), (1, .int v1), (2, .int v2), (3, .int v3), (4, .int v4), (8, .int v8)]) hx hb d_M_cell_139 hl (k := 9) rfl (by rw [e139]; rfl) (by decide) rfl (fun ls hl => ?_)
  refine lv_goto (tgt := 61) hx hb d_M_cell_142 (by decide) ?_
  exact kK61 v3 v4 t0 v8 x136 x139 S _ _ ls h hI (lv_sub hl [4, 5, 6, 7, 8, 3, 2, 1, 9, 0] rfl)
set_option maxHeartbeats 4000000 in
set_option maxRecDepth 100000 in
theorem w_M_cell_114 (C : z_CT p s m args c R_M b_M_cell 10 D cA 51 ad) (hcs : cells ≤ rm_M_cell.cells ∧ slots ≤ rm_M_cell.slots) (post : Int32 → zS → Prop) (K61 : Int32 → Int32 → Int32 → Int32 → Int32 → Int32 → zS → Prop) (v1 : Int32) (v2 : Int32) (v3 : Int32) (v5 : Int32) (v7 : Int32) (v8 : Int32) (v9 : Int32) (t0 : Int32) (hR : z_Ri p l e rm_M_cell s m args below meth c Q b_M_cell D cA 51 ad post) (kK61 : ∀ (v3 : Int32) (v4 : Int32) (v5 : Int32) (v6 : Int32) (v7 : Int32) (v9 : Int32) (S : zS) (H : Heap) (locs : List Loc) (ls : Array Slot), K61 v3 v4 v5 v6 v7 v9 S → z_I D cA 51 ad s.heap S H locs → lv_has ls 10 [(0, .ref (ad 31)), (1, .int v1), (2, .int v2), (3, .int v3), (4, .int v4), (5, .int v5), (6, .int v6), (7, .int v7), (8, .int v8), (9, .int v9)] → W p l e rm_M_cell s m args below meth c H locs cells slots Q (F0 m 61 ls [])) (S : zS) (H : Heap) (locs : List Loc) (ls : Array Slot) (hI : z_I D cA 51 ad s.heap S H locs) (hl : lv_has ls 10 [(0, .ref (ad 31)), (1, .int v1), (2, .int v2), (3, .int v3), (5, .int v5), (7, .int v7), (8, .int v8), (9, .int v9)]) (h : J_M_cell_114 post K61 v1 v2 v3 v5 v7 v8 v9 t0 S) : W p l e rm_M_cell s m args below meth c H locs cells slots Q (F0 m 114 ls [.int t0]) := by
  obtain ⟨hx, hb, hml, hown, hts, hK, hJ⟩ := id C
  unfold J_M_cell_114 at h
  refine lv_istore (lv' := [(4, .int t0), (0, .ref (ad 31)), (1, .int v1), (2, .int v2), (3, .int v3), (5, .int v5), (7, .int v7), (8, .int v8), (9, .int v9)]) hx hb d_M_cell_114 hl (by decide) rfl (fun ls hl => ?_)
  refine lv_iload hx hb d_M_cell_116 (lv_at hl 7 rfl) ?_
  refine lv_iload hx hb d_M_cell_118 (lv_at hl 5 rfl) ?_
  refine lv_icmp_ge (tgt := 128) hx hb d_M_cell_120 (by decide) (fun q => ?_) (fun q => ?_)
  · replace h := h.1 q
    refine lv_iload hx hb d_M_cell_128 (lv_at hl 5 rfl) ?_
    exact w_M_cell_130 C hcs _ _ v1 v2 v3 t0 v7 v8 v9 v5 hR kK61 S _ _ ls hI (lv_sub hl [1, 2, 3, 4, 0, 6, 7, 8] rfl) h
  · replace h := h.2 q
    refine lv_iload hx hb d_M_cell_123 (lv_at hl 7 rfl) ?_
    refine lv_goto (tgt := 130) hx hb d_M_cell_125 (by decide) ?_
    exact w_M_cell_130 C hcs _ _ v1 v2 v3 t0 v7 v8 v9 v8 hR kK61 S _ _ ls hI (lv_sub hl [1, 2, 3, 4, 0, 6, 7, 8] rfl) h
set_option maxHeartbeats 4000000 in
set_option maxRecDepth 100000 in
theorem w_M_cell_99 (C : z_CT p s m args c R_M b_M_cell 10 D cA 51 ad) (hcs : cells ≤ rm_M_cell.cells ∧ slots ≤ rm_M_cell.slots) (post : Int32 → zS → Prop) (K61 : Int32 → Int32 → Int32 → Int32 → Int32 → Int32 → zS → Prop) (v1 : Int32) (v2 : Int32) (v4 : Int32) (v5 : Int32) (v7 : Int32) (v8 : Int32) (v9 : Int32) (t0 : Int32) (hR : z_Ri p l e rm_M_cell s m args below meth c Q b_M_cell D cA 51 ad post) (kK61 : ∀ (v3 : Int32) (v4 : Int32) (v5 : Int32) (v6 : Int32) (v7 : Int32) (v9 : Int32) (S : zS) (H : Heap) (locs : List Loc) (ls : Array Slot), K61 v3 v4 v5 v6 v7 v9 S → z_I D cA 51 ad s.heap S H locs → lv_has ls 10 [(0, .ref (ad 31)), (1, .int v1), (2, .int v2), (3, .int v3), (4, .int v4), (5, .int v5), (6, .int v6), (7, .int v7), (8, .int v8), (9, .int v9)] → W p l e rm_M_cell s m args below meth c H locs cells slots Q (F0 m 61 ls [])) (S : zS) (H : Heap) (locs : List Loc) (ls : Array Slot) (hI : z_I D cA 51 ad s.heap S H locs) (hl : lv_has ls 10 [(0, .ref (ad 31)), (1, .int v1), (2, .int v2), (4, .int v4), (5, .int v5), (7, .int v7), (8, .int v8), (9, .int v9)]) (h : J_M_cell_99 post K61 v1 v2 v4 v5 v7 v8 v9 t0 S) : W p l e rm_M_cell s m args below meth c H locs cells slots Q (F0 m 99 ls [.int t0]) := by
  obtain ⟨hx, hb, hml, hown, hts, hK, hJ⟩ := id C
  unfold J_M_cell_99 at h
  refine lv_istore_n (lv' := [(3, .int t0), (0, .ref (ad 31)), (1, .int v1), (2, .int v2), (4, .int v4), (5, .int v5), (7, .int v7), (8, .int v8), (9, .int v9)]) hx hb d_M_cell_99 rfl hl (by decide) rfl (fun ls hl => ?_)
  refine lv_iload hx hb d_M_cell_100 (lv_at hl 8 rfl) ?_
  refine lv_iload hx hb d_M_cell_102 (lv_at hl 4 rfl) ?_
  refine lv_icmp_le (tgt := 112) hx hb d_M_cell_104 (by decide) (fun q => ?_) (fun q => ?_)
  · replace h := h.1 q
    refine lv_iload hx hb d_M_cell_112 (lv_at hl 4 rfl) ?_
    exact w_M_cell_114 C hcs _ _ v1 v2 t0 v5 v7 v8 v9 v4 hR kK61 S _ _ ls hI (lv_sub hl [1, 2, 3, 0, 5, 6, 7, 8] rfl) h
  · replace h := h.2 q
    refine lv_iload hx hb d_M_cell_107 (lv_at hl 8 rfl) ?_
    refine lv_goto (tgt := 114) hx hb d_M_cell_109 (by decide) ?_
    exact w_M_cell_114 C hcs _ _ v1 v2 t0 v5 v7 v8 v9 v9 hR kK61 S _ _ ls hI (lv_sub hl [1, 2, 3, 0, 5, 6, 7, 8] rfl) h
set_option maxHeartbeats 4000000 in
set_option maxRecDepth 100000 in
theorem w_M_cell_61 (C : z_CT p s m args c R_M b_M_cell 10 D cA 51 ad) (hcs : cells ≤ rm_M_cell.cells ∧ slots ≤ rm_M_cell.slots) (post : Int32 → zS → Prop) (K145 : Int32 → Int32 → Int32 → Int32 → Int32 → zS → Prop) (v1 : Int32) (v2 : Int32) (v8 : Int32) (hR : z_Ri p l e rm_M_cell s m args below meth c Q b_M_cell D cA 51 ad post) (kK145 : ∀ (v3 : Int32) (v4 : Int32) (v5 : Int32) (v6 : Int32) (v7 : Int32) (S : zS) (H : Heap) (locs : List Loc) (ls : Array Slot), K145 v3 v4 v5 v6 v7 S → z_I D cA 51 ad s.heap S H locs → lv_has ls 10 [(0, .ref (ad 31)), (1, .int v1), (2, .int v2), (3, .int v3), (4, .int v4), (5, .int v5), (6, .int v6), (7, .int v7), (8, .int v8)] → W p l e rm_M_cell s m args below meth c H locs cells slots Q (F0 m 145 ls [])) : ∀ (n : Nat) (v3 : Int32) (v4 : Int32) (v5 : Int32) (v6 : Int32) (v7 : Int32) (v9 : Int32) (S : zS) (H : Heap) (locs : List Loc) (ls : Array Slot), z_I D cA 51 ad s.heap S H locs → lv_has ls 10 [(0, .ref (ad 31)), (1, .int v1), (2, .int v2), (3, .int v3), (4, .int v4), (5, .int v5), (6, .int v6), (7, .int v7), (8, .int v8), (9, .int v9)] → L_M_cell_61 post K145 v1 v2 v8 n v3 v4 v5 v6 v7 v9 S → W p l e rm_M_cell s m args below meth c H locs cells slots Q (F0 m 61 ls []) := by
  obtain ⟨hx, hb, hml, hown, hts, hK, hJ⟩ := id C
  intro n
  induction n with
  | zero => intro v3 v4 v5 v6 v7 v9 S H locs ls hI hl h; exact h.elim
  | succ n ih =>
    intro v3 v4 v5 v6 v7 v9 S H locs ls hI hl h
    rw [L_M_cell_61] at h
    refine lv_iload hx hb d_M_cell_61 (lv_at hl 9 rfl) ?_
    refine lv_aload_n hx hb d_M_cell_63 rfl (lv_at hl 0 rfl) ?_
    refine z_getI C hI 31 (by decide) kd_31 cl_M iw_M 1 (by decide) k_fl_M_73 rfl d_M_cell_64 ?_
    refine lv_icmp_ge (tgt := 145) hx hb d_M_cell_67 (by decide) (fun q => ?_) (fun q => ?_)
    · replace h := h.1 q
      exact kK145 v3 v4 v5 v6 v7 S _ _ ls h hI (lv_sub hl [0, 1, 2, 3, 4, 5, 6, 7, 8] rfl)
    · replace h := h.2 q
      refine lv_aload_n hx hb d_M_cell_70 rfl (lv_at hl 0 rfl) ?_
      refine z_getR C hI 31 (by decide) kd_31 cl_M iw_M 24 (by decide) k_fl_M_60 rfl d_M_cell_71 ?_
      refine lv_bipush (v := 24) hx hb d_M_cell_74 (by decide) ?_
      refine lv_iload hx hb d_M_cell_76 (lv_at hl 8 rfl) ?_
      refine lv_imul hx hb d_M_cell_78 ?_
      refine lv_iload hx hb d_M_cell_79 (lv_at hl 9 rfl) ?_
      refine lv_iadd hx hb d_M_cell_81 ?_
      obtain ⟨h1, h⟩ := h
      refine z_ild C hI 47 (by decide) kd_47 h1 d_M_cell_82 ?_
      refine lv_iload_n hx hb d_M_cell_83 rfl (lv_at hl 1 rfl) ?_
      refine lv_icmp_ne (tgt := 139) hx hb d_M_cell_84 (by decide) (fun q => ?_) (fun q => ?_)
      · replace h := h.1 q
        obtain ⟨x139, e139⟩ : ∃ y : Int32, y = v9 + 1 := ⟨_, rfl⟩
        replace h := h x139 e139
        refine lv_iinc (v := x139) (lv' := [(9, .int x139), (0, .ref (ad 31)), (1, .int v1), (2, .int v2), (3, .int v3), (4, .int v4), (5, .int v5), (6, .int v6), (7, .int v7), (8, .int v8)]) hx hb d_M_cell_139 hl (k := 9) rfl (by rw [e139]; rfl) (by decide) rfl (fun ls hl => ?_)
        refine lv_goto (tgt := 61) hx hb d_M_cell_142 (by decide) ?_
        exact ih v3 v4 v5 v6 v7 x139 S _ _ ls hI (lv_sub hl [1, 2, 3, 4, 5, 6, 7, 8, 9, 0] rfl) h
      · replace h := h.2 q
        refine lv_iload hx hb d_M_cell_87 (lv_at hl 9 rfl) ?_
        refine lv_iload_n hx hb d_M_cell_89 rfl (lv_at hl 3 rfl) ?_
        refine lv_icmp_ge (tgt := 98) hx hb d_M_cell_90 (by decide) (fun q => ?_) (fun q => ?_)
        · replace h := h.1 q
          refine lv_iload_n hx hb d_M_cell_98 rfl (lv_at hl 3 rfl) ?_
          exact w_M_cell_99 C hcs _ _ v1 v2 v4 v5 v7 v8 v9 v3 hR (fun v3 v4 v5 v6 v7 v9 S H locs ls h hI hl => ih v3 v4 v5 v6 v7 v9 S H locs ls hI hl h) S _ _ ls hI (lv_sub hl [0, 1, 2, 4, 5, 7, 8, 9] rfl) h
        · replace h := h.2 q
          refine lv_iload hx hb d_M_cell_93 (lv_at hl 9 rfl) ?_
          refine lv_goto (tgt := 99) hx hb d_M_cell_95 (by decide) ?_
          exact w_M_cell_99 C hcs _ _ v1 v2 v4 v5 v7 v8 v9 v9 hR (fun v3 v4 v5 v6 v7 v9 S H locs ls h hI hl => ih v3 v4 v5 v6 v7 v9 S H locs ls hI hl h) S _ _ ls hI (lv_sub hl [0, 1, 2, 4, 5, 7, 8, 9] rfl) h
set_option maxHeartbeats 4000000 in
set_option maxRecDepth 100000 in
theorem w_M_cell_49 (C : z_CT p s m args c R_M b_M_cell 10 D cA 51 ad) (hcs : cells ≤ rm_M_cell.cells ∧ slots ≤ rm_M_cell.slots) (post : Int32 → zS → Prop) (K151 : Int32 → Int32 → Int32 → Int32 → Int32 → zS → Prop) (v1 : Int32) (v2 : Int32) (hR : z_Ri p l e rm_M_cell s m args below meth c Q b_M_cell D cA 51 ad post) (kK151 : ∀ (v3 : Int32) (v4 : Int32) (v5 : Int32) (v6 : Int32) (v7 : Int32) (S : zS) (H : Heap) (locs : List Loc) (ls : Array Slot), K151 v3 v4 v5 v6 v7 S → z_I D cA 51 ad s.heap S H locs → lv_has ls 10 [(2, .int v2), (3, .int v3), (4, .int v4), (5, .int v5), (6, .int v6), (7, .int v7)] → W p l e rm_M_cell s m args below meth c H locs cells slots Q (F0 m 151 ls [])) : ∀ (n : Nat) (v3 : Int32) (v4 : Int32) (v5 : Int32) (v6 : Int32) (v7 : Int32) (v8 : Int32) (S : zS) (H : Heap) (locs : List Loc) (ls : Array Slot), z_I D cA 51 ad s.heap S H locs → lv_has ls 10 [(0, .ref (ad 31)), (1, .int v1), (2, .int v2), (3, .int v3), (4, .int v4), (5, .int v5), (6, .int v6), (7, .int v7), (8, .int v8)] → L_M_cell_49 post K151 v1 v2 n v3 v4 v5 v6 v7 v8 S → W p l e rm_M_cell s m args below meth c H locs cells slots Q (F0 m 49 ls []) := by
  obtain ⟨hx, hb, hml, hown, hts, hK, hJ⟩ := id C
  intro n
  induction n with
  | zero => intro v3 v4 v5 v6 v7 v8 S H locs ls hI hl h; exact h.elim
  | succ n ih =>
    intro v3 v4 v5 v6 v7 v8 S H locs ls hI hl h
    rw [L_M_cell_49] at h
    refine lv_iload hx hb d_M_cell_49 (lv_at hl 8 rfl) ?_
    refine lv_aload_n hx hb d_M_cell_51 rfl (lv_at hl 0 rfl) ?_
    refine z_getI C hI 31 (by decide) kd_31 cl_M iw_M 2 (by decide) k_fl_M_76 rfl d_M_cell_52 ?_
    refine lv_icmp_ge (tgt := 151) hx hb d_M_cell_55 (by decide) (fun q => ?_) (fun q => ?_)
    · replace h := h.1 q
      exact kK151 v3 v4 v5 v6 v7 S _ _ ls h hI (lv_sub hl [2, 3, 4, 5, 6, 7] rfl)
    · replace h := h.2 q
      refine lv_iconst (v := 0) hx hb d_M_cell_58 (by decide) ?_
      refine lv_istore (lv' := [(9, .int 0), (0, .ref (ad 31)), (1, .int v1), (2, .int v2), (3, .int v3), (4, .int v4), (5, .int v5), (6, .int v6), (7, .int v7), (8, .int v8)]) hx hb d_M_cell_59 hl (by decide) rfl (fun ls hl => ?_)
      obtain ⟨k61, h⟩ := h
      refine w_M_cell_61 C hcs _ _ v1 v2 v8 hR (fun v3_61e v4_61e v5_61e v6_61e v7_61e S61e H locs ls h hI hl => ?_) k61 v3 v4 v5 v6 v7 0 S _ _ ls hI (lv_sub hl [1, 2, 3, 4, 5, 6, 7, 8, 9, 0] rfl) h
      obtain ⟨x145, e145⟩ : ∃ y : Int32, y = v8 + 1 := ⟨_, rfl⟩
      replace h := h x145 e145
      refine lv_iinc (v := x145) (lv' := [(8, .int x145), (0, .ref (ad 31)), (1, .int v1), (2, .int v2), (3, .int v3_61e), (4, .int v4_61e), (5, .int v5_61e), (6, .int v6_61e), (7, .int v7_61e)]) hx hb d_M_cell_145 hl (k := 8) rfl (by rw [e145]; rfl) (by decide) rfl (fun ls hl => ?_)
      refine lv_goto (tgt := 49) hx hb d_M_cell_148 (by decide) ?_
      exact ih v3_61e v4_61e v5_61e v6_61e v7_61e x145 S61e _ _ ls hI (lv_sub hl [1, 2, 3, 4, 5, 6, 7, 8, 0] rfl) h
set_option maxHeartbeats 4000000 in
set_option maxRecDepth 100000 in
theorem c_M_cell (v1 : Int32) (v2 : Int32) (S : zS) (post : Int32 → zS → Prop) (h : P_M_cell v1 v2 S post) : z_cti l D cA 51 ad y_M_cell b_M_cell 10 (some .int) rm_M_cell [.ref (ad 31), .int v1, .int v2] S post := by
  refine z_meti (av := [.ref (ad 31), .int v1, .int v2]) (by decide) (Nat.le_of_ble_eq_true rfl) ⟨rfl, rfl⟩ (fun p e s m args below meth c Q ls C hcs hl hI hR => ?_)
  obtain ⟨hx, hb, hml, hown, hts, hK, hJ⟩ := id C
  unfold P_M_cell at h
  have hl : lv_has ls 10 [(0, .ref (ad 31)), (1, .int v1), (2, .int v2)] := hl
  refine lv_aload_n hx hb d_M_cell_0 rfl (lv_at hl 0 rfl) ?_
  refine lv_aload_n hx hb d_M_cell_1 rfl (lv_at hl 0 rfl) ?_
  refine z_getI C hI 31 (by decide) kd_31 cl_M iw_M 5 (by decide) k_fl_M_94 rfl d_M_cell_2 ?_
  refine lv_iload_n hx hb d_M_cell_5 rfl (lv_at hl 1 rfl) ?_
  refine lv_iconst (v := 0) hx hb d_M_cell_6 (by decide) ?_
  refine lv_aload_n hx hb d_M_cell_7 rfl (lv_at hl 0 rfl) ?_
  refine z_getI C hI 31 (by decide) kd_31 cl_M iw_M 23 (by decide) k_fl_M_137 rfl d_M_cell_8 ?_
  refine lv_iconst (v := 1) hx hb d_M_cell_11 (by decide) ?_
  refine lv_isub hx hb d_M_cell_12 ?_
  refine z_callSi C hI (As := [.int v1, .int 0, .int ((S 31 23) - 1)]) (rest := [.int (S 31 5), .ref (ad 31)]) (c_M_in v1 0 ((S 31 23) - 1) _ _ h) wc_M_in k_ml_M_82 rfl rfl (Nat.le_of_ble_eq_true rfl) (Nat.le_of_ble_eq_true rfl) hcs hl.1 (Nat.le_of_ble_eq_true rfl) rfl d_M_cell_13 (fun r13 S13 H locs h hI => ?_)
  refine lv_iload_n hx hb d_M_cell_16 rfl (lv_at hl 2 rfl) ?_
  refine lv_iconst (v := 0) hx hb d_M_cell_17 (by decide) ?_
  refine lv_iconst (v := 4) hx hb d_M_cell_18 (by decide) ?_
  refine z_callSi C hI (As := [.int v2, .int 0, .int 4]) (rest := [.int r13, .int (S 31 5), .ref (ad 31)]) (c_M_in v2 0 4 _ _ h) wc_M_in k_ml_M_82 rfl rfl (Nat.le_of_ble_eq_true rfl) (Nat.le_of_ble_eq_true rfl) hcs hl.1 (Nat.le_of_ble_eq_true rfl) rfl d_M_cell_19 (fun r19 S19 H locs h hI => ?_)
  refine z_callVi C hI 31 (by decide) kd_31 cl_M (As := [.int (S 31 5), .int r13, .int r19]) (rest := []) (c_M_goes (S 31 5) r13 r19 _ _ h) wc_M_goes k_ml_M_90 rfl rfl (Nat.le_of_ble_eq_true rfl) (Nat.le_of_ble_eq_true rfl) hcs hl.1 (Nat.le_of_ble_eq_true rfl) rfl d_M_cell_22 (fun r22 S22 H locs h hI => ?_)
  refine lv_if_ne (tgt := 30) hx hb d_M_cell_25 (by decide) (fun q => ?_) (fun q => ?_)
  · replace h := h.1 q
    refine lv_bipush (v := 24) hx hb d_M_cell_30 (by decide) ?_
    refine lv_istore_n (lv' := [(3, .int 24), (0, .ref (ad 31)), (1, .int v1), (2, .int v2)]) hx hb d_M_cell_32 rfl hl (by decide) rfl (fun ls hl => ?_)
    refine lv_iconst (v := 0) hx hb d_M_cell_33 (by decide) ?_
    refine lv_istore (lv' := [(4, .int 0), (3, .int 24), (0, .ref (ad 31)), (1, .int v1), (2, .int v2)]) hx hb d_M_cell_34 hl (by decide) rfl (fun ls hl => ?_)
    refine lv_bipush (v := 24) hx hb d_M_cell_36 (by decide) ?_
    refine lv_istore (lv' := [(5, .int 24), (4, .int 0), (3, .int 24), (0, .ref (ad 31)), (1, .int v1), (2, .int v2)]) hx hb d_M_cell_38 hl (by decide) rfl (fun ls hl => ?_)
    refine lv_iconst (v := 0) hx hb d_M_cell_40 (by decide) ?_
    refine lv_istore (lv' := [(6, .int 0), (5, .int 24), (4, .int 0), (3, .int 24), (0, .ref (ad 31)), (1, .int v1), (2, .int v2)]) hx hb d_M_cell_41 hl (by decide) rfl (fun ls hl => ?_)
    refine lv_iconst (v := 0) hx hb d_M_cell_43 (by decide) ?_
    refine lv_istore (lv' := [(7, .int 0), (6, .int 0), (5, .int 24), (4, .int 0), (3, .int 24), (0, .ref (ad 31)), (1, .int v1), (2, .int v2)]) hx hb d_M_cell_44 hl (by decide) rfl (fun ls hl => ?_)
    refine lv_iconst (v := 0) hx hb d_M_cell_46 (by decide) ?_
    refine lv_istore (lv' := [(8, .int 0), (7, .int 0), (6, .int 0), (5, .int 24), (4, .int 0), (3, .int 24), (0, .ref (ad 31)), (1, .int v1), (2, .int v2)]) hx hb d_M_cell_47 hl (by decide) rfl (fun ls hl => ?_)
    obtain ⟨k49, h⟩ := h
    refine w_M_cell_49 C hcs _ _ v1 v2 hR (fun v3_49e v4_49e v5_49e v6_49e v7_49e S49e H locs ls h hI hl => ?_) k49 24 0 24 0 0 0 S22 _ _ ls hI (lv_sub hl [6, 7, 8, 5, 4, 3, 2, 1, 0] rfl) h
    refine lv_iload_n hx hb d_M_cell_151 rfl (lv_at hl 0 rfl) ?_
    refine lv_if_ne (tgt := 159) hx hb d_M_cell_152 (by decide) (fun q => ?_) (fun q => ?_)
    · replace h := h.1 q
      refine lv_iload_n hx hb d_M_cell_159 rfl (lv_at hl 0 rfl) ?_
      refine lv_iconst (v := 1) hx hb d_M_cell_160 (by decide) ?_
      refine lv_icmp_ne (tgt := 169) hx hb d_M_cell_161 (by decide) (fun q => ?_) (fun q => ?_)
      · replace h := h.1 q
        refine lv_iload_n hx hb d_M_cell_169 rfl (lv_at hl 0 rfl) ?_
        refine lv_iconst (v := 2) hx hb d_M_cell_170 (by decide) ?_
        refine lv_icmp_ne (tgt := 183) hx hb d_M_cell_171 (by decide) (fun q => ?_) (fun q => ?_)
        · replace h := h.1 q
          refine lv_iload_n hx hb d_M_cell_183 rfl (lv_at hl 0 rfl) ?_
          refine lv_iconst (v := 3) hx hb d_M_cell_184 (by decide) ?_
          refine lv_icmp_ne (tgt := 198) hx hb d_M_cell_185 (by decide) (fun q => ?_) (fun q => ?_)
          · replace h := h.1 q
            refine lv_iload hx hb d_M_cell_198 (lv_at hl 5 rfl) ?_
            exact hR _ _ hcs v7_49e S49e _ _ 200 ls h hI d_M_cell_200
          · replace h := h.2 q
            refine lv_iload hx hb d_M_cell_188 (lv_at hl 4 rfl) ?_
            refine lv_iload hx hb d_M_cell_190 (lv_at hl 3 rfl) ?_
            refine lv_isub hx hb d_M_cell_192 ?_
            refine lv_iconst (v := 1) hx hb d_M_cell_193 (by decide) ?_
            refine lv_iadd hx hb d_M_cell_194 ?_
            refine lv_goto (tgt := 200) hx hb d_M_cell_195 (by decide) ?_
            exact hR _ _ hcs ((v6_49e - v5_49e) + 1) S49e _ _ 200 ls h hI d_M_cell_200
        · replace h := h.2 q
          refine lv_iload hx hb d_M_cell_174 (lv_at hl 2 rfl) ?_
          refine lv_iload_n hx hb d_M_cell_176 rfl (lv_at hl 1 rfl) ?_
          refine lv_isub hx hb d_M_cell_177 ?_
          refine lv_iconst (v := 1) hx hb d_M_cell_178 (by decide) ?_
          refine lv_iadd hx hb d_M_cell_179 ?_
          refine lv_goto (tgt := 200) hx hb d_M_cell_180 (by decide) ?_
          exact hR _ _ hcs ((v4_49e - v3_49e) + 1) S49e _ _ 200 ls h hI d_M_cell_200
      · replace h := h.2 q
        refine lv_iload hx hb d_M_cell_164 (lv_at hl 3 rfl) ?_
        refine lv_goto (tgt := 200) hx hb d_M_cell_166 (by decide) ?_
        exact hR _ _ hcs v5_49e S49e _ _ 200 ls h hI d_M_cell_200
    · replace h := h.2 q
      refine lv_iload_n hx hb d_M_cell_155 rfl (lv_at hl 1 rfl) ?_
      refine lv_goto (tgt := 200) hx hb d_M_cell_156 (by decide) ?_
      exact hR _ _ hcs v3_49e S49e _ _ 200 ls h hI d_M_cell_200
  · replace h := h.2 q
    refine lv_iconst (v := 0) hx hb d_M_cell_28 (by decide) ?_
    exact hR _ _ hcs 0 S22 _ _ 29 ls h hI d_M_cell_29
set_option maxHeartbeats 4000000 in
set_option maxRecDepth 100000 in
theorem c_M_isSpeck (v1 : Int32) (v2 : Int32) (S : zS) (post : Int32 → zS → Prop) (h : P_M_isSpeck v1 v2 S post) : z_cti l D cA 51 ad y_M_isSpeck b_M_isSpeck 3 (some .boolean) rm_M_isSpeck [.ref (ad 31), .int v1, .int v2] S post := by
  refine z_metz (av := [.ref (ad 31), .int v1, .int v2]) (by decide) (Nat.le_of_ble_eq_true rfl) ⟨rfl, rfl⟩ (fun p e s m args below meth c Q ls C hcs hl hI hR => ?_)
  obtain ⟨hx, hb, hml, hown, hts, hK, hJ⟩ := id C
  unfold P_M_isSpeck at h
  have hl : lv_has ls 3 [(0, .ref (ad 31)), (1, .int v1), (2, .int v2)] := hl
  refine lv_aload_n hx hb d_M_isSpeck_0 rfl (lv_at hl 0 rfl) ?_
  refine lv_aload_n hx hb d_M_isSpeck_1 rfl (lv_at hl 0 rfl) ?_
  refine z_getI C hI 31 (by decide) kd_31 cl_M iw_M 5 (by decide) k_fl_M_94 rfl d_M_isSpeck_2 ?_
  refine lv_aload_n hx hb d_M_isSpeck_5 rfl (lv_at hl 0 rfl) ?_
  refine lv_iload_n hx hb d_M_isSpeck_6 rfl (lv_at hl 1 rfl) ?_
  refine lv_iload_n hx hb d_M_isSpeck_7 rfl (lv_at hl 2 rfl) ?_
  refine z_callVi C hI 31 (by decide) kd_31 cl_M (As := [.int v1, .int v2]) (rest := [.int (S 31 5), .ref (ad 31)]) (c_M_isSample v1 v2 _ _ h) wc_M_isSample k_ml_M_86 rfl rfl (Nat.le_of_ble_eq_true rfl) (Nat.le_of_ble_eq_true rfl) hcs hl.1 (Nat.le_of_ble_eq_true rfl) rfl d_M_isSpeck_8 (fun r8 S8 H locs h hI => ?_)
  refine lv_iconst (v := 1) hx hb d_M_isSpeck_11 (by decide) ?_
  refine z_callVi C hI 31 (by decide) kd_31 cl_M (As := [.int (S 31 5), .int r8, .int 1]) (rest := []) (c_M_goes (S 31 5) r8 1 _ _ h) wc_M_goes k_ml_M_90 rfl rfl (Nat.le_of_ble_eq_true rfl) (Nat.le_of_ble_eq_true rfl) hcs hl.1 (Nat.le_of_ble_eq_true rfl) rfl d_M_isSpeck_12 (fun r12 S12 H locs h hI => ?_)
  refine lv_if_eq (tgt := 36) hx hb d_M_isSpeck_15 (by decide) (fun q => ?_) (fun q => ?_)
  · replace h := h.1 q
    refine lv_iconst (v := 0) hx hb d_M_isSpeck_36 (by decide) ?_
    exact hR _ _ hcs 0 S12 _ _ 37 ls (by decide) h hI d_M_isSpeck_37
  · replace h := h.2 q
    refine lv_aload_n hx hb d_M_isSpeck_18 rfl (lv_at hl 0 rfl) ?_
    refine z_getR C hI 31 (by decide) kd_31 cl_M iw_M 6 (by decide) k_fl_M_17 rfl d_M_isSpeck_19 ?_
    refine lv_bipush (v := 24) hx hb d_M_isSpeck_22 (by decide) ?_
    refine lv_iload_n hx hb d_M_isSpeck_24 rfl (lv_at hl 2 rfl) ?_
    refine lv_imul hx hb d_M_isSpeck_25 ?_
    refine lv_iload_n hx hb d_M_isSpeck_26 rfl (lv_at hl 1 rfl) ?_
    refine lv_iadd hx hb d_M_isSpeck_27 ?_
    obtain ⟨h1, h⟩ := h
    refine z_zld C hI 33 (by decide) kd_33 h1 d_M_isSpeck_28 ?_
    refine lv_if_eq (tgt := 36) hx hb d_M_isSpeck_29 (by decide) (fun q => ?_) (fun q => ?_)
    · replace h := h.1 q
      refine lv_iconst (v := 0) hx hb d_M_isSpeck_36 (by decide) ?_
      exact hR _ _ hcs 0 S12 _ _ 37 ls (by decide) h hI d_M_isSpeck_37
    · replace h := h.2 q
      refine lv_iconst (v := 1) hx hb d_M_isSpeck_32 (by decide) ?_
      refine lv_goto (tgt := 37) hx hb d_M_isSpeck_33 (by decide) ?_
      exact hR _ _ hcs 1 S12 _ _ 37 ls (by decide) h hI d_M_isSpeck_37
set_option maxHeartbeats 4000000 in
set_option maxRecDepth 100000 in
theorem w_M_told_56 (C : z_CT p s m args c R_M b_M_told 6 D cA 51 ad) (hcs : cells ≤ rm_M_told.cells ∧ slots ≤ rm_M_told.slots) (post : Int32 → zS → Prop) (K24 : Int32 → Int32 → Int32 → zS → Prop) (v1 : Int32) (v3 : Int32) (v4 : Int32) (v5 : Int32) (t0 : Int32) (hR : z_Ri p l e rm_M_told s m args below meth c Q b_M_told D cA 51 ad post) (kK24 : ∀ (v2 : Int32) (v3 : Int32) (v5 : Int32) (S : zS) (H : Heap) (locs : List Loc) (ls : Array Slot), K24 v2 v3 v5 S → z_I D cA 51 ad s.heap S H locs → lv_has ls 6 [(0, .ref (ad 31)), (1, .int v1), (2, .int v2), (3, .int v3), (4, .int v4), (5, .int v5)] → W p l e rm_M_told s m args below meth c H locs cells slots Q (F0 m 24 ls [])) (S : zS) (H : Heap) (locs : List Loc) (ls : Array Slot) (hI : z_I D cA 51 ad s.heap S H locs) (hl : lv_has ls 6 [(0, .ref (ad 31)), (1, .int v1), (3, .int v3), (4, .int v4), (5, .int v5)]) (h : J_M_told_56 post K24 v1 v3 v4 v5 t0 S) : W p l e rm_M_told s m args below meth c H locs cells slots Q (F0 m 56 ls [.int t0]) := by
  obtain ⟨hx, hb, hml, hown, hts, hK, hJ⟩ := id C
  unfold J_M_told_56 at h
  refine lv_istore_n (lv' := [(2, .int t0), (0, .ref (ad 31)), (1, .int v1), (3, .int v3), (4, .int v4), (5, .int v5)]) hx hb d_M_told_56 rfl hl (by decide) rfl (fun ls hl => ?_)
  refine lv_aload_n hx hb d_M_told_57 rfl (lv_at hl 1 rfl) ?_
  refine z_getI C hI 31 (by decide) kd_31 cl_M iw_M 5 (by decide) k_fl_M_94 rfl d_M_told_58 ?_
  refine lv_if_eq (tgt := 86) hx hb d_M_told_61 (by decide) (fun q => ?_) (fun q => ?_)
  · replace h := h.1 q
    refine lv_iload_n hx hb d_M_told_86 rfl (lv_at hl 3 rfl) ?_
    refine lv_istore_n (lv' := [(3, .int v3), (2, .int t0), (0, .ref (ad 31)), (1, .int v1), (4, .int v4), (5, .int v5)]) hx hb d_M_told_87 rfl hl (by decide) rfl (fun ls hl => ?_)
    obtain ⟨x88, e88⟩ : ∃ y : Int32, y = v5 + 1 := ⟨_, rfl⟩
    replace h := h x88 e88
    refine lv_iinc (v := x88) (lv' := [(5, .int x88), (3, .int v3), (2, .int t0), (0, .ref (ad 31)), (1, .int v1), (4, .int v4)]) hx hb d_M_told_88 hl (k := 5) rfl (by rw [e88]; rfl) (by decide) rfl (fun ls hl => ?_)
    refine lv_goto (tgt := 24) hx hb d_M_told_91 (by decide) ?_
    exact kK24 t0 v3 x88 S _ _ ls h hI (lv_sub hl [3, 4, 2, 1, 5, 0] rfl)
  · replace h := h.2 q
    refine lv_aload_n hx hb d_M_told_64 rfl (lv_at hl 1 rfl) ?_
    refine z_getR C hI 31 (by decide) kd_31 cl_M iw_M 6 (by decide) k_fl_M_17 rfl d_M_told_65 ?_
    refine lv_bipush (v := 24) hx hb d_M_told_68 (by decide) ?_
    refine lv_iload hx hb d_M_told_70 (lv_at hl 4 rfl) ?_
    refine lv_imul hx hb d_M_told_72 ?_
    refine lv_iload hx hb d_M_told_73 (lv_at hl 5 rfl) ?_
    refine lv_iadd hx hb d_M_told_75 ?_
    obtain ⟨h1, h⟩ := h
    refine z_zld C hI 33 (by decide) kd_33 h1 d_M_told_76 ?_
    refine lv_if_eq (tgt := 86) hx hb d_M_told_77 (by decide) (fun q => ?_) (fun q => ?_)
    · replace h := h.1 q
      refine lv_iload_n hx hb d_M_told_86 rfl (lv_at hl 3 rfl) ?_
      refine lv_istore_n (lv' := [(3, .int v3), (2, .int t0), (0, .ref (ad 31)), (1, .int v1), (4, .int v4), (5, .int v5)]) hx hb d_M_told_87 rfl hl (by decide) rfl (fun ls hl => ?_)
      obtain ⟨x88, e88⟩ : ∃ y : Int32, y = v5 + 1 := ⟨_, rfl⟩
      replace h := h x88 e88
      refine lv_iinc (v := x88) (lv' := [(5, .int x88), (3, .int v3), (2, .int t0), (0, .ref (ad 31)), (1, .int v1), (4, .int v4)]) hx hb d_M_told_88 hl (k := 5) rfl (by rw [e88]; rfl) (by decide) rfl (fun ls hl => ?_)
      refine lv_goto (tgt := 24) hx hb d_M_told_91 (by decide) ?_
      exact kK24 t0 v3 x88 S _ _ ls h hI (lv_sub hl [3, 4, 2, 1, 5, 0] rfl)
    · replace h := h.2 q
      refine lv_iload_n hx hb d_M_told_80 rfl (lv_at hl 3 rfl) ?_
      refine lv_iconst (v := 1) hx hb d_M_told_81 (by decide) ?_
      refine lv_iadd hx hb d_M_told_82 ?_
      refine lv_goto (tgt := 87) hx hb d_M_told_83 (by decide) ?_
      refine lv_topi (fun x87 e87 => ?_)
      replace h := h x87 e87
      refine lv_istore_n (lv' := [(3, .int x87), (2, .int t0), (0, .ref (ad 31)), (1, .int v1), (4, .int v4), (5, .int v5)]) hx hb d_M_told_87 rfl hl (by decide) rfl (fun ls hl => ?_)
      obtain ⟨x88, e88⟩ : ∃ y : Int32, y = v5 + 1 := ⟨_, rfl⟩
      replace h := h x88 e88
      refine lv_iinc (v := x88) (lv' := [(5, .int x88), (3, .int x87), (2, .int t0), (0, .ref (ad 31)), (1, .int v1), (4, .int v4)]) hx hb d_M_told_88 hl (k := 5) rfl (by rw [e88]; rfl) (by decide) rfl (fun ls hl => ?_)
      refine lv_goto (tgt := 24) hx hb d_M_told_91 (by decide) ?_
      exact kK24 t0 x87 x88 S _ _ ls h hI (lv_sub hl [3, 4, 2, 1, 5, 0] rfl)
set_option maxHeartbeats 4000000 in
set_option maxRecDepth 100000 in
theorem w_M_told_24 (C : z_CT p s m args c R_M b_M_told 6 D cA 51 ad) (hcs : cells ≤ rm_M_told.cells ∧ slots ≤ rm_M_told.slots) (post : Int32 → zS → Prop) (K94 : Int32 → Int32 → zS → Prop) (v1 : Int32) (v4 : Int32) (hR : z_Ri p l e rm_M_told s m args below meth c Q b_M_told D cA 51 ad post) (kK94 : ∀ (v2 : Int32) (v3 : Int32) (S : zS) (H : Heap) (locs : List Loc) (ls : Array Slot), K94 v2 v3 S → z_I D cA 51 ad s.heap S H locs → lv_has ls 6 [(0, .ref (ad 31)), (1, .int v1), (2, .int v2), (3, .int v3), (4, .int v4)] → W p l e rm_M_told s m args below meth c H locs cells slots Q (F0 m 94 ls [])) : ∀ (n : Nat) (v2 : Int32) (v3 : Int32) (v5 : Int32) (S : zS) (H : Heap) (locs : List Loc) (ls : Array Slot), z_I D cA 51 ad s.heap S H locs → lv_has ls 6 [(0, .ref (ad 31)), (1, .int v1), (2, .int v2), (3, .int v3), (4, .int v4), (5, .int v5)] → L_M_told_24 post K94 v1 v4 n v2 v3 v5 S → W p l e rm_M_told s m args below meth c H locs cells slots Q (F0 m 24 ls []) := by
  obtain ⟨hx, hb, hml, hown, hts, hK, hJ⟩ := id C
  intro n
  induction n with
  | zero => intro v2 v3 v5 S H locs ls hI hl h; exact h.elim
  | succ n ih =>
    intro v2 v3 v5 S H locs ls hI hl h
    rw [L_M_told_24] at h
    refine lv_iload hx hb d_M_told_24 (lv_at hl 5 rfl) ?_
    refine lv_aload_n hx hb d_M_told_26 rfl (lv_at hl 0 rfl) ?_
    refine z_getI C hI 31 (by decide) kd_31 cl_M iw_M 1 (by decide) k_fl_M_73 rfl d_M_told_27 ?_
    refine lv_icmp_ge (tgt := 94) hx hb d_M_told_30 (by decide) (fun q => ?_) (fun q => ?_)
    · replace h := h.1 q
      exact kK94 v2 v3 S _ _ ls h hI (lv_sub hl [0, 1, 2, 3, 4] rfl)
    · replace h := h.2 q
      refine lv_aload_n hx hb d_M_told_33 rfl (lv_at hl 0 rfl) ?_
      refine z_getR C hI 31 (by decide) kd_31 cl_M iw_M 3 (by decide) k_fl_M_7 rfl d_M_told_34 ?_
      refine lv_bipush (v := 24) hx hb d_M_told_37 (by decide) ?_
      refine lv_iload hx hb d_M_told_39 (lv_at hl 4 rfl) ?_
      refine lv_imul hx hb d_M_told_41 ?_
      refine lv_iload hx hb d_M_told_42 (lv_at hl 5 rfl) ?_
      refine lv_iadd hx hb d_M_told_44 ?_
      obtain ⟨h1, h⟩ := h
      refine z_zld C hI 32 (by decide) kd_32 h1 d_M_told_45 ?_
      refine lv_if_eq (tgt := 55) hx hb d_M_told_46 (by decide) (fun q => ?_) (fun q => ?_)
      · replace h := h.1 q
        refine lv_iload_n hx hb d_M_told_55 rfl (lv_at hl 2 rfl) ?_
        exact w_M_told_56 C hcs _ _ v1 v3 v4 v5 v2 hR (fun v2 v3 v5 S H locs ls h hI hl => ih v2 v3 v5 S H locs ls hI hl h) S _ _ ls hI (lv_sub hl [0, 1, 3, 4, 5] rfl) h
      · replace h := h.2 q
        refine lv_iload_n hx hb d_M_told_49 rfl (lv_at hl 2 rfl) ?_
        refine lv_iconst (v := 1) hx hb d_M_told_50 (by decide) ?_
        refine lv_iadd hx hb d_M_told_51 ?_
        refine lv_goto (tgt := 56) hx hb d_M_told_52 (by decide) ?_
        exact w_M_told_56 C hcs _ _ v1 v3 v4 v5 (v2 + 1) hR (fun v2 v3 v5 S H locs ls h hI hl => ih v2 v3 v5 S H locs ls hI hl h) S _ _ ls hI (lv_sub hl [0, 1, 3, 4, 5] rfl) h
set_option maxHeartbeats 4000000 in
set_option maxRecDepth 100000 in
theorem w_M_told_12 (C : z_CT p s m args c R_M b_M_told 6 D cA 51 ad) (hcs : cells ≤ rm_M_told.cells ∧ slots ≤ rm_M_told.slots) (post : Int32 → zS → Prop) (K100 : Int32 → Int32 → zS → Prop) (v1 : Int32) (hR : z_Ri p l e rm_M_told s m args below meth c Q b_M_told D cA 51 ad post) (kK100 : ∀ (v2 : Int32) (v3 : Int32) (S : zS) (H : Heap) (locs : List Loc) (ls : Array Slot), K100 v2 v3 S → z_I D cA 51 ad s.heap S H locs → lv_has ls 6 [(0, .ref (ad 31)), (1, .int v1), (2, .int v2), (3, .int v3)] → W p l e rm_M_told s m args below meth c H locs cells slots Q (F0 m 100 ls [])) : ∀ (n : Nat) (v2 : Int32) (v3 : Int32) (v4 : Int32) (S : zS) (H : Heap) (locs : List Loc) (ls : Array Slot), z_I D cA 51 ad s.heap S H locs → lv_has ls 6 [(0, .ref (ad 31)), (1, .int v1), (2, .int v2), (3, .int v3), (4, .int v4)] → L_M_told_12 post K100 v1 n v2 v3 v4 S → W p l e rm_M_told s m args below meth c H locs cells slots Q (F0 m 12 ls []) := by
  obtain ⟨hx, hb, hml, hown, hts, hK, hJ⟩ := id C
  intro n
  induction n with
  | zero => intro v2 v3 v4 S H locs ls hI hl h; exact h.elim
  | succ n ih =>
    intro v2 v3 v4 S H locs ls hI hl h
    rw [L_M_told_12] at h
    refine lv_iload hx hb d_M_told_12 (lv_at hl 4 rfl) ?_
    refine lv_aload_n hx hb d_M_told_14 rfl (lv_at hl 0 rfl) ?_
    refine z_getI C hI 31 (by decide) kd_31 cl_M iw_M 2 (by decide) k_fl_M_76 rfl d_M_told_15 ?_
    refine lv_icmp_ge (tgt := 100) hx hb d_M_told_18 (by decide) (fun q => ?_) (fun q => ?_)
    · replace h := h.1 q
      exact kK100 v2 v3 S _ _ ls h hI (lv_sub hl [0, 1, 2, 3] rfl)
    · replace h := h.2 q
      refine lv_iconst (v := 0) hx hb d_M_told_21 (by decide) ?_
      refine lv_istore (lv' := [(5, .int 0), (0, .ref (ad 31)), (1, .int v1), (2, .int v2), (3, .int v3), (4, .int v4)]) hx hb d_M_told_22 hl (by decide) rfl (fun ls hl => ?_)
      obtain ⟨k24, h⟩ := h
      refine w_M_told_24 C hcs _ _ v1 v4 hR (fun v2_24e v3_24e S24e H locs ls h hI hl => ?_) k24 v2 v3 0 S _ _ ls hI (lv_sub hl [1, 2, 3, 4, 5, 0] rfl) h
      obtain ⟨x94, e94⟩ : ∃ y : Int32, y = v4 + 1 := ⟨_, rfl⟩
      replace h := h x94 e94
      refine lv_iinc (v := x94) (lv' := [(4, .int x94), (0, .ref (ad 31)), (1, .int v1), (2, .int v2_24e), (3, .int v3_24e)]) hx hb d_M_told_94 hl (k := 4) rfl (by rw [e94]; rfl) (by decide) rfl (fun ls hl => ?_)
      refine lv_goto (tgt := 12) hx hb d_M_told_97 (by decide) ?_
      exact ih v2_24e v3_24e x94 S24e _ _ ls hI (lv_sub hl [1, 2, 3, 4, 0] rfl) h
set_option maxHeartbeats 4000000 in
set_option maxRecDepth 100000 in
theorem c_M_told (v1 : Int32) (S : zS) (post : Int32 → zS → Prop) (h : P_M_told v1 S post) : z_cti l D cA 51 ad y_M_told b_M_told 6 (some .int) rm_M_told [.ref (ad 31), .int v1] S post := by
  refine z_meti (av := [.ref (ad 31), .int v1]) (by decide) (Nat.le_of_ble_eq_true rfl) ⟨rfl, rfl⟩ (fun p e s m args below meth c Q ls C hcs hl hI hR => ?_)
  obtain ⟨hx, hb, hml, hown, hts, hK, hJ⟩ := id C
  unfold P_M_told at h
  have hl : lv_has ls 6 [(0, .ref (ad 31)), (1, .int v1)] := hl
  refine lv_aload_n hx hb d_M_told_0 rfl (lv_at hl 0 rfl) ?_
  refine lv_iconst (v := 0) hx hb d_M_told_1 (by decide) ?_
  refine z_putI C hI 31 (by decide) kd_31 cl_M iw_M ty_M ty_M_ok n_M 0 (by decide) k_fl_M_79 rfl rfl rfl d_M_told_2 (fun S2 eS H locs hI => ?_)
  replace h := h S2 eS
  refine lv_iconst (v := 0) hx hb d_M_told_5 (by decide) ?_
  refine lv_istore_n (lv' := [(2, .int 0), (0, .ref (ad 31)), (1, .int v1)]) hx hb d_M_told_6 rfl hl (by decide) rfl (fun ls hl => ?_)
  refine lv_iconst (v := 0) hx hb d_M_told_7 (by decide) ?_
  refine lv_istore_n (lv' := [(3, .int 0), (2, .int 0), (0, .ref (ad 31)), (1, .int v1)]) hx hb d_M_told_8 rfl hl (by decide) rfl (fun ls hl => ?_)
  refine lv_iconst (v := 0) hx hb d_M_told_9 (by decide) ?_
  refine lv_istore (lv' := [(4, .int 0), (3, .int 0), (2, .int 0), (0, .ref (ad 31)), (1, .int v1)]) hx hb d_M_told_10 hl (by decide) rfl (fun ls hl => ?_)
  obtain ⟨k12, h⟩ := h
  refine w_M_told_12 C hcs _ _ v1 hR (fun v2_12e v3_12e S12e H locs ls h hI hl => ?_) k12 0 0 0 S2 _ _ ls hI (lv_sub hl [3, 4, 2, 1, 0] rfl) h
  refine lv_iload_n hx hb d_M_told_100 rfl (lv_at hl 1 rfl) ?_
  refine lv_iconst (v := 3) hx hb d_M_told_101 (by decide) ?_
  refine lv_icmp_ge (tgt := 139) hx hb d_M_told_102 (by decide) (fun q => ?_) (fun q => ?_)
  · replace h := h.1 q
    refine lv_aload_n hx hb d_M_told_139 rfl (lv_at hl 0 rfl) ?_
    refine z_getI C hI 31 (by decide) kd_31 cl_M iw_M 5 (by decide) k_fl_M_94 rfl d_M_told_140 ?_
    refine lv_if_ne (tgt := 148) hx hb d_M_told_143 (by decide) (fun q => ?_) (fun q => ?_)
    · replace h := h.1 q
      refine lv_iload_n hx hb d_M_told_148 rfl (lv_at hl 1 rfl) ?_
      refine lv_iconst (v := 3) hx hb d_M_told_149 (by decide) ?_
      refine lv_icmp_ne (tgt := 160) hx hb d_M_told_150 (by decide) (fun q => ?_) (fun q => ?_)
      · replace h := h.1 q
        refine lv_iload_n hx hb d_M_told_160 rfl (lv_at hl 1 rfl) ?_
        refine lv_iconst (v := 4) hx hb d_M_told_161 (by decide) ?_
        refine lv_icmp_ne (tgt := 172) hx hb d_M_told_162 (by decide) (fun q => ?_) (fun q => ?_)
        · replace h := h.1 q
          refine lv_iload_n hx hb d_M_told_172 rfl (lv_at hl 1 rfl) ?_
          refine lv_iconst (v := 5) hx hb d_M_told_173 (by decide) ?_
          refine lv_icmp_ne (tgt := 184) hx hb d_M_told_174 (by decide) (fun q => ?_) (fun q => ?_)
          · replace h := h.1 q
            refine lv_iload_n hx hb d_M_told_184 rfl (lv_at hl 1 rfl) ?_
            refine lv_bipush (v := 6) hx hb d_M_told_185 (by decide) ?_
            refine lv_icmp_ne (tgt := 197) hx hb d_M_told_187 (by decide) (fun q => ?_) (fun q => ?_)
            · replace h := h.1 q
              refine lv_iload_n hx hb d_M_told_197 rfl (lv_at hl 1 rfl) ?_
              refine lv_bipush (v := 7) hx hb d_M_told_198 (by decide) ?_
              refine lv_icmp_ne (tgt := 207) hx hb d_M_told_200 (by decide) (fun q => ?_) (fun q => ?_)
              · replace h := h.1 q
                refine lv_iconst (v := (-1)) hx hb d_M_told_207 (by decide) ?_
                exact hR _ _ hcs (-1) S12e _ _ 208 ls h hI d_M_told_208
              · replace h := h.2 q
                refine lv_iload_n hx hb d_M_told_203 rfl (lv_at hl 3 rfl) ?_
                refine lv_goto (tgt := 208) hx hb d_M_told_204 (by decide) ?_
                exact hR _ _ hcs v3_12e S12e _ _ 208 ls h hI d_M_told_208
            · replace h := h.2 q
              refine lv_aload_n hx hb d_M_told_190 rfl (lv_at hl 0 rfl) ?_
              refine z_getI C hI 31 (by decide) kd_31 cl_M iw_M 23 (by decide) k_fl_M_137 rfl d_M_told_191 ?_
              refine lv_goto (tgt := 208) hx hb d_M_told_194 (by decide) ?_
              exact hR _ _ hcs (S12e 31 23) S12e _ _ 208 ls h hI d_M_told_208
          · replace h := h.2 q
            refine lv_aload_n hx hb d_M_told_177 rfl (lv_at hl 0 rfl) ?_
            refine z_getI C hI 31 (by decide) kd_31 cl_M iw_M 21 (by decide) k_fl_M_134 rfl d_M_told_178 ?_
            refine lv_goto (tgt := 208) hx hb d_M_told_181 (by decide) ?_
            exact hR _ _ hcs (S12e 31 21) S12e _ _ 208 ls h hI d_M_told_208
        · replace h := h.2 q
          refine lv_aload_n hx hb d_M_told_165 rfl (lv_at hl 0 rfl) ?_
          refine z_getI C hI 31 (by decide) kd_31 cl_M iw_M 19 (by decide) k_fl_M_127 rfl d_M_told_166 ?_
          refine lv_goto (tgt := 208) hx hb d_M_told_169 (by decide) ?_
          exact hR _ _ hcs (S12e 31 19) S12e _ _ 208 ls h hI d_M_told_208
      · replace h := h.2 q
        refine lv_aload_n hx hb d_M_told_153 rfl (lv_at hl 0 rfl) ?_
        refine z_getI C hI 31 (by decide) kd_31 cl_M iw_M 12 (by decide) k_fl_M_116 rfl d_M_told_154 ?_
        refine lv_goto (tgt := 208) hx hb d_M_told_157 (by decide) ?_
        exact hR _ _ hcs (S12e 31 12) S12e _ _ 208 ls h hI d_M_told_208
    · replace h := h.2 q
      refine lv_iconst (v := (-1)) hx hb d_M_told_146 (by decide) ?_
      exact hR _ _ hcs (-1) S12e _ _ 147 ls h hI d_M_told_147
  · replace h := h.2 q
    refine lv_iload_n hx hb d_M_told_105 rfl (lv_at hl 1 rfl) ?_
    refine lv_if_ne (tgt := 116) hx hb d_M_told_106 (by decide) (fun q => ?_) (fun q => ?_)
    · replace h := h.1 q
      refine lv_iload_n hx hb d_M_told_116 rfl (lv_at hl 1 rfl) ?_
      refine lv_iconst (v := 1) hx hb d_M_told_117 (by decide) ?_
      refine lv_icmp_ne (tgt := 128) hx hb d_M_told_118 (by decide) (fun q => ?_) (fun q => ?_)
      · replace h := h.1 q
        refine lv_iload_n hx hb d_M_told_128 rfl (lv_at hl 1 rfl) ?_
        refine lv_iconst (v := 2) hx hb d_M_told_129 (by decide) ?_
        refine lv_icmp_ne (tgt := 137) hx hb d_M_told_130 (by decide) (fun q => ?_) (fun q => ?_)
        · replace h := h.1 q
          refine lv_iconst (v := (-1)) hx hb d_M_told_137 (by decide) ?_
          exact hR _ _ hcs (-1) S12e _ _ 138 ls h hI d_M_told_138
        · replace h := h.2 q
          refine lv_iload_n hx hb d_M_told_133 rfl (lv_at hl 2 rfl) ?_
          refine lv_goto (tgt := 138) hx hb d_M_told_134 (by decide) ?_
          exact hR _ _ hcs v2_12e S12e _ _ 138 ls h hI d_M_told_138
      · replace h := h.2 q
        refine lv_aload_n hx hb d_M_told_121 rfl (lv_at hl 0 rfl) ?_
        refine z_getI C hI 31 (by decide) kd_31 cl_M iw_M 2 (by decide) k_fl_M_76 rfl d_M_told_122 ?_
        refine lv_goto (tgt := 138) hx hb d_M_told_125 (by decide) ?_
        exact hR _ _ hcs (S12e 31 2) S12e _ _ 138 ls h hI d_M_told_138
    · replace h := h.2 q
      refine lv_aload_n hx hb d_M_told_109 rfl (lv_at hl 0 rfl) ?_
      refine z_getI C hI 31 (by decide) kd_31 cl_M iw_M 1 (by decide) k_fl_M_73 rfl d_M_told_110 ?_
      refine lv_goto (tgt := 138) hx hb d_M_told_113 (by decide) ?_
      exact hR _ _ hcs (S12e 31 1) S12e _ _ 138 ls h hI d_M_told_138
end ZW
