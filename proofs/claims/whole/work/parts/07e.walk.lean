section ZW
variable {p : Program} {l : Launch} {e : Env} {s : State} {m : MethodId} {args : Array Value} {below : List Frame} {meth : Method} {c : Code} {cells slots : Nat} {Q : State → Prop} {D : va_G} {cA : Nat → ClassId} {n : Nat} {ad : Nat → Nat}
set_option maxHeartbeats 4000000 in
set_option maxRecDepth 100000 in
theorem w_M_fill_103 (C : z_CT p s m args c R_M b_M_fill 9 D cA 51 ad) (hcs : cells ≤ rm_M_fill.cells ∧ slots ≤ rm_M_fill.slots) (post : Int32 → zS → Prop) (K59 : Int32 → Int32 → zS → Prop) (v1 : Int32) (v2 : Int32) (v3 : Int32) (v4 : Int32) (v5 : Int32) (v7 : Int32) (v8 : Int32) (t0 : Int32) (hR : z_Ri p l e rm_M_fill s m args below meth c Q b_M_fill D cA 51 ad post) (kK59 : ∀ (v6 : Int32) (v8 : Int32) (S : zS) (H : Heap) (locs : List Loc) (ls : Array Slot), K59 v6 v8 S → z_I D cA 51 ad s.heap S H locs → lv_has ls 9 [(0, .ref (ad 31)), (1, .int v1), (2, .int v2), (3, .int v3), (4, .int v4), (5, .int v5), (6, .int v6), (7, .int v7), (8, .int v8)] → W p l e rm_M_fill s m args below meth c H locs cells slots Q (F0 m 59 ls [])) (S : zS) (H : Heap) (locs : List Loc) (ls : Array Slot) (hI : z_I D cA 51 ad s.heap S H locs) (hl : lv_has ls 9 [(0, .ref (ad 31)), (1, .int v1), (2, .int v2), (3, .int v3), (4, .int v4), (5, .int v5), (7, .int v7), (8, .int v8)]) (h : J_M_fill_103 post K59 v1 v2 v3 v4 v5 v7 v8 t0 S) : W p l e rm_M_fill s m args below meth c H locs cells slots Q (F0 m 103 ls [.int t0]) := by
  obtain ⟨hx, hb, hml, hown, hts, hK, hJ⟩ := id C
  unfold J_M_fill_103 at h
  refine lv_istore (lv' := [(6, .int t0), (0, .ref (ad 31)), (1, .int v1), (2, .int v2), (3, .int v3), (4, .int v4), (5, .int v5), (7, .int v7), (8, .int v8)]) hx hb d_M_fill_103 hl (by decide) rfl (fun ls hl => ?_)
  refine lv_aload_n hx hb d_M_fill_105 rfl (lv_at hl 1 rfl) ?_
  refine z_getR C hI 31 (by decide) kd_31 cl_M iw_M 3 (by decide) k_fl_M_7 rfl d_M_fill_106 ?_
  refine lv_bipush (v := 24) hx hb d_M_fill_109 (by decide) ?_
  refine lv_iload hx hb d_M_fill_111 (lv_at hl 7 rfl) ?_
  refine lv_imul hx hb d_M_fill_113 ?_
  refine lv_iload hx hb d_M_fill_114 (lv_at hl 8 rfl) ?_
  refine lv_iadd hx hb d_M_fill_116 ?_
  refine lv_iload hx hb d_M_fill_117 (lv_at hl 6 rfl) ?_
  obtain ⟨h1, h⟩ := h
  obtain ⟨h2, h⟩ := h
  refine z_zst C hI 32 (by decide) kd_32 h1 h2 d_M_fill_119 (fun S119 eS H locs hI => ?_)
  replace h := h S119 eS
  obtain ⟨x120, e120⟩ : ∃ y : Int32, y = v8 + 1 := ⟨_, rfl⟩
  replace h := h x120 e120
  refine lv_iinc (v := x120) (lv' := [(8, .int x120), (6, .int t0), (0, .ref (ad 31)), (1, .int v1), (2, .int v2), (3, .int v3), (4, .int v4), (5, .int v5), (7, .int v7)]) hx hb d_M_fill_120 hl (k := 8) rfl (by rw [e120]; rfl) (by decide) rfl (fun ls hl => ?_)
  refine lv_goto (tgt := 59) hx hb d_M_fill_123 (by decide) ?_
  exact kK59 t0 x120 S119 _ _ ls h hI (lv_sub hl [2, 3, 4, 5, 6, 7, 1, 8, 0] rfl)
set_option maxHeartbeats 4000000 in
set_option maxRecDepth 100000 in
theorem w_M_fill_59 (C : z_CT p s m args c R_M b_M_fill 9 D cA 51 ad) (hcs : cells ≤ rm_M_fill.cells ∧ slots ≤ rm_M_fill.slots) (post : Int32 → zS → Prop) (K126 : Int32 → zS → Prop) (v1 : Int32) (v2 : Int32) (v3 : Int32) (v4 : Int32) (v5 : Int32) (v7 : Int32) (hR : z_Ri p l e rm_M_fill s m args below meth c Q b_M_fill D cA 51 ad post) (kK126 : ∀ (v6 : Int32) (S : zS) (H : Heap) (locs : List Loc) (ls : Array Slot), K126 v6 S → z_I D cA 51 ad s.heap S H locs → lv_has ls 9 [(0, .ref (ad 31)), (1, .int v1), (2, .int v2), (3, .int v3), (4, .int v4), (5, .int v5), (6, .int v6), (7, .int v7)] → W p l e rm_M_fill s m args below meth c H locs cells slots Q (F0 m 126 ls [])) : ∀ (n : Nat) (v6 : Int32) (v8 : Int32) (S : zS) (H : Heap) (locs : List Loc) (ls : Array Slot), z_I D cA 51 ad s.heap S H locs → lv_has ls 9 [(0, .ref (ad 31)), (1, .int v1), (2, .int v2), (3, .int v3), (4, .int v4), (5, .int v5), (6, .int v6), (7, .int v7), (8, .int v8)] → L_M_fill_59 post K126 v1 v2 v3 v4 v5 v7 n v6 v8 S → W p l e rm_M_fill s m args below meth c H locs cells slots Q (F0 m 59 ls []) := by
  obtain ⟨hx, hb, hml, hown, hts, hK, hJ⟩ := id C
  intro n
  induction n with
  | zero => intro v6 v8 S H locs ls hI hl h; exact h.elim
  | succ n ih =>
    intro v6 v8 S H locs ls hI hl h
    rw [L_M_fill_59] at h
    refine lv_iload hx hb d_M_fill_59 (lv_at hl 8 rfl) ?_
    refine lv_aload_n hx hb d_M_fill_61 rfl (lv_at hl 0 rfl) ?_
    refine z_getI C hI 31 (by decide) kd_31 cl_M iw_M 1 (by decide) k_fl_M_73 rfl d_M_fill_62 ?_
    refine lv_icmp_ge (tgt := 126) hx hb d_M_fill_65 (by decide) (fun q => ?_) (fun q => ?_)
    · replace h := h.1 q
      exact kK126 v6 S _ _ ls h hI (lv_sub hl [0, 1, 2, 3, 4, 5, 6, 7] rfl)
    · replace h := h.2 q
      refine lv_iload hx hb d_M_fill_68 (lv_at hl 8 rfl) ?_
      refine lv_iload_n hx hb d_M_fill_70 rfl (lv_at hl 1 rfl) ?_
      refine lv_isub hx hb d_M_fill_71 ?_
      refine lv_iload_n hx hb d_M_fill_72 rfl (lv_at hl 3 rfl) ?_
      refine lv_icmp_ge (tgt := 126) hx hb d_M_fill_73 (by decide) (fun q => ?_) (fun q => ?_)
      · replace h := h.1 q
        exact kK126 v6 S _ _ ls h hI (lv_sub hl [0, 1, 2, 3, 4, 5, 6, 7] rfl)
      · replace h := h.2 q
        refine lv_aload_n hx hb d_M_fill_76 rfl (lv_at hl 0 rfl) ?_
        refine z_getR C hI 31 (by decide) kd_31 cl_M iw_M 3 (by decide) k_fl_M_7 rfl d_M_fill_77 ?_
        refine lv_bipush (v := 24) hx hb d_M_fill_80 (by decide) ?_
        refine lv_iload hx hb d_M_fill_82 (lv_at hl 7 rfl) ?_
        refine lv_imul hx hb d_M_fill_84 ?_
        refine lv_iload hx hb d_M_fill_85 (lv_at hl 8 rfl) ?_
        refine lv_iadd hx hb d_M_fill_87 ?_
        obtain ⟨h1, h⟩ := h
        refine z_zld C hI 32 (by decide) kd_32 h1 d_M_fill_88 ?_
        refine lv_iload hx hb d_M_fill_89 (lv_at hl 5 rfl) ?_
        refine lv_icmp_eq (tgt := 101) hx hb d_M_fill_91 (by decide) (fun q => ?_) (fun q => ?_)
        · replace h := h.1 q
          refine lv_iload hx hb d_M_fill_101 (lv_at hl 6 rfl) ?_
          exact w_M_fill_103 C hcs _ _ v1 v2 v3 v4 v5 v7 v8 v6 hR (fun v6 v8 S H locs ls h hI hl => ih v6 v8 S H locs ls hI hl h) S _ _ ls hI (lv_sub hl [0, 1, 2, 3, 4, 5, 7, 8] rfl) h
        · replace h := h.2 q
          refine lv_iload hx hb d_M_fill_94 (lv_at hl 6 rfl) ?_
          refine lv_iconst (v := 1) hx hb d_M_fill_96 (by decide) ?_
          refine lv_iadd hx hb d_M_fill_97 ?_
          refine lv_goto (tgt := 103) hx hb d_M_fill_98 (by decide) ?_
          exact w_M_fill_103 C hcs _ _ v1 v2 v3 v4 v5 v7 v8 (v6 + 1) hR (fun v6 v8 S H locs ls h hI hl => ih v6 v8 S H locs ls hI hl h) S _ _ ls hI (lv_sub hl [0, 1, 2, 3, 4, 5, 7, 8] rfl) h
set_option maxHeartbeats 4000000 in
set_option maxRecDepth 100000 in
theorem w_M_fill_38 (C : z_CT p s m args c R_M b_M_fill 9 D cA 51 ad) (hcs : cells ≤ rm_M_fill.cells ∧ slots ≤ rm_M_fill.slots) (post : Int32 → zS → Prop) (K132 : Int32 → zS → Prop) (v1 : Int32) (v2 : Int32) (v3 : Int32) (v4 : Int32) (v5 : Int32) (hR : z_Ri p l e rm_M_fill s m args below meth c Q b_M_fill D cA 51 ad post) (kK132 : ∀ (v6 : Int32) (S : zS) (H : Heap) (locs : List Loc) (ls : Array Slot), K132 v6 S → z_I D cA 51 ad s.heap S H locs → lv_has ls 9 [(0, .ref (ad 31)), (6, .int v6)] → W p l e rm_M_fill s m args below meth c H locs cells slots Q (F0 m 132 ls [])) : ∀ (n : Nat) (v6 : Int32) (v7 : Int32) (S : zS) (H : Heap) (locs : List Loc) (ls : Array Slot), z_I D cA 51 ad s.heap S H locs → lv_has ls 9 [(0, .ref (ad 31)), (1, .int v1), (2, .int v2), (3, .int v3), (4, .int v4), (5, .int v5), (6, .int v6), (7, .int v7)] → L_M_fill_38 post K132 v1 v2 v3 v4 v5 n v6 v7 S → W p l e rm_M_fill s m args below meth c H locs cells slots Q (F0 m 38 ls []) := by
  obtain ⟨hx, hb, hml, hown, hts, hK, hJ⟩ := id C
  intro n
  induction n with
  | zero => intro v6 v7 S H locs ls hI hl h; exact h.elim
  | succ n ih =>
    intro v6 v7 S H locs ls hI hl h
    rw [L_M_fill_38] at h
    refine lv_iload hx hb d_M_fill_38 (lv_at hl 7 rfl) ?_
    refine lv_aload_n hx hb d_M_fill_40 rfl (lv_at hl 0 rfl) ?_
    refine z_getI C hI 31 (by decide) kd_31 cl_M iw_M 2 (by decide) k_fl_M_76 rfl d_M_fill_41 ?_
    refine lv_icmp_ge (tgt := 132) hx hb d_M_fill_44 (by decide) (fun q => ?_) (fun q => ?_)
    · replace h := h.1 q
      exact kK132 v6 S _ _ ls h hI (lv_sub hl [0, 6] rfl)
    · replace h := h.2 q
      refine lv_iload hx hb d_M_fill_47 (lv_at hl 7 rfl) ?_
      refine lv_iload_n hx hb d_M_fill_49 rfl (lv_at hl 2 rfl) ?_
      refine lv_isub hx hb d_M_fill_50 ?_
      refine lv_iload hx hb d_M_fill_51 (lv_at hl 4 rfl) ?_
      refine lv_icmp_ge (tgt := 132) hx hb d_M_fill_53 (by decide) (fun q => ?_) (fun q => ?_)
      · replace h := h.1 q
        exact kK132 v6 S _ _ ls h hI (lv_sub hl [0, 6] rfl)
      · replace h := h.2 q
        refine lv_iload_n hx hb d_M_fill_56 rfl (lv_at hl 1 rfl) ?_
        refine lv_istore (lv' := [(8, .int v1), (0, .ref (ad 31)), (1, .int v1), (2, .int v2), (3, .int v3), (4, .int v4), (5, .int v5), (6, .int v6), (7, .int v7)]) hx hb d_M_fill_57 hl (by decide) rfl (fun ls hl => ?_)
        obtain ⟨k59, h⟩ := h
        refine w_M_fill_59 C hcs _ _ v1 v2 v3 v4 v5 v7 hR (fun v6_59e S59e H locs ls h hI hl => ?_) k59 v6 v1 S _ _ ls hI (lv_sub hl [1, 2, 3, 4, 5, 6, 7, 8, 0] rfl) h
        obtain ⟨x126, e126⟩ : ∃ y : Int32, y = v7 + 1 := ⟨_, rfl⟩
        replace h := h x126 e126
        refine lv_iinc (v := x126) (lv' := [(7, .int x126), (0, .ref (ad 31)), (1, .int v1), (2, .int v2), (3, .int v3), (4, .int v4), (5, .int v5), (6, .int v6_59e)]) hx hb d_M_fill_126 hl (k := 7) rfl (by rw [e126]; rfl) (by decide) rfl (fun ls hl => ?_)
        refine lv_goto (tgt := 38) hx hb d_M_fill_129 (by decide) ?_
        exact ih v6_59e x126 S59e _ _ ls hI (lv_sub hl [1, 2, 3, 4, 5, 6, 7, 0] rfl) h
set_option maxHeartbeats 4000000 in
set_option maxRecDepth 100000 in
theorem w_M_fill_23 (C : z_CT p s m args c R_M b_M_fill 9 D cA 51 ad) (hcs : cells ≤ rm_M_fill.cells ∧ slots ≤ rm_M_fill.slots) (post : Int32 → zS → Prop) (v1 : Int32) (v2 : Int32) (v3 : Int32) (v4 : Int32) (v5 : Int32) (t0 : Int32) (t1 : Int32) (hR : z_Ri p l e rm_M_fill s m args below meth c Q b_M_fill D cA 51 ad post) (S : zS) (H : Heap) (locs : List Loc) (ls : Array Slot) (hI : z_I D cA 51 ad s.heap S H locs) (hl : lv_has ls 9 [(0, .ref (ad 31)), (1, .int v1), (2, .int v2), (3, .int v3), (4, .int v4), (5, .int v5)]) (h : J_M_fill_23 post v1 v2 v3 v4 v5 t0 t1 S) : W p l e rm_M_fill s m args below meth c H locs cells slots Q (F0 m 23 ls [.int t0, .int t1, .ref (ad 31)]) := by
  obtain ⟨hx, hb, hml, hown, hts, hK, hJ⟩ := id C
  unfold J_M_fill_23 at h
  refine lv_iconst (v := 1) hx hb d_M_fill_23 (by decide) ?_
  refine z_callVi C hI 31 (by decide) kd_31 cl_M (As := [.int t1, .int t0, .int 1]) (rest := []) (c_M_goes t1 t0 1 _ _ h) wc_M_goes k_ml_M_90 rfl rfl (Nat.le_of_ble_eq_true rfl) (Nat.le_of_ble_eq_true rfl) hcs hl.1 (Nat.le_of_ble_eq_true rfl) rfl d_M_fill_24 (fun r24 S24 H locs h hI => ?_)
  refine lv_if_ne (tgt := 32) hx hb d_M_fill_27 (by decide) (fun q => ?_) (fun q => ?_)
  · replace h := h.1 q
    refine lv_iconst (v := 0) hx hb d_M_fill_32 (by decide) ?_
    refine lv_istore (lv' := [(6, .int 0), (0, .ref (ad 31)), (1, .int v1), (2, .int v2), (3, .int v3), (4, .int v4), (5, .int v5)]) hx hb d_M_fill_33 hl (by decide) rfl (fun ls hl => ?_)
    refine lv_iload_n hx hb d_M_fill_35 rfl (lv_at hl 3 rfl) ?_
    refine lv_istore (lv' := [(7, .int v2), (6, .int 0), (0, .ref (ad 31)), (1, .int v1), (2, .int v2), (3, .int v3), (4, .int v4), (5, .int v5)]) hx hb d_M_fill_36 hl (by decide) rfl (fun ls hl => ?_)
    obtain ⟨k38, h⟩ := h
    refine w_M_fill_38 C hcs _ _ v1 v2 v3 v4 v5 hR (fun v6_38e S38e H locs ls h hI hl => ?_) k38 0 v2 S24 _ _ ls hI (lv_sub hl [2, 3, 4, 5, 6, 7, 1, 0] rfl) h
    refine lv_aload_n hx hb d_M_fill_132 rfl (lv_at hl 0 rfl) ?_
    refine lv_iconst (v := 0) hx hb d_M_fill_133 (by decide) ?_
    refine z_putZ C hI 31 (by decide) kd_31 cl_M iw_M ty_M ty_M_ok n_M 5 (by decide) k_fl_M_94 rfl rfl rfl (by decide) d_M_fill_134 (fun S134 eS H locs hI => ?_)
    replace h := h S134 eS
    refine lv_iload hx hb d_M_fill_137 (lv_at hl 1 rfl) ?_
    exact hR _ _ hcs v6_38e S134 _ _ 139 ls h hI d_M_fill_139
  · replace h := h.2 q
    refine lv_iconst (v := 0) hx hb d_M_fill_30 (by decide) ?_
    exact hR _ _ hcs 0 S24 _ _ 31 ls h hI d_M_fill_31
set_option maxHeartbeats 4000000 in
set_option maxRecDepth 100000 in
theorem w_M_fill_22 (C : z_CT p s m args c R_M b_M_fill 9 D cA 51 ad) (hcs : cells ≤ rm_M_fill.cells ∧ slots ≤ rm_M_fill.slots) (post : Int32 → zS → Prop) (v1 : Int32) (v2 : Int32) (v3 : Int32) (v4 : Int32) (v5 : Int32) (t0 : Int32) (hR : z_Ri p l e rm_M_fill s m args below meth c Q b_M_fill D cA 51 ad post) (S : zS) (H : Heap) (locs : List Loc) (ls : Array Slot) (hI : z_I D cA 51 ad s.heap S H locs) (hl : lv_has ls 9 [(0, .ref (ad 31)), (1, .int v1), (2, .int v2), (3, .int v3), (4, .int v4), (5, .int v5)]) (h : J_M_fill_22 post v1 v2 v3 v4 v5 t0 S) : W p l e rm_M_fill s m args below meth c H locs cells slots Q (F0 m 22 ls [.int t0, .ref (ad 31)]) := by
  obtain ⟨hx, hb, hml, hown, hts, hK, hJ⟩ := id C
  unfold J_M_fill_22 at h
  refine lv_iconst (v := 0) hx hb d_M_fill_22 (by decide) ?_
  exact w_M_fill_23 C hcs _ v1 v2 v3 v4 v5 0 t0 hR S _ _ ls hI (lv_sub hl [0, 1, 2, 3, 4, 5] rfl) h
set_option maxHeartbeats 4000000 in
set_option maxRecDepth 100000 in
theorem c_M_fill (v1 : Int32) (v2 : Int32) (v3 : Int32) (v4 : Int32) (v5 : Int32) (S : zS) (post : Int32 → zS → Prop) (h : P_M_fill v1 v2 v3 v4 v5 S post) : z_cti l D cA 51 ad y_M_fill b_M_fill 9 (some .int) rm_M_fill [.ref (ad 31), .int v1, .int v2, .int v3, .int v4, .int v5] S post := by
  refine z_meti (av := [.ref (ad 31), .int v1, .int v2, .int v3, .int v4, .int v5]) (by decide) (Nat.le_of_ble_eq_true rfl) ⟨rfl, rfl⟩ (fun p e s m args below meth c Q ls C hcs hl hI hR => ?_)
  obtain ⟨hx, hb, hml, hown, hts, hK, hJ⟩ := id C
  unfold P_M_fill at h
  have hl : lv_has ls 9 [(0, .ref (ad 31)), (1, .int v1), (2, .int v2), (3, .int v3), (4, .int v4), (5, .int v5)] := hl
  refine lv_aload_n hx hb d_M_fill_0 rfl (lv_at hl 0 rfl) ?_
  refine lv_aload_n hx hb d_M_fill_1 rfl (lv_at hl 0 rfl) ?_
  refine lv_iload_n hx hb d_M_fill_2 rfl (lv_at hl 1 rfl) ?_
  refine lv_iload_n hx hb d_M_fill_3 rfl (lv_at hl 2 rfl) ?_
  refine z_callVi C hI 31 (by decide) kd_31 cl_M (As := [.int v1, .int v2]) (rest := [.ref (ad 31)]) (c_M_isSample v1 v2 _ _ h) wc_M_isSample k_ml_M_86 rfl rfl (Nat.le_of_ble_eq_true rfl) (Nat.le_of_ble_eq_true rfl) hcs hl.1 (Nat.le_of_ble_eq_true rfl) rfl d_M_fill_4 (fun r4 S4 H locs h hI => ?_)
  refine lv_iload_n hx hb d_M_fill_7 rfl (lv_at hl 3 rfl) ?_
  refine lv_iconst (v := 1) hx hb d_M_fill_8 (by decide) ?_
  refine lv_icmp_lt (tgt := 22) hx hb d_M_fill_9 (by decide) (fun q => ?_) (fun q => ?_)
  · replace h := h.1 q
    exact w_M_fill_22 C hcs _ v1 v2 v3 v4 v5 r4 hR S4 _ _ ls hI (lv_sub hl [0, 1, 2, 3, 4, 5] rfl) h
  · replace h := h.2 q
    refine lv_iload hx hb d_M_fill_12 (lv_at hl 4 rfl) ?_
    refine lv_iconst (v := 1) hx hb d_M_fill_14 (by decide) ?_
    refine lv_icmp_lt (tgt := 22) hx hb d_M_fill_15 (by decide) (fun q => ?_) (fun q => ?_)
    · replace h := h.1 q
      exact w_M_fill_22 C hcs _ v1 v2 v3 v4 v5 r4 hR S4 _ _ ls hI (lv_sub hl [0, 1, 2, 3, 4, 5] rfl) h
    · replace h := h.2 q
      refine lv_iconst (v := 1) hx hb d_M_fill_18 (by decide) ?_
      refine lv_goto (tgt := 23) hx hb d_M_fill_19 (by decide) ?_
      exact w_M_fill_23 C hcs _ v1 v2 v3 v4 v5 1 r4 hR S4 _ _ ls hI (lv_sub hl [0, 1, 2, 3, 4, 5] rfl) h
set_option maxHeartbeats 4000000 in
set_option maxRecDepth 100000 in
theorem c_M_noise (v1 : Int32) (S : zS) (post : Int32 → zS → Prop) (h : P_M_noise v1 S post) : z_cti l D cA 51 ad y_M_noise b_M_noise 3 (some .int) rm_M_noise [.ref (ad 31), .int v1] S post := by
  refine z_meti (av := [.ref (ad 31), .int v1]) (by decide) (Nat.le_of_ble_eq_true rfl) ⟨rfl, rfl⟩ (fun p e s m args below meth c Q ls C hcs hl hI hR => ?_)
  obtain ⟨hx, hb, hml, hown, hts, hK, hJ⟩ := id C
  unfold P_M_noise at h
  have hl : lv_has ls 3 [(0, .ref (ad 31)), (1, .int v1)] := hl
  refine lv_aload_n hx hb d_M_noise_0 rfl (lv_at hl 0 rfl) ?_
  refine lv_iload_n hx hb d_M_noise_1 rfl (lv_at hl 1 rfl) ?_
  refine lv_iconst (v := 0) hx hb d_M_noise_2 (by decide) ?_
  refine lv_bipush (v := 100) hx hb d_M_noise_3 (by decide) ?_
  refine z_callSi C hI (As := [.int v1, .int 0, .int 100]) (rest := [.ref (ad 31)]) (c_M_in v1 0 100 _ _ h) wc_M_in k_ml_M_82 rfl rfl (Nat.le_of_ble_eq_true rfl) (Nat.le_of_ble_eq_true rfl) hcs hl.1 (Nat.le_of_ble_eq_true rfl) rfl d_M_noise_5 (fun r5 S5 H locs h hI => ?_)
  refine lv_iconst (v := 1) hx hb d_M_noise_8 (by decide) ?_
  refine lv_iconst (v := 1) hx hb d_M_noise_9 (by decide) ?_
  refine z_callVi C hI 31 (by decide) kd_31 cl_M (As := [.int r5, .int 1, .int 1]) (rest := []) (c_M_goes r5 1 1 _ _ h) wc_M_goes k_ml_M_90 rfl rfl (Nat.le_of_ble_eq_true rfl) (Nat.le_of_ble_eq_true rfl) hcs hl.1 (Nat.le_of_ble_eq_true rfl) rfl d_M_noise_10 (fun r10 S10 H locs h hI => ?_)
  refine lv_if_ne (tgt := 18) hx hb d_M_noise_13 (by decide) (fun q => ?_) (fun q => ?_)
  · replace h := h.1 q
    refine lv_aload_n hx hb d_M_noise_18 rfl (lv_at hl 0 rfl) ?_
    refine z_getI C hI 31 (by decide) kd_31 cl_M iw_M 4 (by decide) k_fl_M_13 rfl d_M_noise_19 ?_
    refine lv_topi (fun x22 e22 => ?_)
    replace h := h x22 e22
    refine lv_istore_n (lv' := [(2, .int x22), (0, .ref (ad 31)), (1, .int v1)]) hx hb d_M_noise_22 rfl hl (by decide) rfl (fun ls hl => ?_)
    refine lv_aload_n hx hb d_M_noise_23 rfl (lv_at hl 1 rfl) ?_
    refine lv_iload_n hx hb d_M_noise_24 rfl (lv_at hl 2 rfl) ?_
    refine z_putI C hI 31 (by decide) kd_31 cl_M iw_M ty_M ty_M_ok n_M 4 (by decide) k_fl_M_13 rfl rfl rfl d_M_noise_25 (fun S25 eS H locs hI => ?_)
    replace h := h S25 eS
    refine lv_aload_n hx hb d_M_noise_28 rfl (lv_at hl 1 rfl) ?_
    refine lv_iconst (v := 0) hx hb d_M_noise_29 (by decide) ?_
    refine z_putZ C hI 31 (by decide) kd_31 cl_M iw_M ty_M ty_M_ok n_M 5 (by decide) k_fl_M_94 rfl rfl rfl (by decide) d_M_noise_30 (fun S30 eS H locs hI => ?_)
    replace h := h S30 eS
    refine lv_iload_n hx hb d_M_noise_33 rfl (lv_at hl 0 rfl) ?_
    exact hR _ _ hcs x22 S30 _ _ 34 ls h hI d_M_noise_34
  · replace h := h.2 q
    refine lv_iconst (v := 0) hx hb d_M_noise_16 (by decide) ?_
    exact hR _ _ hcs 0 S10 _ _ 17 ls h hI d_M_noise_17
set_option maxHeartbeats 4000000 in
set_option maxRecDepth 100000 in
theorem w_M_clear_7 (C : z_CT p s m args c R_M b_M_clear 2 D cA 51 ad) (hcs : cells ≤ rm_M_clear.cells ∧ slots ≤ rm_M_clear.slots) (post : zS → Prop) (K27 : zS → Prop) (hR : z_Rv p l e rm_M_clear s m args below meth c Q b_M_clear D cA 51 ad post) (kK27 : ∀ (S : zS) (H : Heap) (locs : List Loc) (ls : Array Slot), K27 S → z_I D cA 51 ad s.heap S H locs → lv_has ls 2 [(0, .ref (ad 31))] → W p l e rm_M_clear s m args below meth c H locs cells slots Q (F0 m 27 ls [])) : ∀ (n : Nat) (v1 : Int32) (S : zS) (H : Heap) (locs : List Loc) (ls : Array Slot), z_I D cA 51 ad s.heap S H locs → lv_has ls 2 [(0, .ref (ad 31)), (1, .int v1)] → L_M_clear_7 post K27 n v1 S → W p l e rm_M_clear s m args below meth c H locs cells slots Q (F0 m 7 ls []) := by
  obtain ⟨hx, hb, hml, hown, hts, hK, hJ⟩ := id C
  intro n
  induction n with
  | zero => intro v1 S H locs ls hI hl h; exact h.elim
  | succ n ih =>
    intro v1 S H locs ls hI hl h
    rw [L_M_clear_7] at h
    refine lv_iload_n hx hb d_M_clear_7 rfl (lv_at hl 1 rfl) ?_
    refine lv_sipush (v := 576) hx hb d_M_clear_8 (by decide) ?_
    refine lv_icmp_ge (tgt := 27) hx hb d_M_clear_11 (by decide) (fun q => ?_) (fun q => ?_)
    · replace h := h.1 q
      exact kK27 S _ _ ls h hI (lv_sub hl [0] rfl)
    · replace h := h.2 q
      refine lv_aload_n hx hb d_M_clear_14 rfl (lv_at hl 0 rfl) ?_
      refine z_getR C hI 31 (by decide) kd_31 cl_M iw_M 3 (by decide) k_fl_M_7 rfl d_M_clear_15 ?_
      refine lv_iload_n hx hb d_M_clear_18 rfl (lv_at hl 1 rfl) ?_
      refine lv_iconst (v := 0) hx hb d_M_clear_19 (by decide) ?_
      obtain ⟨h1, h⟩ := h
      refine z_zst C hI 32 (by decide) kd_32 h1 (by decide) d_M_clear_20 (fun S20 eS H locs hI => ?_)
      replace h := h S20 eS
      obtain ⟨x21, e21⟩ : ∃ y : Int32, y = v1 + 1 := ⟨_, rfl⟩
      replace h := h x21 e21
      refine lv_iinc (v := x21) (lv' := [(1, .int x21), (0, .ref (ad 31))]) hx hb d_M_clear_21 hl (k := 1) rfl (by rw [e21]; rfl) (by decide) rfl (fun ls hl => ?_)
      refine lv_goto (tgt := 7) hx hb d_M_clear_24 (by decide) ?_
      exact ih x21 S20 _ _ ls hI (lv_sub hl [1, 0] rfl) h
set_option maxHeartbeats 4000000 in
set_option maxRecDepth 100000 in
theorem c_M_clear (S : zS) (post : zS → Prop) (h : P_M_clear S post) : z_ctv l D cA 51 ad y_M_clear b_M_clear 2 none rm_M_clear [.ref (ad 31)] S post := by
  refine z_metv (av := [.ref (ad 31)]) (by decide) (Nat.le_of_ble_eq_true rfl) ⟨rfl, rfl⟩ (fun p e s m args below meth c Q ls C hcs hl hI hR => ?_)
  obtain ⟨hx, hb, hml, hown, hts, hK, hJ⟩ := id C
  unfold P_M_clear at h
  have hl : lv_has ls 2 [(0, .ref (ad 31))] := hl
  refine lv_aload_n hx hb d_M_clear_0 rfl (lv_at hl 0 rfl) ?_
  refine lv_iconst (v := 0) hx hb d_M_clear_1 (by decide) ?_
  refine z_putI C hI 31 (by decide) kd_31 cl_M iw_M ty_M ty_M_ok n_M 0 (by decide) k_fl_M_79 rfl rfl rfl d_M_clear_2 (fun S2 eS H locs hI => ?_)
  replace h := h S2 eS
  refine lv_iconst (v := 0) hx hb d_M_clear_5 (by decide) ?_
  refine lv_istore_n (lv' := [(1, .int 0), (0, .ref (ad 31))]) hx hb d_M_clear_6 rfl hl (by decide) rfl (fun ls hl => ?_)
  obtain ⟨k7, h⟩ := h
  refine w_M_clear_7 C hcs _ _ hR (fun S7e H locs ls h hI hl => ?_) k7 0 S2 _ _ ls hI (lv_sub hl [1, 0] rfl) h
  refine lv_aload_n hx hb d_M_clear_27 rfl (lv_at hl 0 rfl) ?_
  refine lv_iconst (v := 3) hx hb d_M_clear_28 (by decide) ?_
  refine z_putI C hI 31 (by decide) kd_31 cl_M iw_M ty_M ty_M_ok n_M 4 (by decide) k_fl_M_13 rfl rfl rfl d_M_clear_29 (fun S29 eS H locs hI => ?_)
  replace h := h S29 eS
  refine lv_aload_n hx hb d_M_clear_32 rfl (lv_at hl 0 rfl) ?_
  refine lv_iconst (v := 0) hx hb d_M_clear_33 (by decide) ?_
  refine z_putZ C hI 31 (by decide) kd_31 cl_M iw_M ty_M ty_M_ok n_M 5 (by decide) k_fl_M_94 rfl rfl rfl (by decide) d_M_clear_34 (fun S34 eS H locs hI => ?_)
  replace h := h S34 eS
  exact hR _ _ hcs S34 _ _ 37 ls h hI d_M_clear_37
set_option maxHeartbeats 4000000 in
set_option maxRecDepth 100000 in
theorem c_M_is (v1 : Int32) (v2 : Int32) (S : zS) (post : Int32 → zS → Prop) (h : P_M_is v1 v2 S post) : z_cti l D cA 51 ad y_M_is b_M_is 3 (some .boolean) rm_M_is [.ref (ad 31), .int v1, .int v2] S post := by
  refine z_metz (av := [.ref (ad 31), .int v1, .int v2]) (by decide) (Nat.le_of_ble_eq_true rfl) ⟨rfl, rfl⟩ (fun p e s m args below meth c Q ls C hcs hl hI hR => ?_)
  obtain ⟨hx, hb, hml, hown, hts, hK, hJ⟩ := id C
  unfold P_M_is at h
  have hl : lv_has ls 3 [(0, .ref (ad 31)), (1, .int v1), (2, .int v2)] := hl
  refine lv_iload_n hx hb d_M_is_0 rfl (lv_at hl 1 rfl) ?_
  refine lv_if_ne (tgt := 13) hx hb d_M_is_1 (by decide) (fun q => ?_) (fun q => ?_)
  · replace h := h.1 q
    refine lv_iload_n hx hb d_M_is_13 rfl (lv_at hl 1 rfl) ?_
    refine lv_iconst (v := 1) hx hb d_M_is_14 (by decide) ?_
    refine lv_icmp_ne (tgt := 27) hx hb d_M_is_15 (by decide) (fun q => ?_) (fun q => ?_)
    · replace h := h.1 q
      refine lv_aload_n hx hb d_M_is_27 rfl (lv_at hl 0 rfl) ?_
      refine z_getR C hI 31 (by decide) kd_31 cl_M iw_M 7 (by decide) k_fl_M_20 rfl d_M_is_28 ?_
      refine lv_iload_n hx hb d_M_is_31 rfl (lv_at hl 2 rfl) ?_
      obtain ⟨h1, h⟩ := h
      refine z_zld C hI 34 (by decide) kd_34 h1 d_M_is_32 ?_
      refine lv_if_ne (tgt := 40) hx hb d_M_is_33 (by decide) (fun q => ?_) (fun q => ?_)
      · replace h := h.1 q
        refine lv_iconst (v := 0) hx hb d_M_is_40 (by decide) ?_
        exact hR _ _ hcs 0 S _ _ 41 ls (by decide) h hI d_M_is_41
      · replace h := h.2 q
        refine lv_iconst (v := 1) hx hb d_M_is_36 (by decide) ?_
        refine lv_goto (tgt := 41) hx hb d_M_is_37 (by decide) ?_
        exact hR _ _ hcs 1 S _ _ 41 ls (by decide) h hI d_M_is_41
    · replace h := h.2 q
      refine lv_aload_n hx hb d_M_is_18 rfl (lv_at hl 0 rfl) ?_
      refine z_getR C hI 31 (by decide) kd_31 cl_M iw_M 8 (by decide) k_fl_M_23 rfl d_M_is_19 ?_
      refine lv_iload_n hx hb d_M_is_22 rfl (lv_at hl 2 rfl) ?_
      obtain ⟨h1, h⟩ := h
      refine z_zld C hI 35 (by decide) kd_35 h1 d_M_is_23 ?_
      refine lv_goto (tgt := 41) hx hb d_M_is_24 (by decide) ?_
      exact hR _ _ hcs (S 35 (z_ix v2)) S _ _ 41 ls h.1 h.2 hI d_M_is_41
  · replace h := h.2 q
    refine lv_aload_n hx hb d_M_is_4 rfl (lv_at hl 0 rfl) ?_
    refine z_getR C hI 31 (by decide) kd_31 cl_M iw_M 3 (by decide) k_fl_M_7 rfl d_M_is_5 ?_
    refine lv_iload_n hx hb d_M_is_8 rfl (lv_at hl 2 rfl) ?_
    obtain ⟨h1, h⟩ := h
    refine z_zld C hI 32 (by decide) kd_32 h1 d_M_is_9 ?_
    refine lv_goto (tgt := 41) hx hb d_M_is_10 (by decide) ?_
    exact hR _ _ hcs (S 32 (z_ix v2)) S _ _ 41 ls h.1 h.2 hI d_M_is_41
set_option maxHeartbeats 4000000 in
set_option maxRecDepth 100000 in
theorem w_M_settles_60 (C : z_CT p s m args c R_M b_M_settles 10 D cA 51 ad) (hcs : cells ≤ rm_M_settles.cells ∧ slots ≤ rm_M_settles.slots) (post : Int32 → zS → Prop) (K35 : Int32 → Int32 → zS → Prop) (v1 : Int32) (v2 : Int32) (v3 : Int32) (v4 : Int32) (v5 : Int32) (v6 : Int32) (v7 : Int32) (t0 : Int32) (hR : z_Rz p l e rm_M_settles s m args below meth c Q b_M_settles D cA 51 ad post) (kK35 : ∀ (v5 : Int32) (v7 : Int32) (S : zS) (H : Heap) (locs : List Loc) (ls : Array Slot), K35 v5 v7 S → z_I D cA 51 ad s.heap S H locs → lv_has ls 10 [(0, .ref (ad 31)), (1, .int v1), (2, .int v2), (3, .int v3), (4, .int v4), (5, .int v5), (6, .int v6), (7, .int v7)] → W p l e rm_M_settles s m args below meth c H locs cells slots Q (F0 m 35 ls [])) (S : zS) (H : Heap) (locs : List Loc) (ls : Array Slot) (hI : z_I D cA 51 ad s.heap S H locs) (hl : lv_has ls 10 [(0, .ref (ad 31)), (1, .int v1), (2, .int v2), (3, .int v3), (4, .int v4), (5, .int v5), (6, .int v6), (7, .int v7)]) (h : J_M_settles_60 post K35 v1 v2 v3 v4 v5 v6 v7 t0 S) : W p l e rm_M_settles s m args below meth c H locs cells slots Q (F0 m 60 ls [.int t0]) := by
  obtain ⟨hx, hb, hml, hown, hts, hK, hJ⟩ := id C
  unfold J_M_settles_60 at h
  refine lv_istore (lv' := [(8, .int t0), (0, .ref (ad 31)), (1, .int v1), (2, .int v2), (3, .int v3), (4, .int v4), (5, .int v5), (6, .int v6), (7, .int v7)]) hx hb d_M_settles_60 hl (by decide) rfl (fun ls hl => ?_)
  refine lv_iload hx hb d_M_settles_62 (lv_at hl 0 rfl) ?_
  refine lv_if_eq (tgt := 122) hx hb d_M_settles_64 (by decide) (fun q => ?_) (fun q => ?_)
  · replace h := h.1 q
    obtain ⟨x122, e122⟩ : ∃ y : Int32, y = v7 + 1 := ⟨_, rfl⟩
    replace h := h x122 e122
    refine lv_iinc (v := x122) (lv' := [(7, .int x122), (8, .int t0), (0, .ref (ad 31)), (1, .int v1), (2, .int v2), (3, .int v3), (4, .int v4), (5, .int v5), (6, .int v6)]) hx hb d_M_settles_122 hl (k := 8) rfl (by rw [e122]; rfl) (by decide) rfl (fun ls hl => ?_)
    refine lv_goto (tgt := 35) hx hb d_M_settles_125 (by decide) ?_
    exact kK35 v5 x122 S _ _ ls h hI (lv_sub hl [2, 3, 4, 5, 6, 7, 8, 0] rfl)
  · replace h := h.2 q
    refine lv_aload_n hx hb d_M_settles_67 rfl (lv_at hl 1 rfl) ?_
    refine lv_iload_n hx hb d_M_settles_68 rfl (lv_at hl 2 rfl) ?_
    refine lv_iload hx hb d_M_settles_69 (lv_at hl 8 rfl) ?_
    refine lv_iadd hx hb d_M_settles_71 ?_
    refine lv_iload_n hx hb d_M_settles_72 rfl (lv_at hl 3 rfl) ?_
    refine lv_iload hx hb d_M_settles_73 (lv_at hl 7 rfl) ?_
    refine lv_iadd hx hb d_M_settles_75 ?_
    refine z_callVi C hI 31 (by decide) kd_31 cl_M (As := [.int (v1 + v7), .int (v2 + v6)]) (rest := []) (c_M_isSample (v1 + v7) (v2 + v6) _ _ h) wc_M_isSample k_ml_M_86 rfl rfl (Nat.le_of_ble_eq_true rfl) (Nat.le_of_ble_eq_true rfl) hcs hl.1 (Nat.le_of_ble_eq_true rfl) rfl d_M_settles_76 (fun r76 S76 H locs h hI => ?_)
    refine lv_if_eq (tgt := 122) hx hb d_M_settles_79 (by decide) (fun q => ?_) (fun q => ?_)
    · replace h := h.1 q
      obtain ⟨x122, e122⟩ : ∃ y : Int32, y = v7 + 1 := ⟨_, rfl⟩
      replace h := h x122 e122
      refine lv_iinc (v := x122) (lv' := [(7, .int x122), (8, .int t0), (0, .ref (ad 31)), (1, .int v1), (2, .int v2), (3, .int v3), (4, .int v4), (5, .int v5), (6, .int v6)]) hx hb d_M_settles_122 hl (k := 8) rfl (by rw [e122]; rfl) (by decide) rfl (fun ls hl => ?_)
      refine lv_goto (tgt := 35) hx hb d_M_settles_125 (by decide) ?_
      exact kK35 v5 x122 S76 _ _ ls h hI (lv_sub hl [2, 3, 4, 5, 6, 7, 8, 0] rfl)
    · replace h := h.2 q
      refine lv_aload_n hx hb d_M_settles_82 rfl (lv_at hl 1 rfl) ?_
      refine z_getR C hI 31 (by decide) kd_31 cl_M iw_M 10 (by decide) k_fl_M_29 rfl d_M_settles_83 ?_
      refine lv_iload hx hb d_M_settles_86 (lv_at hl 5 rfl) ?_
      refine lv_bipush (v := 24) hx hb d_M_settles_88 (by decide) ?_
      refine lv_iload hx hb d_M_settles_90 (lv_at hl 7 rfl) ?_
      refine lv_imul hx hb d_M_settles_92 ?_
      refine lv_iadd hx hb d_M_settles_93 ?_
      refine lv_iload hx hb d_M_settles_94 (lv_at hl 8 rfl) ?_
      refine lv_iadd hx hb d_M_settles_96 ?_
      obtain ⟨h1, h⟩ := h
      refine z_ild C hI 37 (by decide) kd_37 h1 d_M_settles_97 ?_
      refine lv_topi (fun x98 e98 => ?_)
      replace h := h x98 e98
      refine lv_istore (lv' := [(9, .int x98), (8, .int t0), (0, .ref (ad 31)), (1, .int v1), (2, .int v2), (3, .int v3), (4, .int v4), (5, .int v5), (6, .int v6), (7, .int v7)]) hx hb d_M_settles_98 hl (by decide) rfl (fun ls hl => ?_)
      refine lv_iload hx hb d_M_settles_100 (lv_at hl 0 rfl) ?_
      refine lv_iconst (v := (-1)) hx hb d_M_settles_102 (by decide) ?_
      refine lv_icmp_eq (tgt := 118) hx hb d_M_settles_103 (by decide) (fun q => ?_) (fun q => ?_)
      · replace h := h.1 q
        refine lv_iload hx hb d_M_settles_118 (lv_at hl 7 rfl) ?_
        refine lv_istore (lv' := [(5, .int v5), (9, .int x98), (8, .int t0), (0, .ref (ad 31)), (1, .int v1), (2, .int v2), (3, .int v3), (4, .int v4), (6, .int v6), (7, .int v7)]) hx hb d_M_settles_120 hl (by decide) rfl (fun ls hl => ?_)
        obtain ⟨x122, e122⟩ : ∃ y : Int32, y = v7 + 1 := ⟨_, rfl⟩
        replace h := h x122 e122
        refine lv_iinc (v := x122) (lv' := [(7, .int x122), (5, .int v5), (9, .int x98), (8, .int t0), (0, .ref (ad 31)), (1, .int v1), (2, .int v2), (3, .int v3), (4, .int v4), (6, .int v6)]) hx hb d_M_settles_122 hl (k := 9) rfl (by rw [e122]; rfl) (by decide) rfl (fun ls hl => ?_)
        refine lv_goto (tgt := 35) hx hb d_M_settles_125 (by decide) ?_
        exact kK35 v5 x122 S76 _ _ ls h hI (lv_sub hl [4, 5, 6, 7, 8, 1, 9, 0] rfl)
      · replace h := h.2 q
        refine lv_iload hx hb d_M_settles_106 (lv_at hl 0 rfl) ?_
        refine lv_iload hx hb d_M_settles_108 (lv_at hl 7 rfl) ?_
        refine lv_icmp_ge (tgt := 118) hx hb d_M_settles_110 (by decide) (fun q => ?_) (fun q => ?_)
        · replace h := h.1 q
          refine lv_iload hx hb d_M_settles_118 (lv_at hl 7 rfl) ?_
          refine lv_istore (lv' := [(5, .int v5), (9, .int x98), (8, .int t0), (0, .ref (ad 31)), (1, .int v1), (2, .int v2), (3, .int v3), (4, .int v4), (6, .int v6), (7, .int v7)]) hx hb d_M_settles_120 hl (by decide) rfl (fun ls hl => ?_)
          obtain ⟨x122, e122⟩ : ∃ y : Int32, y = v7 + 1 := ⟨_, rfl⟩
          replace h := h x122 e122
          refine lv_iinc (v := x122) (lv' := [(7, .int x122), (5, .int v5), (9, .int x98), (8, .int t0), (0, .ref (ad 31)), (1, .int v1), (2, .int v2), (3, .int v3), (4, .int v4), (6, .int v6)]) hx hb d_M_settles_122 hl (k := 9) rfl (by rw [e122]; rfl) (by decide) rfl (fun ls hl => ?_)
          refine lv_goto (tgt := 35) hx hb d_M_settles_125 (by decide) ?_
          exact kK35 v5 x122 S76 _ _ ls h hI (lv_sub hl [4, 5, 6, 7, 8, 1, 9, 0] rfl)
        · replace h := h.2 q
          refine lv_iload hx hb d_M_settles_113 (lv_at hl 0 rfl) ?_
          refine lv_goto (tgt := 120) hx hb d_M_settles_115 (by decide) ?_
          refine lv_istore (lv' := [(5, .int x98), (9, .int x98), (8, .int t0), (0, .ref (ad 31)), (1, .int v1), (2, .int v2), (3, .int v3), (4, .int v4), (6, .int v6), (7, .int v7)]) hx hb d_M_settles_120 hl (by decide) rfl (fun ls hl => ?_)
          obtain ⟨x122, e122⟩ : ∃ y : Int32, y = v7 + 1 := ⟨_, rfl⟩
          replace h := h x122 e122
          refine lv_iinc (v := x122) (lv' := [(7, .int x122), (5, .int x98), (9, .int x98), (8, .int t0), (0, .ref (ad 31)), (1, .int v1), (2, .int v2), (3, .int v3), (4, .int v4), (6, .int v6)]) hx hb d_M_settles_122 hl (k := 9) rfl (by rw [e122]; rfl) (by decide) rfl (fun ls hl => ?_)
          refine lv_goto (tgt := 35) hx hb d_M_settles_125 (by decide) ?_
          exact kK35 x98 x122 S76 _ _ ls h hI (lv_sub hl [4, 5, 6, 7, 8, 1, 9, 0] rfl)
set_option maxHeartbeats 4000000 in
set_option maxRecDepth 100000 in
theorem w_M_settles_55 (C : z_CT p s m args c R_M b_M_settles 10 D cA 51 ad) (hcs : cells ≤ rm_M_settles.cells ∧ slots ≤ rm_M_settles.slots) (post : Int32 → zS → Prop) (K35 : Int32 → Int32 → zS → Prop) (v1 : Int32) (v2 : Int32) (v3 : Int32) (v4 : Int32) (v5 : Int32) (v6 : Int32) (v7 : Int32) (hR : z_Rz p l e rm_M_settles s m args below meth c Q b_M_settles D cA 51 ad post) (kK35 : ∀ (v5 : Int32) (v7 : Int32) (S : zS) (H : Heap) (locs : List Loc) (ls : Array Slot), K35 v5 v7 S → z_I D cA 51 ad s.heap S H locs → lv_has ls 10 [(0, .ref (ad 31)), (1, .int v1), (2, .int v2), (3, .int v3), (4, .int v4), (5, .int v5), (6, .int v6), (7, .int v7)] → W p l e rm_M_settles s m args below meth c H locs cells slots Q (F0 m 35 ls [])) (S : zS) (H : Heap) (locs : List Loc) (ls : Array Slot) (hI : z_I D cA 51 ad s.heap S H locs) (hl : lv_has ls 10 [(0, .ref (ad 31)), (1, .int v1), (2, .int v2), (3, .int v3), (4, .int v4), (5, .int v5), (6, .int v6), (7, .int v7)]) (h : J_M_settles_55 post K35 v1 v2 v3 v4 v5 v6 v7 S) : W p l e rm_M_settles s m args below meth c H locs cells slots Q (F0 m 55 ls []) := by
  obtain ⟨hx, hb, hml, hown, hts, hK, hJ⟩ := id C
  unfold J_M_settles_55 at h
  refine lv_iconst (v := 1) hx hb d_M_settles_55 (by decide) ?_
  refine lv_goto (tgt := 60) hx hb d_M_settles_56 (by decide) ?_
  exact w_M_settles_60 C hcs _ _ v1 v2 v3 v4 v5 v6 v7 1 hR kK35 S _ _ ls hI (lv_sub hl [0, 1, 2, 3, 4, 5, 6, 7] rfl) h
set_option maxHeartbeats 4000000 in
set_option maxRecDepth 100000 in
theorem w_M_settles_35 (C : z_CT p s m args c R_M b_M_settles 10 D cA 51 ad) (hcs : cells ≤ rm_M_settles.cells ∧ slots ≤ rm_M_settles.slots) (post : Int32 → zS → Prop) (K128 : Int32 → zS → Prop) (v1 : Int32) (v2 : Int32) (v3 : Int32) (v4 : Int32) (v6 : Int32) (hR : z_Rz p l e rm_M_settles s m args below meth c Q b_M_settles D cA 51 ad post) (kK128 : ∀ (v5 : Int32) (S : zS) (H : Heap) (locs : List Loc) (ls : Array Slot), K128 v5 S → z_I D cA 51 ad s.heap S H locs → lv_has ls 10 [(0, .ref (ad 31)), (1, .int v1), (2, .int v2), (3, .int v3), (4, .int v4), (5, .int v5), (6, .int v6)] → W p l e rm_M_settles s m args below meth c H locs cells slots Q (F0 m 128 ls [])) : ∀ (n : Nat) (v5 : Int32) (v7 : Int32) (S : zS) (H : Heap) (locs : List Loc) (ls : Array Slot), z_I D cA 51 ad s.heap S H locs → lv_has ls 10 [(0, .ref (ad 31)), (1, .int v1), (2, .int v2), (3, .int v3), (4, .int v4), (5, .int v5), (6, .int v6), (7, .int v7)] → L_M_settles_35 post K128 v1 v2 v3 v4 v6 n v5 v7 S → W p l e rm_M_settles s m args below meth c H locs cells slots Q (F0 m 35 ls []) := by
  obtain ⟨hx, hb, hml, hown, hts, hK, hJ⟩ := id C
  intro n
  induction n with
  | zero => intro v5 v7 S H locs ls hI hl h; exact h.elim
  | succ n ih =>
    intro v5 v7 S H locs ls hI hl h
    rw [L_M_settles_35] at h
    refine lv_iload hx hb d_M_settles_35 (lv_at hl 7 rfl) ?_
    refine lv_iconst (v := 1) hx hb d_M_settles_37 (by decide) ?_
    refine lv_icmp_gt (tgt := 128) hx hb d_M_settles_38 (by decide) (fun q => ?_) (fun q => ?_)
    · replace h := h.1 q
      exact kK128 v5 S _ _ ls h hI (lv_sub hl [0, 1, 2, 3, 4, 5, 6] rfl)
    · replace h := h.2 q
      refine lv_iload_n hx hb d_M_settles_41 rfl (lv_at hl 3 rfl) ?_
      refine lv_if_ne (tgt := 55) hx hb d_M_settles_42 (by decide) (fun q => ?_) (fun q => ?_)
      · replace h := h.1 q
        exact w_M_settles_55 C hcs _ _ v1 v2 v3 v4 v5 v6 v7 hR (fun v5 v7 S H locs ls h hI hl => ih v5 v7 S H locs ls hI hl h) S _ _ ls hI (lv_sub hl [0, 1, 2, 3, 4, 5, 6, 7] rfl) h
      · replace h := h.2 q
        refine lv_iload hx hb d_M_settles_45 (lv_at hl 7 rfl) ?_
        refine lv_if_eq (tgt := 55) hx hb d_M_settles_47 (by decide) (fun q => ?_) (fun q => ?_)
        · replace h := h.1 q
          exact w_M_settles_55 C hcs _ _ v1 v2 v3 v4 v5 v6 v7 hR (fun v5 v7 S H locs ls h hI hl => ih v5 v7 S H locs ls hI hl h) S _ _ ls hI (lv_sub hl [0, 1, 2, 3, 4, 5, 6, 7] rfl) h
        · replace h := h.2 q
          refine lv_iload hx hb d_M_settles_50 (lv_at hl 6 rfl) ?_
          refine lv_if_ne (tgt := 59) hx hb d_M_settles_52 (by decide) (fun q => ?_) (fun q => ?_)
          · replace h := h.1 q
            refine lv_iconst (v := 0) hx hb d_M_settles_59 (by decide) ?_
            exact w_M_settles_60 C hcs _ _ v1 v2 v3 v4 v5 v6 v7 0 hR (fun v5 v7 S H locs ls h hI hl => ih v5 v7 S H locs ls hI hl h) S _ _ ls hI (lv_sub hl [0, 1, 2, 3, 4, 5, 6, 7] rfl) h
          · replace h := h.2 q
            exact w_M_settles_55 C hcs _ _ v1 v2 v3 v4 v5 v6 v7 hR (fun v5 v7 S H locs ls h hI hl => ih v5 v7 S H locs ls hI hl h) S _ _ ls hI (lv_sub hl [0, 1, 2, 3, 4, 5, 6, 7] rfl) h
set_option maxHeartbeats 4000000 in
set_option maxRecDepth 100000 in
theorem w_M_settles_20 (C : z_CT p s m args c R_M b_M_settles 10 D cA 51 ad) (hcs : cells ≤ rm_M_settles.cells ∧ slots ≤ rm_M_settles.slots) (post : Int32 → zS → Prop) (K134 : Int32 → zS → Prop) (v1 : Int32) (v2 : Int32) (v3 : Int32) (v4 : Int32) (hR : z_Rz p l e rm_M_settles s m args below meth c Q b_M_settles D cA 51 ad post) (kK134 : ∀ (v5 : Int32) (S : zS) (H : Heap) (locs : List Loc) (ls : Array Slot), K134 v5 S → z_I D cA 51 ad s.heap S H locs → lv_has ls 10 [(0, .ref (ad 31)), (4, .int v4), (5, .int v5)] → W p l e rm_M_settles s m args below meth c H locs cells slots Q (F0 m 134 ls [])) : ∀ (n : Nat) (v5 : Int32) (v6 : Int32) (S : zS) (H : Heap) (locs : List Loc) (ls : Array Slot), z_I D cA 51 ad s.heap S H locs → lv_has ls 10 [(0, .ref (ad 31)), (1, .int v1), (2, .int v2), (3, .int v3), (4, .int v4), (5, .int v5), (6, .int v6)] → L_M_settles_20 post K134 v1 v2 v3 v4 n v5 v6 S → W p l e rm_M_settles s m args below meth c H locs cells slots Q (F0 m 20 ls []) := by
  obtain ⟨hx, hb, hml, hown, hts, hK, hJ⟩ := id C
  intro n
  induction n with
  | zero => intro v5 v6 S H locs ls hI hl h; exact h.elim
  | succ n ih =>
    intro v5 v6 S H locs ls hI hl h
    rw [L_M_settles_20] at h
    refine lv_iload hx hb d_M_settles_20 (lv_at hl 6 rfl) ?_
    refine lv_iconst (v := 1) hx hb d_M_settles_22 (by decide) ?_
    refine lv_icmp_gt (tgt := 134) hx hb d_M_settles_23 (by decide) (fun q => ?_) (fun q => ?_)
    · replace h := h.1 q
      exact kK134 v5 S _ _ ls h hI (lv_sub hl [0, 4, 5] rfl)
    · replace h := h.2 q
      refine lv_iload hx hb d_M_settles_26 (lv_at hl 5 rfl) ?_
      refine lv_iconst (v := (-1)) hx hb d_M_settles_28 (by decide) ?_
      refine lv_icmp_eq (tgt := 134) hx hb d_M_settles_29 (by decide) (fun q => ?_) (fun q => ?_)
      · replace h := h.1 q
        exact kK134 v5 S _ _ ls h hI (lv_sub hl [0, 4, 5] rfl)
      · replace h := h.2 q
        refine lv_iconst (v := (-1)) hx hb d_M_settles_32 (by decide) ?_
        refine lv_istore (lv' := [(7, .int (-1)), (0, .ref (ad 31)), (1, .int v1), (2, .int v2), (3, .int v3), (4, .int v4), (5, .int v5), (6, .int v6)]) hx hb d_M_settles_33 hl (by decide) rfl (fun ls hl => ?_)
        obtain ⟨k35, h⟩ := h
        refine w_M_settles_35 C hcs _ _ v1 v2 v3 v4 v6 hR (fun v5_35e S35e H locs ls h hI hl => ?_) k35 v5 (-1) S _ _ ls hI (lv_sub hl [1, 2, 3, 4, 5, 6, 7, 0] rfl) h
        obtain ⟨x128, e128⟩ : ∃ y : Int32, y = v6 + 1 := ⟨_, rfl⟩
        replace h := h x128 e128
        refine lv_iinc (v := x128) (lv' := [(6, .int x128), (0, .ref (ad 31)), (1, .int v1), (2, .int v2), (3, .int v3), (4, .int v4), (5, .int v5_35e)]) hx hb d_M_settles_128 hl (k := 6) rfl (by rw [e128]; rfl) (by decide) rfl (fun ls hl => ?_)
        refine lv_goto (tgt := 20) hx hb d_M_settles_131 (by decide) ?_
        exact ih v5_35e x128 S35e _ _ ls hI (lv_sub hl [1, 2, 3, 4, 5, 6, 0] rfl) h
set_option maxHeartbeats 4000000 in
set_option maxRecDepth 100000 in
theorem w_M_settles_134 (C : z_CT p s m args c R_M b_M_settles 10 D cA 51 ad) (hcs : cells ≤ rm_M_settles.cells ∧ slots ≤ rm_M_settles.slots) (post : Int32 → zS → Prop) (v4 : Int32) (v5 : Int32) (hR : z_Rz p l e rm_M_settles s m args below meth c Q b_M_settles D cA 51 ad post) (S : zS) (H : Heap) (locs : List Loc) (ls : Array Slot) (hI : z_I D cA 51 ad s.heap S H locs) (hl : lv_has ls 10 [(0, .ref (ad 31)), (4, .int v4), (5, .int v5)]) (h : J_M_settles_134 post v4 v5 S) : W p l e rm_M_settles s m args below meth c H locs cells slots Q (F0 m 134 ls []) := by
  obtain ⟨hx, hb, hml, hown, hts, hK, hJ⟩ := id C
  unfold J_M_settles_134 at h
  refine lv_iload hx hb d_M_settles_134 (lv_at hl 2 rfl) ?_
  refine lv_aload_n hx hb d_M_settles_136 rfl (lv_at hl 0 rfl) ?_
  refine z_getR C hI 31 (by decide) kd_31 cl_M iw_M 10 (by decide) k_fl_M_29 rfl d_M_settles_137 ?_
  refine lv_iload hx hb d_M_settles_140 (lv_at hl 1 rfl) ?_
  obtain ⟨h1, h⟩ := h
  refine z_ild C hI 37 (by decide) kd_37 h1 d_M_settles_142 ?_
  refine lv_icmp_eq (tgt := 150) hx hb d_M_settles_143 (by decide) (fun q => ?_) (fun q => ?_)
  · replace h := h.1 q
    refine lv_iconst (v := 0) hx hb d_M_settles_150 (by decide) ?_
    refine lv_istore (lv' := [(6, .int 0), (0, .ref (ad 31)), (4, .int v4), (5, .int v5)]) hx hb d_M_settles_151 hl (by decide) rfl (fun ls hl => ?_)
    refine lv_aload_n hx hb d_M_settles_153 rfl (lv_at hl 1 rfl) ?_
    refine z_getR C hI 31 (by decide) kd_31 cl_M iw_M 10 (by decide) k_fl_M_29 rfl d_M_settles_154 ?_
    refine lv_iload hx hb d_M_settles_157 (lv_at hl 2 rfl) ?_
    refine lv_iload hx hb d_M_settles_159 (lv_at hl 3 rfl) ?_
    obtain ⟨h1, h⟩ := h
    refine z_ist C hI 37 (by decide) kd_37 h1 d_M_settles_161 (fun S161 eS H locs hI => ?_)
    replace h := h S161 eS
    refine lv_iload hx hb d_M_settles_162 (lv_at hl 0 rfl) ?_
    exact hR _ _ hcs 0 S161 _ _ 164 ls (by decide) h hI d_M_settles_164
  · replace h := h.2 q
    refine lv_iconst (v := 1) hx hb d_M_settles_146 (by decide) ?_
    refine lv_goto (tgt := 151) hx hb d_M_settles_147 (by decide) ?_
    refine lv_istore (lv' := [(6, .int 1), (0, .ref (ad 31)), (4, .int v4), (5, .int v5)]) hx hb d_M_settles_151 hl (by decide) rfl (fun ls hl => ?_)
    refine lv_aload_n hx hb d_M_settles_153 rfl (lv_at hl 1 rfl) ?_
    refine z_getR C hI 31 (by decide) kd_31 cl_M iw_M 10 (by decide) k_fl_M_29 rfl d_M_settles_154 ?_
    refine lv_iload hx hb d_M_settles_157 (lv_at hl 2 rfl) ?_
    refine lv_iload hx hb d_M_settles_159 (lv_at hl 3 rfl) ?_
    obtain ⟨h1, h⟩ := h
    refine z_ist C hI 37 (by decide) kd_37 h1 d_M_settles_161 (fun S161 eS H locs hI => ?_)
    replace h := h S161 eS
    refine lv_iload hx hb d_M_settles_162 (lv_at hl 0 rfl) ?_
    exact hR _ _ hcs 1 S161 _ _ 164 ls (by decide) h hI d_M_settles_164
set_option maxHeartbeats 4000000 in
set_option maxRecDepth 100000 in
theorem c_M_settles (v1 : Int32) (v2 : Int32) (v3 : Int32) (S : zS) (post : Int32 → zS → Prop) (h : P_M_settles v1 v2 v3 S post) : z_cti l D cA 51 ad y_M_settles b_M_settles 10 (some .boolean) rm_M_settles [.ref (ad 31), .int v1, .int v2, .int v3] S post := by
  refine z_metz (av := [.ref (ad 31), .int v1, .int v2, .int v3]) (by decide) (Nat.le_of_ble_eq_true rfl) ⟨rfl, rfl⟩ (fun p e s m args below meth c Q ls C hcs hl hI hR => ?_)
  obtain ⟨hx, hb, hml, hown, hts, hK, hJ⟩ := id C
  unfold P_M_settles at h
  have hl : lv_has ls 10 [(0, .ref (ad 31)), (1, .int v1), (2, .int v2), (3, .int v3)] := hl
  refine lv_bipush (v := 24) hx hb d_M_settles_0 (by decide) ?_
  refine lv_iload_n hx hb d_M_settles_2 rfl (lv_at hl 2 rfl) ?_
  refine lv_imul hx hb d_M_settles_3 ?_
  refine lv_iload_n hx hb d_M_settles_4 rfl (lv_at hl 1 rfl) ?_
  refine lv_iadd hx hb d_M_settles_5 ?_
  refine lv_topi (fun x6 e6 => ?_)
  replace h := h x6 e6
  refine lv_istore (lv' := [(4, .int x6), (0, .ref (ad 31)), (1, .int v1), (2, .int v2), (3, .int v3)]) hx hb d_M_settles_6 hl (by decide) rfl (fun ls hl => ?_)
  refine lv_aload_n hx hb d_M_settles_8 rfl (lv_at hl 1 rfl) ?_
  refine z_getR C hI 31 (by decide) kd_31 cl_M iw_M 10 (by decide) k_fl_M_29 rfl d_M_settles_9 ?_
  refine lv_iload hx hb d_M_settles_12 (lv_at hl 0 rfl) ?_
  obtain ⟨h1, h⟩ := h
  refine z_ild C hI 37 (by decide) kd_37 h1 d_M_settles_14 ?_
  refine lv_topi (fun x15 e15 => ?_)
  replace h := h x15 e15
  refine lv_istore (lv' := [(5, .int x15), (4, .int x6), (0, .ref (ad 31)), (1, .int v1), (2, .int v2), (3, .int v3)]) hx hb d_M_settles_15 hl (by decide) rfl (fun ls hl => ?_)
  refine lv_iconst (v := (-1)) hx hb d_M_settles_17 (by decide) ?_
  refine lv_istore (lv' := [(6, .int (-1)), (5, .int x15), (4, .int x6), (0, .ref (ad 31)), (1, .int v1), (2, .int v2), (3, .int v3)]) hx hb d_M_settles_18 hl (by decide) rfl (fun ls hl => ?_)
  obtain ⟨k20, h⟩ := h
  refine w_M_settles_20 C hcs _ _ v1 v2 v3 x6 hR (fun v5_20e S20e H locs ls h hI hl => ?_) k20 x15 (-1) S _ _ ls hI (lv_sub hl [3, 4, 5, 6, 2, 1, 0] rfl) h
  exact w_M_settles_134 C hcs _ x6 v5_20e hR S20e _ _ ls hI (lv_sub hl [0, 1, 2] rfl) h
set_option maxHeartbeats 4000000 in
set_option maxRecDepth 100000 in
theorem w_M_group_13 (C : z_CT p s m args c R_M b_M_group 7 D cA 51 ad) (hcs : cells ≤ rm_M_group.cells ∧ slots ≤ rm_M_group.slots) (post : zS → Prop) (K66 : zS → Prop) (v1 : Int32) (v2 : Int32) (v3 : Int32) (hR : z_Rv p l e rm_M_group s m args below meth c Q b_M_group D cA 51 ad post) (kK66 : ∀ (S : zS) (H : Heap) (locs : List Loc) (ls : Array Slot), K66 S → z_I D cA 51 ad s.heap S H locs → lv_has ls 7 [(0, .ref (ad 31)), (1, .int v1), (2, .int v2), (3, .int v3)] → W p l e rm_M_group s m args below meth c H locs cells slots Q (F0 m 66 ls [])) : ∀ (n : Nat) (v4 : Int32) (S : zS) (H : Heap) (locs : List Loc) (ls : Array Slot), z_I D cA 51 ad s.heap S H locs → lv_has ls 7 [(0, .ref (ad 31)), (1, .int v1), (2, .int v2), (3, .int v3), (4, .int v4)] → L_M_group_13 post K66 v1 v2 v3 n v4 S → W p l e rm_M_group s m args below meth c H locs cells slots Q (F0 m 13 ls []) := by
  obtain ⟨hx, hb, hml, hown, hts, hK, hJ⟩ := id C
  intro n
  induction n with
  | zero => intro v4 S H locs ls hI hl h; exact h.elim
  | succ n ih =>
    intro v4 S H locs ls hI hl h
    rw [L_M_group_13] at h
    refine lv_iload hx hb d_M_group_13 (lv_at hl 4 rfl) ?_
    refine lv_aload_n hx hb d_M_group_15 rfl (lv_at hl 0 rfl) ?_
    refine z_getI C hI 31 (by decide) kd_31 cl_M iw_M 1 (by decide) k_fl_M_73 rfl d_M_group_16 ?_
    refine lv_icmp_ge (tgt := 66) hx hb d_M_group_19 (by decide) (fun q => ?_) (fun q => ?_)
    · replace h := h.1 q
      exact kK66 S _ _ ls h hI (lv_sub hl [0, 1, 2, 3] rfl)
    · replace h := h.2 q
      refine lv_aload_n hx hb d_M_group_22 rfl (lv_at hl 0 rfl) ?_
      refine z_getR C hI 31 (by decide) kd_31 cl_M iw_M 10 (by decide) k_fl_M_29 rfl d_M_group_23 ?_
      refine lv_bipush (v := 24) hx hb d_M_group_26 (by decide) ?_
      refine lv_iload_n hx hb d_M_group_28 rfl (lv_at hl 3 rfl) ?_
      refine lv_imul hx hb d_M_group_29 ?_
      refine lv_iload hx hb d_M_group_30 (lv_at hl 4 rfl) ?_
      refine lv_iadd hx hb d_M_group_32 ?_
      refine lv_aload_n hx hb d_M_group_33 rfl (lv_at hl 0 rfl) ?_
      refine lv_iload_n hx hb d_M_group_34 rfl (lv_at hl 1 rfl) ?_
      refine lv_bipush (v := 24) hx hb d_M_group_35 (by decide) ?_
      refine lv_iload_n hx hb d_M_group_37 rfl (lv_at hl 3 rfl) ?_
      refine lv_imul hx hb d_M_group_38 ?_
      refine lv_iload hx hb d_M_group_39 (lv_at hl 4 rfl) ?_
      refine lv_iadd hx hb d_M_group_41 ?_
      refine z_callVi C hI 31 (by decide) kd_31 cl_M (As := [.int v1, .int ((24 * v3) + v4)]) (rest := [.int ((24 * v3) + v4), .ref (ad 37)]) (c_M_is v1 ((24 * v3) + v4) _ _ h) wc_M_is k_ml_M_98 rfl rfl (Nat.le_of_ble_eq_true rfl) (Nat.le_of_ble_eq_true rfl) hcs hl.1 (Nat.le_of_ble_eq_true rfl) rfl d_M_group_42 (fun r42 S42 H locs h hI => ?_)
      refine lv_if_eq (tgt := 58) hx hb d_M_group_45 (by decide) (fun q => ?_) (fun q => ?_)
      · replace h := h.1 q
        refine lv_iconst (v := (-1)) hx hb d_M_group_58 (by decide) ?_
        obtain ⟨h1, h⟩ := h
        refine z_ist C hI 37 (by decide) kd_37 h1 d_M_group_59 (fun S59 eS H locs hI => ?_)
        replace h := h S59 eS
        obtain ⟨x60, e60⟩ : ∃ y : Int32, y = v4 + 1 := ⟨_, rfl⟩
        replace h := h x60 e60
        refine lv_iinc (v := x60) (lv' := [(4, .int x60), (0, .ref (ad 31)), (1, .int v1), (2, .int v2), (3, .int v3)]) hx hb d_M_group_60 hl (k := 4) rfl (by rw [e60]; rfl) (by decide) rfl (fun ls hl => ?_)
        refine lv_goto (tgt := 13) hx hb d_M_group_63 (by decide) ?_
        exact ih x60 S59 _ _ ls hI (lv_sub hl [1, 2, 3, 4, 0] rfl) h
      · replace h := h.2 q
        refine lv_bipush (v := 24) hx hb d_M_group_48 (by decide) ?_
        refine lv_iload_n hx hb d_M_group_50 rfl (lv_at hl 3 rfl) ?_
        refine lv_imul hx hb d_M_group_51 ?_
        refine lv_iload hx hb d_M_group_52 (lv_at hl 4 rfl) ?_
        refine lv_iadd hx hb d_M_group_54 ?_
        refine lv_goto (tgt := 59) hx hb d_M_group_55 (by decide) ?_
        obtain ⟨h1, h⟩ := h
        refine z_ist C hI 37 (by decide) kd_37 h1 d_M_group_59 (fun S59 eS H locs hI => ?_)
        replace h := h S59 eS
        obtain ⟨x60, e60⟩ : ∃ y : Int32, y = v4 + 1 := ⟨_, rfl⟩
        replace h := h x60 e60
        refine lv_iinc (v := x60) (lv' := [(4, .int x60), (0, .ref (ad 31)), (1, .int v1), (2, .int v2), (3, .int v3)]) hx hb d_M_group_60 hl (k := 4) rfl (by rw [e60]; rfl) (by decide) rfl (fun ls hl => ?_)
        refine lv_goto (tgt := 13) hx hb d_M_group_63 (by decide) ?_
        exact ih x60 S59 _ _ ls hI (lv_sub hl [1, 2, 3, 4, 0] rfl) h
set_option maxHeartbeats 4000000 in
set_option maxRecDepth 100000 in
theorem w_M_group_2 (C : z_CT p s m args c R_M b_M_group 7 D cA 51 ad) (hcs : cells ≤ rm_M_group.cells ∧ slots ≤ rm_M_group.slots) (post : zS → Prop) (K72 : zS → Prop) (v1 : Int32) (v2 : Int32) (hR : z_Rv p l e rm_M_group s m args below meth c Q b_M_group D cA 51 ad post) (kK72 : ∀ (S : zS) (H : Heap) (locs : List Loc) (ls : Array Slot), K72 S → z_I D cA 51 ad s.heap S H locs → lv_has ls 7 [(0, .ref (ad 31)), (2, .int v2)] → W p l e rm_M_group s m args below meth c H locs cells slots Q (F0 m 72 ls [])) : ∀ (n : Nat) (v3 : Int32) (S : zS) (H : Heap) (locs : List Loc) (ls : Array Slot), z_I D cA 51 ad s.heap S H locs → lv_has ls 7 [(0, .ref (ad 31)), (1, .int v1), (2, .int v2), (3, .int v3)] → L_M_group_2 post K72 v1 v2 n v3 S → W p l e rm_M_group s m args below meth c H locs cells slots Q (F0 m 2 ls []) := by
  obtain ⟨hx, hb, hml, hown, hts, hK, hJ⟩ := id C
  intro n
  induction n with
  | zero => intro v3 S H locs ls hI hl h; exact h.elim
  | succ n ih =>
    intro v3 S H locs ls hI hl h
    rw [L_M_group_2] at h
    refine lv_iload_n hx hb d_M_group_2 rfl (lv_at hl 3 rfl) ?_
    refine lv_aload_n hx hb d_M_group_3 rfl (lv_at hl 0 rfl) ?_
    refine z_getI C hI 31 (by decide) kd_31 cl_M iw_M 2 (by decide) k_fl_M_76 rfl d_M_group_4 ?_
    refine lv_icmp_ge (tgt := 72) hx hb d_M_group_7 (by decide) (fun q => ?_) (fun q => ?_)
    · replace h := h.1 q
      exact kK72 S _ _ ls h hI (lv_sub hl [0, 2] rfl)
    · replace h := h.2 q
      refine lv_iconst (v := 0) hx hb d_M_group_10 (by decide) ?_
      refine lv_istore (lv' := [(4, .int 0), (0, .ref (ad 31)), (1, .int v1), (2, .int v2), (3, .int v3)]) hx hb d_M_group_11 hl (by decide) rfl (fun ls hl => ?_)
      obtain ⟨k13, h⟩ := h
      refine w_M_group_13 C hcs _ _ v1 v2 v3 hR (fun S13e H locs ls h hI hl => ?_) k13 0 S _ _ ls hI (lv_sub hl [1, 2, 3, 4, 0] rfl) h
      obtain ⟨x66, e66⟩ : ∃ y : Int32, y = v3 + 1 := ⟨_, rfl⟩
      replace h := h x66 e66
      refine lv_iinc (v := x66) (lv' := [(3, .int x66), (0, .ref (ad 31)), (1, .int v1), (2, .int v2)]) hx hb d_M_group_66 hl (k := 3) rfl (by rw [e66]; rfl) (by decide) rfl (fun ls hl => ?_)
      refine lv_goto (tgt := 2) hx hb d_M_group_69 (by decide) ?_
      exact ih x66 S13e _ _ ls hI (lv_sub hl [1, 2, 3, 0] rfl) h
set_option maxHeartbeats 4000000 in
set_option maxRecDepth 100000 in
theorem w_M_group_152 (C : z_CT p s m args c R_M b_M_group 7 D cA 51 ad) (hcs : cells ≤ rm_M_group.cells ∧ slots ≤ rm_M_group.slots) (post : zS → Prop) (K86 : Int32 → Int32 → zS → Prop) (v2 : Int32) (v4 : Int32) (v5 : Int32) (hR : z_Rv p l e rm_M_group s m args below meth c Q b_M_group D cA 51 ad post) (kK86 : ∀ (v3 : Int32) (v5 : Int32) (S : zS) (H : Heap) (locs : List Loc) (ls : Array Slot), K86 v3 v5 S → z_I D cA 51 ad s.heap S H locs → lv_has ls 7 [(0, .ref (ad 31)), (2, .int v2), (3, .int v3), (4, .int v4), (5, .int v5)] → W p l e rm_M_group s m args below meth c H locs cells slots Q (F0 m 86 ls [])) (S : zS) (H : Heap) (locs : List Loc) (ls : Array Slot) (hI : z_I D cA 51 ad s.heap S H locs) (hl : lv_has ls 7 [(0, .ref (ad 31)), (2, .int v2), (4, .int v4), (5, .int v5)]) (h : J_M_group_152 post K86 v2 v4 v5 S) : W p l e rm_M_group s m args below meth c H locs cells slots Q (F0 m 152 ls []) := by
  obtain ⟨hx, hb, hml, hown, hts, hK, hJ⟩ := id C
  unfold J_M_group_152 at h
  refine lv_iconst (v := 1) hx hb d_M_group_152 (by decide) ?_
  refine lv_goto (tgt := 157) hx hb d_M_group_153 (by decide) ?_
  refine lv_istore_n (lv' := [(3, .int 1), (0, .ref (ad 31)), (2, .int v2), (4, .int v4), (5, .int v5)]) hx hb d_M_group_157 rfl hl (by decide) rfl (fun ls hl => ?_)
  obtain ⟨x158, e158⟩ : ∃ y : Int32, y = v5 + 1 := ⟨_, rfl⟩
  replace h := h x158 e158
  refine lv_iinc (v := x158) (lv' := [(5, .int x158), (3, .int 1), (0, .ref (ad 31)), (2, .int v2), (4, .int v4)]) hx hb d_M_group_158 hl (k := 4) rfl (by rw [e158]; rfl) (by decide) rfl (fun ls hl => ?_)
  refine lv_goto (tgt := 86) hx hb d_M_group_161 (by decide) ?_
  exact kK86 1 x158 S _ _ ls h hI (lv_sub hl [2, 3, 1, 4, 0] rfl)
set_option maxHeartbeats 4000000 in
set_option maxRecDepth 100000 in
theorem w_M_group_124 (C : z_CT p s m args c R_M b_M_group 7 D cA 51 ad) (hcs : cells ≤ rm_M_group.cells ∧ slots ≤ rm_M_group.slots) (post : zS → Prop) (K86 : Int32 → Int32 → zS → Prop) (v2 : Int32) (v3 : Int32) (v4 : Int32) (v5 : Int32) (t0 : Int32) (hR : z_Rv p l e rm_M_group s m args below meth c Q b_M_group D cA 51 ad post) (kK86 : ∀ (v3 : Int32) (v5 : Int32) (S : zS) (H : Heap) (locs : List Loc) (ls : Array Slot), K86 v3 v5 S → z_I D cA 51 ad s.heap S H locs → lv_has ls 7 [(0, .ref (ad 31)), (2, .int v2), (3, .int v3), (4, .int v4), (5, .int v5)] → W p l e rm_M_group s m args below meth c H locs cells slots Q (F0 m 86 ls [])) (S : zS) (H : Heap) (locs : List Loc) (ls : Array Slot) (hI : z_I D cA 51 ad s.heap S H locs) (hl : lv_has ls 7 [(0, .ref (ad 31)), (2, .int v2), (3, .int v3), (4, .int v4), (5, .int v5)]) (h : J_M_group_124 post K86 v2 v3 v4 v5 t0 S) : W p l e rm_M_group s m args below meth c H locs cells slots Q (F0 m 124 ls [.int t0]) := by
  obtain ⟨hx, hb, hml, hown, hts, hK, hJ⟩ := id C
  unfold J_M_group_124 at h
  refine lv_istore (lv' := [(6, .int t0), (0, .ref (ad 31)), (2, .int v2), (3, .int v3), (4, .int v4), (5, .int v5)]) hx hb d_M_group_124 hl (by decide) rfl (fun ls hl => ?_)
  refine lv_aload_n hx hb d_M_group_126 rfl (lv_at hl 1 rfl) ?_
  refine lv_iload hx hb d_M_group_127 (lv_at hl 0 rfl) ?_
  refine lv_aload_n hx hb d_M_group_129 rfl (lv_at hl 1 rfl) ?_
  refine z_getI C hI 31 (by decide) kd_31 cl_M iw_M 1 (by decide) k_fl_M_73 rfl d_M_group_130 ?_
  obtain ⟨h1, h⟩ := h
  refine lv_irem hx hb d_M_group_133 h1 ?_
  refine lv_iload hx hb d_M_group_134 (lv_at hl 0 rfl) ?_
  refine lv_aload_n hx hb d_M_group_136 rfl (lv_at hl 1 rfl) ?_
  refine z_getI C hI 31 (by decide) kd_31 cl_M iw_M 1 (by decide) k_fl_M_73 rfl d_M_group_137 ?_
  obtain ⟨h1, h⟩ := h
  refine lv_idiv hx hb d_M_group_140 h1 ?_
  refine lv_iload_n hx hb d_M_group_141 rfl (lv_at hl 2 rfl) ?_
  refine z_callVi C hI 31 (by decide) kd_31 cl_M (As := [.int (t0 - t0 / (S 31 1) * (S 31 1)), .int (t0 / (S 31 1)), .int v2]) (rest := []) (c_M_settles (t0 - t0 / (S 31 1) * (S 31 1)) (t0 / (S 31 1)) v2 _ _ h) wc_M_settles k_ml_M_101 rfl rfl (Nat.le_of_ble_eq_true rfl) (Nat.le_of_ble_eq_true rfl) hcs hl.1 (Nat.le_of_ble_eq_true rfl) rfl d_M_group_142 (fun r142 S142 H locs h hI => ?_)
  refine lv_if_ne (tgt := 152) hx hb d_M_group_145 (by decide) (fun q => ?_) (fun q => ?_)
  · replace h := h.1 q
    exact w_M_group_152 C hcs _ _ v2 v4 v5 hR kK86 S142 _ _ ls hI (lv_sub hl [1, 2, 4, 5] rfl) h
  · replace h := h.2 q
    refine lv_iload_n hx hb d_M_group_148 rfl (lv_at hl 3 rfl) ?_
    refine lv_if_eq (tgt := 156) hx hb d_M_group_149 (by decide) (fun q => ?_) (fun q => ?_)
    · replace h := h.1 q
      refine lv_iconst (v := 0) hx hb d_M_group_156 (by decide) ?_
      refine lv_istore_n (lv' := [(3, .int 0), (6, .int t0), (0, .ref (ad 31)), (2, .int v2), (4, .int v4), (5, .int v5)]) hx hb d_M_group_157 rfl hl (by decide) rfl (fun ls hl => ?_)
      obtain ⟨x158, e158⟩ : ∃ y : Int32, y = v5 + 1 := ⟨_, rfl⟩
      replace h := h x158 e158
      refine lv_iinc (v := x158) (lv' := [(5, .int x158), (3, .int 0), (6, .int t0), (0, .ref (ad 31)), (2, .int v2), (4, .int v4)]) hx hb d_M_group_158 hl (k := 5) rfl (by rw [e158]; rfl) (by decide) rfl (fun ls hl => ?_)
      refine lv_goto (tgt := 86) hx hb d_M_group_161 (by decide) ?_
      exact kK86 0 x158 S142 _ _ ls h hI (lv_sub hl [3, 4, 1, 5, 0] rfl)
    · replace h := h.2 q
      exact w_M_group_152 C hcs _ _ v2 v4 v5 hR kK86 S142 _ _ ls hI (lv_sub hl [1, 2, 4, 5] rfl) h
set_option maxHeartbeats 4000000 in
set_option maxRecDepth 100000 in
theorem w_M_group_86 (C : z_CT p s m args c R_M b_M_group 7 D cA 51 ad) (hcs : cells ≤ rm_M_group.cells ∧ slots ≤ rm_M_group.slots) (post : zS → Prop) (K164 : Int32 → zS → Prop) (v2 : Int32) (v4 : Int32) (hR : z_Rv p l e rm_M_group s m args below meth c Q b_M_group D cA 51 ad post) (kK164 : ∀ (v3 : Int32) (S : zS) (H : Heap) (locs : List Loc) (ls : Array Slot), K164 v3 S → z_I D cA 51 ad s.heap S H locs → lv_has ls 7 [(0, .ref (ad 31)), (2, .int v2), (3, .int v3), (4, .int v4)] → W p l e rm_M_group s m args below meth c H locs cells slots Q (F0 m 164 ls [])) : ∀ (n : Nat) (v3 : Int32) (v5 : Int32) (S : zS) (H : Heap) (locs : List Loc) (ls : Array Slot), z_I D cA 51 ad s.heap S H locs → lv_has ls 7 [(0, .ref (ad 31)), (2, .int v2), (3, .int v3), (4, .int v4), (5, .int v5)] → L_M_group_86 post K164 v2 v4 n v3 v5 S → W p l e rm_M_group s m args below meth c H locs cells slots Q (F0 m 86 ls []) := by
  obtain ⟨hx, hb, hml, hown, hts, hK, hJ⟩ := id C
  intro n
  induction n with
  | zero => intro v3 v5 S H locs ls hI hl h; exact h.elim
  | succ n ih =>
    intro v3 v5 S H locs ls hI hl h
    rw [L_M_group_86] at h
    refine lv_iload hx hb d_M_group_86 (lv_at hl 4 rfl) ?_
    refine lv_aload_n hx hb d_M_group_88 rfl (lv_at hl 0 rfl) ?_
    refine z_getI C hI 31 (by decide) kd_31 cl_M iw_M 1 (by decide) k_fl_M_73 rfl d_M_group_89 ?_
    refine lv_aload_n hx hb d_M_group_92 rfl (lv_at hl 0 rfl) ?_
    refine z_getI C hI 31 (by decide) kd_31 cl_M iw_M 2 (by decide) k_fl_M_76 rfl d_M_group_93 ?_
    refine lv_imul hx hb d_M_group_96 ?_
    refine lv_icmp_ge (tgt := 164) hx hb d_M_group_97 (by decide) (fun q => ?_) (fun q => ?_)
    · replace h := h.1 q
      exact kK164 v3 S _ _ ls h hI (lv_sub hl [0, 1, 2, 3] rfl)
    · replace h := h.2 q
      refine lv_iload hx hb d_M_group_100 (lv_at hl 3 rfl) ?_
      refine lv_if_eq (tgt := 110) hx hb d_M_group_102 (by decide) (fun q => ?_) (fun q => ?_)
      · replace h := h.1 q
        refine lv_aload_n hx hb d_M_group_110 rfl (lv_at hl 0 rfl) ?_
        refine z_getI C hI 31 (by decide) kd_31 cl_M iw_M 1 (by decide) k_fl_M_73 rfl d_M_group_111 ?_
        refine lv_aload_n hx hb d_M_group_114 rfl (lv_at hl 0 rfl) ?_
        refine z_getI C hI 31 (by decide) kd_31 cl_M iw_M 2 (by decide) k_fl_M_76 rfl d_M_group_115 ?_
        refine lv_imul hx hb d_M_group_118 ?_
        refine lv_iconst (v := 1) hx hb d_M_group_119 (by decide) ?_
        refine lv_isub hx hb d_M_group_120 ?_
        refine lv_iload hx hb d_M_group_121 (lv_at hl 4 rfl) ?_
        refine lv_isub hx hb d_M_group_123 ?_
        exact w_M_group_124 C hcs _ _ v2 v3 v4 v5 ((((S 31 1) * (S 31 2)) - 1) - v5) hR (fun v3 v5 S H locs ls h hI hl => ih v3 v5 S H locs ls hI hl h) S _ _ ls hI (lv_sub hl [0, 1, 2, 3, 4] rfl) h
      · replace h := h.2 q
        refine lv_iload hx hb d_M_group_105 (lv_at hl 4 rfl) ?_
        refine lv_goto (tgt := 124) hx hb d_M_group_107 (by decide) ?_
        exact w_M_group_124 C hcs _ _ v2 v3 v4 v5 v5 hR (fun v3 v5 S H locs ls h hI hl => ih v3 v5 S H locs ls hI hl h) S _ _ ls hI (lv_sub hl [0, 1, 2, 3, 4] rfl) h
set_option maxHeartbeats 4000000 in
set_option maxRecDepth 100000 in
theorem w_M_group_77 (C : z_CT p s m args c R_M b_M_group 7 D cA 51 ad) (hcs : cells ≤ rm_M_group.cells ∧ slots ≤ rm_M_group.slots) (post : zS → Prop) (v2 : Int32) (hR : z_Rv p l e rm_M_group s m args below meth c Q b_M_group D cA 51 ad post) : ∀ (n : Nat) (v3 : Int32) (v4 : Int32) (S : zS) (H : Heap) (locs : List Loc) (ls : Array Slot), z_I D cA 51 ad s.heap S H locs → lv_has ls 7 [(0, .ref (ad 31)), (2, .int v2), (3, .int v3), (4, .int v4)] → L_M_group_77 post v2 n v3 v4 S → W p l e rm_M_group s m args below meth c H locs cells slots Q (F0 m 77 ls []) := by
  obtain ⟨hx, hb, hml, hown, hts, hK, hJ⟩ := id C
  intro n
  induction n with
  | zero => intro v3 v4 S H locs ls hI hl h; exact h.elim
  | succ n ih =>
    intro v3 v4 S H locs ls hI hl h
    rw [L_M_group_77] at h
    refine lv_iload_n hx hb d_M_group_77 rfl (lv_at hl 2 rfl) ?_
    refine lv_if_eq (tgt := 179) hx hb d_M_group_78 (by decide) (fun q => ?_) (fun q => ?_)
    · replace h := h.1 q
      exact hR _ _ hcs S _ _ 179 ls h hI d_M_group_179
    · replace h := h.2 q
      refine lv_iconst (v := 0) hx hb d_M_group_81 (by decide) ?_
      refine lv_istore_n (lv' := [(3, .int 0), (0, .ref (ad 31)), (2, .int v2), (4, .int v4)]) hx hb d_M_group_82 rfl hl (by decide) rfl (fun ls hl => ?_)
      refine lv_iconst (v := 0) hx hb d_M_group_83 (by decide) ?_
      refine lv_istore (lv' := [(5, .int 0), (3, .int 0), (0, .ref (ad 31)), (2, .int v2), (4, .int v4)]) hx hb d_M_group_84 hl (by decide) rfl (fun ls hl => ?_)
      obtain ⟨k86, h⟩ := h
      refine w_M_group_86 C hcs _ _ v2 v4 hR (fun v3_86e S86e H locs ls h hI hl => ?_) k86 0 0 S _ _ ls hI (lv_sub hl [2, 3, 1, 4, 0] rfl) h
      refine lv_iload hx hb d_M_group_164 (lv_at hl 3 rfl) ?_
      refine lv_if_ne (tgt := 173) hx hb d_M_group_166 (by decide) (fun q => ?_) (fun q => ?_)
      · replace h := h.1 q
        refine lv_iconst (v := 0) hx hb d_M_group_173 (by decide) ?_
        refine lv_istore (lv' := [(4, .int 0), (0, .ref (ad 31)), (2, .int v2), (3, .int v3_86e)]) hx hb d_M_group_174 hl (by decide) rfl (fun ls hl => ?_)
        refine lv_goto (tgt := 77) hx hb d_M_group_176 (by decide) ?_
        exact ih v3_86e 0 S86e _ _ ls hI (lv_sub hl [1, 2, 3, 0] rfl) h
      · replace h := h.2 q
        refine lv_iconst (v := 1) hx hb d_M_group_169 (by decide) ?_
        refine lv_goto (tgt := 174) hx hb d_M_group_170 (by decide) ?_
        refine lv_istore (lv' := [(4, .int 1), (0, .ref (ad 31)), (2, .int v2), (3, .int v3_86e)]) hx hb d_M_group_174 hl (by decide) rfl (fun ls hl => ?_)
        refine lv_goto (tgt := 77) hx hb d_M_group_176 (by decide) ?_
        exact ih v3_86e 1 S86e _ _ ls hI (lv_sub hl [1, 2, 3, 0] rfl) h
set_option maxHeartbeats 4000000 in
set_option maxRecDepth 100000 in
theorem c_M_group (v1 : Int32) (v2 : Int32) (S : zS) (post : zS → Prop) (h : P_M_group v1 v2 S post) : z_ctv l D cA 51 ad y_M_group b_M_group 7 none rm_M_group [.ref (ad 31), .int v1, .int v2] S post := by
  refine z_metv (av := [.ref (ad 31), .int v1, .int v2]) (by decide) (Nat.le_of_ble_eq_true rfl) ⟨rfl, rfl⟩ (fun p e s m args below meth c Q ls C hcs hl hI hR => ?_)
  obtain ⟨hx, hb, hml, hown, hts, hK, hJ⟩ := id C
  unfold P_M_group at h
  have hl : lv_has ls 7 [(0, .ref (ad 31)), (1, .int v1), (2, .int v2)] := hl
  refine lv_iconst (v := 0) hx hb d_M_group_0 (by decide) ?_
  refine lv_istore_n (lv' := [(3, .int 0), (0, .ref (ad 31)), (1, .int v1), (2, .int v2)]) hx hb d_M_group_1 rfl hl (by decide) rfl (fun ls hl => ?_)
  obtain ⟨k2, h⟩ := h
  refine w_M_group_2 C hcs _ _ v1 v2 hR (fun S2e H locs ls h hI hl => ?_) k2 0 S _ _ ls hI (lv_sub hl [1, 2, 3, 0] rfl) h
  refine lv_iconst (v := 1) hx hb d_M_group_72 (by decide) ?_
  refine lv_istore_n (lv' := [(3, .int 1), (0, .ref (ad 31)), (2, .int v2)]) hx hb d_M_group_73 rfl hl (by decide) rfl (fun ls hl => ?_)
  refine lv_iconst (v := 1) hx hb d_M_group_74 (by decide) ?_
  refine lv_istore (lv' := [(4, .int 1), (3, .int 1), (0, .ref (ad 31)), (2, .int v2)]) hx hb d_M_group_75 hl (by decide) rfl (fun ls hl => ?_)
  obtain ⟨k77, h⟩ := h
  refine w_M_group_77 C hcs _ v2 hR k77 1 1 S2e _ _ ls hI (lv_sub hl [2, 3, 1, 0] rfl) h
set_option maxHeartbeats 4000000 in
set_option maxRecDepth 100000 in
theorem w_M_sizeOf_15 (C : z_CT p s m args c R_M b_M_sizeOf 5 D cA 51 ad) (hcs : cells ≤ rm_M_sizeOf.cells ∧ slots ≤ rm_M_sizeOf.slots) (post : Int32 → zS → Prop) (K54 : Int32 → zS → Prop) (v1 : Int32) (v3 : Int32) (hR : z_Ri p l e rm_M_sizeOf s m args below meth c Q b_M_sizeOf D cA 51 ad post) (kK54 : ∀ (v2 : Int32) (S : zS) (H : Heap) (locs : List Loc) (ls : Array Slot), K54 v2 S → z_I D cA 51 ad s.heap S H locs → lv_has ls 5 [(0, .ref (ad 31)), (1, .int v1), (2, .int v2), (3, .int v3)] → W p l e rm_M_sizeOf s m args below meth c H locs cells slots Q (F0 m 54 ls [])) : ∀ (n : Nat) (v2 : Int32) (v4 : Int32) (S : zS) (H : Heap) (locs : List Loc) (ls : Array Slot), z_I D cA 51 ad s.heap S H locs → lv_has ls 5 [(0, .ref (ad 31)), (1, .int v1), (2, .int v2), (3, .int v3), (4, .int v4)] → L_M_sizeOf_15 post K54 v1 v3 n v2 v4 S → W p l e rm_M_sizeOf s m args below meth c H locs cells slots Q (F0 m 15 ls []) := by
  obtain ⟨hx, hb, hml, hown, hts, hK, hJ⟩ := id C
  intro n
  induction n with
  | zero => intro v2 v4 S H locs ls hI hl h; exact h.elim
  | succ n ih =>
    intro v2 v4 S H locs ls hI hl h
    rw [L_M_sizeOf_15] at h
    refine lv_iload hx hb d_M_sizeOf_15 (lv_at hl 4 rfl) ?_
    refine lv_aload_n hx hb d_M_sizeOf_17 rfl (lv_at hl 0 rfl) ?_
    refine z_getI C hI 31 (by decide) kd_31 cl_M iw_M 1 (by decide) k_fl_M_73 rfl d_M_sizeOf_18 ?_
    refine lv_icmp_ge (tgt := 54) hx hb d_M_sizeOf_21 (by decide) (fun q => ?_) (fun q => ?_)
    · replace h := h.1 q
      exact kK54 v2 S _ _ ls h hI (lv_sub hl [0, 1, 2, 3] rfl)
    · replace h := h.2 q
      refine lv_aload_n hx hb d_M_sizeOf_24 rfl (lv_at hl 0 rfl) ?_
      refine z_getR C hI 31 (by decide) kd_31 cl_M iw_M 10 (by decide) k_fl_M_29 rfl d_M_sizeOf_25 ?_
      refine lv_bipush (v := 24) hx hb d_M_sizeOf_28 (by decide) ?_
      refine lv_iload_n hx hb d_M_sizeOf_30 rfl (lv_at hl 3 rfl) ?_
      refine lv_imul hx hb d_M_sizeOf_31 ?_
      refine lv_iload hx hb d_M_sizeOf_32 (lv_at hl 4 rfl) ?_
      refine lv_iadd hx hb d_M_sizeOf_34 ?_
      obtain ⟨h1, h⟩ := h
      refine z_ild C hI 37 (by decide) kd_37 h1 d_M_sizeOf_35 ?_
      refine lv_iload_n hx hb d_M_sizeOf_36 rfl (lv_at hl 1 rfl) ?_
      refine lv_icmp_ne (tgt := 46) hx hb d_M_sizeOf_37 (by decide) (fun q => ?_) (fun q => ?_)
      · replace h := h.1 q
        refine lv_iload_n hx hb d_M_sizeOf_46 rfl (lv_at hl 2 rfl) ?_
        refine lv_istore_n (lv' := [(2, .int v2), (0, .ref (ad 31)), (1, .int v1), (3, .int v3), (4, .int v4)]) hx hb d_M_sizeOf_47 rfl hl (by decide) rfl (fun ls hl => ?_)
        obtain ⟨x48, e48⟩ : ∃ y : Int32, y = v4 + 1 := ⟨_, rfl⟩
        replace h := h x48 e48
        refine lv_iinc (v := x48) (lv' := [(4, .int x48), (2, .int v2), (0, .ref (ad 31)), (1, .int v1), (3, .int v3)]) hx hb d_M_sizeOf_48 hl (k := 4) rfl (by rw [e48]; rfl) (by decide) rfl (fun ls hl => ?_)
        refine lv_goto (tgt := 15) hx hb d_M_sizeOf_51 (by decide) ?_
        exact ih v2 x48 S _ _ ls hI (lv_sub hl [2, 3, 1, 4, 0] rfl) h
      · replace h := h.2 q
        refine lv_iload_n hx hb d_M_sizeOf_40 rfl (lv_at hl 2 rfl) ?_
        refine lv_iconst (v := 1) hx hb d_M_sizeOf_41 (by decide) ?_
        refine lv_iadd hx hb d_M_sizeOf_42 ?_
        refine lv_goto (tgt := 47) hx hb d_M_sizeOf_43 (by decide) ?_
        refine lv_topi (fun x47 e47 => ?_)
        replace h := h x47 e47
        refine lv_istore_n (lv' := [(2, .int x47), (0, .ref (ad 31)), (1, .int v1), (3, .int v3), (4, .int v4)]) hx hb d_M_sizeOf_47 rfl hl (by decide) rfl (fun ls hl => ?_)
        obtain ⟨x48, e48⟩ : ∃ y : Int32, y = v4 + 1 := ⟨_, rfl⟩
        replace h := h x48 e48
        refine lv_iinc (v := x48) (lv' := [(4, .int x48), (2, .int x47), (0, .ref (ad 31)), (1, .int v1), (3, .int v3)]) hx hb d_M_sizeOf_48 hl (k := 4) rfl (by rw [e48]; rfl) (by decide) rfl (fun ls hl => ?_)
        refine lv_goto (tgt := 15) hx hb d_M_sizeOf_51 (by decide) ?_
        exact ih x47 x48 S _ _ ls hI (lv_sub hl [2, 3, 1, 4, 0] rfl) h
set_option maxHeartbeats 4000000 in
set_option maxRecDepth 100000 in
theorem w_M_sizeOf_4 (C : z_CT p s m args c R_M b_M_sizeOf 5 D cA 51 ad) (hcs : cells ≤ rm_M_sizeOf.cells ∧ slots ≤ rm_M_sizeOf.slots) (post : Int32 → zS → Prop) (v1 : Int32) (hR : z_Ri p l e rm_M_sizeOf s m args below meth c Q b_M_sizeOf D cA 51 ad post) : ∀ (n : Nat) (v2 : Int32) (v3 : Int32) (S : zS) (H : Heap) (locs : List Loc) (ls : Array Slot), z_I D cA 51 ad s.heap S H locs → lv_has ls 5 [(0, .ref (ad 31)), (1, .int v1), (2, .int v2), (3, .int v3)] → L_M_sizeOf_4 post v1 n v2 v3 S → W p l e rm_M_sizeOf s m args below meth c H locs cells slots Q (F0 m 4 ls []) := by
  obtain ⟨hx, hb, hml, hown, hts, hK, hJ⟩ := id C
  intro n
  induction n with
  | zero => intro v2 v3 S H locs ls hI hl h; exact h.elim
  | succ n ih =>
    intro v2 v3 S H locs ls hI hl h
    rw [L_M_sizeOf_4] at h
    refine lv_iload_n hx hb d_M_sizeOf_4 rfl (lv_at hl 3 rfl) ?_
    refine lv_aload_n hx hb d_M_sizeOf_5 rfl (lv_at hl 0 rfl) ?_
    refine z_getI C hI 31 (by decide) kd_31 cl_M iw_M 2 (by decide) k_fl_M_76 rfl d_M_sizeOf_6 ?_
    refine lv_icmp_ge (tgt := 60) hx hb d_M_sizeOf_9 (by decide) (fun q => ?_) (fun q => ?_)
    · replace h := h.1 q
      refine lv_iload_n hx hb d_M_sizeOf_60 rfl (lv_at hl 2 rfl) ?_
      exact hR _ _ hcs v2 S _ _ 61 ls h hI d_M_sizeOf_61
    · replace h := h.2 q
      refine lv_iconst (v := 0) hx hb d_M_sizeOf_12 (by decide) ?_
      refine lv_istore (lv' := [(4, .int 0), (0, .ref (ad 31)), (1, .int v1), (2, .int v2), (3, .int v3)]) hx hb d_M_sizeOf_13 hl (by decide) rfl (fun ls hl => ?_)
      obtain ⟨k15, h⟩ := h
      refine w_M_sizeOf_15 C hcs _ _ v1 v3 hR (fun v2_15e S15e H locs ls h hI hl => ?_) k15 v2 0 S _ _ ls hI (lv_sub hl [1, 2, 3, 4, 0] rfl) h
      obtain ⟨x54, e54⟩ : ∃ y : Int32, y = v3 + 1 := ⟨_, rfl⟩
      replace h := h x54 e54
      refine lv_iinc (v := x54) (lv' := [(3, .int x54), (0, .ref (ad 31)), (1, .int v1), (2, .int v2_15e)]) hx hb d_M_sizeOf_54 hl (k := 3) rfl (by rw [e54]; rfl) (by decide) rfl (fun ls hl => ?_)
      refine lv_goto (tgt := 4) hx hb d_M_sizeOf_57 (by decide) ?_
      exact ih v2_15e x54 S15e _ _ ls hI (lv_sub hl [1, 2, 3, 0] rfl) h
set_option maxHeartbeats 4000000 in
set_option maxRecDepth 100000 in
theorem c_M_sizeOf (v1 : Int32) (S : zS) (post : Int32 → zS → Prop) (h : P_M_sizeOf v1 S post) : z_cti l D cA 51 ad y_M_sizeOf b_M_sizeOf 5 (some .int) rm_M_sizeOf [.ref (ad 31), .int v1] S post := by
  refine z_meti (av := [.ref (ad 31), .int v1]) (by decide) (Nat.le_of_ble_eq_true rfl) ⟨rfl, rfl⟩ (fun p e s m args below meth c Q ls C hcs hl hI hR => ?_)
  obtain ⟨hx, hb, hml, hown, hts, hK, hJ⟩ := id C
  unfold P_M_sizeOf at h
  have hl : lv_has ls 5 [(0, .ref (ad 31)), (1, .int v1)] := hl
  refine lv_iconst (v := 0) hx hb d_M_sizeOf_0 (by decide) ?_
  refine lv_istore_n (lv' := [(2, .int 0), (0, .ref (ad 31)), (1, .int v1)]) hx hb d_M_sizeOf_1 rfl hl (by decide) rfl (fun ls hl => ?_)
  refine lv_iconst (v := 0) hx hb d_M_sizeOf_2 (by decide) ?_
  refine lv_istore_n (lv' := [(3, .int 0), (2, .int 0), (0, .ref (ad 31)), (1, .int v1)]) hx hb d_M_sizeOf_3 rfl hl (by decide) rfl (fun ls hl => ?_)
  obtain ⟨k4, h⟩ := h
  refine w_M_sizeOf_4 C hcs _ v1 hR k4 0 0 S _ _ ls hI (lv_sub hl [2, 3, 1, 0] rfl) h
set_option maxHeartbeats 4000000 in
set_option maxRecDepth 100000 in
theorem w_M_inGap_6 (C : z_CT p s m args c R_M b_M_inGap 9 D cA 51 ad) (hcs : cells ≤ rm_M_inGap.cells ∧ slots ≤ rm_M_inGap.slots) (post : Int32 → zS → Prop) (K49 : Int32 → Int32 → zS → Prop) (v3 : Int32) (v4 : Int32) (v5 : Int32) (hR : z_Rz p l e rm_M_inGap s m args below meth c Q b_M_inGap D cA 51 ad post) (kK49 : ∀ (v6 : Int32) (v7 : Int32) (S : zS) (H : Heap) (locs : List Loc) (ls : Array Slot), K49 v6 v7 S → z_I D cA 51 ad s.heap S H locs → lv_has ls 9 [(0, .ref (ad 31)), (3, .int v3), (4, .int v4), (5, .int v5), (6, .int v6), (7, .int v7)] → W p l e rm_M_inGap s m args below meth c H locs cells slots Q (F0 m 49 ls [])) : ∀ (n : Nat) (v6 : Int32) (v7 : Int32) (S : zS) (H : Heap) (locs : List Loc) (ls : Array Slot), z_I D cA 51 ad s.heap S H locs → lv_has ls 9 [(0, .ref (ad 31)), (3, .int v3), (4, .int v4), (5, .int v5), (6, .int v6), (7, .int v7)] → L_M_inGap_6 post K49 v3 v4 v5 n v6 v7 S → W p l e rm_M_inGap s m args below meth c H locs cells slots Q (F0 m 6 ls []) := by
  obtain ⟨hx, hb, hml, hown, hts, hK, hJ⟩ := id C
  intro n
  induction n with
  | zero => intro v6 v7 S H locs ls hI hl h; exact h.elim
  | succ n ih =>
    intro v6 v7 S H locs ls hI hl h
    rw [L_M_inGap_6] at h
    refine lv_aload_n hx hb d_M_inGap_6 rfl (lv_at hl 0 rfl) ?_
    refine lv_iload hx hb d_M_inGap_7 (lv_at hl 4 rfl) ?_
    refine lv_iload hx hb d_M_inGap_9 (lv_at hl 5 rfl) ?_
    refine z_callVi C hI 31 (by decide) kd_31 cl_M (As := [.int v6, .int v7]) (rest := []) (c_M_isSample v6 v7 _ _ h) wc_M_isSample k_ml_M_86 rfl rfl (Nat.le_of_ble_eq_true rfl) (Nat.le_of_ble_eq_true rfl) hcs hl.1 (Nat.le_of_ble_eq_true rfl) rfl d_M_inGap_11 (fun r11 S11 H locs h hI => ?_)
    refine lv_if_eq (tgt := 49) hx hb d_M_inGap_14 (by decide) (fun q => ?_) (fun q => ?_)
    · replace h := h.1 q
      exact kK49 v6 v7 S11 _ _ ls h hI (lv_sub hl [0, 1, 2, 3, 4, 5] rfl)
    · replace h := h.2 q
      refine lv_aload_n hx hb d_M_inGap_17 rfl (lv_at hl 0 rfl) ?_
      refine z_getR C hI 31 (by decide) kd_31 cl_M iw_M 7 (by decide) k_fl_M_20 rfl d_M_inGap_18 ?_
      refine lv_bipush (v := 24) hx hb d_M_inGap_21 (by decide) ?_
      refine lv_iload hx hb d_M_inGap_23 (lv_at hl 5 rfl) ?_
      refine lv_imul hx hb d_M_inGap_25 ?_
      refine lv_iload hx hb d_M_inGap_26 (lv_at hl 4 rfl) ?_
      refine lv_iadd hx hb d_M_inGap_28 ?_
      obtain ⟨h1, h⟩ := h
      refine z_zld C hI 34 (by decide) kd_34 h1 d_M_inGap_29 ?_
      refine lv_if_ne (tgt := 49) hx hb d_M_inGap_30 (by decide) (fun q => ?_) (fun q => ?_)
      · replace h := h.1 q
        exact kK49 v6 v7 S11 _ _ ls h hI (lv_sub hl [0, 1, 2, 3, 4, 5] rfl)
      · replace h := h.2 q
        refine lv_iload hx hb d_M_inGap_33 (lv_at hl 4 rfl) ?_
        refine lv_iload_n hx hb d_M_inGap_35 rfl (lv_at hl 1 rfl) ?_
        refine lv_isub hx hb d_M_inGap_36 ?_
        refine lv_topi (fun x37 e37 => ?_)
        replace h := h x37 e37
        refine lv_istore (lv' := [(6, .int x37), (0, .ref (ad 31)), (3, .int v3), (4, .int v4), (5, .int v5), (7, .int v7)]) hx hb d_M_inGap_37 hl (by decide) rfl (fun ls hl => ?_)
        refine lv_iload hx hb d_M_inGap_39 (lv_at hl 5 rfl) ?_
        refine lv_iload hx hb d_M_inGap_41 (lv_at hl 3 rfl) ?_
        refine lv_isub hx hb d_M_inGap_43 ?_
        refine lv_topi (fun x44 e44 => ?_)
        replace h := h x44 e44
        refine lv_istore (lv' := [(7, .int x44), (6, .int x37), (0, .ref (ad 31)), (3, .int v3), (4, .int v4), (5, .int v5)]) hx hb d_M_inGap_44 hl (by decide) rfl (fun ls hl => ?_)
        refine lv_goto (tgt := 6) hx hb d_M_inGap_46 (by decide) ?_
        exact ih x37 x44 S11 _ _ ls hI (lv_sub hl [2, 3, 4, 5, 1, 0] rfl) h
set_option maxHeartbeats 4000000 in
set_option maxRecDepth 100000 in
theorem w_M_inGap_78 (C : z_CT p s m args c R_M b_M_inGap 9 D cA 51 ad) (hcs : cells ≤ rm_M_inGap.cells ∧ slots ≤ rm_M_inGap.slots) (post : Int32 → zS → Prop) (K124 : Int32 → Int32 → Int32 → zS → Prop) (v3 : Int32) (v4 : Int32) (v5 : Int32) (hR : z_Rz p l e rm_M_inGap s m args below meth c Q b_M_inGap D cA 51 ad post) (kK124 : ∀ (v6 : Int32) (v7 : Int32) (v8 : Int32) (S : zS) (H : Heap) (locs : List Loc) (ls : Array Slot), K124 v6 v7 v8 S → z_I D cA 51 ad s.heap S H locs → lv_has ls 9 [(0, .ref (ad 31)), (5, .int v5), (6, .int v6), (7, .int v7), (8, .int v8)] → W p l e rm_M_inGap s m args below meth c H locs cells slots Q (F0 m 124 ls [])) : ∀ (n : Nat) (v6 : Int32) (v7 : Int32) (v8 : Int32) (S : zS) (H : Heap) (locs : List Loc) (ls : Array Slot), z_I D cA 51 ad s.heap S H locs → lv_has ls 9 [(0, .ref (ad 31)), (3, .int v3), (4, .int v4), (5, .int v5), (6, .int v6), (7, .int v7), (8, .int v8)] → L_M_inGap_78 post K124 v3 v4 v5 n v6 v7 v8 S → W p l e rm_M_inGap s m args below meth c H locs cells slots Q (F0 m 78 ls []) := by
  obtain ⟨hx, hb, hml, hown, hts, hK, hJ⟩ := id C
  intro n
  induction n with
  | zero => intro v6 v7 v8 S H locs ls hI hl h; exact h.elim
  | succ n ih =>
    intro v6 v7 v8 S H locs ls hI hl h
    rw [L_M_inGap_78] at h
    refine lv_aload_n hx hb d_M_inGap_78 rfl (lv_at hl 0 rfl) ?_
    refine lv_iload hx hb d_M_inGap_79 (lv_at hl 4 rfl) ?_
    refine lv_iload hx hb d_M_inGap_81 (lv_at hl 5 rfl) ?_
    refine z_callVi C hI 31 (by decide) kd_31 cl_M (As := [.int v6, .int v7]) (rest := []) (c_M_isSample v6 v7 _ _ h) wc_M_isSample k_ml_M_86 rfl rfl (Nat.le_of_ble_eq_true rfl) (Nat.le_of_ble_eq_true rfl) hcs hl.1 (Nat.le_of_ble_eq_true rfl) rfl d_M_inGap_83 (fun r83 S83 H locs h hI => ?_)
    refine lv_if_eq (tgt := 124) hx hb d_M_inGap_86 (by decide) (fun q => ?_) (fun q => ?_)
    · replace h := h.1 q
      exact kK124 v6 v7 v8 S83 _ _ ls h hI (lv_sub hl [0, 3, 4, 5, 6] rfl)
    · replace h := h.2 q
      refine lv_aload_n hx hb d_M_inGap_89 rfl (lv_at hl 0 rfl) ?_
      refine z_getR C hI 31 (by decide) kd_31 cl_M iw_M 7 (by decide) k_fl_M_20 rfl d_M_inGap_90 ?_
      refine lv_bipush (v := 24) hx hb d_M_inGap_93 (by decide) ?_
      refine lv_iload hx hb d_M_inGap_95 (lv_at hl 5 rfl) ?_
      refine lv_imul hx hb d_M_inGap_97 ?_
      refine lv_iload hx hb d_M_inGap_98 (lv_at hl 4 rfl) ?_
      refine lv_iadd hx hb d_M_inGap_100 ?_
      obtain ⟨h1, h⟩ := h
      refine z_zld C hI 34 (by decide) kd_34 h1 d_M_inGap_101 ?_
      refine lv_if_ne (tgt := 124) hx hb d_M_inGap_102 (by decide) (fun q => ?_) (fun q => ?_)
      · replace h := h.1 q
        exact kK124 v6 v7 v8 S83 _ _ ls h hI (lv_sub hl [0, 3, 4, 5, 6] rfl)
      · replace h := h.2 q
        obtain ⟨x105, e105⟩ : ∃ y : Int32, y = v8 + 1 := ⟨_, rfl⟩
        replace h := h x105 e105
        refine lv_iinc (v := x105) (lv' := [(8, .int x105), (0, .ref (ad 31)), (3, .int v3), (4, .int v4), (5, .int v5), (6, .int v6), (7, .int v7)]) hx hb d_M_inGap_105 hl (k := 6) rfl (by rw [e105]; rfl) (by decide) rfl (fun ls hl => ?_)
        refine lv_iload hx hb d_M_inGap_108 (lv_at hl 5 rfl) ?_
        refine lv_iload_n hx hb d_M_inGap_110 rfl (lv_at hl 2 rfl) ?_
        refine lv_iadd hx hb d_M_inGap_111 ?_
        refine lv_topi (fun x112 e112 => ?_)
        replace h := h x112 e112
        refine lv_istore (lv' := [(6, .int x112), (8, .int x105), (0, .ref (ad 31)), (3, .int v3), (4, .int v4), (5, .int v5), (7, .int v7)]) hx hb d_M_inGap_112 hl (by decide) rfl (fun ls hl => ?_)
        refine lv_iload hx hb d_M_inGap_114 (lv_at hl 6 rfl) ?_
        refine lv_iload hx hb d_M_inGap_116 (lv_at hl 4 rfl) ?_
        refine lv_iadd hx hb d_M_inGap_118 ?_
        refine lv_topi (fun x119 e119 => ?_)
        replace h := h x119 e119
        refine lv_istore (lv' := [(7, .int x119), (6, .int x112), (8, .int x105), (0, .ref (ad 31)), (3, .int v3), (4, .int v4), (5, .int v5)]) hx hb d_M_inGap_119 hl (by decide) rfl (fun ls hl => ?_)
        refine lv_goto (tgt := 78) hx hb d_M_inGap_121 (by decide) ?_
        exact ih x112 x119 x105 S83 _ _ ls hI (lv_sub hl [3, 4, 5, 6, 1, 0, 2] rfl) h
set_option maxHeartbeats 4000000 in
set_option maxRecDepth 100000 in
theorem w_M_inGap_124 (C : z_CT p s m args c R_M b_M_inGap 9 D cA 51 ad) (hcs : cells ≤ rm_M_inGap.cells ∧ slots ≤ rm_M_inGap.slots) (post : Int32 → zS → Prop) (v5 : Int32) (v6 : Int32) (v7 : Int32) (v8 : Int32) (hR : z_Rz p l e rm_M_inGap s m args below meth c Q b_M_inGap D cA 51 ad post) (S : zS) (H : Heap) (locs : List Loc) (ls : Array Slot) (hI : z_I D cA 51 ad s.heap S H locs) (hl : lv_has ls 9 [(0, .ref (ad 31)), (5, .int v5), (6, .int v6), (7, .int v7), (8, .int v8)]) (h : J_M_inGap_124 post v5 v6 v7 v8 S) : W p l e rm_M_inGap s m args below meth c H locs cells slots Q (F0 m 124 ls []) := by
  obtain ⟨hx, hb, hml, hown, hts, hK, hJ⟩ := id C
  unfold J_M_inGap_124 at h
  refine lv_aload_n hx hb d_M_inGap_124 rfl (lv_at hl 0 rfl) ?_
  refine lv_iload hx hb d_M_inGap_125 (lv_at hl 2 rfl) ?_
  refine lv_iload hx hb d_M_inGap_127 (lv_at hl 3 rfl) ?_
  refine z_callVi C hI 31 (by decide) kd_31 cl_M (As := [.int v6, .int v7]) (rest := []) (c_M_isSample v6 v7 _ _ h) wc_M_isSample k_ml_M_86 rfl rfl (Nat.le_of_ble_eq_true rfl) (Nat.le_of_ble_eq_true rfl) hcs hl.1 (Nat.le_of_ble_eq_true rfl) rfl d_M_inGap_129 (fun r129 S129 H locs h hI => ?_)
  refine lv_if_eq (tgt := 146) hx hb d_M_inGap_132 (by decide) (fun q => ?_) (fun q => ?_)
  · replace h := h.1 q
    refine lv_iconst (v := 0) hx hb d_M_inGap_146 (by decide) ?_
    exact hR _ _ hcs 0 S129 _ _ 147 ls (by decide) h hI d_M_inGap_147
  · replace h := h.2 q
    refine lv_iload hx hb d_M_inGap_135 (lv_at hl 4 rfl) ?_
    refine lv_iload hx hb d_M_inGap_137 (lv_at hl 1 rfl) ?_
    refine lv_icmp_gt (tgt := 146) hx hb d_M_inGap_139 (by decide) (fun q => ?_) (fun q => ?_)
    · replace h := h.1 q
      refine lv_iconst (v := 0) hx hb d_M_inGap_146 (by decide) ?_
      exact hR _ _ hcs 0 S129 _ _ 147 ls (by decide) h hI d_M_inGap_147
    · replace h := h.2 q
      refine lv_iconst (v := 1) hx hb d_M_inGap_142 (by decide) ?_
      refine lv_goto (tgt := 147) hx hb d_M_inGap_143 (by decide) ?_
      exact hR _ _ hcs 1 S129 _ _ 147 ls (by decide) h hI d_M_inGap_147
set_option maxHeartbeats 4000000 in
set_option maxRecDepth 100000 in
theorem w_M_inGap_49 (C : z_CT p s m args c R_M b_M_inGap 9 D cA 51 ad) (hcs : cells ≤ rm_M_inGap.cells ∧ slots ≤ rm_M_inGap.slots) (post : Int32 → zS → Prop) (v3 : Int32) (v4 : Int32) (v5 : Int32) (v6 : Int32) (v7 : Int32) (hR : z_Rz p l e rm_M_inGap s m args below meth c Q b_M_inGap D cA 51 ad post) (S : zS) (H : Heap) (locs : List Loc) (ls : Array Slot) (hI : z_I D cA 51 ad s.heap S H locs) (hl : lv_has ls 9 [(0, .ref (ad 31)), (3, .int v3), (4, .int v4), (5, .int v5), (6, .int v6), (7, .int v7)]) (h : J_M_inGap_49 post v3 v4 v5 v6 v7 S) : W p l e rm_M_inGap s m args below meth c H locs cells slots Q (F0 m 49 ls []) := by
  obtain ⟨hx, hb, hml, hown, hts, hK, hJ⟩ := id C
  unfold J_M_inGap_49 at h
  refine lv_aload_n hx hb d_M_inGap_49 rfl (lv_at hl 0 rfl) ?_
  refine lv_iload hx hb d_M_inGap_50 (lv_at hl 4 rfl) ?_
  refine lv_iload hx hb d_M_inGap_52 (lv_at hl 5 rfl) ?_
  refine z_callVi C hI 31 (by decide) kd_31 cl_M (As := [.int v6, .int v7]) (rest := []) (c_M_isSample v6 v7 _ _ h) wc_M_isSample k_ml_M_86 rfl rfl (Nat.le_of_ble_eq_true rfl) (Nat.le_of_ble_eq_true rfl) hcs hl.1 (Nat.le_of_ble_eq_true rfl) rfl d_M_inGap_54 (fun r54 S54 H locs h hI => ?_)
  refine lv_if_ne (tgt := 62) hx hb d_M_inGap_57 (by decide) (fun q => ?_) (fun q => ?_)
  · replace h := h.1 q
    refine lv_iconst (v := 0) hx hb d_M_inGap_62 (by decide) ?_
    refine lv_istore (lv' := [(8, .int 0), (0, .ref (ad 31)), (3, .int v3), (4, .int v4), (5, .int v5), (6, .int v6), (7, .int v7)]) hx hb d_M_inGap_63 hl (by decide) rfl (fun ls hl => ?_)
    refine lv_iload hx hb d_M_inGap_65 (lv_at hl 5 rfl) ?_
    refine lv_iload_n hx hb d_M_inGap_67 rfl (lv_at hl 2 rfl) ?_
    refine lv_iadd hx hb d_M_inGap_68 ?_
    refine lv_topi (fun x69 e69 => ?_)
    replace h := h x69 e69
    refine lv_istore (lv' := [(6, .int x69), (8, .int 0), (0, .ref (ad 31)), (3, .int v3), (4, .int v4), (5, .int v5), (7, .int v7)]) hx hb d_M_inGap_69 hl (by decide) rfl (fun ls hl => ?_)
    refine lv_iload hx hb d_M_inGap_71 (lv_at hl 6 rfl) ?_
    refine lv_iload hx hb d_M_inGap_73 (lv_at hl 4 rfl) ?_
    refine lv_iadd hx hb d_M_inGap_75 ?_
    refine lv_topi (fun x76 e76 => ?_)
    replace h := h x76 e76
    refine lv_istore (lv' := [(7, .int x76), (6, .int x69), (8, .int 0), (0, .ref (ad 31)), (3, .int v3), (4, .int v4), (5, .int v5)]) hx hb d_M_inGap_76 hl (by decide) rfl (fun ls hl => ?_)
    obtain ⟨k78, h⟩ := h
    refine w_M_inGap_78 C hcs _ _ v3 v4 v5 hR (fun v6_78e v7_78e v8_78e S78e H locs ls h hI hl => ?_) k78 x69 x76 0 S54 _ _ ls hI (lv_sub hl [3, 4, 5, 6, 1, 0, 2] rfl) h
    exact w_M_inGap_124 C hcs _ v5 v6_78e v7_78e v8_78e hR S78e _ _ ls hI (lv_sub hl [0, 1, 2, 3, 4] rfl) h
  · replace h := h.2 q
    refine lv_iconst (v := 0) hx hb d_M_inGap_60 (by decide) ?_
    exact hR _ _ hcs 0 S54 _ _ 61 ls (by decide) h hI d_M_inGap_61
set_option maxHeartbeats 4000000 in
set_option maxRecDepth 100000 in
theorem c_M_inGap (v1 : Int32) (v2 : Int32) (v3 : Int32) (v4 : Int32) (v5 : Int32) (S : zS) (post : Int32 → zS → Prop) (h : P_M_inGap v1 v2 v3 v4 v5 S post) : z_cti l D cA 51 ad y_M_inGap b_M_inGap 9 (some .boolean) rm_M_inGap [.ref (ad 31), .int v1, .int v2, .int v3, .int v4, .int v5] S post := by
  refine z_metz (av := [.ref (ad 31), .int v1, .int v2, .int v3, .int v4, .int v5]) (by decide) (Nat.le_of_ble_eq_true rfl) ⟨rfl, rfl⟩ (fun p e s m args below meth c Q ls C hcs hl hI hR => ?_)
  obtain ⟨hx, hb, hml, hown, hts, hK, hJ⟩ := id C
  unfold P_M_inGap at h
  have hl : lv_has ls 9 [(0, .ref (ad 31)), (1, .int v1), (2, .int v2), (3, .int v3), (4, .int v4), (5, .int v5)] := hl
  refine lv_iload_n hx hb d_M_inGap_0 rfl (lv_at hl 1 rfl) ?_
  refine lv_istore (lv' := [(6, .int v1), (0, .ref (ad 31)), (1, .int v1), (2, .int v2), (3, .int v3), (4, .int v4), (5, .int v5)]) hx hb d_M_inGap_1 hl (by decide) rfl (fun ls hl => ?_)
  refine lv_iload_n hx hb d_M_inGap_3 rfl (lv_at hl 3 rfl) ?_
  refine lv_istore (lv' := [(7, .int v2), (6, .int v1), (0, .ref (ad 31)), (1, .int v1), (2, .int v2), (3, .int v3), (4, .int v4), (5, .int v5)]) hx hb d_M_inGap_4 hl (by decide) rfl (fun ls hl => ?_)
  obtain ⟨k6, h⟩ := h
  refine w_M_inGap_6 C hcs _ _ v3 v4 v5 hR (fun v6_6e v7_6e S6e H locs ls h hI hl => ?_) k6 v1 v2 S _ _ ls hI (lv_sub hl [2, 5, 6, 7, 1, 0] rfl) h
  exact w_M_inGap_49 C hcs _ v3 v4 v5 v6_6e v7_6e hR S6e _ _ ls hI (lv_sub hl [0, 1, 2, 3, 4, 5] rfl) h
end ZW
