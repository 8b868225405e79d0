section ZW
variable {p : Program} {l : Launch} {e : Env} {s : State} {m : MethodId} {args : Array Value} {below : List Frame} {meth : Method} {c : Code} {cells slots : Nat} {Q : State → Prop} {D : va_G} {cA : Nat → ClassId} {n : Nat} {ad : Nat → Nat}
set_option maxHeartbeats 4000000 in
set_option maxRecDepth 100000 in
theorem w_M_takeStrips_45 (C : z_CT p s m args c R_M b_M_takeStrips 4 D cA 51 ad) (hcs : cells ≤ rm_M_takeStrips.cells ∧ slots ≤ rm_M_takeStrips.slots) (post : zS → Prop) (K19 : Int32 → Int32 → zS → Prop) (v1 : Int32) (v3 : Int32) (hR : z_Rv p l e rm_M_takeStrips s m args below meth c Q b_M_takeStrips D cA 51 ad post) (kK19 : ∀ (v2 : Int32) (v3 : Int32) (S : zS) (H : Heap) (locs : List Loc) (ls : Array Slot), K19 v2 v3 S → z_I D cA 51 ad s.heap S H locs → lv_has ls 4 [(0, .ref (ad 31)), (1, .int v1), (2, .int v2), (3, .int v3)] → W p l e rm_M_takeStrips s m args below meth c H locs cells slots Q (F0 m 19 ls [])) (S : zS) (H : Heap) (locs : List Loc) (ls : Array Slot) (hI : z_I D cA 51 ad s.heap S H locs) (hl : lv_has ls 4 [(0, .ref (ad 31)), (1, .int v1), (3, .int v3)]) (h : J_M_takeStrips_45 post K19 v1 v3 S) : W p l e rm_M_takeStrips s m args below meth c H locs cells slots Q (F0 m 45 ls []) := by
  obtain ⟨hx, hb, hml, hown, hts, hK, hJ⟩ := id C
  unfold J_M_takeStrips_45 at h
  refine lv_iconst (v := 1) hx hb d_M_takeStrips_45 (by decide) ?_
  refine lv_goto (tgt := 50) hx hb d_M_takeStrips_46 (by decide) ?_
  refine lv_istore_n (lv' := [(2, .int 1), (0, .ref (ad 31)), (1, .int v1), (3, .int v3)]) hx hb d_M_takeStrips_50 rfl hl (by decide) rfl (fun ls hl => ?_)
  obtain ⟨x51, e51⟩ : ∃ y : Int32, y = v3 + 1 := ⟨_, rfl⟩
  replace h := h x51 e51
  refine lv_iinc (v := x51) (lv' := [(3, .int x51), (2, .int 1), (0, .ref (ad 31)), (1, .int v1)]) hx hb d_M_takeStrips_51 hl (k := 3) rfl (by rw [e51]; rfl) (by decide) rfl (fun ls hl => ?_)
  refine lv_goto (tgt := 19) hx hb d_M_takeStrips_54 (by decide) ?_
  exact kK19 1 x51 S _ _ ls h hI (lv_sub hl [2, 3, 1, 0] rfl)
set_option maxHeartbeats 4000000 in
set_option maxRecDepth 100000 in
theorem w_M_takeStrips_19 (C : z_CT p s m args c R_M b_M_takeStrips 4 D cA 51 ad) (hcs : cells ≤ rm_M_takeStrips.cells ∧ slots ≤ rm_M_takeStrips.slots) (post : zS → Prop) (K57 : Int32 → zS → Prop) (v1 : Int32) (hR : z_Rv p l e rm_M_takeStrips s m args below meth c Q b_M_takeStrips D cA 51 ad post) (kK57 : ∀ (v2 : Int32) (S : zS) (H : Heap) (locs : List Loc) (ls : Array Slot), K57 v2 S → z_I D cA 51 ad s.heap S H locs → lv_has ls 4 [(0, .ref (ad 31)), (1, .int v1), (2, .int v2)] → W p l e rm_M_takeStrips s m args below meth c H locs cells slots Q (F0 m 57 ls [])) : ∀ (n : Nat) (v2 : Int32) (v3 : Int32) (S : zS) (H : Heap) (locs : List Loc) (ls : Array Slot), z_I D cA 51 ad s.heap S H locs → lv_has ls 4 [(0, .ref (ad 31)), (1, .int v1), (2, .int v2), (3, .int v3)] → L_M_takeStrips_19 post K57 v1 n v2 v3 S → W p l e rm_M_takeStrips s m args below meth c H locs cells slots Q (F0 m 19 ls []) := by
  obtain ⟨hx, hb, hml, hown, hts, hK, hJ⟩ := id C
  intro n
  induction n with
  | zero => intro v2 v3 S H locs ls hI hl h; exact h.elim
  | succ n ih =>
    intro v2 v3 S H locs ls hI hl h
    rw [L_M_takeStrips_19] at h
    refine lv_iload_n hx hb d_M_takeStrips_19 rfl (lv_at hl 3 rfl) ?_
    refine lv_aload_n hx hb d_M_takeStrips_20 rfl (lv_at hl 0 rfl) ?_
    refine z_getI C hI 31 (by decide) kd_31 cl_M iw_M 2 (by decide) k_fl_M_76 rfl d_M_takeStrips_21 ?_
    refine lv_icmp_ge (tgt := 57) hx hb d_M_takeStrips_24 (by decide) (fun q => ?_) (fun q => ?_)
    · replace h := h.1 q
      exact kK57 v2 S _ _ ls h hI (lv_sub hl [0, 1, 2] rfl)
    · replace h := h.2 q
      refine lv_iload_n hx hb d_M_takeStrips_27 rfl (lv_at hl 2 rfl) ?_
      refine lv_if_ne (tgt := 45) hx hb d_M_takeStrips_28 (by decide) (fun q => ?_) (fun q => ?_)
      · replace h := h.1 q
        exact w_M_takeStrips_45 C hcs _ _ v1 v3 hR (fun v2 v3 S H locs ls h hI hl => ih v2 v3 S H locs ls hI hl h) S _ _ ls hI (lv_sub hl [0, 1, 3] rfl) h
      · replace h := h.2 q
        refine lv_aload_n hx hb d_M_takeStrips_31 rfl (lv_at hl 0 rfl) ?_
        refine z_getR C hI 31 (by decide) kd_31 cl_M iw_M 8 (by decide) k_fl_M_23 rfl d_M_takeStrips_32 ?_
        refine lv_bipush (v := 24) hx hb d_M_takeStrips_35 (by decide) ?_
        refine lv_iload_n hx hb d_M_takeStrips_37 rfl (lv_at hl 3 rfl) ?_
        refine lv_imul hx hb d_M_takeStrips_38 ?_
        refine lv_iload_n hx hb d_M_takeStrips_39 rfl (lv_at hl 1 rfl) ?_
        refine lv_iadd hx hb d_M_takeStrips_40 ?_
        obtain ⟨h1, h⟩ := h
        refine z_zld C hI 35 (by decide) kd_35 h1 d_M_takeStrips_41 ?_
        refine lv_if_eq (tgt := 49) hx hb d_M_takeStrips_42 (by decide) (fun q => ?_) (fun q => ?_)
        · replace h := h.1 q
          refine lv_iconst (v := 0) hx hb d_M_takeStrips_49 (by decide) ?_
          refine lv_istore_n (lv' := [(2, .int 0), (0, .ref (ad 31)), (1, .int v1), (3, .int v3)]) hx hb d_M_takeStrips_50 rfl hl (by decide) rfl (fun ls hl => ?_)
          obtain ⟨x51, e51⟩ : ∃ y : Int32, y = v3 + 1 := ⟨_, rfl⟩
          replace h := h x51 e51
          refine lv_iinc (v := x51) (lv' := [(3, .int x51), (2, .int 0), (0, .ref (ad 31)), (1, .int v1)]) hx hb d_M_takeStrips_51 hl (k := 3) rfl (by rw [e51]; rfl) (by decide) rfl (fun ls hl => ?_)
          refine lv_goto (tgt := 19) hx hb d_M_takeStrips_54 (by decide) ?_
          exact ih 0 x51 S _ _ ls hI (lv_sub hl [2, 3, 1, 0] rfl) h
        · replace h := h.2 q
          exact w_M_takeStrips_45 C hcs _ _ v1 v3 hR (fun v2 v3 S H locs ls h hI hl => ih v2 v3 S H locs ls hI hl h) S _ _ ls hI (lv_sub hl [0, 1, 3] rfl) h
set_option maxHeartbeats 4000000 in
set_option maxRecDepth 100000 in
theorem w_M_takeStrips_101 (C : z_CT p s m args c R_M b_M_takeStrips 4 D cA 51 ad) (hcs : cells ≤ rm_M_takeStrips.cells ∧ slots ≤ rm_M_takeStrips.slots) (post : zS → Prop) (K7 : Int32 → zS → Prop) (v1 : Int32) (v2 : Int32) (t0 : Int32) (hR : z_Rv p l e rm_M_takeStrips s m args below meth c Q b_M_takeStrips D cA 51 ad post) (kK7 : ∀ (v1 : Int32) (S : zS) (H : Heap) (locs : List Loc) (ls : Array Slot), K7 v1 S → z_I D cA 51 ad s.heap S H locs → lv_has ls 4 [(0, .ref (ad 31)), (1, .int v1)] → W p l e rm_M_takeStrips s m args below meth c H locs cells slots Q (F0 m 7 ls [])) (S : zS) (H : Heap) (locs : List Loc) (ls : Array Slot) (hI : z_I D cA 51 ad s.heap S H locs) (hl : lv_has ls 4 [(0, .ref (ad 31)), (1, .int v1), (2, .int v2)]) (h : J_M_takeStrips_101 post K7 v1 v2 t0 S) : W p l e rm_M_takeStrips s m args below meth c H locs cells slots Q (F0 m 101 ls [.int t0, .ref (ad 31)]) := by
  obtain ⟨hx, hb, hml, hown, hts, hK, hJ⟩ := id C
  unfold J_M_takeStrips_101 at h
  refine z_putI C hI 31 (by decide) kd_31 cl_M iw_M ty_M ty_M_ok n_M 21 (by decide) k_fl_M_134 rfl rfl rfl d_M_takeStrips_101 (fun S101 eS H locs hI => ?_)
  replace h := h S101 eS
  refine lv_aload_n hx hb d_M_takeStrips_104 rfl (lv_at hl 0 rfl) ?_
  refine z_getR C hI 31 (by decide) kd_31 cl_M iw_M 22 (by decide) k_fl_M_57 rfl d_M_takeStrips_105 ?_
  refine lv_iload_n hx hb d_M_takeStrips_108 rfl (lv_at hl 1 rfl) ?_
  refine lv_iload_n hx hb d_M_takeStrips_109 rfl (lv_at hl 2 rfl) ?_
  refine lv_if_eq (tgt := 122) hx hb d_M_takeStrips_110 (by decide) (fun q => ?_) (fun q => ?_)
  · replace h := h.1 q
    refine lv_iconst (v := (-1)) hx hb d_M_takeStrips_122 (by decide) ?_
    obtain ⟨h1, h⟩ := h
    refine z_ist C hI 46 (by decide) kd_46 h1 d_M_takeStrips_123 (fun S123 eS H locs hI => ?_)
    replace h := h S123 eS
    obtain ⟨x124, e124⟩ : ∃ y : Int32, y = v1 + 1 := ⟨_, rfl⟩
    replace h := h x124 e124
    refine lv_iinc (v := x124) (lv' := [(1, .int x124), (0, .ref (ad 31)), (2, .int v2)]) hx hb d_M_takeStrips_124 hl (k := 1) rfl (by rw [e124]; rfl) (by decide) rfl (fun ls hl => ?_)
    refine lv_goto (tgt := 7) hx hb d_M_takeStrips_127 (by decide) ?_
    exact kK7 x124 S123 _ _ ls h hI (lv_sub hl [1, 0] rfl)
  · replace h := h.2 q
    refine lv_aload_n hx hb d_M_takeStrips_113 rfl (lv_at hl 0 rfl) ?_
    refine z_getI C hI 31 (by decide) kd_31 cl_M iw_M 21 (by decide) k_fl_M_134 rfl d_M_takeStrips_114 ?_
    refine lv_iconst (v := 1) hx hb d_M_takeStrips_117 (by decide) ?_
    refine lv_isub hx hb d_M_takeStrips_118 ?_
    refine lv_goto (tgt := 123) hx hb d_M_takeStrips_119 (by decide) ?_
    obtain ⟨h1, h⟩ := h
    refine z_ist C hI 46 (by decide) kd_46 h1 d_M_takeStrips_123 (fun S123 eS H locs hI => ?_)
    replace h := h S123 eS
    obtain ⟨x124, e124⟩ : ∃ y : Int32, y = v1 + 1 := ⟨_, rfl⟩
    replace h := h x124 e124
    refine lv_iinc (v := x124) (lv' := [(1, .int x124), (0, .ref (ad 31)), (2, .int v2)]) hx hb d_M_takeStrips_124 hl (k := 1) rfl (by rw [e124]; rfl) (by decide) rfl (fun ls hl => ?_)
    refine lv_goto (tgt := 7) hx hb d_M_takeStrips_127 (by decide) ?_
    exact kK7 x124 S123 _ _ ls h hI (lv_sub hl [1, 0] rfl)
set_option maxHeartbeats 4000000 in
set_option maxRecDepth 100000 in
theorem w_M_takeStrips_97 (C : z_CT p s m args c R_M b_M_takeStrips 4 D cA 51 ad) (hcs : cells ≤ rm_M_takeStrips.cells ∧ slots ≤ rm_M_takeStrips.slots) (post : zS → Prop) (K7 : Int32 → zS → Prop) (v1 : Int32) (v2 : Int32) (hR : z_Rv p l e rm_M_takeStrips s m args below meth c Q b_M_takeStrips D cA 51 ad post) (kK7 : ∀ (v1 : Int32) (S : zS) (H : Heap) (locs : List Loc) (ls : Array Slot), K7 v1 S → z_I D cA 51 ad s.heap S H locs → lv_has ls 4 [(0, .ref (ad 31)), (1, .int v1)] → W p l e rm_M_takeStrips s m args below meth c H locs cells slots Q (F0 m 7 ls [])) (S : zS) (H : Heap) (locs : List Loc) (ls : Array Slot) (hI : z_I D cA 51 ad s.heap S H locs) (hl : lv_has ls 4 [(0, .ref (ad 31)), (1, .int v1), (2, .int v2)]) (h : J_M_takeStrips_97 post K7 v1 v2 S) : W p l e rm_M_takeStrips s m args below meth c H locs cells slots Q (F0 m 97 ls [.ref (ad 31)]) := by
  obtain ⟨hx, hb, hml, hown, hts, hK, hJ⟩ := id C
  unfold J_M_takeStrips_97 at h
  refine lv_aload_n hx hb d_M_takeStrips_97 rfl (lv_at hl 0 rfl) ?_
  refine z_getI C hI 31 (by decide) kd_31 cl_M iw_M 21 (by decide) k_fl_M_134 rfl d_M_takeStrips_98 ?_
  exact w_M_takeStrips_101 C hcs _ _ v1 v2 (S 31 21) hR kK7 S _ _ ls hI (lv_sub hl [0, 1, 2] rfl) h
set_option maxHeartbeats 4000000 in
set_option maxRecDepth 100000 in
theorem w_M_takeStrips_78 (C : z_CT p s m args c R_M b_M_takeStrips 4 D cA 51 ad) (hcs : cells ≤ rm_M_takeStrips.cells ∧ slots ≤ rm_M_takeStrips.slots) (post : zS → Prop) (K7 : Int32 → zS → Prop) (v1 : Int32) (v2 : Int32) (t0 : Int32) (hR : z_Rv p l e rm_M_takeStrips s m args below meth c Q b_M_takeStrips D cA 51 ad post) (kK7 : ∀ (v1 : Int32) (S : zS) (H : Heap) (locs : List Loc) (ls : Array Slot), K7 v1 S → z_I D cA 51 ad s.heap S H locs → lv_has ls 4 [(0, .ref (ad 31)), (1, .int v1)] → W p l e rm_M_takeStrips s m args below meth c H locs cells slots Q (F0 m 7 ls [])) (S : zS) (H : Heap) (locs : List Loc) (ls : Array Slot) (hI : z_I D cA 51 ad s.heap S H locs) (hl : lv_has ls 4 [(0, .ref (ad 31)), (1, .int v1), (2, .int v2)]) (h : J_M_takeStrips_78 post K7 v1 v2 t0 S) : W p l e rm_M_takeStrips s m args below meth c H locs cells slots Q (F0 m 78 ls [.int t0]) := by
  obtain ⟨hx, hb, hml, hown, hts, hK, hJ⟩ := id C
  unfold J_M_takeStrips_78 at h
  refine lv_istore_n (lv' := [(3, .int t0), (0, .ref (ad 31)), (1, .int v1), (2, .int v2)]) hx hb d_M_takeStrips_78 rfl hl (by decide) rfl (fun ls hl => ?_)
  refine lv_aload_n hx hb d_M_takeStrips_79 rfl (lv_at hl 1 rfl) ?_
  refine lv_iload_n hx hb d_M_takeStrips_80 rfl (lv_at hl 3 rfl) ?_
  refine lv_if_eq (tgt := 97) hx hb d_M_takeStrips_81 (by decide) (fun q => ?_) (fun q => ?_)
  · replace h := h.1 q
    exact w_M_takeStrips_97 C hcs _ _ v1 v2 hR kK7 S _ _ ls hI (lv_sub hl [1, 2, 3] rfl) h
  · replace h := h.2 q
    refine lv_iload_n hx hb d_M_takeStrips_84 rfl (lv_at hl 0 rfl) ?_
    refine lv_if_ne (tgt := 97) hx hb d_M_takeStrips_85 (by decide) (fun q => ?_) (fun q => ?_)
    · replace h := h.1 q
      exact w_M_takeStrips_97 C hcs _ _ v1 v2 hR kK7 S _ _ ls hI (lv_sub hl [1, 2, 3] rfl) h
    · replace h := h.2 q
      refine lv_aload_n hx hb d_M_takeStrips_88 rfl (lv_at hl 1 rfl) ?_
      refine z_getI C hI 31 (by decide) kd_31 cl_M iw_M 21 (by decide) k_fl_M_134 rfl d_M_takeStrips_89 ?_
      refine lv_iconst (v := 1) hx hb d_M_takeStrips_92 (by decide) ?_
      refine lv_iadd hx hb d_M_takeStrips_93 ?_
      refine lv_goto (tgt := 101) hx hb d_M_takeStrips_94 (by decide) ?_
      exact w_M_takeStrips_101 C hcs _ _ v1 v2 ((S 31 21) + 1) hR kK7 S _ _ ls hI (lv_sub hl [1, 2, 3] rfl) h
set_option maxHeartbeats 4000000 in
set_option maxRecDepth 100000 in
theorem w_M_takeStrips_77 (C : z_CT p s m args c R_M b_M_takeStrips 4 D cA 51 ad) (hcs : cells ≤ rm_M_takeStrips.cells ∧ slots ≤ rm_M_takeStrips.slots) (post : zS → Prop) (K7 : Int32 → zS → Prop) (v1 : Int32) (v2 : Int32) (hR : z_Rv p l e rm_M_takeStrips s m args below meth c Q b_M_takeStrips D cA 51 ad post) (kK7 : ∀ (v1 : Int32) (S : zS) (H : Heap) (locs : List Loc) (ls : Array Slot), K7 v1 S → z_I D cA 51 ad s.heap S H locs → lv_has ls 4 [(0, .ref (ad 31)), (1, .int v1)] → W p l e rm_M_takeStrips s m args below meth c H locs cells slots Q (F0 m 7 ls [])) (S : zS) (H : Heap) (locs : List Loc) (ls : Array Slot) (hI : z_I D cA 51 ad s.heap S H locs) (hl : lv_has ls 4 [(0, .ref (ad 31)), (1, .int v1), (2, .int v2)]) (h : J_M_takeStrips_77 post K7 v1 v2 S) : W p l e rm_M_takeStrips s m args below meth c H locs cells slots Q (F0 m 77 ls []) := by
  obtain ⟨hx, hb, hml, hown, hts, hK, hJ⟩ := id C
  unfold J_M_takeStrips_77 at h
  refine lv_iconst (v := 0) hx hb d_M_takeStrips_77 (by decide) ?_
  exact w_M_takeStrips_78 C hcs _ _ v1 v2 0 hR kK7 S _ _ ls hI (lv_sub hl [0, 1, 2] rfl) h
set_option maxHeartbeats 4000000 in
set_option maxRecDepth 100000 in
theorem w_M_takeStrips_7 (C : z_CT p s m args c R_M b_M_takeStrips 4 D cA 51 ad) (hcs : cells ≤ rm_M_takeStrips.cells ∧ slots ≤ rm_M_takeStrips.slots) (post : zS → Prop) (hR : z_Rv p l e rm_M_takeStrips s m args below meth c Q b_M_takeStrips D cA 51 ad post) : ∀ (n : Nat) (v1 : Int32) (S : zS) (H : Heap) (locs : List Loc) (ls : Array Slot), z_I D cA 51 ad s.heap S H locs → lv_has ls 4 [(0, .ref (ad 31)), (1, .int v1)] → L_M_takeStrips_7 post n v1 S → W p l e rm_M_takeStrips s m args below meth c H locs cells slots Q (F0 m 7 ls []) := by
  obtain ⟨hx, hb, hml, hown, hts, hK, hJ⟩ := id C
  intro n
  induction n with
  | zero => intro v1 S H locs ls hI hl h; exact h.elim
  | succ n ih =>
    intro v1 S H locs ls hI hl h
    rw [L_M_takeStrips_7] at h
    refine lv_iload_n hx hb d_M_takeStrips_7 rfl (lv_at hl 1 rfl) ?_
    refine lv_aload_n hx hb d_M_takeStrips_8 rfl (lv_at hl 0 rfl) ?_
    refine z_getI C hI 31 (by decide) kd_31 cl_M iw_M 1 (by decide) k_fl_M_73 rfl d_M_takeStrips_9 ?_
    refine lv_icmp_ge (tgt := 130) hx hb d_M_takeStrips_12 (by decide) (fun q => ?_) (fun q => ?_)
    · replace h := h.1 q
      exact hR _ _ hcs S _ _ 130 ls h hI d_M_takeStrips_130
    · replace h := h.2 q
      refine lv_iconst (v := 0) hx hb d_M_takeStrips_15 (by decide) ?_
      refine lv_istore_n (lv' := [(2, .int 0), (0, .ref (ad 31)), (1, .int v1)]) hx hb d_M_takeStrips_16 rfl hl (by decide) rfl (fun ls hl => ?_)
      refine lv_iconst (v := 0) hx hb d_M_takeStrips_17 (by decide) ?_
      refine lv_istore_n (lv' := [(3, .int 0), (2, .int 0), (0, .ref (ad 31)), (1, .int v1)]) hx hb d_M_takeStrips_18 rfl hl (by decide) rfl (fun ls hl => ?_)
      obtain ⟨k19, h⟩ := h
      refine w_M_takeStrips_19 C hcs _ _ v1 hR (fun v2_19e S19e H locs ls h hI hl => ?_) k19 0 0 S _ _ ls hI (lv_sub hl [2, 3, 1, 0] rfl) h
      refine lv_iload_n hx hb d_M_takeStrips_57 rfl (lv_at hl 1 rfl) ?_
      refine lv_if_le (tgt := 77) hx hb d_M_takeStrips_58 (by decide) (fun q => ?_) (fun q => ?_)
      · replace h := h.1 q
        exact w_M_takeStrips_77 C hcs _ _ v1 v2_19e hR (fun v1 S H locs ls h hI hl => ih v1 S H locs ls hI hl h) S19e _ _ ls hI (lv_sub hl [0, 1, 2] rfl) h
      · replace h := h.2 q
        refine lv_aload_n hx hb d_M_takeStrips_61 rfl (lv_at hl 0 rfl) ?_
        refine z_getR C hI 31 (by decide) kd_31 cl_M iw_M 22 (by decide) k_fl_M_57 rfl d_M_takeStrips_62 ?_
        refine lv_iload_n hx hb d_M_takeStrips_65 rfl (lv_at hl 1 rfl) ?_
        refine lv_iconst (v := 1) hx hb d_M_takeStrips_66 (by decide) ?_
        refine lv_isub hx hb d_M_takeStrips_67 ?_
        obtain ⟨h1, h⟩ := h
        refine z_ild C hI 46 (by decide) kd_46 h1 d_M_takeStrips_68 ?_
        refine lv_iconst (v := (-1)) hx hb d_M_takeStrips_69 (by decide) ?_
        refine lv_icmp_eq (tgt := 77) hx hb d_M_takeStrips_70 (by decide) (fun q => ?_) (fun q => ?_)
        · replace h := h.1 q
          exact w_M_takeStrips_77 C hcs _ _ v1 v2_19e hR (fun v1 S H locs ls h hI hl => ih v1 S H locs ls hI hl h) S19e _ _ ls hI (lv_sub hl [0, 1, 2] rfl) h
        · replace h := h.2 q
          refine lv_iconst (v := 1) hx hb d_M_takeStrips_73 (by decide) ?_
          refine lv_goto (tgt := 78) hx hb d_M_takeStrips_74 (by decide) ?_
          exact w_M_takeStrips_78 C hcs _ _ v1 v2_19e 1 hR (fun v1 S H locs ls h hI hl => ih v1 S H locs ls hI hl h) S19e _ _ ls hI (lv_sub hl [0, 1, 2] rfl) h
set_option maxHeartbeats 4000000 in
set_option maxRecDepth 100000 in
theorem c_M_takeStrips (S : zS) (post : zS → Prop) (h : P_M_takeStrips S post) : z_ctv l D cA 51 ad y_M_takeStrips b_M_takeStrips 4 none rm_M_takeStrips [.ref (ad 31)] S post := by
  refine z_metv (av := [.ref (ad 31)]) (by decide) (Nat.le_of_ble_eq_true rfl) ⟨rfl, rfl⟩ (fun p e s m args below meth c Q ls C hcs hl hI hR => ?_)
  obtain ⟨hx, hb, hml, hown, hts, hK, hJ⟩ := id C
  unfold P_M_takeStrips at h
  have hl : lv_has ls 4 [(0, .ref (ad 31))] := hl
  refine lv_aload_n hx hb d_M_takeStrips_0 rfl (lv_at hl 0 rfl) ?_
  refine lv_iconst (v := 0) hx hb d_M_takeStrips_1 (by decide) ?_
  refine z_putI C hI 31 (by decide) kd_31 cl_M iw_M ty_M ty_M_ok n_M 21 (by decide) k_fl_M_134 rfl rfl rfl d_M_takeStrips_2 (fun S2 eS H locs hI => ?_)
  replace h := h S2 eS
  refine lv_iconst (v := 0) hx hb d_M_takeStrips_5 (by decide) ?_
  refine lv_istore_n (lv' := [(1, .int 0), (0, .ref (ad 31))]) hx hb d_M_takeStrips_6 rfl hl (by decide) rfl (fun ls hl => ?_)
  obtain ⟨k7, h⟩ := h
  refine w_M_takeStrips_7 C hcs _ hR k7 0 S2 _ _ ls hI (lv_sub hl [1, 0] rfl) h
set_option maxHeartbeats 4000000 in
set_option maxRecDepth 100000 in
theorem w_M_isClosed_86 (C : z_CT p s m args c R_M b_M_isClosed 6 D cA 51 ad) (hcs : cells ≤ rm_M_isClosed.cells ∧ slots ≤ rm_M_isClosed.slots) (post : Int32 → zS → Prop) (K15 : Int32 → Int32 → zS → Prop) (v1 : Int32) (v3 : Int32) (v4 : Int32) (hR : z_Rz p l e rm_M_isClosed s m args below meth c Q b_M_isClosed D cA 51 ad post) (kK15 : ∀ (v2 : Int32) (v4 : Int32) (S : zS) (H : Heap) (locs : List Loc) (ls : Array Slot), K15 v2 v4 S → z_I D cA 51 ad s.heap S H locs → lv_has ls 6 [(0, .ref (ad 31)), (1, .int v1), (2, .int v2), (3, .int v3), (4, .int v4)] → W p l e rm_M_isClosed s m args below meth c H locs cells slots Q (F0 m 15 ls [])) (S : zS) (H : Heap) (locs : List Loc) (ls : Array Slot) (hI : z_I D cA 51 ad s.heap S H locs) (hl : lv_has ls 6 [(0, .ref (ad 31)), (1, .int v1), (3, .int v3), (4, .int v4)]) (h : J_M_isClosed_86 post K15 v1 v3 v4 S) : W p l e rm_M_isClosed s m args below meth c H locs cells slots Q (F0 m 86 ls []) := by
  obtain ⟨hx, hb, hml, hown, hts, hK, hJ⟩ := id C
  unfold J_M_isClosed_86 at h
  refine lv_iconst (v := 1) hx hb d_M_isClosed_86 (by decide) ?_
  refine lv_goto (tgt := 91) hx hb d_M_isClosed_87 (by decide) ?_
  refine lv_istore_n (lv' := [(2, .int 1), (0, .ref (ad 31)), (1, .int v1), (3, .int v3), (4, .int v4)]) hx hb d_M_isClosed_91 rfl hl (by decide) rfl (fun ls hl => ?_)
  obtain ⟨x92, e92⟩ : ∃ y : Int32, y = v4 + 1 := ⟨_, rfl⟩
  replace h := h x92 e92
  refine lv_iinc (v := x92) (lv' := [(4, .int x92), (2, .int 1), (0, .ref (ad 31)), (1, .int v1), (3, .int v3)]) hx hb d_M_isClosed_92 hl (k := 4) rfl (by rw [e92]; rfl) (by decide) rfl (fun ls hl => ?_)
  refine lv_goto (tgt := 15) hx hb d_M_isClosed_95 (by decide) ?_
  exact kK15 1 x92 S _ _ ls h hI (lv_sub hl [2, 3, 1, 4, 0] rfl)
set_option maxHeartbeats 4000000 in
set_option maxRecDepth 100000 in
theorem w_M_isClosed_59 (C : z_CT p s m args c R_M b_M_isClosed 6 D cA 51 ad) (hcs : cells ≤ rm_M_isClosed.cells ∧ slots ≤ rm_M_isClosed.slots) (post : Int32 → zS → Prop) (K15 : Int32 → Int32 → zS → Prop) (v1 : Int32) (v2 : Int32) (v3 : Int32) (v4 : Int32) (t0 : Int32) (hR : z_Rz p l e rm_M_isClosed s m args below meth c Q b_M_isClosed D cA 51 ad post) (kK15 : ∀ (v2 : Int32) (v4 : Int32) (S : zS) (H : Heap) (locs : List Loc) (ls : Array Slot), K15 v2 v4 S → z_I D cA 51 ad s.heap S H locs → lv_has ls 6 [(0, .ref (ad 31)), (1, .int v1), (2, .int v2), (3, .int v3), (4, .int v4)] → W p l e rm_M_isClosed s m args below meth c H locs cells slots Q (F0 m 15 ls [])) (S : zS) (H : Heap) (locs : List Loc) (ls : Array Slot) (hI : z_I D cA 51 ad s.heap S H locs) (hl : lv_has ls 6 [(0, .ref (ad 31)), (1, .int v1), (2, .int v2), (3, .int v3), (4, .int v4)]) (h : J_M_isClosed_59 post K15 v1 v2 v3 v4 t0 S) : W p l e rm_M_isClosed s m args below meth c H locs cells slots Q (F0 m 59 ls [.int t0]) := by
  obtain ⟨hx, hb, hml, hown, hts, hK, hJ⟩ := id C
  unfold J_M_isClosed_59 at h
  refine lv_istore (lv' := [(5, .int t0), (0, .ref (ad 31)), (1, .int v1), (2, .int v2), (3, .int v3), (4, .int v4)]) hx hb d_M_isClosed_59 hl (by decide) rfl (fun ls hl => ?_)
  refine lv_iload_n hx hb d_M_isClosed_61 rfl (lv_at hl 3 rfl) ?_
  refine lv_if_eq (tgt := 90) hx hb d_M_isClosed_62 (by decide) (fun q => ?_) (fun q => ?_)
  · replace h := h.1 q
    refine lv_iconst (v := 0) hx hb d_M_isClosed_90 (by decide) ?_
    refine lv_istore_n (lv' := [(2, .int 0), (5, .int t0), (0, .ref (ad 31)), (1, .int v1), (3, .int v3), (4, .int v4)]) hx hb d_M_isClosed_91 rfl hl (by decide) rfl (fun ls hl => ?_)
    obtain ⟨x92, e92⟩ : ∃ y : Int32, y = v4 + 1 := ⟨_, rfl⟩
    replace h := h x92 e92
    refine lv_iinc (v := x92) (lv' := [(4, .int x92), (2, .int 0), (5, .int t0), (0, .ref (ad 31)), (1, .int v1), (3, .int v3)]) hx hb d_M_isClosed_92 hl (k := 5) rfl (by rw [e92]; rfl) (by decide) rfl (fun ls hl => ?_)
    refine lv_goto (tgt := 15) hx hb d_M_isClosed_95 (by decide) ?_
    exact kK15 0 x92 S _ _ ls h hI (lv_sub hl [3, 4, 1, 5, 0] rfl)
  · replace h := h.2 q
    refine lv_iload hx hb d_M_isClosed_65 (lv_at hl 0 rfl) ?_
    refine lv_if_eq (tgt := 86) hx hb d_M_isClosed_67 (by decide) (fun q => ?_) (fun q => ?_)
    · replace h := h.1 q
      exact w_M_isClosed_86 C hcs _ _ v1 v3 v4 hR kK15 S _ _ ls hI (lv_sub hl [1, 2, 4, 5] rfl) h
    · replace h := h.2 q
      refine lv_aload_n hx hb d_M_isClosed_70 rfl (lv_at hl 1 rfl) ?_
      refine z_getR C hI 31 (by decide) kd_31 cl_M iw_M 10 (by decide) k_fl_M_29 rfl d_M_isClosed_71 ?_
      refine lv_bipush (v := 24) hx hb d_M_isClosed_74 (by decide) ?_
      refine lv_iload_n hx hb d_M_isClosed_76 rfl (lv_at hl 4 rfl) ?_
      refine lv_imul hx hb d_M_isClosed_77 ?_
      refine lv_iload hx hb d_M_isClosed_78 (lv_at hl 5 rfl) ?_
      refine lv_iadd hx hb d_M_isClosed_80 ?_
      obtain ⟨h1, h⟩ := h
      refine z_ild C hI 37 (by decide) kd_37 h1 d_M_isClosed_81 ?_
      refine lv_iload_n hx hb d_M_isClosed_82 rfl (lv_at hl 2 rfl) ?_
      refine lv_icmp_eq (tgt := 90) hx hb d_M_isClosed_83 (by decide) (fun q => ?_) (fun q => ?_)
      · replace h := h.1 q
        refine lv_iconst (v := 0) hx hb d_M_isClosed_90 (by decide) ?_
        refine lv_istore_n (lv' := [(2, .int 0), (5, .int t0), (0, .ref (ad 31)), (1, .int v1), (3, .int v3), (4, .int v4)]) hx hb d_M_isClosed_91 rfl hl (by decide) rfl (fun ls hl => ?_)
        obtain ⟨x92, e92⟩ : ∃ y : Int32, y = v4 + 1 := ⟨_, rfl⟩
        replace h := h x92 e92
        refine lv_iinc (v := x92) (lv' := [(4, .int x92), (2, .int 0), (5, .int t0), (0, .ref (ad 31)), (1, .int v1), (3, .int v3)]) hx hb d_M_isClosed_92 hl (k := 5) rfl (by rw [e92]; rfl) (by decide) rfl (fun ls hl => ?_)
        refine lv_goto (tgt := 15) hx hb d_M_isClosed_95 (by decide) ?_
        exact kK15 0 x92 S _ _ ls h hI (lv_sub hl [3, 4, 1, 5, 0] rfl)
      · replace h := h.2 q
        exact w_M_isClosed_86 C hcs _ _ v1 v3 v4 hR kK15 S _ _ ls hI (lv_sub hl [1, 2, 4, 5] rfl) h
set_option maxHeartbeats 4000000 in
set_option maxRecDepth 100000 in
theorem w_M_isClosed_54 (C : z_CT p s m args c R_M b_M_isClosed 6 D cA 51 ad) (hcs : cells ≤ rm_M_isClosed.cells ∧ slots ≤ rm_M_isClosed.slots) (post : Int32 → zS → Prop) (K15 : Int32 → Int32 → zS → Prop) (v1 : Int32) (v2 : Int32) (v3 : Int32) (v4 : Int32) (hR : z_Rz p l e rm_M_isClosed s m args below meth c Q b_M_isClosed D cA 51 ad post) (kK15 : ∀ (v2 : Int32) (v4 : Int32) (S : zS) (H : Heap) (locs : List Loc) (ls : Array Slot), K15 v2 v4 S → z_I D cA 51 ad s.heap S H locs → lv_has ls 6 [(0, .ref (ad 31)), (1, .int v1), (2, .int v2), (3, .int v3), (4, .int v4)] → W p l e rm_M_isClosed s m args below meth c H locs cells slots Q (F0 m 15 ls [])) (S : zS) (H : Heap) (locs : List Loc) (ls : Array Slot) (hI : z_I D cA 51 ad s.heap S H locs) (hl : lv_has ls 6 [(0, .ref (ad 31)), (1, .int v1), (2, .int v2), (3, .int v3), (4, .int v4)]) (h : J_M_isClosed_54 post K15 v1 v2 v3 v4 S) : W p l e rm_M_isClosed s m args below meth c H locs cells slots Q (F0 m 54 ls []) := by
  obtain ⟨hx, hb, hml, hown, hts, hK, hJ⟩ := id C
  unfold J_M_isClosed_54 at h
  refine lv_iconst (v := 1) hx hb d_M_isClosed_54 (by decide) ?_
  refine lv_goto (tgt := 59) hx hb d_M_isClosed_55 (by decide) ?_
  exact w_M_isClosed_59 C hcs _ _ v1 v2 v3 v4 1 hR kK15 S _ _ ls hI (lv_sub hl [0, 1, 2, 3, 4] rfl) h
set_option maxHeartbeats 4000000 in
set_option maxRecDepth 100000 in
theorem w_M_isClosed_15 (C : z_CT p s m args c R_M b_M_isClosed 6 D cA 51 ad) (hcs : cells ≤ rm_M_isClosed.cells ∧ slots ≤ rm_M_isClosed.slots) (post : Int32 → zS → Prop) (K98 : Int32 → zS → Prop) (v1 : Int32) (v3 : Int32) (hR : z_Rz p l e rm_M_isClosed s m args below meth c Q b_M_isClosed D cA 51 ad post) (kK98 : ∀ (v2 : Int32) (S : zS) (H : Heap) (locs : List Loc) (ls : Array Slot), K98 v2 S → z_I D cA 51 ad s.heap S H locs → lv_has ls 6 [(0, .ref (ad 31)), (1, .int v1), (2, .int v2), (3, .int v3)] → W p l e rm_M_isClosed s m args below meth c H locs cells slots Q (F0 m 98 ls [])) : ∀ (n : Nat) (v2 : Int32) (v4 : Int32) (S : zS) (H : Heap) (locs : List Loc) (ls : Array Slot), z_I D cA 51 ad s.heap S H locs → lv_has ls 6 [(0, .ref (ad 31)), (1, .int v1), (2, .int v2), (3, .int v3), (4, .int v4)] → L_M_isClosed_15 post K98 v1 v3 n v2 v4 S → W p l e rm_M_isClosed s m args below meth c H locs cells slots Q (F0 m 15 ls []) := by
  obtain ⟨hx, hb, hml, hown, hts, hK, hJ⟩ := id C
  intro n
  induction n with
  | zero => intro v2 v4 S H locs ls hI hl h; exact h.elim
  | succ n ih =>
    intro v2 v4 S H locs ls hI hl h
    rw [L_M_isClosed_15] at h
    refine lv_iload hx hb d_M_isClosed_15 (lv_at hl 4 rfl) ?_
    refine lv_aload_n hx hb d_M_isClosed_17 rfl (lv_at hl 0 rfl) ?_
    refine z_getI C hI 31 (by decide) kd_31 cl_M iw_M 1 (by decide) k_fl_M_73 rfl d_M_isClosed_18 ?_
    refine lv_icmp_ge (tgt := 98) hx hb d_M_isClosed_21 (by decide) (fun q => ?_) (fun q => ?_)
    · replace h := h.1 q
      exact kK98 v2 S _ _ ls h hI (lv_sub hl [0, 1, 2, 3] rfl)
    · replace h := h.2 q
      refine lv_iload hx hb d_M_isClosed_24 (lv_at hl 4 rfl) ?_
      refine lv_if_eq (tgt := 54) hx hb d_M_isClosed_26 (by decide) (fun q => ?_) (fun q => ?_)
      · replace h := h.1 q
        exact w_M_isClosed_54 C hcs _ _ v1 v2 v3 v4 hR (fun v2 v4 S H locs ls h hI hl => ih v2 v4 S H locs ls hI hl h) S _ _ ls hI (lv_sub hl [0, 1, 2, 3, 4] rfl) h
      · replace h := h.2 q
        refine lv_iload_n hx hb d_M_isClosed_29 rfl (lv_at hl 3 rfl) ?_
        refine lv_if_eq (tgt := 54) hx hb d_M_isClosed_30 (by decide) (fun q => ?_) (fun q => ?_)
        · replace h := h.1 q
          exact w_M_isClosed_54 C hcs _ _ v1 v2 v3 v4 hR (fun v2 v4 S H locs ls h hI hl => ih v2 v4 S H locs ls hI hl h) S _ _ ls hI (lv_sub hl [0, 1, 2, 3, 4] rfl) h
        · replace h := h.2 q
          refine lv_iload hx hb d_M_isClosed_33 (lv_at hl 4 rfl) ?_
          refine lv_aload_n hx hb d_M_isClosed_35 rfl (lv_at hl 0 rfl) ?_
          refine z_getI C hI 31 (by decide) kd_31 cl_M iw_M 1 (by decide) k_fl_M_73 rfl d_M_isClosed_36 ?_
          refine lv_iconst (v := 1) hx hb d_M_isClosed_39 (by decide) ?_
          refine lv_isub hx hb d_M_isClosed_40 ?_
          refine lv_icmp_eq (tgt := 54) hx hb d_M_isClosed_41 (by decide) (fun q => ?_) (fun q => ?_)
          · replace h := h.1 q
            exact w_M_isClosed_54 C hcs _ _ v1 v2 v3 v4 hR (fun v2 v4 S H locs ls h hI hl => ih v2 v4 S H locs ls hI hl h) S _ _ ls hI (lv_sub hl [0, 1, 2, 3, 4] rfl) h
          · replace h := h.2 q
            refine lv_iload_n hx hb d_M_isClosed_44 rfl (lv_at hl 3 rfl) ?_
            refine lv_aload_n hx hb d_M_isClosed_45 rfl (lv_at hl 0 rfl) ?_
            refine z_getI C hI 31 (by decide) kd_31 cl_M iw_M 2 (by decide) k_fl_M_76 rfl d_M_isClosed_46 ?_
            refine lv_iconst (v := 1) hx hb d_M_isClosed_49 (by decide) ?_
            refine lv_isub hx hb d_M_isClosed_50 ?_
            refine lv_icmp_ne (tgt := 58) hx hb d_M_isClosed_51 (by decide) (fun q => ?_) (fun q => ?_)
            · replace h := h.1 q
              refine lv_iconst (v := 0) hx hb d_M_isClosed_58 (by decide) ?_
              exact w_M_isClosed_59 C hcs _ _ v1 v2 v3 v4 0 hR (fun v2 v4 S H locs ls h hI hl => ih v2 v4 S H locs ls hI hl h) S _ _ ls hI (lv_sub hl [0, 1, 2, 3, 4] rfl) h
            · replace h := h.2 q
              exact w_M_isClosed_54 C hcs _ _ v1 v2 v3 v4 hR (fun v2 v4 S H locs ls h hI hl => ih v2 v4 S H locs ls hI hl h) S _ _ ls hI (lv_sub hl [0, 1, 2, 3, 4] rfl) h
set_option maxHeartbeats 4000000 in
set_option maxRecDepth 100000 in
theorem w_M_isClosed_4 (C : z_CT p s m args c R_M b_M_isClosed 6 D cA 51 ad) (hcs : cells ≤ rm_M_isClosed.cells ∧ slots ≤ rm_M_isClosed.slots) (post : Int32 → zS → Prop) (v1 : Int32) (hR : z_Rz p l e rm_M_isClosed s m args below meth c Q b_M_isClosed D cA 51 ad post) : ∀ (n : Nat) (v2 : Int32) (v3 : Int32) (S : zS) (H : Heap) (locs : List Loc) (ls : Array Slot), z_I D cA 51 ad s.heap S H locs → lv_has ls 6 [(0, .ref (ad 31)), (1, .int v1), (2, .int v2), (3, .int v3)] → L_M_isClosed_4 post v1 n v2 v3 S → W p l e rm_M_isClosed s m args below meth c H locs cells slots Q (F0 m 4 ls []) := by
  obtain ⟨hx, hb, hml, hown, hts, hK, hJ⟩ := id C
  intro n
  induction n with
  | zero => intro v2 v3 S H locs ls hI hl h; exact h.elim
  | succ n ih =>
    intro v2 v3 S H locs ls hI hl h
    rw [L_M_isClosed_4] at h
    refine lv_iload_n hx hb d_M_isClosed_4 rfl (lv_at hl 3 rfl) ?_
    refine lv_aload_n hx hb d_M_isClosed_5 rfl (lv_at hl 0 rfl) ?_
    refine z_getI C hI 31 (by decide) kd_31 cl_M iw_M 2 (by decide) k_fl_M_76 rfl d_M_isClosed_6 ?_
    refine lv_icmp_ge (tgt := 104) hx hb d_M_isClosed_9 (by decide) (fun q => ?_) (fun q => ?_)
    · replace h := h.1 q
      refine lv_iload_n hx hb d_M_isClosed_104 rfl (lv_at hl 2 rfl) ?_
      exact hR _ _ hcs v2 S _ _ 105 ls h.1 h.2 hI d_M_isClosed_105
    · replace h := h.2 q
      refine lv_iconst (v := 0) hx hb d_M_isClosed_12 (by decide) ?_
      refine lv_istore (lv' := [(4, .int 0), (0, .ref (ad 31)), (1, .int v1), (2, .int v2), (3, .int v3)]) hx hb d_M_isClosed_13 hl (by decide) rfl (fun ls hl => ?_)
      obtain ⟨k15, h⟩ := h
      refine w_M_isClosed_15 C hcs _ _ v1 v3 hR (fun v2_15e S15e H locs ls h hI hl => ?_) k15 v2 0 S _ _ ls hI (lv_sub hl [1, 2, 3, 4, 0] rfl) h
      obtain ⟨x98, e98⟩ : ∃ y : Int32, y = v3 + 1 := ⟨_, rfl⟩
      replace h := h x98 e98
      refine lv_iinc (v := x98) (lv' := [(3, .int x98), (0, .ref (ad 31)), (1, .int v1), (2, .int v2_15e)]) hx hb d_M_isClosed_98 hl (k := 3) rfl (by rw [e98]; rfl) (by decide) rfl (fun ls hl => ?_)
      refine lv_goto (tgt := 4) hx hb d_M_isClosed_101 (by decide) ?_
      exact ih v2_15e x98 S15e _ _ ls hI (lv_sub hl [1, 2, 3, 0] rfl) h
set_option maxHeartbeats 4000000 in
set_option maxRecDepth 100000 in
theorem c_M_isClosed (v1 : Int32) (S : zS) (post : Int32 → zS → Prop) (h : P_M_isClosed v1 S post) : z_cti l D cA 51 ad y_M_isClosed b_M_isClosed 6 (some .boolean) rm_M_isClosed [.ref (ad 31), .int v1] S post := by
  refine z_metz (av := [.ref (ad 31), .int v1]) (by decide) (Nat.le_of_ble_eq_true rfl) ⟨rfl, rfl⟩ (fun p e s m args below meth c Q ls C hcs hl hI hR => ?_)
  obtain ⟨hx, hb, hml, hown, hts, hK, hJ⟩ := id C
  unfold P_M_isClosed at h
  have hl : lv_has ls 6 [(0, .ref (ad 31)), (1, .int v1)] := hl
  refine lv_iconst (v := 1) hx hb d_M_isClosed_0 (by decide) ?_
  refine lv_istore_n (lv' := [(2, .int 1), (0, .ref (ad 31)), (1, .int v1)]) hx hb d_M_isClosed_1 rfl hl (by decide) rfl (fun ls hl => ?_)
  refine lv_iconst (v := 0) hx hb d_M_isClosed_2 (by decide) ?_
  refine lv_istore_n (lv' := [(3, .int 0), (2, .int 1), (0, .ref (ad 31)), (1, .int v1)]) hx hb d_M_isClosed_3 rfl hl (by decide) rfl (fun ls hl => ?_)
  obtain ⟨k4, h⟩ := h
  refine w_M_isClosed_4 C hcs _ v1 hR k4 1 0 S _ _ ls hI (lv_sub hl [2, 3, 1, 0] rfl) h
set_option maxHeartbeats 4000000 in
set_option maxRecDepth 100000 in
theorem w_M_takeCells_131 (C : z_CT p s m args c R_M b_M_takeCells 4 D cA 51 ad) (hcs : cells ≤ rm_M_takeCells.cells ∧ slots ≤ rm_M_takeCells.slots) (post : zS → Prop) (K23 : Int32 → zS → Prop) (v1 : Int32) (v2 : Int32) (hR : z_Rv p l e rm_M_takeCells s m args below meth c Q b_M_takeCells D cA 51 ad post) (kK23 : ∀ (v2 : Int32) (S : zS) (H : Heap) (locs : List Loc) (ls : Array Slot), K23 v2 S → z_I D cA 51 ad s.heap S H locs → lv_has ls 4 [(0, .ref (ad 31)), (1, .int v1), (2, .int v2)] → W p l e rm_M_takeCells s m args below meth c H locs cells slots Q (F0 m 23 ls [])) (S : zS) (H : Heap) (locs : List Loc) (ls : Array Slot) (hI : z_I D cA 51 ad s.heap S H locs) (hl : lv_has ls 4 [(0, .ref (ad 31)), (1, .int v1), (2, .int v2)]) (h : J_M_takeCells_131 post K23 v1 v2 S) : W p l e rm_M_takeCells s m args below meth c H locs cells slots Q (F0 m 131 ls [.ref (ad 31)]) := by
  obtain ⟨hx, hb, hml, hown, hts, hK, hJ⟩ := id C
  unfold J_M_takeCells_131 at h
  refine lv_aload_n hx hb d_M_takeCells_131 rfl (lv_at hl 0 rfl) ?_
  refine z_getI C hI 31 (by decide) kd_31 cl_M iw_M 23 (by decide) k_fl_M_137 rfl d_M_takeCells_132 ?_
  refine z_putI C hI 31 (by decide) kd_31 cl_M iw_M ty_M ty_M_ok n_M 23 (by decide) k_fl_M_137 rfl rfl rfl d_M_takeCells_135 (fun S135 eS H locs hI => ?_)
  replace h := h S135 eS
  obtain ⟨x138, e138⟩ : ∃ y : Int32, y = v2 + 1 := ⟨_, rfl⟩
  replace h := h x138 e138
  refine lv_iinc (v := x138) (lv' := [(2, .int x138), (0, .ref (ad 31)), (1, .int v1)]) hx hb d_M_takeCells_138 hl (k := 2) rfl (by rw [e138]; rfl) (by decide) rfl (fun ls hl => ?_)
  refine lv_goto (tgt := 23) hx hb d_M_takeCells_141 (by decide) ?_
  exact kK23 x138 S135 _ _ ls h hI (lv_sub hl [1, 2, 0] rfl)
set_option maxHeartbeats 4000000 in
set_option maxRecDepth 100000 in
theorem w_M_takeCells_97 (C : z_CT p s m args c R_M b_M_takeCells 4 D cA 51 ad) (hcs : cells ≤ rm_M_takeCells.cells ∧ slots ≤ rm_M_takeCells.slots) (post : zS → Prop) (K23 : Int32 → zS → Prop) (v1 : Int32) (v2 : Int32) (v3 : Int32) (t0 : Int32) (t1 : Int32) (hR : z_Rv p l e rm_M_takeCells s m args below meth c Q b_M_takeCells D cA 51 ad post) (kK23 : ∀ (v2 : Int32) (S : zS) (H : Heap) (locs : List Loc) (ls : Array Slot), K23 v2 S → z_I D cA 51 ad s.heap S H locs → lv_has ls 4 [(0, .ref (ad 31)), (1, .int v1), (2, .int v2)] → W p l e rm_M_takeCells s m args below meth c H locs cells slots Q (F0 m 23 ls [])) (S : zS) (H : Heap) (locs : List Loc) (ls : Array Slot) (hI : z_I D cA 51 ad s.heap S H locs) (hl : lv_has ls 4 [(0, .ref (ad 31)), (1, .int v1), (2, .int v2), (3, .int v3)]) (h : J_M_takeCells_97 post K23 v1 v2 v3 t0 t1 S) : W p l e rm_M_takeCells s m args below meth c H locs cells slots Q (F0 m 97 ls [.int t0, .int t1, .ref (ad 47)]) := by
  obtain ⟨hx, hb, hml, hown, hts, hK, hJ⟩ := id C
  unfold J_M_takeCells_97 at h
  obtain ⟨h1, h⟩ := h
  refine z_ist C hI 47 (by decide) kd_47 h1 d_M_takeCells_97 (fun S97 eS H locs hI => ?_)
  replace h := h S97 eS
  refine lv_aload_n hx hb d_M_takeCells_98 rfl (lv_at hl 0 rfl) ?_
  refine lv_aload_n hx hb d_M_takeCells_99 rfl (lv_at hl 0 rfl) ?_
  refine z_getR C hI 31 (by decide) kd_31 cl_M iw_M 10 (by decide) k_fl_M_29 rfl d_M_takeCells_100 ?_
  refine lv_iload_n hx hb d_M_takeCells_103 rfl (lv_at hl 3 rfl) ?_
  obtain ⟨h1, h⟩ := h
  refine z_ild C hI 37 (by decide) kd_37 h1 d_M_takeCells_104 ?_
  refine lv_iload_n hx hb d_M_takeCells_105 rfl (lv_at hl 3 rfl) ?_
  refine lv_icmp_ne (tgt := 131) hx hb d_M_takeCells_106 (by decide) (fun q => ?_) (fun q => ?_)
  · replace h := h.1 q
    exact w_M_takeCells_131 C hcs _ _ v1 v2 hR kK23 S97 _ _ ls hI (lv_sub hl [0, 1, 2] rfl) h
  · replace h := h.2 q
    refine lv_aload_n hx hb d_M_takeCells_109 rfl (lv_at hl 0 rfl) ?_
    refine z_getR C hI 31 (by decide) kd_31 cl_M iw_M 24 (by decide) k_fl_M_60 rfl d_M_takeCells_110 ?_
    refine lv_iload_n hx hb d_M_takeCells_113 rfl (lv_at hl 3 rfl) ?_
    obtain ⟨h1, h⟩ := h
    refine z_ild C hI 47 (by decide) kd_47 h1 d_M_takeCells_114 ?_
    refine lv_aload_n hx hb d_M_takeCells_115 rfl (lv_at hl 0 rfl) ?_
    refine z_getI C hI 31 (by decide) kd_31 cl_M iw_M 23 (by decide) k_fl_M_137 rfl d_M_takeCells_116 ?_
    refine lv_icmp_ne (tgt := 131) hx hb d_M_takeCells_119 (by decide) (fun q => ?_) (fun q => ?_)
    · replace h := h.1 q
      exact w_M_takeCells_131 C hcs _ _ v1 v2 hR kK23 S97 _ _ ls hI (lv_sub hl [0, 1, 2] rfl) h
    · replace h := h.2 q
      refine lv_aload_n hx hb d_M_takeCells_122 rfl (lv_at hl 0 rfl) ?_
      refine z_getI C hI 31 (by decide) kd_31 cl_M iw_M 23 (by decide) k_fl_M_137 rfl d_M_takeCells_123 ?_
      refine lv_iconst (v := 1) hx hb d_M_takeCells_126 (by decide) ?_
      refine lv_iadd hx hb d_M_takeCells_127 ?_
      refine lv_goto (tgt := 135) hx hb d_M_takeCells_128 (by decide) ?_
      refine z_putI C hI 31 (by decide) kd_31 cl_M iw_M ty_M ty_M_ok n_M 23 (by decide) k_fl_M_137 rfl rfl rfl d_M_takeCells_135 (fun S135 eS H locs hI => ?_)
      replace h := h S135 eS
      obtain ⟨x138, e138⟩ : ∃ y : Int32, y = v2 + 1 := ⟨_, rfl⟩
      replace h := h x138 e138
      refine lv_iinc (v := x138) (lv' := [(2, .int x138), (0, .ref (ad 31)), (1, .int v1), (3, .int v3)]) hx hb d_M_takeCells_138 hl (k := 2) rfl (by rw [e138]; rfl) (by decide) rfl (fun ls hl => ?_)
      refine lv_goto (tgt := 23) hx hb d_M_takeCells_141 (by decide) ?_
      exact kK23 x138 S135 _ _ ls h hI (lv_sub hl [1, 2, 0] rfl)
set_option maxHeartbeats 4000000 in
set_option maxRecDepth 100000 in
theorem w_M_takeCells_23 (C : z_CT p s m args c R_M b_M_takeCells 4 D cA 51 ad) (hcs : cells ≤ rm_M_takeCells.cells ∧ slots ≤ rm_M_takeCells.slots) (post : zS → Prop) (K144 : zS → Prop) (v1 : Int32) (hR : z_Rv p l e rm_M_takeCells s m args below meth c Q b_M_takeCells D cA 51 ad post) (kK144 : ∀ (S : zS) (H : Heap) (locs : List Loc) (ls : Array Slot), K144 S → z_I D cA 51 ad s.heap S H locs → lv_has ls 4 [(0, .ref (ad 31)), (1, .int v1)] → W p l e rm_M_takeCells s m args below meth c H locs cells slots Q (F0 m 144 ls [])) : ∀ (n : Nat) (v2 : Int32) (S : zS) (H : Heap) (locs : List Loc) (ls : Array Slot), z_I D cA 51 ad s.heap S H locs → lv_has ls 4 [(0, .ref (ad 31)), (1, .int v1), (2, .int v2)] → L_M_takeCells_23 post K144 v1 n v2 S → W p l e rm_M_takeCells s m args below meth c H locs cells slots Q (F0 m 23 ls []) := by
  obtain ⟨hx, hb, hml, hown, hts, hK, hJ⟩ := id C
  intro n
  induction n with
  | zero => intro v2 S H locs ls hI hl h; exact h.elim
  | succ n ih =>
    intro v2 S H locs ls hI hl h
    rw [L_M_takeCells_23] at h
    refine lv_iload_n hx hb d_M_takeCells_23 rfl (lv_at hl 2 rfl) ?_
    refine lv_aload_n hx hb d_M_takeCells_24 rfl (lv_at hl 0 rfl) ?_
    refine z_getI C hI 31 (by decide) kd_31 cl_M iw_M 1 (by decide) k_fl_M_73 rfl d_M_takeCells_25 ?_
    refine lv_icmp_ge (tgt := 144) hx hb d_M_takeCells_28 (by decide) (fun q => ?_) (fun q => ?_)
    · replace h := h.1 q
      exact kK144 S _ _ ls h hI (lv_sub hl [0, 1] rfl)
    · replace h := h.2 q
      refine lv_bipush (v := 24) hx hb d_M_takeCells_31 (by decide) ?_
      refine lv_iload_n hx hb d_M_takeCells_33 rfl (lv_at hl 1 rfl) ?_
      refine lv_imul hx hb d_M_takeCells_34 ?_
      refine lv_iload_n hx hb d_M_takeCells_35 rfl (lv_at hl 2 rfl) ?_
      refine lv_iadd hx hb d_M_takeCells_36 ?_
      refine lv_topi (fun x37 e37 => ?_)
      replace h := h x37 e37
      refine lv_istore_n (lv' := [(3, .int x37), (0, .ref (ad 31)), (1, .int v1), (2, .int v2)]) hx hb d_M_takeCells_37 rfl hl (by decide) rfl (fun ls hl => ?_)
      refine lv_aload_n hx hb d_M_takeCells_38 rfl (lv_at hl 1 rfl) ?_
      refine z_getR C hI 31 (by decide) kd_31 cl_M iw_M 24 (by decide) k_fl_M_60 rfl d_M_takeCells_39 ?_
      refine lv_iload_n hx hb d_M_takeCells_42 rfl (lv_at hl 0 rfl) ?_
      refine lv_aload_n hx hb d_M_takeCells_43 rfl (lv_at hl 1 rfl) ?_
      refine z_getR C hI 31 (by decide) kd_31 cl_M iw_M 10 (by decide) k_fl_M_29 rfl d_M_takeCells_44 ?_
      refine lv_iload_n hx hb d_M_takeCells_47 rfl (lv_at hl 0 rfl) ?_
      obtain ⟨h1, h⟩ := h
      refine z_ild C hI 37 (by decide) kd_37 h1 d_M_takeCells_48 ?_
      refine lv_iload_n hx hb d_M_takeCells_49 rfl (lv_at hl 0 rfl) ?_
      refine lv_icmp_ne (tgt := 72) hx hb d_M_takeCells_50 (by decide) (fun q => ?_) (fun q => ?_)
      · replace h := h.1 q
        refine lv_aload_n hx hb d_M_takeCells_72 rfl (lv_at hl 1 rfl) ?_
        refine z_getR C hI 31 (by decide) kd_31 cl_M iw_M 10 (by decide) k_fl_M_29 rfl d_M_takeCells_73 ?_
        refine lv_iload_n hx hb d_M_takeCells_76 rfl (lv_at hl 0 rfl) ?_
        obtain ⟨h1, h⟩ := h
        refine z_ild C hI 37 (by decide) kd_37 h1 d_M_takeCells_77 ?_
        refine lv_iconst (v := (-1)) hx hb d_M_takeCells_78 (by decide) ?_
        refine lv_icmp_ne (tgt := 86) hx hb d_M_takeCells_79 (by decide) (fun q => ?_) (fun q => ?_)
        · replace h := h.1 q
          refine lv_aload_n hx hb d_M_takeCells_86 rfl (lv_at hl 1 rfl) ?_
          refine z_getR C hI 31 (by decide) kd_31 cl_M iw_M 24 (by decide) k_fl_M_60 rfl d_M_takeCells_87 ?_
          refine lv_aload_n hx hb d_M_takeCells_90 rfl (lv_at hl 1 rfl) ?_
          refine z_getR C hI 31 (by decide) kd_31 cl_M iw_M 10 (by decide) k_fl_M_29 rfl d_M_takeCells_91 ?_
          refine lv_iload_n hx hb d_M_takeCells_94 rfl (lv_at hl 0 rfl) ?_
          obtain ⟨h1, h⟩ := h
          refine z_ild C hI 37 (by decide) kd_37 h1 d_M_takeCells_95 ?_
          obtain ⟨h1, h⟩ := h
          refine z_ild C hI 47 (by decide) kd_47 h1 d_M_takeCells_96 ?_
          exact w_M_takeCells_97 C hcs _ _ v1 v2 x37 (S 47 (z_ix (S 37 (z_ix x37)))) x37 hR (fun v2 S H locs ls h hI hl => ih v2 S H locs ls hI hl h) S _ _ ls hI (lv_sub hl [1, 2, 3, 0] rfl) h
        · replace h := h.2 q
          refine lv_iconst (v := (-1)) hx hb d_M_takeCells_82 (by decide) ?_
          refine lv_goto (tgt := 97) hx hb d_M_takeCells_83 (by decide) ?_
          exact w_M_takeCells_97 C hcs _ _ v1 v2 x37 (-1) x37 hR (fun v2 S H locs ls h hI hl => ih v2 S H locs ls hI hl h) S _ _ ls hI (lv_sub hl [1, 2, 3, 0] rfl) h
      · replace h := h.2 q
        refine lv_aload_n hx hb d_M_takeCells_53 rfl (lv_at hl 1 rfl) ?_
        refine lv_iload_n hx hb d_M_takeCells_54 rfl (lv_at hl 0 rfl) ?_
        refine z_callVi C hI 31 (by decide) kd_31 cl_M (As := [.int x37]) (rest := [.int x37, .ref (ad 47)]) (c_M_isClosed x37 _ _ h) wc_M_isClosed k_ml_M_140 rfl rfl (Nat.le_of_ble_eq_true rfl) (Nat.le_of_ble_eq_true rfl) hcs hl.1 (Nat.le_of_ble_eq_true rfl) rfl d_M_takeCells_55 (fun r55 S55 H locs h hI => ?_)
        refine lv_if_eq (tgt := 68) hx hb d_M_takeCells_58 (by decide) (fun q => ?_) (fun q => ?_)
        · replace h := h.1 q
          refine lv_iconst (v := (-1)) hx hb d_M_takeCells_68 (by decide) ?_
          refine lv_goto (tgt := 97) hx hb d_M_takeCells_69 (by decide) ?_
          exact w_M_takeCells_97 C hcs _ _ v1 v2 x37 (-1) x37 hR (fun v2 S H locs ls h hI hl => ih v2 S H locs ls hI hl h) S55 _ _ ls hI (lv_sub hl [1, 2, 3, 0] rfl) h
        · replace h := h.2 q
          refine lv_aload_n hx hb d_M_takeCells_61 rfl (lv_at hl 1 rfl) ?_
          refine z_getI C hI 31 (by decide) kd_31 cl_M iw_M 23 (by decide) k_fl_M_137 rfl d_M_takeCells_62 ?_
          refine lv_goto (tgt := 97) hx hb d_M_takeCells_65 (by decide) ?_
          exact w_M_takeCells_97 C hcs _ _ v1 v2 x37 (S55 31 23) x37 hR (fun v2 S H locs ls h hI hl => ih v2 S H locs ls hI hl h) S55 _ _ ls hI (lv_sub hl [1, 2, 3, 0] rfl) h
set_option maxHeartbeats 4000000 in
set_option maxRecDepth 100000 in
theorem w_M_takeCells_13 (C : z_CT p s m args c R_M b_M_takeCells 4 D cA 51 ad) (hcs : cells ≤ rm_M_takeCells.cells ∧ slots ≤ rm_M_takeCells.slots) (post : zS → Prop) (hR : z_Rv p l e rm_M_takeCells s m args below meth c Q b_M_takeCells D cA 51 ad post) : ∀ (n : Nat) (v1 : Int32) (S : zS) (H : Heap) (locs : List Loc) (ls : Array Slot), z_I D cA 51 ad s.heap S H locs → lv_has ls 4 [(0, .ref (ad 31)), (1, .int v1)] → L_M_takeCells_13 post n v1 S → W p l e rm_M_takeCells s m args below meth c H locs cells slots Q (F0 m 13 ls []) := by
  obtain ⟨hx, hb, hml, hown, hts, hK, hJ⟩ := id C
  intro n
  induction n with
  | zero => intro v1 S H locs ls hI hl h; exact h.elim
  | succ n ih =>
    intro v1 S H locs ls hI hl h
    rw [L_M_takeCells_13] at h
    refine lv_iload_n hx hb d_M_takeCells_13 rfl (lv_at hl 1 rfl) ?_
    refine lv_aload_n hx hb d_M_takeCells_14 rfl (lv_at hl 0 rfl) ?_
    refine z_getI C hI 31 (by decide) kd_31 cl_M iw_M 2 (by decide) k_fl_M_76 rfl d_M_takeCells_15 ?_
    refine lv_icmp_ge (tgt := 150) hx hb d_M_takeCells_18 (by decide) (fun q => ?_) (fun q => ?_)
    · replace h := h.1 q
      exact hR _ _ hcs S _ _ 150 ls h hI d_M_takeCells_150
    · replace h := h.2 q
      refine lv_iconst (v := 0) hx hb d_M_takeCells_21 (by decide) ?_
      refine lv_istore_n (lv' := [(2, .int 0), (0, .ref (ad 31)), (1, .int v1)]) hx hb d_M_takeCells_22 rfl hl (by decide) rfl (fun ls hl => ?_)
      obtain ⟨k23, h⟩ := h
      refine w_M_takeCells_23 C hcs _ _ v1 hR (fun S23e H locs ls h hI hl => ?_) k23 0 S _ _ ls hI (lv_sub hl [1, 2, 0] rfl) h
      obtain ⟨x144, e144⟩ : ∃ y : Int32, y = v1 + 1 := ⟨_, rfl⟩
      replace h := h x144 e144
      refine lv_iinc (v := x144) (lv' := [(1, .int x144), (0, .ref (ad 31))]) hx hb d_M_takeCells_144 hl (k := 1) rfl (by rw [e144]; rfl) (by decide) rfl (fun ls hl => ?_)
      refine lv_goto (tgt := 13) hx hb d_M_takeCells_147 (by decide) ?_
      exact ih x144 S23e _ _ ls hI (lv_sub hl [1, 0] rfl) h
set_option maxHeartbeats 4000000 in
set_option maxRecDepth 100000 in
theorem c_M_takeCells (S : zS) (post : zS → Prop) (h : P_M_takeCells S post) : z_ctv l D cA 51 ad y_M_takeCells b_M_takeCells 4 none rm_M_takeCells [.ref (ad 31)] S post := by
  refine z_metv (av := [.ref (ad 31)]) (by decide) (Nat.le_of_ble_eq_true rfl) ⟨rfl, rfl⟩ (fun p e s m args below meth c Q ls C hcs hl hI hR => ?_)
  obtain ⟨hx, hb, hml, hown, hts, hK, hJ⟩ := id C
  unfold P_M_takeCells at h
  have hl : lv_has ls 4 [(0, .ref (ad 31))] := hl
  refine lv_aload_n hx hb d_M_takeCells_0 rfl (lv_at hl 0 rfl) ?_
  refine lv_iconst (v := 2) hx hb d_M_takeCells_1 (by decide) ?_
  refine lv_iconst (v := 0) hx hb d_M_takeCells_2 (by decide) ?_
  refine z_callVv C hI 31 (by decide) kd_31 cl_M (As := [.int 2, .int 0]) (rest := []) (c_M_group 2 0 _ _ h) wc_M_group k_ml_M_105 rfl rfl (Nat.le_of_ble_eq_true rfl) (Nat.le_of_ble_eq_true rfl) hcs hl.1 (Nat.le_of_ble_eq_true rfl) rfl d_M_takeCells_3 (fun S3 H locs h hI => ?_)
  refine lv_aload_n hx hb d_M_takeCells_6 rfl (lv_at hl 0 rfl) ?_
  refine lv_iconst (v := 0) hx hb d_M_takeCells_7 (by decide) ?_
  refine z_putI C hI 31 (by decide) kd_31 cl_M iw_M ty_M ty_M_ok n_M 23 (by decide) k_fl_M_137 rfl rfl rfl d_M_takeCells_8 (fun S8 eS H locs hI => ?_)
  replace h := h S8 eS
  refine lv_iconst (v := 0) hx hb d_M_takeCells_11 (by decide) ?_
  refine lv_istore_n (lv' := [(1, .int 0), (0, .ref (ad 31))]) hx hb d_M_takeCells_12 rfl hl (by decide) rfl (fun ls hl => ?_)
  obtain ⟨k13, h⟩ := h
  refine w_M_takeCells_13 C hcs _ hR k13 0 S8 _ _ ls hI (lv_sub hl [1, 0] rfl) h
set_option maxHeartbeats 4000000 in
set_option maxRecDepth 100000 in
theorem c_M_low (v1 : Int32) (v2 : Int32) (S : zS) (post : Int32 → zS → Prop) (h : P_M_low v1 v2 S post) : z_cti l D cA 51 ad y_M_low b_M_low 3 (some .int) rm_M_low [.ref (ad 31), .int v1, .int v2] S post := by
  refine z_meti (av := [.ref (ad 31), .int v1, .int v2]) (by decide) (Nat.le_of_ble_eq_true rfl) ⟨rfl, rfl⟩ (fun p e s m args below meth c Q ls C hcs hl hI hR => ?_)
  obtain ⟨hx, hb, hml, hown, hts, hK, hJ⟩ := id C
  unfold P_M_low at h
  have hl : lv_has ls 3 [(0, .ref (ad 31)), (1, .int v1), (2, .int v2)] := hl
  refine lv_iload_n hx hb d_M_low_0 rfl (lv_at hl 2 rfl) ?_
  refine lv_if_eq (tgt := 13) hx hb d_M_low_1 (by decide) (fun q => ?_) (fun q => ?_)
  · replace h := h.1 q
    refine lv_aload_n hx hb d_M_low_13 rfl (lv_at hl 0 rfl) ?_
    refine z_getR C hI 31 (by decide) kd_31 cl_M iw_M 13 (by decide) k_fl_M_36 rfl d_M_low_14 ?_
    refine lv_iload_n hx hb d_M_low_17 rfl (lv_at hl 1 rfl) ?_
    obtain ⟨h1, h⟩ := h
    refine z_ild C hI 39 (by decide) kd_39 h1 d_M_low_18 ?_
    exact hR _ _ hcs (S 39 (z_ix v1)) S _ _ 19 ls h hI d_M_low_19
  · replace h := h.2 q
    refine lv_aload_n hx hb d_M_low_4 rfl (lv_at hl 0 rfl) ?_
    refine z_getR C hI 31 (by decide) kd_31 cl_M iw_M 14 (by decide) k_fl_M_39 rfl d_M_low_5 ?_
    refine lv_iload_n hx hb d_M_low_8 rfl (lv_at hl 1 rfl) ?_
    obtain ⟨h1, h⟩ := h
    refine z_ild C hI 40 (by decide) kd_40 h1 d_M_low_9 ?_
    refine lv_goto (tgt := 19) hx hb d_M_low_10 (by decide) ?_
    exact hR _ _ hcs (S 40 (z_ix v1)) S _ _ 19 ls h hI d_M_low_19
set_option maxHeartbeats 4000000 in
set_option maxRecDepth 100000 in
theorem c_M_high (v1 : Int32) (v2 : Int32) (S : zS) (post : Int32 → zS → Prop) (h : P_M_high v1 v2 S post) : z_cti l D cA 51 ad y_M_high b_M_high 3 (some .int) rm_M_high [.ref (ad 31), .int v1, .int v2] S post := by
  refine z_meti (av := [.ref (ad 31), .int v1, .int v2]) (by decide) (Nat.le_of_ble_eq_true rfl) ⟨rfl, rfl⟩ (fun p e s m args below meth c Q ls C hcs hl hI hR => ?_)
  obtain ⟨hx, hb, hml, hown, hts, hK, hJ⟩ := id C
  unfold P_M_high at h
  have hl : lv_has ls 3 [(0, .ref (ad 31)), (1, .int v1), (2, .int v2)] := hl
  refine lv_iload_n hx hb d_M_high_0 rfl (lv_at hl 2 rfl) ?_
  refine lv_if_eq (tgt := 13) hx hb d_M_high_1 (by decide) (fun q => ?_) (fun q => ?_)
  · replace h := h.1 q
    refine lv_aload_n hx hb d_M_high_13 rfl (lv_at hl 0 rfl) ?_
    refine z_getR C hI 31 (by decide) kd_31 cl_M iw_M 15 (by decide) k_fl_M_42 rfl d_M_high_14 ?_
    refine lv_iload_n hx hb d_M_high_17 rfl (lv_at hl 1 rfl) ?_
    obtain ⟨h1, h⟩ := h
    refine z_ild C hI 41 (by decide) kd_41 h1 d_M_high_18 ?_
    exact hR _ _ hcs (S 41 (z_ix v1)) S _ _ 19 ls h hI d_M_high_19
  · replace h := h.2 q
    refine lv_aload_n hx hb d_M_high_4 rfl (lv_at hl 0 rfl) ?_
    refine z_getR C hI 31 (by decide) kd_31 cl_M iw_M 16 (by decide) k_fl_M_45 rfl d_M_high_5 ?_
    refine lv_iload_n hx hb d_M_high_8 rfl (lv_at hl 1 rfl) ?_
    obtain ⟨h1, h⟩ := h
    refine z_ild C hI 42 (by decide) kd_42 h1 d_M_high_9 ?_
    refine lv_goto (tgt := 19) hx hb d_M_high_10 (by decide) ?_
    exact hR _ _ hcs (S 42 (z_ix v1)) S _ _ 19 ls h hI d_M_high_19
set_option maxHeartbeats 4000000 in
set_option maxRecDepth 100000 in
theorem w_M_gap_92 (C : z_CT p s m args c R_M b_M_gap 11 D cA 51 ad) (hcs : cells ≤ rm_M_gap.cells ∧ slots ≤ rm_M_gap.slots) (post : Int32 → zS → Prop) (K13 : Int32 → Int32 → Int32 → Int32 → zS → Prop) (v1 : Int32) (v2 : Int32) (v4 : Int32) (v6 : Int32) (v7 : Int32) (v8 : Int32) (v9 : Int32) (t0 : Int32) (hR : z_Ri p l e rm_M_gap s m args below meth c Q b_M_gap D cA 51 ad post) (kK13 : ∀ (v5 : Int32) (v6 : Int32) (v7 : Int32) (v8 : Int32) (S : zS) (H : Heap) (locs : List Loc) (ls : Array Slot), K13 v5 v6 v7 v8 S → z_I D cA 51 ad s.heap S H locs → lv_has ls 11 [(0, .ref (ad 31)), (1, .int v1), (2, .int v2), (4, .int v4), (5, .int v5), (6, .int v6), (7, .int v7), (8, .int v8)] → W p l e rm_M_gap s m args below meth c H locs cells slots Q (F0 m 13 ls [])) (S : zS) (H : Heap) (locs : List Loc) (ls : Array Slot) (hI : z_I D cA 51 ad s.heap S H locs) (hl : lv_has ls 11 [(0, .ref (ad 31)), (1, .int v1), (2, .int v2), (4, .int v4), (6, .int v6), (7, .int v7), (8, .int v8), (9, .int v9)]) (h : J_M_gap_92 post K13 v1 v2 v4 v6 v7 v8 v9 t0 S) : W p l e rm_M_gap s m args below meth c H locs cells slots Q (F0 m 92 ls [.int t0]) := by
  obtain ⟨hx, hb, hml, hown, hts, hK, hJ⟩ := id C
  unfold J_M_gap_92 at h
  refine lv_istore (lv' := [(5, .int t0), (0, .ref (ad 31)), (1, .int v1), (2, .int v2), (4, .int v4), (6, .int v6), (7, .int v7), (8, .int v8), (9, .int v9)]) hx hb d_M_gap_92 hl (by decide) rfl (fun ls hl => ?_)
  refine lv_iload hx hb d_M_gap_94 (lv_at hl 8 rfl) ?_
  refine lv_iload_n hx hb d_M_gap_96 rfl (lv_at hl 2 rfl) ?_
  refine lv_icmp_lt (tgt := 112) hx hb d_M_gap_97 (by decide) (fun q => ?_) (fun q => ?_)
  · replace h := h.1 q
    refine lv_iload hx hb d_M_gap_112 (lv_at hl 5 rfl) ?_
    refine lv_istore (lv' := [(6, .int v6), (5, .int t0), (0, .ref (ad 31)), (1, .int v1), (2, .int v2), (4, .int v4), (7, .int v7), (8, .int v8), (9, .int v9)]) hx hb d_M_gap_114 hl (by decide) rfl (fun ls hl => ?_)
    obtain ⟨x116, e116⟩ : ∃ y : Int32, y = v8 + 1 := ⟨_, rfl⟩
    replace h := h x116 e116
    refine lv_iinc (v := x116) (lv' := [(8, .int x116), (6, .int v6), (5, .int t0), (0, .ref (ad 31)), (1, .int v1), (2, .int v2), (4, .int v4), (7, .int v7), (9, .int v9)]) hx hb d_M_gap_116 hl (k := 7) rfl (by rw [e116]; rfl) (by decide) rfl (fun ls hl => ?_)
    refine lv_goto (tgt := 13) hx hb d_M_gap_119 (by decide) ?_
    exact kK13 t0 v6 v7 x116 S _ _ ls h hI (lv_sub hl [3, 4, 5, 6, 2, 1, 7, 0] rfl)
  · replace h := h.2 q
    refine lv_iload hx hb d_M_gap_100 (lv_at hl 8 rfl) ?_
    refine lv_iload hx hb d_M_gap_102 (lv_at hl 5 rfl) ?_
    refine lv_icmp_ge (tgt := 112) hx hb d_M_gap_104 (by decide) (fun q => ?_) (fun q => ?_)
    · replace h := h.1 q
      refine lv_iload hx hb d_M_gap_112 (lv_at hl 5 rfl) ?_
      refine lv_istore (lv' := [(6, .int v6), (5, .int t0), (0, .ref (ad 31)), (1, .int v1), (2, .int v2), (4, .int v4), (7, .int v7), (8, .int v8), (9, .int v9)]) hx hb d_M_gap_114 hl (by decide) rfl (fun ls hl => ?_)
      obtain ⟨x116, e116⟩ : ∃ y : Int32, y = v8 + 1 := ⟨_, rfl⟩
      replace h := h x116 e116
      refine lv_iinc (v := x116) (lv' := [(8, .int x116), (6, .int v6), (5, .int t0), (0, .ref (ad 31)), (1, .int v1), (2, .int v2), (4, .int v4), (7, .int v7), (9, .int v9)]) hx hb d_M_gap_116 hl (k := 7) rfl (by rw [e116]; rfl) (by decide) rfl (fun ls hl => ?_)
      refine lv_goto (tgt := 13) hx hb d_M_gap_119 (by decide) ?_
      exact kK13 t0 v6 v7 x116 S _ _ ls h hI (lv_sub hl [3, 4, 5, 6, 2, 1, 7, 0] rfl)
    · replace h := h.2 q
      refine lv_iload hx hb d_M_gap_107 (lv_at hl 8 rfl) ?_
      refine lv_goto (tgt := 114) hx hb d_M_gap_109 (by decide) ?_
      refine lv_istore (lv' := [(6, .int v9), (5, .int t0), (0, .ref (ad 31)), (1, .int v1), (2, .int v2), (4, .int v4), (7, .int v7), (8, .int v8), (9, .int v9)]) hx hb d_M_gap_114 hl (by decide) rfl (fun ls hl => ?_)
      obtain ⟨x116, e116⟩ : ∃ y : Int32, y = v8 + 1 := ⟨_, rfl⟩
      replace h := h x116 e116
      refine lv_iinc (v := x116) (lv' := [(8, .int x116), (6, .int v9), (5, .int t0), (0, .ref (ad 31)), (1, .int v1), (2, .int v2), (4, .int v4), (7, .int v7), (9, .int v9)]) hx hb d_M_gap_116 hl (k := 7) rfl (by rw [e116]; rfl) (by decide) rfl (fun ls hl => ?_)
      refine lv_goto (tgt := 13) hx hb d_M_gap_119 (by decide) ?_
      exact kK13 t0 v9 v7 x116 S _ _ ls h hI (lv_sub hl [3, 4, 5, 6, 2, 1, 7, 0] rfl)
set_option maxHeartbeats 4000000 in
set_option maxRecDepth 100000 in
theorem w_M_gap_90 (C : z_CT p s m args c R_M b_M_gap 11 D cA 51 ad) (hcs : cells ≤ rm_M_gap.cells ∧ slots ≤ rm_M_gap.slots) (post : Int32 → zS → Prop) (K13 : Int32 → Int32 → Int32 → Int32 → zS → Prop) (v1 : Int32) (v2 : Int32) (v4 : Int32) (v5 : Int32) (v6 : Int32) (v7 : Int32) (v8 : Int32) (v9 : Int32) (hR : z_Ri p l e rm_M_gap s m args below meth c Q b_M_gap D cA 51 ad post) (kK13 : ∀ (v5 : Int32) (v6 : Int32) (v7 : Int32) (v8 : Int32) (S : zS) (H : Heap) (locs : List Loc) (ls : Array Slot), K13 v5 v6 v7 v8 S → z_I D cA 51 ad s.heap S H locs → lv_has ls 11 [(0, .ref (ad 31)), (1, .int v1), (2, .int v2), (4, .int v4), (5, .int v5), (6, .int v6), (7, .int v7), (8, .int v8)] → W p l e rm_M_gap s m args below meth c H locs cells slots Q (F0 m 13 ls [])) (S : zS) (H : Heap) (locs : List Loc) (ls : Array Slot) (hI : z_I D cA 51 ad s.heap S H locs) (hl : lv_has ls 11 [(0, .ref (ad 31)), (1, .int v1), (2, .int v2), (4, .int v4), (5, .int v5), (6, .int v6), (7, .int v7), (8, .int v8), (9, .int v9)]) (h : J_M_gap_90 post K13 v1 v2 v4 v5 v6 v7 v8 v9 S) : W p l e rm_M_gap s m args below meth c H locs cells slots Q (F0 m 90 ls []) := by
  obtain ⟨hx, hb, hml, hown, hts, hK, hJ⟩ := id C
  unfold J_M_gap_90 at h
  refine lv_iload hx hb d_M_gap_90 (lv_at hl 4 rfl) ?_
  exact w_M_gap_92 C hcs _ _ v1 v2 v4 v6 v7 v8 v9 v5 hR kK13 S _ _ ls hI (lv_sub hl [0, 1, 2, 3, 5, 6, 7, 8] rfl) h
set_option maxHeartbeats 4000000 in
set_option maxRecDepth 100000 in
theorem w_M_gap_70 (C : z_CT p s m args c R_M b_M_gap 11 D cA 51 ad) (hcs : cells ≤ rm_M_gap.cells ∧ slots ≤ rm_M_gap.slots) (post : Int32 → zS → Prop) (K13 : Int32 → Int32 → Int32 → Int32 → zS → Prop) (v1 : Int32) (v2 : Int32) (v4 : Int32) (v5 : Int32) (v6 : Int32) (v8 : Int32) (v9 : Int32) (v10 : Int32) (t0 : Int32) (hR : z_Ri p l e rm_M_gap s m args below meth c Q b_M_gap D cA 51 ad post) (kK13 : ∀ (v5 : Int32) (v6 : Int32) (v7 : Int32) (v8 : Int32) (S : zS) (H : Heap) (locs : List Loc) (ls : Array Slot), K13 v5 v6 v7 v8 S → z_I D cA 51 ad s.heap S H locs → lv_has ls 11 [(0, .ref (ad 31)), (1, .int v1), (2, .int v2), (4, .int v4), (5, .int v5), (6, .int v6), (7, .int v7), (8, .int v8)] → W p l e rm_M_gap s m args below meth c H locs cells slots Q (F0 m 13 ls [])) (S : zS) (H : Heap) (locs : List Loc) (ls : Array Slot) (hI : z_I D cA 51 ad s.heap S H locs) (hl : lv_has ls 11 [(0, .ref (ad 31)), (1, .int v1), (2, .int v2), (4, .int v4), (5, .int v5), (6, .int v6), (8, .int v8), (9, .int v9), (10, .int v10)]) (h : J_M_gap_70 post K13 v1 v2 v4 v5 v6 v8 v9 v10 t0 S) : W p l e rm_M_gap s m args below meth c H locs cells slots Q (F0 m 70 ls [.int t0]) := by
  obtain ⟨hx, hb, hml, hown, hts, hK, hJ⟩ := id C
  unfold J_M_gap_70 at h
  refine lv_istore (lv' := [(7, .int t0), (0, .ref (ad 31)), (1, .int v1), (2, .int v2), (4, .int v4), (5, .int v5), (6, .int v6), (8, .int v8), (9, .int v9), (10, .int v10)]) hx hb d_M_gap_70 hl (by decide) rfl (fun ls hl => ?_)
  refine lv_iload hx hb d_M_gap_72 (lv_at hl 9 rfl) ?_
  refine lv_iload_n hx hb d_M_gap_74 rfl (lv_at hl 2 rfl) ?_
  refine lv_icmp_ge (tgt := 90) hx hb d_M_gap_75 (by decide) (fun q => ?_) (fun q => ?_)
  · replace h := h.1 q
    exact w_M_gap_90 C hcs _ _ v1 v2 v4 v5 v6 t0 v8 v9 hR kK13 S _ _ ls hI (lv_sub hl [1, 2, 3, 4, 5, 6, 0, 7, 8] rfl) h
  · replace h := h.2 q
    refine lv_iload hx hb d_M_gap_78 (lv_at hl 9 rfl) ?_
    refine lv_iload hx hb d_M_gap_80 (lv_at hl 5 rfl) ?_
    refine lv_icmp_le (tgt := 90) hx hb d_M_gap_82 (by decide) (fun q => ?_) (fun q => ?_)
    · replace h := h.1 q
      exact w_M_gap_90 C hcs _ _ v1 v2 v4 v5 v6 t0 v8 v9 hR kK13 S _ _ ls hI (lv_sub hl [1, 2, 3, 4, 5, 6, 0, 7, 8] rfl) h
    · replace h := h.2 q
      refine lv_iload hx hb d_M_gap_85 (lv_at hl 9 rfl) ?_
      refine lv_goto (tgt := 92) hx hb d_M_gap_87 (by decide) ?_
      exact w_M_gap_92 C hcs _ _ v1 v2 v4 v6 t0 v8 v9 v10 hR kK13 S _ _ ls hI (lv_sub hl [1, 2, 3, 4, 6, 0, 7, 8] rfl) h
set_option maxHeartbeats 4000000 in
set_option maxRecDepth 100000 in
theorem w_M_gap_69 (C : z_CT p s m args c R_M b_M_gap 11 D cA 51 ad) (hcs : cells ≤ rm_M_gap.cells ∧ slots ≤ rm_M_gap.slots) (post : Int32 → zS → Prop) (K13 : Int32 → Int32 → Int32 → Int32 → zS → Prop) (v1 : Int32) (v2 : Int32) (v4 : Int32) (v5 : Int32) (v6 : Int32) (v8 : Int32) (v9 : Int32) (v10 : Int32) (hR : z_Ri p l e rm_M_gap s m args below meth c Q b_M_gap D cA 51 ad post) (kK13 : ∀ (v5 : Int32) (v6 : Int32) (v7 : Int32) (v8 : Int32) (S : zS) (H : Heap) (locs : List Loc) (ls : Array Slot), K13 v5 v6 v7 v8 S → z_I D cA 51 ad s.heap S H locs → lv_has ls 11 [(0, .ref (ad 31)), (1, .int v1), (2, .int v2), (4, .int v4), (5, .int v5), (6, .int v6), (7, .int v7), (8, .int v8)] → W p l e rm_M_gap s m args below meth c H locs cells slots Q (F0 m 13 ls [])) (S : zS) (H : Heap) (locs : List Loc) (ls : Array Slot) (hI : z_I D cA 51 ad s.heap S H locs) (hl : lv_has ls 11 [(0, .ref (ad 31)), (1, .int v1), (2, .int v2), (4, .int v4), (5, .int v5), (6, .int v6), (8, .int v8), (9, .int v9), (10, .int v10)]) (h : J_M_gap_69 post K13 v1 v2 v4 v5 v6 v8 v9 v10 S) : W p l e rm_M_gap s m args below meth c H locs cells slots Q (F0 m 69 ls []) := by
  obtain ⟨hx, hb, hml, hown, hts, hK, hJ⟩ := id C
  unfold J_M_gap_69 at h
  refine lv_iconst (v := 0) hx hb d_M_gap_69 (by decide) ?_
  exact w_M_gap_70 C hcs _ _ v1 v2 v4 v5 v6 v8 v9 v10 0 hR kK13 S _ _ ls hI (lv_sub hl [0, 1, 2, 3, 4, 5, 6, 7, 8] rfl) h
set_option maxHeartbeats 4000000 in
set_option maxRecDepth 100000 in
theorem w_M_gap_65 (C : z_CT p s m args c R_M b_M_gap 11 D cA 51 ad) (hcs : cells ≤ rm_M_gap.cells ∧ slots ≤ rm_M_gap.slots) (post : Int32 → zS → Prop) (K13 : Int32 → Int32 → Int32 → Int32 → zS → Prop) (v1 : Int32) (v2 : Int32) (v4 : Int32) (v5 : Int32) (v6 : Int32) (v8 : Int32) (v9 : Int32) (v10 : Int32) (hR : z_Ri p l e rm_M_gap s m args below meth c Q b_M_gap D cA 51 ad post) (kK13 : ∀ (v5 : Int32) (v6 : Int32) (v7 : Int32) (v8 : Int32) (S : zS) (H : Heap) (locs : List Loc) (ls : Array Slot), K13 v5 v6 v7 v8 S → z_I D cA 51 ad s.heap S H locs → lv_has ls 11 [(0, .ref (ad 31)), (1, .int v1), (2, .int v2), (4, .int v4), (5, .int v5), (6, .int v6), (7, .int v7), (8, .int v8)] → W p l e rm_M_gap s m args below meth c H locs cells slots Q (F0 m 13 ls [])) (S : zS) (H : Heap) (locs : List Loc) (ls : Array Slot) (hI : z_I D cA 51 ad s.heap S H locs) (hl : lv_has ls 11 [(0, .ref (ad 31)), (1, .int v1), (2, .int v2), (4, .int v4), (5, .int v5), (6, .int v6), (8, .int v8), (9, .int v9), (10, .int v10)]) (h : J_M_gap_65 post K13 v1 v2 v4 v5 v6 v8 v9 v10 S) : W p l e rm_M_gap s m args below meth c H locs cells slots Q (F0 m 65 ls []) := by
  obtain ⟨hx, hb, hml, hown, hts, hK, hJ⟩ := id C
  unfold J_M_gap_65 at h
  refine lv_iconst (v := 1) hx hb d_M_gap_65 (by decide) ?_
  refine lv_goto (tgt := 70) hx hb d_M_gap_66 (by decide) ?_
  exact w_M_gap_70 C hcs _ _ v1 v2 v4 v5 v6 v8 v9 v10 1 hR kK13 S _ _ ls hI (lv_sub hl [0, 1, 2, 3, 4, 5, 6, 7, 8] rfl) h
set_option maxHeartbeats 4000000 in
set_option maxRecDepth 100000 in
theorem w_M_gap_13 (C : z_CT p s m args c R_M b_M_gap 11 D cA 51 ad) (hcs : cells ≤ rm_M_gap.cells ∧ slots ≤ rm_M_gap.slots) (post : Int32 → zS → Prop) (K122 : Int32 → Int32 → Int32 → zS → Prop) (v1 : Int32) (v2 : Int32) (v4 : Int32) (hR : z_Ri p l e rm_M_gap s m args below meth c Q b_M_gap D cA 51 ad post) (kK122 : ∀ (v5 : Int32) (v6 : Int32) (v7 : Int32) (S : zS) (H : Heap) (locs : List Loc) (ls : Array Slot), K122 v5 v6 v7 S → z_I D cA 51 ad s.heap S H locs → lv_has ls 11 [(5, .int v5), (6, .int v6), (7, .int v7)] → W p l e rm_M_gap s m args below meth c H locs cells slots Q (F0 m 122 ls [])) : ∀ (n : Nat) (v5 : Int32) (v6 : Int32) (v7 : Int32) (v8 : Int32) (S : zS) (H : Heap) (locs : List Loc) (ls : Array Slot), z_I D cA 51 ad s.heap S H locs → lv_has ls 11 [(0, .ref (ad 31)), (1, .int v1), (2, .int v2), (4, .int v4), (5, .int v5), (6, .int v6), (7, .int v7), (8, .int v8)] → L_M_gap_13 post K122 v1 v2 v4 n v5 v6 v7 v8 S → W p l e rm_M_gap s m args below meth c H locs cells slots Q (F0 m 13 ls []) := by
  obtain ⟨hx, hb, hml, hown, hts, hK, hJ⟩ := id C
  intro n
  induction n with
  | zero => intro v5 v6 v7 v8 S H locs ls hI hl h; exact h.elim
  | succ n ih =>
    intro v5 v6 v7 v8 S H locs ls hI hl h
    rw [L_M_gap_13] at h
    refine lv_iload hx hb d_M_gap_13 (lv_at hl 7 rfl) ?_
    refine lv_iload hx hb d_M_gap_15 (lv_at hl 3 rfl) ?_
    refine lv_icmp_ge (tgt := 122) hx hb d_M_gap_17 (by decide) (fun q => ?_) (fun q => ?_)
    · replace h := h.1 q
      exact kK122 v5 v6 v7 S _ _ ls h hI (lv_sub hl [4, 5, 6] rfl)
    · replace h := h.2 q
      refine lv_aload_n hx hb d_M_gap_20 rfl (lv_at hl 0 rfl) ?_
      refine lv_aload_n hx hb d_M_gap_21 rfl (lv_at hl 0 rfl) ?_
      refine z_getR C hI 31 (by decide) kd_31 cl_M iw_M 18 (by decide) k_fl_M_51 rfl d_M_gap_22 ?_
      refine lv_iload hx hb d_M_gap_25 (lv_at hl 7 rfl) ?_
      obtain ⟨h1, h⟩ := h
      refine z_ild C hI 44 (by decide) kd_44 h1 d_M_gap_27 ?_
      refine lv_iload_n hx hb d_M_gap_28 rfl (lv_at hl 2 rfl) ?_
      refine z_callVi C hI 31 (by decide) kd_31 cl_M (As := [.int (S 44 (z_ix v8)), .int v2]) (rest := []) (c_M_low (S 44 (z_ix v8)) v2 _ _ h) wc_M_low k_ml_M_144 rfl rfl (Nat.le_of_ble_eq_true rfl) (Nat.le_of_ble_eq_true rfl) hcs hl.1 (Nat.le_of_ble_eq_true rfl) rfl d_M_gap_29 (fun r29 S29 H locs h hI => ?_)
      refine lv_istore (lv' := [(9, .int r29), (0, .ref (ad 31)), (1, .int v1), (2, .int v2), (4, .int v4), (5, .int v5), (6, .int v6), (7, .int v7), (8, .int v8)]) hx hb d_M_gap_32 hl (by decide) rfl (fun ls hl => ?_)
      refine lv_aload_n hx hb d_M_gap_34 rfl (lv_at hl 1 rfl) ?_
      refine lv_aload_n hx hb d_M_gap_35 rfl (lv_at hl 1 rfl) ?_
      refine z_getR C hI 31 (by decide) kd_31 cl_M iw_M 18 (by decide) k_fl_M_51 rfl d_M_gap_36 ?_
      refine lv_iload hx hb d_M_gap_39 (lv_at hl 8 rfl) ?_
      obtain ⟨h1, h⟩ := h
      refine z_ild C hI 44 (by decide) kd_44 h1 d_M_gap_41 ?_
      refine lv_iload_n hx hb d_M_gap_42 rfl (lv_at hl 3 rfl) ?_
      refine z_callVi C hI 31 (by decide) kd_31 cl_M (As := [.int (S29 44 (z_ix v8)), .int v2]) (rest := []) (c_M_high (S29 44 (z_ix v8)) v2 _ _ h) wc_M_high k_ml_M_148 rfl rfl (Nat.le_of_ble_eq_true rfl) (Nat.le_of_ble_eq_true rfl) hcs hl.1 (Nat.le_of_ble_eq_true rfl) rfl d_M_gap_43 (fun r43 S43 H locs h hI => ?_)
      refine lv_istore (lv' := [(10, .int r43), (9, .int r29), (0, .ref (ad 31)), (1, .int v1), (2, .int v2), (4, .int v4), (5, .int v5), (6, .int v6), (7, .int v7), (8, .int v8)]) hx hb d_M_gap_46 hl (by decide) rfl (fun ls hl => ?_)
      refine lv_iload hx hb d_M_gap_48 (lv_at hl 8 rfl) ?_
      refine lv_if_eq (tgt := 69) hx hb d_M_gap_50 (by decide) (fun q => ?_) (fun q => ?_)
      · replace h := h.1 q
        exact w_M_gap_69 C hcs _ _ v1 v2 v4 v5 v6 v8 r29 r43 hR (fun v5 v6 v7 v8 S H locs ls h hI hl => ih v5 v6 v7 v8 S H locs ls hI hl h) S43 _ _ ls hI (lv_sub hl [2, 3, 4, 5, 6, 7, 9, 1, 0] rfl) h
      · replace h := h.2 q
        refine lv_iload hx hb d_M_gap_53 (lv_at hl 1 rfl) ?_
        refine lv_iload_n hx hb d_M_gap_55 rfl (lv_at hl 3 rfl) ?_
        refine lv_icmp_ge (tgt := 65) hx hb d_M_gap_56 (by decide) (fun q => ?_) (fun q => ?_)
        · replace h := h.1 q
          exact w_M_gap_65 C hcs _ _ v1 v2 v4 v5 v6 v8 r29 r43 hR (fun v5 v6 v7 v8 S H locs ls h hI hl => ih v5 v6 v7 v8 S H locs ls hI hl h) S43 _ _ ls hI (lv_sub hl [2, 3, 4, 5, 6, 7, 9, 1, 0] rfl) h
        · replace h := h.2 q
          refine lv_iload hx hb d_M_gap_59 (lv_at hl 0 rfl) ?_
          refine lv_iload_n hx hb d_M_gap_61 rfl (lv_at hl 3 rfl) ?_
          refine lv_icmp_ge (tgt := 69) hx hb d_M_gap_62 (by decide) (fun q => ?_) (fun q => ?_)
          · replace h := h.1 q
            exact w_M_gap_69 C hcs _ _ v1 v2 v4 v5 v6 v8 r29 r43 hR (fun v5 v6 v7 v8 S H locs ls h hI hl => ih v5 v6 v7 v8 S H locs ls hI hl h) S43 _ _ ls hI (lv_sub hl [2, 3, 4, 5, 6, 7, 9, 1, 0] rfl) h
          · replace h := h.2 q
            exact w_M_gap_65 C hcs _ _ v1 v2 v4 v5 v6 v8 r29 r43 hR (fun v5 v6 v7 v8 S H locs ls h hI hl => ih v5 v6 v7 v8 S H locs ls hI hl h) S43 _ _ ls hI (lv_sub hl [2, 3, 4, 5, 6, 7, 9, 1, 0] rfl) h
set_option maxHeartbeats 4000000 in
set_option maxRecDepth 100000 in
theorem c_M_gap (v1 : Int32) (v2 : Int32) (v3 : Int32) (v4 : Int32) (S : zS) (post : Int32 → zS → Prop) (h : P_M_gap v1 v2 v3 v4 S post) : z_cti l D cA 51 ad y_M_gap b_M_gap 11 (some .int) rm_M_gap [.ref (ad 31), .int v1, .int v2, .int v3, .int v4] S post := by
  refine z_meti (av := [.ref (ad 31), .int v1, .int v2, .int v3, .int v4]) (by decide) (Nat.le_of_ble_eq_true rfl) ⟨rfl, rfl⟩ (fun p e s m args below meth c Q ls C hcs hl hI hR => ?_)
  obtain ⟨hx, hb, hml, hown, hts, hK, hJ⟩ := id C
  unfold P_M_gap at h
  have hl : lv_has ls 11 [(0, .ref (ad 31)), (1, .int v1), (2, .int v2), (3, .int v3), (4, .int v4)] := hl
  refine lv_iconst (v := (-1)) hx hb d_M_gap_0 (by decide) ?_
  refine lv_istore (lv' := [(5, .int (-1)), (0, .ref (ad 31)), (1, .int v1), (2, .int v2), (3, .int v3), (4, .int v4)]) hx hb d_M_gap_1 hl (by decide) rfl (fun ls hl => ?_)
  refine lv_bipush (v := 24) hx hb d_M_gap_3 (by decide) ?_
  refine lv_istore (lv' := [(6, .int 24), (5, .int (-1)), (0, .ref (ad 31)), (1, .int v1), (2, .int v2), (3, .int v3), (4, .int v4)]) hx hb d_M_gap_5 hl (by decide) rfl (fun ls hl => ?_)
  refine lv_iconst (v := 1) hx hb d_M_gap_7 (by decide) ?_
  refine lv_istore (lv' := [(7, .int 1), (6, .int 24), (5, .int (-1)), (0, .ref (ad 31)), (1, .int v1), (2, .int v2), (3, .int v3), (4, .int v4)]) hx hb d_M_gap_8 hl (by decide) rfl (fun ls hl => ?_)
  refine lv_iload_n hx hb d_M_gap_10 rfl (lv_at hl 6 rfl) ?_
  refine lv_istore (lv' := [(8, .int v3), (7, .int 1), (6, .int 24), (5, .int (-1)), (0, .ref (ad 31)), (1, .int v1), (2, .int v2), (3, .int v3), (4, .int v4)]) hx hb d_M_gap_11 hl (by decide) rfl (fun ls hl => ?_)
  obtain ⟨k13, h⟩ := h
  refine w_M_gap_13 C hcs _ _ v1 v2 v4 hR (fun v5_13e v6_13e v7_13e S13e H locs ls h hI hl => ?_) k13 (-1) 24 1 v3 S _ _ ls hI (lv_sub hl [4, 5, 6, 8, 3, 2, 1, 0] rfl) h
  refine lv_iload hx hb d_M_gap_122 (lv_at hl 2 rfl) ?_
  refine lv_if_eq (tgt := 150) hx hb d_M_gap_124 (by decide) (fun q => ?_) (fun q => ?_)
  · replace h := h.1 q
    refine lv_iconst (v := (-1)) hx hb d_M_gap_150 (by decide) ?_
    exact hR _ _ hcs (-1) S13e _ _ 151 ls h hI d_M_gap_151
  · replace h := h.2 q
    refine lv_iload hx hb d_M_gap_127 (lv_at hl 0 rfl) ?_
    refine lv_iconst (v := (-1)) hx hb d_M_gap_129 (by decide) ?_
    refine lv_icmp_eq (tgt := 150) hx hb d_M_gap_130 (by decide) (fun q => ?_) (fun q => ?_)
    · replace h := h.1 q
      refine lv_iconst (v := (-1)) hx hb d_M_gap_150 (by decide) ?_
      exact hR _ _ hcs (-1) S13e _ _ 151 ls h hI d_M_gap_151
    · replace h := h.2 q
      refine lv_iload hx hb d_M_gap_133 (lv_at hl 1 rfl) ?_
      refine lv_bipush (v := 24) hx hb d_M_gap_135 (by decide) ?_
      refine lv_icmp_eq (tgt := 150) hx hb d_M_gap_137 (by decide) (fun q => ?_) (fun q => ?_)
      · replace h := h.1 q
        refine lv_iconst (v := (-1)) hx hb d_M_gap_150 (by decide) ?_
        exact hR _ _ hcs (-1) S13e _ _ 151 ls h hI d_M_gap_151
      · replace h := h.2 q
        refine lv_iload hx hb d_M_gap_140 (lv_at hl 1 rfl) ?_
        refine lv_iload hx hb d_M_gap_142 (lv_at hl 0 rfl) ?_
        refine lv_isub hx hb d_M_gap_144 ?_
        refine lv_iconst (v := 1) hx hb d_M_gap_145 (by decide) ?_
        refine lv_isub hx hb d_M_gap_146 ?_
        refine lv_goto (tgt := 151) hx hb d_M_gap_147 (by decide) ?_
        exact hR _ _ hcs ((v6_13e - v5_13e) - 1) S13e _ _ 151 ls h hI d_M_gap_151
set_option maxHeartbeats 4000000 in
set_option maxRecDepth 100000 in
theorem c_M_swap (v1 : Int32) (v2 : Int32) (S : zS) (post : zS → Prop) (h : P_M_swap v1 v2 S post) : z_ctv l D cA 51 ad y_M_swap b_M_swap 4 none rm_M_swap [.ref (ad 31), .int v1, .int v2] S post := by
  refine z_metv (av := [.ref (ad 31), .int v1, .int v2]) (by decide) (Nat.le_of_ble_eq_true rfl) ⟨rfl, rfl⟩ (fun p e s m args below meth c Q ls C hcs hl hI hR => ?_)
  obtain ⟨hx, hb, hml, hown, hts, hK, hJ⟩ := id C
  unfold P_M_swap at h
  have hl : lv_has ls 4 [(0, .ref (ad 31)), (1, .int v1), (2, .int v2)] := hl
  refine lv_aload_n hx hb d_M_swap_0 rfl (lv_at hl 0 rfl) ?_
  refine z_getR C hI 31 (by decide) kd_31 cl_M iw_M 18 (by decide) k_fl_M_51 rfl d_M_swap_1 ?_
  refine lv_iload_n hx hb d_M_swap_4 rfl (lv_at hl 1 rfl) ?_
  obtain ⟨h1, h⟩ := h
  refine z_ild C hI 44 (by decide) kd_44 h1 d_M_swap_5 ?_
  refine lv_topi (fun x6 e6 => ?_)
  replace h := h x6 e6
  refine lv_istore_n (lv' := [(3, .int x6), (0, .ref (ad 31)), (1, .int v1), (2, .int v2)]) hx hb d_M_swap_6 rfl hl (by decide) rfl (fun ls hl => ?_)
  refine lv_aload_n hx hb d_M_swap_7 rfl (lv_at hl 1 rfl) ?_
  refine z_getR C hI 31 (by decide) kd_31 cl_M iw_M 18 (by decide) k_fl_M_51 rfl d_M_swap_8 ?_
  refine lv_iload_n hx hb d_M_swap_11 rfl (lv_at hl 2 rfl) ?_
  refine lv_aload_n hx hb d_M_swap_12 rfl (lv_at hl 1 rfl) ?_
  refine z_getR C hI 31 (by decide) kd_31 cl_M iw_M 18 (by decide) k_fl_M_51 rfl d_M_swap_13 ?_
  refine lv_iload_n hx hb d_M_swap_16 rfl (lv_at hl 3 rfl) ?_
  obtain ⟨h1, h⟩ := h
  refine z_ild C hI 44 (by decide) kd_44 h1 d_M_swap_17 ?_
  obtain ⟨h1, h⟩ := h
  refine z_ist C hI 44 (by decide) kd_44 h1 d_M_swap_18 (fun S18 eS H locs hI => ?_)
  replace h := h S18 eS
  refine lv_aload_n hx hb d_M_swap_19 rfl (lv_at hl 1 rfl) ?_
  refine z_getR C hI 31 (by decide) kd_31 cl_M iw_M 18 (by decide) k_fl_M_51 rfl d_M_swap_20 ?_
  refine lv_iload_n hx hb d_M_swap_23 rfl (lv_at hl 3 rfl) ?_
  refine lv_iload_n hx hb d_M_swap_24 rfl (lv_at hl 0 rfl) ?_
  obtain ⟨h1, h⟩ := h
  refine z_ist C hI 44 (by decide) kd_44 h1 d_M_swap_25 (fun S25 eS H locs hI => ?_)
  replace h := h S25 eS
  exact hR _ _ hcs S25 _ _ 26 ls h hI d_M_swap_26
set_option maxHeartbeats 4000000 in
set_option maxRecDepth 100000 in
theorem c_M_isBefore (v1 : Int32) (v2 : Int32) (S : zS) (post : Int32 → zS → Prop) (h : P_M_isBefore v1 v2 S post) : z_cti l D cA 51 ad y_M_isBefore b_M_isBefore 3 (some .boolean) rm_M_isBefore [.ref (ad 31), .int v1, .int v2] S post := by
  refine z_metz (av := [.ref (ad 31), .int v1, .int v2]) (by decide) (Nat.le_of_ble_eq_true rfl) ⟨rfl, rfl⟩ (fun p e s m args below meth c Q ls C hcs hl hI hR => ?_)
  obtain ⟨hx, hb, hml, hown, hts, hK, hJ⟩ := id C
  unfold P_M_isBefore at h
  have hl : lv_has ls 3 [(0, .ref (ad 31)), (1, .int v1), (2, .int v2)] := hl
  refine lv_aload_n hx hb d_M_isBefore_0 rfl (lv_at hl 0 rfl) ?_
  refine z_getR C hI 31 (by decide) kd_31 cl_M iw_M 14 (by decide) k_fl_M_39 rfl d_M_isBefore_1 ?_
  refine lv_iload_n hx hb d_M_isBefore_4 rfl (lv_at hl 1 rfl) ?_
  obtain ⟨h1, h⟩ := h
  refine z_ild C hI 40 (by decide) kd_40 h1 d_M_isBefore_5 ?_
  refine lv_aload_n hx hb d_M_isBefore_6 rfl (lv_at hl 0 rfl) ?_
  refine z_getR C hI 31 (by decide) kd_31 cl_M iw_M 14 (by decide) k_fl_M_39 rfl d_M_isBefore_7 ?_
  refine lv_iload_n hx hb d_M_isBefore_10 rfl (lv_at hl 2 rfl) ?_
  obtain ⟨h1, h⟩ := h
  refine z_ild C hI 40 (by decide) kd_40 h1 d_M_isBefore_11 ?_
  refine lv_icmp_eq (tgt := 38) hx hb d_M_isBefore_12 (by decide) (fun q => ?_) (fun q => ?_)
  · replace h := h.1 q
    refine lv_aload_n hx hb d_M_isBefore_38 rfl (lv_at hl 0 rfl) ?_
    refine z_getR C hI 31 (by decide) kd_31 cl_M iw_M 13 (by decide) k_fl_M_36 rfl d_M_isBefore_39 ?_
    refine lv_iload_n hx hb d_M_isBefore_42 rfl (lv_at hl 1 rfl) ?_
    obtain ⟨h1, h⟩ := h
    refine z_ild C hI 39 (by decide) kd_39 h1 d_M_isBefore_43 ?_
    refine lv_aload_n hx hb d_M_isBefore_44 rfl (lv_at hl 0 rfl) ?_
    refine z_getR C hI 31 (by decide) kd_31 cl_M iw_M 13 (by decide) k_fl_M_36 rfl d_M_isBefore_45 ?_
    refine lv_iload_n hx hb d_M_isBefore_48 rfl (lv_at hl 2 rfl) ?_
    obtain ⟨h1, h⟩ := h
    refine z_ild C hI 39 (by decide) kd_39 h1 d_M_isBefore_49 ?_
    refine lv_icmp_eq (tgt := 76) hx hb d_M_isBefore_50 (by decide) (fun q => ?_) (fun q => ?_)
    · replace h := h.1 q
      refine lv_iload_n hx hb d_M_isBefore_76 rfl (lv_at hl 1 rfl) ?_
      refine lv_iload_n hx hb d_M_isBefore_77 rfl (lv_at hl 2 rfl) ?_
      refine lv_icmp_ge (tgt := 85) hx hb d_M_isBefore_78 (by decide) (fun q => ?_) (fun q => ?_)
      · replace h := h.1 q
        refine lv_iconst (v := 0) hx hb d_M_isBefore_85 (by decide) ?_
        exact hR _ _ hcs 0 S _ _ 86 ls (by decide) h hI d_M_isBefore_86
      · replace h := h.2 q
        refine lv_iconst (v := 1) hx hb d_M_isBefore_81 (by decide) ?_
        refine lv_goto (tgt := 86) hx hb d_M_isBefore_82 (by decide) ?_
        exact hR _ _ hcs 1 S _ _ 86 ls (by decide) h hI d_M_isBefore_86
    · replace h := h.2 q
      refine lv_aload_n hx hb d_M_isBefore_53 rfl (lv_at hl 0 rfl) ?_
      refine z_getR C hI 31 (by decide) kd_31 cl_M iw_M 13 (by decide) k_fl_M_36 rfl d_M_isBefore_54 ?_
      refine lv_iload_n hx hb d_M_isBefore_57 rfl (lv_at hl 1 rfl) ?_
      obtain ⟨h1, h⟩ := h
      refine z_ild C hI 39 (by decide) kd_39 h1 d_M_isBefore_58 ?_
      refine lv_aload_n hx hb d_M_isBefore_59 rfl (lv_at hl 0 rfl) ?_
      refine z_getR C hI 31 (by decide) kd_31 cl_M iw_M 13 (by decide) k_fl_M_36 rfl d_M_isBefore_60 ?_
      refine lv_iload_n hx hb d_M_isBefore_63 rfl (lv_at hl 2 rfl) ?_
      obtain ⟨h1, h⟩ := h
      refine z_ild C hI 39 (by decide) kd_39 h1 d_M_isBefore_64 ?_
      refine lv_icmp_ge (tgt := 72) hx hb d_M_isBefore_65 (by decide) (fun q => ?_) (fun q => ?_)
      · replace h := h.1 q
        refine lv_iconst (v := 0) hx hb d_M_isBefore_72 (by decide) ?_
        refine lv_goto (tgt := 86) hx hb d_M_isBefore_73 (by decide) ?_
        exact hR _ _ hcs 0 S _ _ 86 ls (by decide) h hI d_M_isBefore_86
      · replace h := h.2 q
        refine lv_iconst (v := 1) hx hb d_M_isBefore_68 (by decide) ?_
        refine lv_goto (tgt := 86) hx hb d_M_isBefore_69 (by decide) ?_
        exact hR _ _ hcs 1 S _ _ 86 ls (by decide) h hI d_M_isBefore_86
  · replace h := h.2 q
    refine lv_aload_n hx hb d_M_isBefore_15 rfl (lv_at hl 0 rfl) ?_
    refine z_getR C hI 31 (by decide) kd_31 cl_M iw_M 14 (by decide) k_fl_M_39 rfl d_M_isBefore_16 ?_
    refine lv_iload_n hx hb d_M_isBefore_19 rfl (lv_at hl 1 rfl) ?_
    obtain ⟨h1, h⟩ := h
    refine z_ild C hI 40 (by decide) kd_40 h1 d_M_isBefore_20 ?_
    refine lv_aload_n hx hb d_M_isBefore_21 rfl (lv_at hl 0 rfl) ?_
    refine z_getR C hI 31 (by decide) kd_31 cl_M iw_M 14 (by decide) k_fl_M_39 rfl d_M_isBefore_22 ?_
    refine lv_iload_n hx hb d_M_isBefore_25 rfl (lv_at hl 2 rfl) ?_
    obtain ⟨h1, h⟩ := h
    refine z_ild C hI 40 (by decide) kd_40 h1 d_M_isBefore_26 ?_
    refine lv_icmp_ge (tgt := 34) hx hb d_M_isBefore_27 (by decide) (fun q => ?_) (fun q => ?_)
    · replace h := h.1 q
      refine lv_iconst (v := 0) hx hb d_M_isBefore_34 (by decide) ?_
      refine lv_goto (tgt := 86) hx hb d_M_isBefore_35 (by decide) ?_
      exact hR _ _ hcs 0 S _ _ 86 ls (by decide) h hI d_M_isBefore_86
    · replace h := h.2 q
      refine lv_iconst (v := 1) hx hb d_M_isBefore_30 (by decide) ?_
      refine lv_goto (tgt := 86) hx hb d_M_isBefore_31 (by decide) ?_
      exact hR _ _ hcs 1 S _ _ 86 ls (by decide) h hI d_M_isBefore_86
set_option maxHeartbeats 4000000 in
set_option maxRecDepth 100000 in
theorem w_M_sort_10 (C : z_CT p s m args c R_M b_M_sort 5 D cA 51 ad) (hcs : cells ≤ rm_M_sort.cells ∧ slots ≤ rm_M_sort.slots) (post : zS → Prop) (K55 : zS → Prop) (v1 : Int32) (v2 : Int32) (v3 : Int32) (hR : z_Rv p l e rm_M_sort s m args below meth c Q b_M_sort D cA 51 ad post) (kK55 : ∀ (S : zS) (H : Heap) (locs : List Loc) (ls : Array Slot), K55 S → z_I D cA 51 ad s.heap S H locs → lv_has ls 5 [(0, .ref (ad 31)), (1, .int v1), (2, .int v2), (3, .int v3)] → W p l e rm_M_sort s m args below meth c H locs cells slots Q (F0 m 55 ls [])) : ∀ (n : Nat) (v4 : Int32) (S : zS) (H : Heap) (locs : List Loc) (ls : Array Slot), z_I D cA 51 ad s.heap S H locs → lv_has ls 5 [(0, .ref (ad 31)), (1, .int v1), (2, .int v2), (3, .int v3), (4, .int v4)] → L_M_sort_10 post K55 v1 v2 v3 n v4 S → W p l e rm_M_sort s m args below meth c H locs cells slots Q (F0 m 10 ls []) := by
  obtain ⟨hx, hb, hml, hown, hts, hK, hJ⟩ := id C
  intro n
  induction n with
  | zero => intro v4 S H locs ls hI hl h; exact h.elim
  | succ n ih =>
    intro v4 S H locs ls hI hl h
    rw [L_M_sort_10] at h
    refine lv_iload hx hb d_M_sort_10 (lv_at hl 4 rfl) ?_
    refine lv_iload_n hx hb d_M_sort_12 rfl (lv_at hl 1 rfl) ?_
    refine lv_icmp_le (tgt := 55) hx hb d_M_sort_13 (by decide) (fun q => ?_) (fun q => ?_)
    · replace h := h.1 q
      exact kK55 S _ _ ls h hI (lv_sub hl [0, 1, 2, 3] rfl)
    · replace h := h.2 q
      refine lv_aload_n hx hb d_M_sort_16 rfl (lv_at hl 0 rfl) ?_
      refine lv_aload_n hx hb d_M_sort_17 rfl (lv_at hl 0 rfl) ?_
      refine z_getR C hI 31 (by decide) kd_31 cl_M iw_M 18 (by decide) k_fl_M_51 rfl d_M_sort_18 ?_
      refine lv_iload hx hb d_M_sort_21 (lv_at hl 4 rfl) ?_
      obtain ⟨h1, h⟩ := h
      refine z_ild C hI 44 (by decide) kd_44 h1 d_M_sort_23 ?_
      refine lv_aload_n hx hb d_M_sort_24 rfl (lv_at hl 0 rfl) ?_
      refine z_getR C hI 31 (by decide) kd_31 cl_M iw_M 18 (by decide) k_fl_M_51 rfl d_M_sort_25 ?_
      refine lv_iload hx hb d_M_sort_28 (lv_at hl 4 rfl) ?_
      refine lv_iconst (v := 1) hx hb d_M_sort_30 (by decide) ?_
      refine lv_isub hx hb d_M_sort_31 ?_
      obtain ⟨h1, h⟩ := h
      refine z_ild C hI 44 (by decide) kd_44 h1 d_M_sort_32 ?_
      refine z_callVi C hI 31 (by decide) kd_31 cl_M (As := [.int (S 44 (z_ix v4)), .int (S 44 (z_ix (v4 - 1)))]) (rest := []) (c_M_isBefore (S 44 (z_ix v4)) (S 44 (z_ix (v4 - 1))) _ _ h) wc_M_isBefore k_ml_M_151 rfl rfl (Nat.le_of_ble_eq_true rfl) (Nat.le_of_ble_eq_true rfl) hcs hl.1 (Nat.le_of_ble_eq_true rfl) rfl d_M_sort_33 (fun r33 S33 H locs h hI => ?_)
      refine lv_if_eq (tgt := 55) hx hb d_M_sort_36 (by decide) (fun q => ?_) (fun q => ?_)
      · replace h := h.1 q
        exact kK55 S33 _ _ ls h hI (lv_sub hl [0, 1, 2, 3] rfl)
      · replace h := h.2 q
        refine lv_aload_n hx hb d_M_sort_39 rfl (lv_at hl 0 rfl) ?_
        refine lv_iload hx hb d_M_sort_40 (lv_at hl 4 rfl) ?_
        refine lv_iload hx hb d_M_sort_42 (lv_at hl 4 rfl) ?_
        refine lv_iconst (v := 1) hx hb d_M_sort_44 (by decide) ?_
        refine lv_isub hx hb d_M_sort_45 ?_
        refine z_callVv C hI 31 (by decide) kd_31 cl_M (As := [.int v4, .int (v4 - 1)]) (rest := []) (c_M_swap v4 (v4 - 1) _ _ h) wc_M_swap k_ml_M_154 rfl rfl (Nat.le_of_ble_eq_true rfl) (Nat.le_of_ble_eq_true rfl) hcs hl.1 (Nat.le_of_ble_eq_true rfl) rfl d_M_sort_46 (fun S46 H locs h hI => ?_)
        obtain ⟨x49, e49⟩ : ∃ y : Int32, y = v4 + (-1) := ⟨_, rfl⟩
        replace h := h x49 e49
        refine lv_iinc (v := x49) (lv' := [(4, .int x49), (0, .ref (ad 31)), (1, .int v1), (2, .int v2), (3, .int v3)]) hx hb d_M_sort_49 hl (k := 4) rfl (by rw [e49]; rfl) (by decide) rfl (fun ls hl => ?_)
        refine lv_goto (tgt := 10) hx hb d_M_sort_52 (by decide) ?_
        exact ih x49 S46 _ _ ls hI (lv_sub hl [1, 2, 3, 4, 0] rfl) h
set_option maxHeartbeats 4000000 in
set_option maxRecDepth 100000 in
theorem w_M_sort_2 (C : z_CT p s m args c R_M b_M_sort 5 D cA 51 ad) (hcs : cells ≤ rm_M_sort.cells ∧ slots ≤ rm_M_sort.slots) (post : zS → Prop) (v1 : Int32) (v2 : Int32) (hR : z_Rv p l e rm_M_sort s m args below meth c Q b_M_sort D cA 51 ad post) : ∀ (n : Nat) (v3 : Int32) (S : zS) (H : Heap) (locs : List Loc) (ls : Array Slot), z_I D cA 51 ad s.heap S H locs → lv_has ls 5 [(0, .ref (ad 31)), (1, .int v1), (2, .int v2), (3, .int v3)] → L_M_sort_2 post v1 v2 n v3 S → W p l e rm_M_sort s m args below meth c H locs cells slots Q (F0 m 2 ls []) := by
  obtain ⟨hx, hb, hml, hown, hts, hK, hJ⟩ := id C
  intro n
  induction n with
  | zero => intro v3 S H locs ls hI hl h; exact h.elim
  | succ n ih =>
    intro v3 S H locs ls hI hl h
    rw [L_M_sort_2] at h
    refine lv_iload_n hx hb d_M_sort_2 rfl (lv_at hl 3 rfl) ?_
    refine lv_iload_n hx hb d_M_sort_3 rfl (lv_at hl 2 rfl) ?_
    refine lv_icmp_ge (tgt := 61) hx hb d_M_sort_4 (by decide) (fun q => ?_) (fun q => ?_)
    · replace h := h.1 q
      exact hR _ _ hcs S _ _ 61 ls h hI d_M_sort_61
    · replace h := h.2 q
      refine lv_iload_n hx hb d_M_sort_7 rfl (lv_at hl 3 rfl) ?_
      refine lv_istore (lv' := [(4, .int v3), (0, .ref (ad 31)), (1, .int v1), (2, .int v2), (3, .int v3)]) hx hb d_M_sort_8 hl (by decide) rfl (fun ls hl => ?_)
      obtain ⟨k10, h⟩ := h
      refine w_M_sort_10 C hcs _ _ v1 v2 v3 hR (fun S10e H locs ls h hI hl => ?_) k10 v3 S _ _ ls hI (lv_sub hl [1, 2, 3, 4, 0] rfl) h
      obtain ⟨x55, e55⟩ : ∃ y : Int32, y = v3 + 1 := ⟨_, rfl⟩
      replace h := h x55 e55
      refine lv_iinc (v := x55) (lv' := [(3, .int x55), (0, .ref (ad 31)), (1, .int v1), (2, .int v2)]) hx hb d_M_sort_55 hl (k := 3) rfl (by rw [e55]; rfl) (by decide) rfl (fun ls hl => ?_)
      refine lv_goto (tgt := 2) hx hb d_M_sort_58 (by decide) ?_
      exact ih x55 S10e _ _ ls hI (lv_sub hl [1, 2, 3, 0] rfl) h
set_option maxHeartbeats 4000000 in
set_option maxRecDepth 100000 in
theorem c_M_sort (v1 : Int32) (v2 : Int32) (S : zS) (post : zS → Prop) (h : P_M_sort v1 v2 S post) : z_ctv l D cA 51 ad y_M_sort b_M_sort 5 none rm_M_sort [.ref (ad 31), .int v1, .int v2] S post := by
  refine z_metv (av := [.ref (ad 31), .int v1, .int v2]) (by decide) (Nat.le_of_ble_eq_true rfl) ⟨rfl, rfl⟩ (fun p e s m args below meth c Q ls C hcs hl hI hR => ?_)
  obtain ⟨hx, hb, hml, hown, hts, hK, hJ⟩ := id C
  unfold P_M_sort at h
  have hl : lv_has ls 5 [(0, .ref (ad 31)), (1, .int v1), (2, .int v2)] := hl
  refine lv_iload_n hx hb d_M_sort_0 rfl (lv_at hl 1 rfl) ?_
  refine lv_istore_n (lv' := [(3, .int v1), (0, .ref (ad 31)), (1, .int v1), (2, .int v2)]) hx hb d_M_sort_1 rfl hl (by decide) rfl (fun ls hl => ?_)
  obtain ⟨k2, h⟩ := h
  refine w_M_sort_2 C hcs _ v1 v2 hR k2 v1 S _ _ ls hI (lv_sub hl [1, 2, 3, 0] rfl) h
end ZW
