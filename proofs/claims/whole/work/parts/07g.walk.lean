section ZW
variable {p : Program} {l : Launch} {e : Env} {s : State} {m : MethodId} {args : Array Value} {below : List Frame} {meth : Method} {c : Code} {cells slots : Nat} {Q : State → Prop} {D : va_G} {cA : Nat → ClassId} {n : Nat} {ad : Nat → Nat}
set_option maxHeartbeats 4000000 in
set_option maxRecDepth 100000 in
theorem w_M_takeCover_57 (C : z_CT p s m args c R_M b_M_takeCover 8 D cA 51 ad) (hcs : cells ≤ rm_M_takeCover.cells ∧ slots ≤ rm_M_takeCover.slots) (post : Int32 → zS → Prop) (K116 : Int32 → zS → Prop) (v1 : Int32) (v2 : Int32) (v3 : Int32) (v4 : Int32) (v5 : Int32) (v6 : Int32) (hR : z_Rz p l e rm_M_takeCover s m args below meth c Q b_M_takeCover D cA 51 ad post) (kK116 : ∀ (v7 : Int32) (S : zS) (H : Heap) (locs : List Loc) (ls : Array Slot), K116 v7 S → z_I D cA 51 ad s.heap S H locs → lv_has ls 8 [(0, .ref (ad 31)), (1, .int v1), (2, .int v2), (3, .int v3), (4, .int v4), (6, .int v6), (7, .int v7)] → W p l e rm_M_takeCover s m args below meth c H locs cells slots Q (F0 m 116 ls [])) : ∀ (n : Nat) (v7 : Int32) (S : zS) (H : Heap) (locs : List Loc) (ls : Array Slot), z_I D cA 51 ad s.heap S H locs → lv_has ls 8 [(0, .ref (ad 31)), (1, .int v1), (2, .int v2), (3, .int v3), (4, .int v4), (5, .int v5), (6, .int v6), (7, .int v7)] → L_M_takeCover_57 post K116 v1 v2 v3 v4 v5 v6 n v7 S → W p l e rm_M_takeCover s m args below meth c H locs cells slots Q (F0 m 57 ls []) := by
  obtain ⟨hx, hb, hml, hown, hts, hK, hJ⟩ := id C
  intro n
  induction n with
  | zero => intro v7 S H locs ls hI hl h; exact h.elim
  | succ n ih =>
    intro v7 S H locs ls hI hl h
    rw [L_M_takeCover_57] at h
    refine lv_iload hx hb d_M_takeCover_57 (lv_at hl 7 rfl) ?_
    refine lv_iload hx hb d_M_takeCover_59 (lv_at hl 5 rfl) ?_
    refine lv_icmp_ge (tgt := 116) hx hb d_M_takeCover_61 (by decide) (fun q => ?_) (fun q => ?_)
    · replace h := h.1 q
      exact kK116 v7 S _ _ ls h hI (lv_sub hl [0, 1, 2, 3, 4, 6, 7] rfl)
    · replace h := h.2 q
      refine lv_aload_n hx hb d_M_takeCover_64 rfl (lv_at hl 0 rfl) ?_
      refine z_getR C hI 31 (by decide) kd_31 cl_M iw_M 8 (by decide) k_fl_M_23 rfl d_M_takeCover_65 ?_
      refine lv_bipush (v := 24) hx hb d_M_takeCover_68 (by decide) ?_
      refine lv_iload_n hx hb d_M_takeCover_70 rfl (lv_at hl 3 rfl) ?_
      refine lv_iload hx hb d_M_takeCover_71 (lv_at hl 6 rfl) ?_
      refine lv_iadd hx hb d_M_takeCover_73 ?_
      refine lv_iconst (v := 1) hx hb d_M_takeCover_74 (by decide) ?_
      refine lv_isub hx hb d_M_takeCover_75 ?_
      refine lv_imul hx hb d_M_takeCover_76 ?_
      refine lv_iload hx hb d_M_takeCover_77 (lv_at hl 4 rfl) ?_
      refine lv_iadd hx hb d_M_takeCover_79 ?_
      refine lv_iload hx hb d_M_takeCover_80 (lv_at hl 7 rfl) ?_
      refine lv_iadd hx hb d_M_takeCover_82 ?_
      obtain ⟨h1, h⟩ := h
      refine z_zld C hI 35 (by decide) kd_35 h1 d_M_takeCover_83 ?_
      refine lv_if_ne (tgt := 116) hx hb d_M_takeCover_84 (by decide) (fun q => ?_) (fun q => ?_)
      · replace h := h.1 q
        exact kK116 v7 S _ _ ls h hI (lv_sub hl [0, 1, 2, 3, 4, 6, 7] rfl)
      · replace h := h.2 q
        refine lv_aload_n hx hb d_M_takeCover_87 rfl (lv_at hl 0 rfl) ?_
        refine z_getR C hI 31 (by decide) kd_31 cl_M iw_M 9 (by decide) k_fl_M_26 rfl d_M_takeCover_88 ?_
        refine lv_bipush (v := 24) hx hb d_M_takeCover_91 (by decide) ?_
        refine lv_iload_n hx hb d_M_takeCover_93 rfl (lv_at hl 3 rfl) ?_
        refine lv_iload hx hb d_M_takeCover_94 (lv_at hl 6 rfl) ?_
        refine lv_iadd hx hb d_M_takeCover_96 ?_
        refine lv_iconst (v := 1) hx hb d_M_takeCover_97 (by decide) ?_
        refine lv_isub hx hb d_M_takeCover_98 ?_
        refine lv_imul hx hb d_M_takeCover_99 ?_
        refine lv_iload hx hb d_M_takeCover_100 (lv_at hl 4 rfl) ?_
        refine lv_iadd hx hb d_M_takeCover_102 ?_
        refine lv_iload hx hb d_M_takeCover_103 (lv_at hl 7 rfl) ?_
        refine lv_iadd hx hb d_M_takeCover_105 ?_
        obtain ⟨h1, h⟩ := h
        refine z_zld C hI 36 (by decide) kd_36 h1 d_M_takeCover_106 ?_
        refine lv_if_ne (tgt := 116) hx hb d_M_takeCover_107 (by decide) (fun q => ?_) (fun q => ?_)
        · replace h := h.1 q
          exact kK116 v7 S _ _ ls h hI (lv_sub hl [0, 1, 2, 3, 4, 6, 7] rfl)
        · replace h := h.2 q
          obtain ⟨x110, e110⟩ : ∃ y : Int32, y = v7 + 1 := ⟨_, rfl⟩
          replace h := h x110 e110
          refine lv_iinc (v := x110) (lv' := [(7, .int x110), (0, .ref (ad 31)), (1, .int v1), (2, .int v2), (3, .int v3), (4, .int v4), (5, .int v5), (6, .int v6)]) hx hb d_M_takeCover_110 hl (k := 7) rfl (by rw [e110]; rfl) (by decide) rfl (fun ls hl => ?_)
          refine lv_goto (tgt := 57) hx hb d_M_takeCover_113 (by decide) ?_
          exact ih x110 S _ _ ls hI (lv_sub hl [1, 2, 3, 4, 5, 6, 7, 0] rfl) h
set_option maxHeartbeats 4000000 in
set_option maxRecDepth 100000 in
theorem w_M_takeCover_116 (C : z_CT p s m args c R_M b_M_takeCover 8 D cA 51 ad) (hcs : cells ≤ rm_M_takeCover.cells ∧ slots ≤ rm_M_takeCover.slots) (post : Int32 → zS → Prop) (K38 : Int32 → Int32 → Int32 → Int32 → zS → Prop) (v1 : Int32) (v2 : Int32) (v3 : Int32) (v4 : Int32) (v6 : Int32) (v7 : Int32) (hR : z_Rz p l e rm_M_takeCover s m args below meth c Q b_M_takeCover D cA 51 ad post) (kK38 : ∀ (v1 : Int32) (v2 : Int32) (v5 : Int32) (v6 : Int32) (S : zS) (H : Heap) (locs : List Loc) (ls : Array Slot), K38 v1 v2 v5 v6 S → z_I D cA 51 ad s.heap S H locs → lv_has ls 8 [(0, .ref (ad 31)), (1, .int v1), (2, .int v2), (3, .int v3), (4, .int v4), (5, .int v5), (6, .int v6)] → W p l e rm_M_takeCover s m args below meth c H locs cells slots Q (F0 m 38 ls [])) (S : zS) (H : Heap) (locs : List Loc) (ls : Array Slot) (hI : z_I D cA 51 ad s.heap S H locs) (hl : lv_has ls 8 [(0, .ref (ad 31)), (1, .int v1), (2, .int v2), (3, .int v3), (4, .int v4), (6, .int v6), (7, .int v7)]) (h : J_M_takeCover_116 post K38 v1 v2 v3 v4 v6 v7 S) : W p l e rm_M_takeCover s m args below meth c H locs cells slots Q (F0 m 116 ls []) := by
  obtain ⟨hx, hb, hml, hown, hts, hK, hJ⟩ := id C
  unfold J_M_takeCover_116 at h
  refine lv_iload hx hb d_M_takeCover_116 (lv_at hl 6 rfl) ?_
  refine lv_istore (lv' := [(5, .int v7), (0, .ref (ad 31)), (1, .int v1), (2, .int v2), (3, .int v3), (4, .int v4), (6, .int v6), (7, .int v7)]) hx hb d_M_takeCover_118 hl (by decide) rfl (fun ls hl => ?_)
  refine lv_iload hx hb d_M_takeCover_120 (lv_at hl 0 rfl) ?_
  refine lv_iload hx hb d_M_takeCover_122 (lv_at hl 6 rfl) ?_
  refine lv_imul hx hb d_M_takeCover_124 ?_
  refine lv_iload_n hx hb d_M_takeCover_125 rfl (lv_at hl 2 rfl) ?_
  refine lv_icmp_le (tgt := 155) hx hb d_M_takeCover_126 (by decide) (fun q => ?_) (fun q => ?_)
  · replace h := h.1 q
    obtain ⟨x155, e155⟩ : ∃ y : Int32, y = v6 + 1 := ⟨_, rfl⟩
    replace h := h x155 e155
    refine lv_iinc (v := x155) (lv' := [(6, .int x155), (5, .int v7), (0, .ref (ad 31)), (1, .int v1), (2, .int v2), (3, .int v3), (4, .int v4), (7, .int v7)]) hx hb d_M_takeCover_155 hl (k := 6) rfl (by rw [e155]; rfl) (by decide) rfl (fun ls hl => ?_)
    refine lv_goto (tgt := 38) hx hb d_M_takeCover_158 (by decide) ?_
    exact kK38 v1 v2 v7 x155 S _ _ ls h hI (lv_sub hl [2, 3, 4, 5, 6, 1, 0] rfl)
  · replace h := h.2 q
    refine lv_iload hx hb d_M_takeCover_129 (lv_at hl 0 rfl) ?_
    refine lv_iload hx hb d_M_takeCover_131 (lv_at hl 6 rfl) ?_
    refine lv_imul hx hb d_M_takeCover_133 ?_
    refine lv_topi (fun x134 e134 => ?_)
    replace h := h x134 e134
    refine lv_istore_n (lv' := [(1, .int x134), (5, .int v7), (0, .ref (ad 31)), (2, .int v2), (3, .int v3), (4, .int v4), (6, .int v6), (7, .int v7)]) hx hb d_M_takeCover_134 rfl hl (by decide) rfl (fun ls hl => ?_)
    refine lv_bipush (v := 24) hx hb d_M_takeCover_135 (by decide) ?_
    refine lv_iload_n hx hb d_M_takeCover_137 rfl (lv_at hl 4 rfl) ?_
    refine lv_imul hx hb d_M_takeCover_138 ?_
    refine lv_iload hx hb d_M_takeCover_139 (lv_at hl 5 rfl) ?_
    refine lv_iadd hx hb d_M_takeCover_141 ?_
    refine lv_bipush (v := 32) hx hb d_M_takeCover_142 (by decide) ?_
    refine lv_imul hx hb d_M_takeCover_144 ?_
    refine lv_iload hx hb d_M_takeCover_145 (lv_at hl 1 rfl) ?_
    refine lv_iadd hx hb d_M_takeCover_147 ?_
    refine lv_bipush (v := 32) hx hb d_M_takeCover_148 (by decide) ?_
    refine lv_imul hx hb d_M_takeCover_150 ?_
    refine lv_iload hx hb d_M_takeCover_151 (lv_at hl 6 rfl) ?_
    refine lv_iadd hx hb d_M_takeCover_153 ?_
    refine lv_topi (fun x154 e154 => ?_)
    replace h := h x154 e154
    refine lv_istore_n (lv' := [(2, .int x154), (1, .int x134), (5, .int v7), (0, .ref (ad 31)), (3, .int v3), (4, .int v4), (6, .int v6), (7, .int v7)]) hx hb d_M_takeCover_154 rfl hl (by decide) rfl (fun ls hl => ?_)
    obtain ⟨x155, e155⟩ : ∃ y : Int32, y = v6 + 1 := ⟨_, rfl⟩
    replace h := h x155 e155
    refine lv_iinc (v := x155) (lv' := [(6, .int x155), (2, .int x154), (1, .int x134), (5, .int v7), (0, .ref (ad 31)), (3, .int v3), (4, .int v4), (7, .int v7)]) hx hb d_M_takeCover_155 hl (k := 6) rfl (by rw [e155]; rfl) (by decide) rfl (fun ls hl => ?_)
    refine lv_goto (tgt := 38) hx hb d_M_takeCover_158 (by decide) ?_
    exact kK38 x134 x154 v7 x155 S _ _ ls h hI (lv_sub hl [4, 2, 1, 5, 6, 3, 0] rfl)
set_option maxHeartbeats 4000000 in
set_option maxRecDepth 100000 in
theorem w_M_takeCover_38 (C : z_CT p s m args c R_M b_M_takeCover 8 D cA 51 ad) (hcs : cells ≤ rm_M_takeCover.cells ∧ slots ≤ rm_M_takeCover.slots) (post : Int32 → zS → Prop) (K161 : Int32 → Int32 → zS → Prop) (v3 : Int32) (v4 : Int32) (hR : z_Rz p l e rm_M_takeCover s m args below meth c Q b_M_takeCover D cA 51 ad post) (kK161 : ∀ (v1 : Int32) (v2 : Int32) (S : zS) (H : Heap) (locs : List Loc) (ls : Array Slot), K161 v1 v2 S → z_I D cA 51 ad s.heap S H locs → lv_has ls 8 [(0, .ref (ad 31)), (1, .int v1), (2, .int v2), (3, .int v3), (4, .int v4)] → W p l e rm_M_takeCover s m args below meth c H locs cells slots Q (F0 m 161 ls [])) : ∀ (n : Nat) (v1 : Int32) (v2 : Int32) (v5 : Int32) (v6 : Int32) (S : zS) (H : Heap) (locs : List Loc) (ls : Array Slot), z_I D cA 51 ad s.heap S H locs → lv_has ls 8 [(0, .ref (ad 31)), (1, .int v1), (2, .int v2), (3, .int v3), (4, .int v4), (5, .int v5), (6, .int v6)] → L_M_takeCover_38 post K161 v3 v4 n v1 v2 v5 v6 S → W p l e rm_M_takeCover s m args below meth c H locs cells slots Q (F0 m 38 ls []) := by
  obtain ⟨hx, hb, hml, hown, hts, hK, hJ⟩ := id C
  intro n
  induction n with
  | zero => intro v1 v2 v5 v6 S H locs ls hI hl h; exact h.elim
  | succ n ih =>
    intro v1 v2 v5 v6 S H locs ls hI hl h
    rw [L_M_takeCover_38] at h
    refine lv_iload_n hx hb d_M_takeCover_38 rfl (lv_at hl 3 rfl) ?_
    refine lv_iload hx hb d_M_takeCover_39 (lv_at hl 6 rfl) ?_
    refine lv_iadd hx hb d_M_takeCover_41 ?_
    refine lv_aload_n hx hb d_M_takeCover_42 rfl (lv_at hl 0 rfl) ?_
    refine z_getI C hI 31 (by decide) kd_31 cl_M iw_M 2 (by decide) k_fl_M_76 rfl d_M_takeCover_43 ?_
    refine lv_icmp_gt (tgt := 161) hx hb d_M_takeCover_46 (by decide) (fun q => ?_) (fun q => ?_)
    · replace h := h.1 q
      exact kK161 v1 v2 S _ _ ls h hI (lv_sub hl [0, 1, 2, 3, 4] rfl)
    · replace h := h.2 q
      refine lv_iload hx hb d_M_takeCover_49 (lv_at hl 5 rfl) ?_
      refine lv_if_le (tgt := 161) hx hb d_M_takeCover_51 (by decide) (fun q => ?_) (fun q => ?_)
      · replace h := h.1 q
        exact kK161 v1 v2 S _ _ ls h hI (lv_sub hl [0, 1, 2, 3, 4] rfl)
      · replace h := h.2 q
        refine lv_iconst (v := 0) hx hb d_M_takeCover_54 (by decide) ?_
        refine lv_istore (lv' := [(7, .int 0), (0, .ref (ad 31)), (1, .int v1), (2, .int v2), (3, .int v3), (4, .int v4), (5, .int v5), (6, .int v6)]) hx hb d_M_takeCover_55 hl (by decide) rfl (fun ls hl => ?_)
        obtain ⟨k57, h⟩ := h
        refine w_M_takeCover_57 C hcs _ _ v1 v2 v3 v4 v5 v6 hR (fun v7_57e S57e H locs ls h hI hl => ?_) k57 0 S _ _ ls hI (lv_sub hl [1, 2, 3, 4, 5, 6, 7, 0] rfl) h
        exact w_M_takeCover_116 C hcs _ _ v1 v2 v3 v4 v6 v7_57e hR (fun v1 v2 v5 v6 S H locs ls h hI hl => ih v1 v2 v5 v6 S H locs ls hI hl h) S57e _ _ ls hI (lv_sub hl [0, 1, 2, 3, 4, 5, 6] rfl) h
set_option maxHeartbeats 4000000 in
set_option maxRecDepth 100000 in
theorem w_M_takeCover_17 (C : z_CT p s m args c R_M b_M_takeCover 8 D cA 51 ad) (hcs : cells ≤ rm_M_takeCover.cells ∧ slots ≤ rm_M_takeCover.slots) (post : Int32 → zS → Prop) (K167 : Int32 → Int32 → zS → Prop) (v3 : Int32) (hR : z_Rz p l e rm_M_takeCover s m args below meth c Q b_M_takeCover D cA 51 ad post) (kK167 : ∀ (v1 : Int32) (v2 : Int32) (S : zS) (H : Heap) (locs : List Loc) (ls : Array Slot), K167 v1 v2 S → z_I D cA 51 ad s.heap S H locs → lv_has ls 8 [(0, .ref (ad 31)), (1, .int v1), (2, .int v2), (3, .int v3)] → W p l e rm_M_takeCover s m args below meth c H locs cells slots Q (F0 m 167 ls [])) : ∀ (n : Nat) (v1 : Int32) (v2 : Int32) (v4 : Int32) (S : zS) (H : Heap) (locs : List Loc) (ls : Array Slot), z_I D cA 51 ad s.heap S H locs → lv_has ls 8 [(0, .ref (ad 31)), (1, .int v1), (2, .int v2), (3, .int v3), (4, .int v4)] → L_M_takeCover_17 post K167 v3 n v1 v2 v4 S → W p l e rm_M_takeCover s m args below meth c H locs cells slots Q (F0 m 17 ls []) := by
  obtain ⟨hx, hb, hml, hown, hts, hK, hJ⟩ := id C
  intro n
  induction n with
  | zero => intro v1 v2 v4 S H locs ls hI hl h; exact h.elim
  | succ n ih =>
    intro v1 v2 v4 S H locs ls hI hl h
    rw [L_M_takeCover_17] at h
    refine lv_iload hx hb d_M_takeCover_17 (lv_at hl 4 rfl) ?_
    refine lv_aload_n hx hb d_M_takeCover_19 rfl (lv_at hl 0 rfl) ?_
    refine z_getI C hI 31 (by decide) kd_31 cl_M iw_M 1 (by decide) k_fl_M_73 rfl d_M_takeCover_20 ?_
    refine lv_icmp_ge (tgt := 167) hx hb d_M_takeCover_23 (by decide) (fun q => ?_) (fun q => ?_)
    · replace h := h.1 q
      exact kK167 v1 v2 S _ _ ls h hI (lv_sub hl [0, 1, 2, 3] rfl)
    · replace h := h.2 q
      refine lv_aload_n hx hb d_M_takeCover_26 rfl (lv_at hl 0 rfl) ?_
      refine z_getI C hI 31 (by decide) kd_31 cl_M iw_M 1 (by decide) k_fl_M_73 rfl d_M_takeCover_27 ?_
      refine lv_iload hx hb d_M_takeCover_30 (lv_at hl 4 rfl) ?_
      refine lv_isub hx hb d_M_takeCover_32 ?_
      refine lv_topi (fun x33 e33 => ?_)
      replace h := h x33 e33
      refine lv_istore (lv' := [(5, .int x33), (0, .ref (ad 31)), (1, .int v1), (2, .int v2), (3, .int v3), (4, .int v4)]) hx hb d_M_takeCover_33 hl (by decide) rfl (fun ls hl => ?_)
      refine lv_iconst (v := 1) hx hb d_M_takeCover_35 (by decide) ?_
      refine lv_istore (lv' := [(6, .int 1), (5, .int x33), (0, .ref (ad 31)), (1, .int v1), (2, .int v2), (3, .int v3), (4, .int v4)]) hx hb d_M_takeCover_36 hl (by decide) rfl (fun ls hl => ?_)
      obtain ⟨k38, h⟩ := h
      refine w_M_takeCover_38 C hcs _ _ v3 v4 hR (fun v1_38e v2_38e S38e H locs ls h hI hl => ?_) k38 v1 v2 x33 1 S _ _ ls hI (lv_sub hl [2, 3, 4, 5, 6, 1, 0] rfl) h
      obtain ⟨x161, e161⟩ : ∃ y : Int32, y = v4 + 1 := ⟨_, rfl⟩
      replace h := h x161 e161
      refine lv_iinc (v := x161) (lv' := [(4, .int x161), (0, .ref (ad 31)), (1, .int v1_38e), (2, .int v2_38e), (3, .int v3)]) hx hb d_M_takeCover_161 hl (k := 4) rfl (by rw [e161]; rfl) (by decide) rfl (fun ls hl => ?_)
      refine lv_goto (tgt := 17) hx hb d_M_takeCover_164 (by decide) ?_
      exact ih v1_38e v2_38e x161 S38e _ _ ls hI (lv_sub hl [1, 2, 3, 4, 0] rfl) h
set_option maxHeartbeats 4000000 in
set_option maxRecDepth 100000 in
theorem w_M_takeCover_6 (C : z_CT p s m args c R_M b_M_takeCover 8 D cA 51 ad) (hcs : cells ≤ rm_M_takeCover.cells ∧ slots ≤ rm_M_takeCover.slots) (post : Int32 → zS → Prop) (K173 : Int32 → zS → Prop) (hR : z_Rz p l e rm_M_takeCover s m args below meth c Q b_M_takeCover D cA 51 ad post) (kK173 : ∀ (v2 : Int32) (S : zS) (H : Heap) (locs : List Loc) (ls : Array Slot), K173 v2 S → z_I D cA 51 ad s.heap S H locs → lv_has ls 8 [(0, .ref (ad 31)), (2, .int v2)] → W p l e rm_M_takeCover s m args below meth c H locs cells slots Q (F0 m 173 ls [])) : ∀ (n : Nat) (v1 : Int32) (v2 : Int32) (v3 : Int32) (S : zS) (H : Heap) (locs : List Loc) (ls : Array Slot), z_I D cA 51 ad s.heap S H locs → lv_has ls 8 [(0, .ref (ad 31)), (1, .int v1), (2, .int v2), (3, .int v3)] → L_M_takeCover_6 post K173 n v1 v2 v3 S → W p l e rm_M_takeCover s m args below meth c H locs cells slots Q (F0 m 6 ls []) := by
  obtain ⟨hx, hb, hml, hown, hts, hK, hJ⟩ := id C
  intro n
  induction n with
  | zero => intro v1 v2 v3 S H locs ls hI hl h; exact h.elim
  | succ n ih =>
    intro v1 v2 v3 S H locs ls hI hl h
    rw [L_M_takeCover_6] at h
    refine lv_iload_n hx hb d_M_takeCover_6 rfl (lv_at hl 3 rfl) ?_
    refine lv_aload_n hx hb d_M_takeCover_7 rfl (lv_at hl 0 rfl) ?_
    refine z_getI C hI 31 (by decide) kd_31 cl_M iw_M 2 (by decide) k_fl_M_76 rfl d_M_takeCover_8 ?_
    refine lv_icmp_ge (tgt := 173) hx hb d_M_takeCover_11 (by decide) (fun q => ?_) (fun q => ?_)
    · replace h := h.1 q
      exact kK173 v2 S _ _ ls h hI (lv_sub hl [0, 2] rfl)
    · replace h := h.2 q
      refine lv_iconst (v := 0) hx hb d_M_takeCover_14 (by decide) ?_
      refine lv_istore (lv' := [(4, .int 0), (0, .ref (ad 31)), (1, .int v1), (2, .int v2), (3, .int v3)]) hx hb d_M_takeCover_15 hl (by decide) rfl (fun ls hl => ?_)
      obtain ⟨k17, h⟩ := h
      refine w_M_takeCover_17 C hcs _ _ v3 hR (fun v1_17e v2_17e S17e H locs ls h hI hl => ?_) k17 v1 v2 0 S _ _ ls hI (lv_sub hl [1, 2, 3, 4, 0] rfl) h
      obtain ⟨x167, e167⟩ : ∃ y : Int32, y = v3 + 1 := ⟨_, rfl⟩
      replace h := h x167 e167
      refine lv_iinc (v := x167) (lv' := [(3, .int x167), (0, .ref (ad 31)), (1, .int v1_17e), (2, .int v2_17e)]) hx hb d_M_takeCover_167 hl (k := 3) rfl (by rw [e167]; rfl) (by decide) rfl (fun ls hl => ?_)
      refine lv_goto (tgt := 6) hx hb d_M_takeCover_170 (by decide) ?_
      exact ih v1_17e v2_17e x167 S17e _ _ ls hI (lv_sub hl [1, 2, 3, 0] rfl) h
set_option maxHeartbeats 4000000 in
set_option maxRecDepth 100000 in
theorem w_M_takeCover_279 (C : z_CT p s m args c R_M b_M_takeCover 8 D cA 51 ad) (hcs : cells ≤ rm_M_takeCover.cells ∧ slots ≤ rm_M_takeCover.slots) (post : Int32 → zS → Prop) (K315 : zS → Prop) (v3 : Int32) (v4 : Int32) (v5 : Int32) (v6 : Int32) (hR : z_Rz p l e rm_M_takeCover s m args below meth c Q b_M_takeCover D cA 51 ad post) (kK315 : ∀ (S : zS) (H : Heap) (locs : List Loc) (ls : Array Slot), K315 S → z_I D cA 51 ad s.heap S H locs → lv_has ls 8 [(0, .ref (ad 31)), (3, .int v3), (4, .int v4), (5, .int v5), (6, .int v6)] → W p l e rm_M_takeCover s m args below meth c H locs cells slots Q (F0 m 315 ls [])) : ∀ (n : Nat) (v7 : Int32) (S : zS) (H : Heap) (locs : List Loc) (ls : Array Slot), z_I D cA 51 ad s.heap S H locs → lv_has ls 8 [(0, .ref (ad 31)), (3, .int v3), (4, .int v4), (5, .int v5), (6, .int v6), (7, .int v7)] → L_M_takeCover_279 post K315 v3 v4 v5 v6 n v7 S → W p l e rm_M_takeCover s m args below meth c H locs cells slots Q (F0 m 279 ls []) := by
  obtain ⟨hx, hb, hml, hown, hts, hK, hJ⟩ := id C
  intro n
  induction n with
  | zero => intro v7 S H locs ls hI hl h; exact h.elim
  | succ n ih =>
    intro v7 S H locs ls hI hl h
    rw [L_M_takeCover_279] at h
    refine lv_iload hx hb d_M_takeCover_279 (lv_at hl 5 rfl) ?_
    refine lv_iload_n hx hb d_M_takeCover_281 rfl (lv_at hl 1 rfl) ?_
    refine lv_aload_n hx hb d_M_takeCover_282 rfl (lv_at hl 0 rfl) ?_
    refine z_getR C hI 31 (by decide) kd_31 cl_M iw_M 20 (by decide) k_fl_M_54 rfl d_M_takeCover_283 ?_
    refine lv_iload hx hb d_M_takeCover_286 (lv_at hl 3 rfl) ?_
    refine lv_iconst (v := 2) hx hb d_M_takeCover_288 (by decide) ?_
    refine lv_iadd hx hb d_M_takeCover_289 ?_
    obtain ⟨h1, h⟩ := h
    refine z_ild C hI 45 (by decide) kd_45 h1 d_M_takeCover_290 ?_
    refine lv_iadd hx hb d_M_takeCover_291 ?_
    refine lv_icmp_ge (tgt := 315) hx hb d_M_takeCover_292 (by decide) (fun q => ?_) (fun q => ?_)
    · replace h := h.1 q
      exact kK315 S _ _ ls h hI (lv_sub hl [0, 1, 2, 3, 4] rfl)
    · replace h := h.2 q
      refine lv_aload_n hx hb d_M_takeCover_295 rfl (lv_at hl 0 rfl) ?_
      refine z_getR C hI 31 (by decide) kd_31 cl_M iw_M 9 (by decide) k_fl_M_26 rfl d_M_takeCover_296 ?_
      refine lv_bipush (v := 24) hx hb d_M_takeCover_299 (by decide) ?_
      refine lv_iload hx hb d_M_takeCover_301 (lv_at hl 4 rfl) ?_
      refine lv_imul hx hb d_M_takeCover_303 ?_
      refine lv_iload hx hb d_M_takeCover_304 (lv_at hl 5 rfl) ?_
      refine lv_iadd hx hb d_M_takeCover_306 ?_
      refine lv_iconst (v := 1) hx hb d_M_takeCover_307 (by decide) ?_
      obtain ⟨h1, h⟩ := h
      refine z_zst C hI 36 (by decide) kd_36 h1 (by decide) d_M_takeCover_308 (fun S308 eS H locs hI => ?_)
      replace h := h S308 eS
      obtain ⟨x309, e309⟩ : ∃ y : Int32, y = v7 + 1 := ⟨_, rfl⟩
      replace h := h x309 e309
      refine lv_iinc (v := x309) (lv' := [(7, .int x309), (0, .ref (ad 31)), (3, .int v3), (4, .int v4), (5, .int v5), (6, .int v6)]) hx hb d_M_takeCover_309 hl (k := 5) rfl (by rw [e309]; rfl) (by decide) rfl (fun ls hl => ?_)
      refine lv_goto (tgt := 279) hx hb d_M_takeCover_312 (by decide) ?_
      exact ih x309 S308 _ _ ls hI (lv_sub hl [1, 2, 3, 4, 5, 0] rfl) h
set_option maxHeartbeats 4000000 in
set_option maxRecDepth 100000 in
theorem w_M_takeCover_259 (C : z_CT p s m args c R_M b_M_takeCover 8 D cA 51 ad) (hcs : cells ≤ rm_M_takeCover.cells ∧ slots ≤ rm_M_takeCover.slots) (post : Int32 → zS → Prop) (K321 : zS → Prop) (v3 : Int32) (v4 : Int32) (v5 : Int32) (hR : z_Rz p l e rm_M_takeCover s m args below meth c Q b_M_takeCover D cA 51 ad post) (kK321 : ∀ (S : zS) (H : Heap) (locs : List Loc) (ls : Array Slot), K321 S → z_I D cA 51 ad s.heap S H locs → lv_has ls 8 [(0, .ref (ad 31))] → W p l e rm_M_takeCover s m args below meth c H locs cells slots Q (F0 m 321 ls [])) : ∀ (n : Nat) (v6 : Int32) (S : zS) (H : Heap) (locs : List Loc) (ls : Array Slot), z_I D cA 51 ad s.heap S H locs → lv_has ls 8 [(0, .ref (ad 31)), (3, .int v3), (4, .int v4), (5, .int v5), (6, .int v6)] → L_M_takeCover_259 post K321 v3 v4 v5 n v6 S → W p l e rm_M_takeCover s m args below meth c H locs cells slots Q (F0 m 259 ls []) := by
  obtain ⟨hx, hb, hml, hown, hts, hK, hJ⟩ := id C
  intro n
  induction n with
  | zero => intro v6 S H locs ls hI hl h; exact h.elim
  | succ n ih =>
    intro v6 S H locs ls hI hl h
    rw [L_M_takeCover_259] at h
    refine lv_iload hx hb d_M_takeCover_259 (lv_at hl 4 rfl) ?_
    refine lv_iload hx hb d_M_takeCover_261 (lv_at hl 2 rfl) ?_
    refine lv_aload_n hx hb d_M_takeCover_263 rfl (lv_at hl 0 rfl) ?_
    refine z_getR C hI 31 (by decide) kd_31 cl_M iw_M 20 (by decide) k_fl_M_54 rfl d_M_takeCover_264 ?_
    refine lv_iload hx hb d_M_takeCover_267 (lv_at hl 3 rfl) ?_
    refine lv_iconst (v := 3) hx hb d_M_takeCover_269 (by decide) ?_
    refine lv_iadd hx hb d_M_takeCover_270 ?_
    obtain ⟨h1, h⟩ := h
    refine z_ild C hI 45 (by decide) kd_45 h1 d_M_takeCover_271 ?_
    refine lv_iadd hx hb d_M_takeCover_272 ?_
    refine lv_icmp_ge (tgt := 321) hx hb d_M_takeCover_273 (by decide) (fun q => ?_) (fun q => ?_)
    · replace h := h.1 q
      exact kK321 S _ _ ls h hI (lv_sub hl [0] rfl)
    · replace h := h.2 q
      refine lv_iload_n hx hb d_M_takeCover_276 rfl (lv_at hl 1 rfl) ?_
      refine lv_istore (lv' := [(7, .int v3), (0, .ref (ad 31)), (3, .int v3), (4, .int v4), (5, .int v5), (6, .int v6)]) hx hb d_M_takeCover_277 hl (by decide) rfl (fun ls hl => ?_)
      obtain ⟨k279, h⟩ := h
      refine w_M_takeCover_279 C hcs _ _ v3 v4 v5 v6 hR (fun S279e H locs ls h hI hl => ?_) k279 v3 S _ _ ls hI (lv_sub hl [1, 2, 3, 4, 5, 0] rfl) h
      obtain ⟨x315, e315⟩ : ∃ y : Int32, y = v6 + 1 := ⟨_, rfl⟩
      replace h := h x315 e315
      refine lv_iinc (v := x315) (lv' := [(6, .int x315), (0, .ref (ad 31)), (3, .int v3), (4, .int v4), (5, .int v5)]) hx hb d_M_takeCover_315 hl (k := 4) rfl (by rw [e315]; rfl) (by decide) rfl (fun ls hl => ?_)
      refine lv_goto (tgt := 259) hx hb d_M_takeCover_318 (by decide) ?_
      exact ih x315 S279e _ _ ls hI (lv_sub hl [1, 2, 3, 4, 0] rfl) h
set_option maxHeartbeats 4000000 in
set_option maxRecDepth 100000 in
theorem c_M_takeCover (S : zS) (post : Int32 → zS → Prop) (h : P_M_takeCover S post) : z_cti l D cA 51 ad y_M_takeCover b_M_takeCover 8 (some .boolean) rm_M_takeCover [.ref (ad 31)] S post := by
  refine z_metz (av := [.ref (ad 31)]) (by decide) (Nat.le_of_ble_eq_true rfl) ⟨rfl, rfl⟩ (fun p e s m args below meth c Q ls C hcs hl hI hR => ?_)
  obtain ⟨hx, hb, hml, hown, hts, hK, hJ⟩ := id C
  unfold P_M_takeCover at h
  have hl : lv_has ls 8 [(0, .ref (ad 31))] := hl
  refine lv_iconst (v := 3) hx hb d_M_takeCover_0 (by decide) ?_
  refine lv_istore_n (lv' := [(1, .int 3), (0, .ref (ad 31))]) hx hb d_M_takeCover_1 rfl hl (by decide) rfl (fun ls hl => ?_)
  refine lv_iconst (v := (-1)) hx hb d_M_takeCover_2 (by decide) ?_
  refine lv_istore_n (lv' := [(2, .int (-1)), (1, .int 3), (0, .ref (ad 31))]) hx hb d_M_takeCover_3 rfl hl (by decide) rfl (fun ls hl => ?_)
  refine lv_iconst (v := 0) hx hb d_M_takeCover_4 (by decide) ?_
  refine lv_istore_n (lv' := [(3, .int 0), (2, .int (-1)), (1, .int 3), (0, .ref (ad 31))]) hx hb d_M_takeCover_5 rfl hl (by decide) rfl (fun ls hl => ?_)
  obtain ⟨k6, h⟩ := h
  refine w_M_takeCover_6 C hcs _ _ hR (fun v2_6e S6e H locs ls h hI hl => ?_) k6 3 (-1) 0 S _ _ ls hI (lv_sub hl [3, 2, 1, 0] rfl) h
  refine lv_iload_n hx hb d_M_takeCover_173 rfl (lv_at hl 1 rfl) ?_
  refine lv_iconst (v := (-1)) hx hb d_M_takeCover_174 (by decide) ?_
  refine lv_icmp_ne (tgt := 180) hx hb d_M_takeCover_175 (by decide) (fun q => ?_) (fun q => ?_)
  · replace h := h.1 q
    refine lv_iload_n hx hb d_M_takeCover_180 rfl (lv_at hl 1 rfl) ?_
    refine lv_sipush (v := 1024) hx hb d_M_takeCover_181 (by decide) ?_
    refine lv_idiv hx hb d_M_takeCover_184 (by decide) ?_
    refine lv_bipush (v := 24) hx hb d_M_takeCover_185 (by decide) ?_
    refine lv_irem hx hb d_M_takeCover_187 (by decide) ?_
    refine lv_topi (fun x188 e188 => ?_)
    replace h := h x188 e188
    refine lv_istore_n (lv' := [(3, .int x188), (0, .ref (ad 31)), (2, .int v2_6e)]) hx hb d_M_takeCover_188 rfl hl (by decide) rfl (fun ls hl => ?_)
    refine lv_iload_n hx hb d_M_takeCover_189 rfl (lv_at hl 2 rfl) ?_
    refine lv_sipush (v := 1024) hx hb d_M_takeCover_190 (by decide) ?_
    refine lv_idiv hx hb d_M_takeCover_193 (by decide) ?_
    refine lv_bipush (v := 24) hx hb d_M_takeCover_194 (by decide) ?_
    refine lv_idiv hx hb d_M_takeCover_196 (by decide) ?_
    refine lv_topi (fun x197 e197 => ?_)
    replace h := h x197 e197
    refine lv_istore (lv' := [(4, .int x197), (3, .int x188), (0, .ref (ad 31)), (2, .int v2_6e)]) hx hb d_M_takeCover_197 hl (by decide) rfl (fun ls hl => ?_)
    refine lv_iconst (v := 4) hx hb d_M_takeCover_199 (by decide) ?_
    refine lv_aload_n hx hb d_M_takeCover_200 rfl (lv_at hl 2 rfl) ?_
    refine z_getI C hI 31 (by decide) kd_31 cl_M iw_M 19 (by decide) k_fl_M_127 rfl d_M_takeCover_201 ?_
    refine lv_imul hx hb d_M_takeCover_204 ?_
    refine lv_topi (fun x205 e205 => ?_)
    replace h := h x205 e205
    refine lv_istore (lv' := [(5, .int x205), (4, .int x197), (3, .int x188), (0, .ref (ad 31)), (2, .int v2_6e)]) hx hb d_M_takeCover_205 hl (by decide) rfl (fun ls hl => ?_)
    refine lv_aload_n hx hb d_M_takeCover_207 rfl (lv_at hl 3 rfl) ?_
    refine z_getR C hI 31 (by decide) kd_31 cl_M iw_M 20 (by decide) k_fl_M_54 rfl d_M_takeCover_208 ?_
    refine lv_iload hx hb d_M_takeCover_211 (lv_at hl 0 rfl) ?_
    refine lv_iload_n hx hb d_M_takeCover_213 rfl (lv_at hl 2 rfl) ?_
    obtain ⟨h1, h⟩ := h
    refine z_ist C hI 45 (by decide) kd_45 h1 d_M_takeCover_214 (fun S214 eS H locs hI => ?_)
    replace h := h S214 eS
    refine lv_aload_n hx hb d_M_takeCover_215 rfl (lv_at hl 3 rfl) ?_
    refine z_getR C hI 31 (by decide) kd_31 cl_M iw_M 20 (by decide) k_fl_M_54 rfl d_M_takeCover_216 ?_
    refine lv_iload hx hb d_M_takeCover_219 (lv_at hl 0 rfl) ?_
    refine lv_iconst (v := 1) hx hb d_M_takeCover_221 (by decide) ?_
    refine lv_iadd hx hb d_M_takeCover_222 ?_
    refine lv_iload hx hb d_M_takeCover_223 (lv_at hl 1 rfl) ?_
    obtain ⟨h1, h⟩ := h
    refine z_ist C hI 45 (by decide) kd_45 h1 d_M_takeCover_225 (fun S225 eS H locs hI => ?_)
    replace h := h S225 eS
    refine lv_aload_n hx hb d_M_takeCover_226 rfl (lv_at hl 3 rfl) ?_
    refine z_getR C hI 31 (by decide) kd_31 cl_M iw_M 20 (by decide) k_fl_M_54 rfl d_M_takeCover_227 ?_
    refine lv_iload hx hb d_M_takeCover_230 (lv_at hl 0 rfl) ?_
    refine lv_iconst (v := 2) hx hb d_M_takeCover_232 (by decide) ?_
    refine lv_iadd hx hb d_M_takeCover_233 ?_
    refine lv_iload_n hx hb d_M_takeCover_234 rfl (lv_at hl 4 rfl) ?_
    refine lv_bipush (v := 32) hx hb d_M_takeCover_235 (by decide) ?_
    refine lv_idiv hx hb d_M_takeCover_237 (by decide) ?_
    refine lv_bipush (v := 32) hx hb d_M_takeCover_238 (by decide) ?_
    refine lv_irem hx hb d_M_takeCover_240 (by decide) ?_
    obtain ⟨h1, h⟩ := h
    refine z_ist C hI 45 (by decide) kd_45 h1 d_M_takeCover_241 (fun S241 eS H locs hI => ?_)
    replace h := h S241 eS
    refine lv_aload_n hx hb d_M_takeCover_242 rfl (lv_at hl 3 rfl) ?_
    refine z_getR C hI 31 (by decide) kd_31 cl_M iw_M 20 (by decide) k_fl_M_54 rfl d_M_takeCover_243 ?_
    refine lv_iload hx hb d_M_takeCover_246 (lv_at hl 0 rfl) ?_
    refine lv_iconst (v := 3) hx hb d_M_takeCover_248 (by decide) ?_
    refine lv_iadd hx hb d_M_takeCover_249 ?_
    refine lv_iload_n hx hb d_M_takeCover_250 rfl (lv_at hl 4 rfl) ?_
    refine lv_bipush (v := 32) hx hb d_M_takeCover_251 (by decide) ?_
    refine lv_irem hx hb d_M_takeCover_253 (by decide) ?_
    obtain ⟨h1, h⟩ := h
    refine z_ist C hI 45 (by decide) kd_45 h1 d_M_takeCover_254 (fun S254 eS H locs hI => ?_)
    replace h := h S254 eS
    refine lv_iload hx hb d_M_takeCover_255 (lv_at hl 1 rfl) ?_
    refine lv_istore (lv' := [(6, .int x197), (5, .int x205), (4, .int x197), (3, .int x188), (0, .ref (ad 31)), (2, .int v2_6e)]) hx hb d_M_takeCover_257 hl (by decide) rfl (fun ls hl => ?_)
    obtain ⟨k259, h⟩ := h
    refine w_M_takeCover_259 C hcs _ _ x188 x197 x205 hR (fun S259e H locs ls h hI hl => ?_) k259 x197 S254 _ _ ls hI (lv_sub hl [4, 3, 2, 1, 0] rfl) h
    refine lv_aload_n hx hb d_M_takeCover_321 rfl (lv_at hl 0 rfl) ?_
    refine lv_dup hx hb d_M_takeCover_322 rfl ?_
    refine z_getI C hI 31 (by decide) kd_31 cl_M iw_M 19 (by decide) k_fl_M_127 rfl d_M_takeCover_323 ?_
    refine lv_iconst (v := 1) hx hb d_M_takeCover_326 (by decide) ?_
    refine lv_iadd hx hb d_M_takeCover_327 ?_
    refine z_putI C hI 31 (by decide) kd_31 cl_M iw_M ty_M ty_M_ok n_M 19 (by decide) k_fl_M_127 rfl rfl rfl d_M_takeCover_328 (fun S328 eS H locs hI => ?_)
    replace h := h S328 eS
    refine lv_iconst (v := 1) hx hb d_M_takeCover_331 (by decide) ?_
    exact hR _ _ hcs 1 S328 _ _ 332 ls (by decide) h hI d_M_takeCover_332
  · replace h := h.2 q
    refine lv_iconst (v := 0) hx hb d_M_takeCover_178 (by decide) ?_
    exact hR _ _ hcs 0 S6e _ _ 179 ls (by decide) h hI d_M_takeCover_179
set_option maxHeartbeats 4000000 in
set_option maxRecDepth 100000 in
theorem w_M_takeCovers_2 (C : z_CT p s m args c R_M b_M_takeCovers 2 D cA 51 ad) (hcs : cells ≤ rm_M_takeCovers.cells ∧ slots ≤ rm_M_takeCovers.slots) (post : zS → Prop) (K22 : zS → Prop) (hR : z_Rv p l e rm_M_takeCovers s m args below meth c Q b_M_takeCovers D cA 51 ad post) (kK22 : ∀ (S : zS) (H : Heap) (locs : List Loc) (ls : Array Slot), K22 S → z_I D cA 51 ad s.heap S H locs → lv_has ls 2 [(0, .ref (ad 31))] → W p l e rm_M_takeCovers s m args below meth c H locs cells slots Q (F0 m 22 ls [])) : ∀ (n : Nat) (v1 : Int32) (S : zS) (H : Heap) (locs : List Loc) (ls : Array Slot), z_I D cA 51 ad s.heap S H locs → lv_has ls 2 [(0, .ref (ad 31)), (1, .int v1)] → L_M_takeCovers_2 post K22 n v1 S → W p l e rm_M_takeCovers s m args below meth c H locs cells slots Q (F0 m 2 ls []) := by
  obtain ⟨hx, hb, hml, hown, hts, hK, hJ⟩ := id C
  intro n
  induction n with
  | zero => intro v1 S H locs ls hI hl h; exact h.elim
  | succ n ih =>
    intro v1 S H locs ls hI hl h
    rw [L_M_takeCovers_2] at h
    refine lv_iload_n hx hb d_M_takeCovers_2 rfl (lv_at hl 1 rfl) ?_
    refine lv_sipush (v := 576) hx hb d_M_takeCovers_3 (by decide) ?_
    refine lv_icmp_ge (tgt := 22) hx hb d_M_takeCovers_6 (by decide) (fun q => ?_) (fun q => ?_)
    · replace h := h.1 q
      exact kK22 S _ _ ls h hI (lv_sub hl [0] rfl)
    · replace h := h.2 q
      refine lv_aload_n hx hb d_M_takeCovers_9 rfl (lv_at hl 0 rfl) ?_
      refine z_getR C hI 31 (by decide) kd_31 cl_M iw_M 9 (by decide) k_fl_M_26 rfl d_M_takeCovers_10 ?_
      refine lv_iload_n hx hb d_M_takeCovers_13 rfl (lv_at hl 1 rfl) ?_
      refine lv_iconst (v := 0) hx hb d_M_takeCovers_14 (by decide) ?_
      obtain ⟨h1, h⟩ := h
      refine z_zst C hI 36 (by decide) kd_36 h1 (by decide) d_M_takeCovers_15 (fun S15 eS H locs hI => ?_)
      replace h := h S15 eS
      obtain ⟨x16, e16⟩ : ∃ y : Int32, y = v1 + 1 := ⟨_, rfl⟩
      replace h := h x16 e16
      refine lv_iinc (v := x16) (lv' := [(1, .int x16), (0, .ref (ad 31))]) hx hb d_M_takeCovers_16 hl (k := 1) rfl (by rw [e16]; rfl) (by decide) rfl (fun ls hl => ?_)
      refine lv_goto (tgt := 2) hx hb d_M_takeCovers_19 (by decide) ?_
      exact ih x16 S15 _ _ ls hI (lv_sub hl [1, 0] rfl) h
set_option maxHeartbeats 4000000 in
set_option maxRecDepth 100000 in
theorem w_M_takeCovers_29 (C : z_CT p s m args c R_M b_M_takeCovers 2 D cA 51 ad) (hcs : cells ≤ rm_M_takeCovers.cells ∧ slots ≤ rm_M_takeCovers.slots) (post : zS → Prop) (hR : z_Rv p l e rm_M_takeCovers s m args below meth c Q b_M_takeCovers D cA 51 ad post) : ∀ (n : Nat) (v1 : Int32) (S : zS) (H : Heap) (locs : List Loc) (ls : Array Slot), z_I D cA 51 ad s.heap S H locs → lv_has ls 2 [(0, .ref (ad 31)), (1, .int v1)] → L_M_takeCovers_29 post n v1 S → W p l e rm_M_takeCovers s m args below meth c H locs cells slots Q (F0 m 29 ls []) := by
  obtain ⟨hx, hb, hml, hown, hts, hK, hJ⟩ := id C
  intro n
  induction n with
  | zero => intro v1 S H locs ls hI hl h; exact h.elim
  | succ n ih =>
    intro v1 S H locs ls hI hl h
    rw [L_M_takeCovers_29] at h
    refine lv_iload_n hx hb d_M_takeCovers_29 rfl (lv_at hl 1 rfl) ?_
    refine lv_if_eq (tgt := 50) hx hb d_M_takeCovers_30 (by decide) (fun q => ?_) (fun q => ?_)
    · replace h := h.1 q
      exact hR _ _ hcs S _ _ 50 ls h hI d_M_takeCovers_50
    · replace h := h.2 q
      refine lv_aload_n hx hb d_M_takeCovers_33 rfl (lv_at hl 0 rfl) ?_
      refine z_getI C hI 31 (by decide) kd_31 cl_M iw_M 19 (by decide) k_fl_M_127 rfl d_M_takeCovers_34 ?_
      refine lv_bipush (v := 6) hx hb d_M_takeCovers_37 (by decide) ?_
      refine lv_icmp_ge (tgt := 50) hx hb d_M_takeCovers_39 (by decide) (fun q => ?_) (fun q => ?_)
      · replace h := h.1 q
        exact hR _ _ hcs S _ _ 50 ls h hI d_M_takeCovers_50
      · replace h := h.2 q
        refine lv_aload_n hx hb d_M_takeCovers_42 rfl (lv_at hl 0 rfl) ?_
        refine z_callVi C hI 31 (by decide) kd_31 cl_M (As := []) (rest := []) (c_M_takeCover _ _ h) wc_M_takeCover k_ml_M_130 rfl rfl (Nat.le_of_ble_eq_true rfl) (Nat.le_of_ble_eq_true rfl) hcs hl.1 (Nat.le_of_ble_eq_true rfl) rfl d_M_takeCovers_43 (fun r43 S43 H locs h hI => ?_)
        refine lv_istore_n (lv' := [(1, .int r43), (0, .ref (ad 31))]) hx hb d_M_takeCovers_46 rfl hl (by decide) rfl (fun ls hl => ?_)
        refine lv_goto (tgt := 29) hx hb d_M_takeCovers_47 (by decide) ?_
        exact ih r43 S43 _ _ ls hI (lv_sub hl [1, 0] rfl) h
set_option maxHeartbeats 4000000 in
set_option maxRecDepth 100000 in
theorem c_M_takeCovers (S : zS) (post : zS → Prop) (h : P_M_takeCovers S post) : z_ctv l D cA 51 ad y_M_takeCovers b_M_takeCovers 2 none rm_M_takeCovers [.ref (ad 31)] S post := by
  refine z_metv (av := [.ref (ad 31)]) (by decide) (Nat.le_of_ble_eq_true rfl) ⟨rfl, rfl⟩ (fun p e s m args below meth c Q ls C hcs hl hI hR => ?_)
  obtain ⟨hx, hb, hml, hown, hts, hK, hJ⟩ := id C
  unfold P_M_takeCovers at h
  have hl : lv_has ls 2 [(0, .ref (ad 31))] := hl
  refine lv_iconst (v := 0) hx hb d_M_takeCovers_0 (by decide) ?_
  refine lv_istore_n (lv' := [(1, .int 0), (0, .ref (ad 31))]) hx hb d_M_takeCovers_1 rfl hl (by decide) rfl (fun ls hl => ?_)
  obtain ⟨k2, h⟩ := h
  refine w_M_takeCovers_2 C hcs _ _ hR (fun S2e H locs ls h hI hl => ?_) k2 0 S _ _ ls hI (lv_sub hl [1, 0] rfl) h
  refine lv_aload_n hx hb d_M_takeCovers_22 rfl (lv_at hl 0 rfl) ?_
  refine lv_iconst (v := 0) hx hb d_M_takeCovers_23 (by decide) ?_
  refine z_putI C hI 31 (by decide) kd_31 cl_M iw_M ty_M ty_M_ok n_M 19 (by decide) k_fl_M_127 rfl rfl rfl d_M_takeCovers_24 (fun S24 eS H locs hI => ?_)
  replace h := h S24 eS
  refine lv_iconst (v := 1) hx hb d_M_takeCovers_27 (by decide) ?_
  refine lv_istore_n (lv' := [(1, .int 1), (0, .ref (ad 31))]) hx hb d_M_takeCovers_28 rfl hl (by decide) rfl (fun ls hl => ?_)
  obtain ⟨k29, h⟩ := h
  refine w_M_takeCovers_29 C hcs _ hR k29 1 S24 _ _ ls hI (lv_sub hl [1, 0] rfl) h
set_option maxHeartbeats 4000000 in
set_option maxRecDepth 100000 in
theorem w_M_takeStrips_45 (C : z_CT p s m args c R_M b_M_takeStrips 4 D cA 51 ad) (hcs : cells ≤ rm_M_takeStrips.cells ∧ slots ≤ rm_M_takeStrips.slots) (post : zS → Prop) (K19 : Int32 → Int32 → zS → Prop) (v1 : Int32) (v3 : Int32) (hR : z_Rv p l e rm_M_takeStrips s m args below meth c Q b_M_takeStrips D cA 51 ad post) (kK19 : ∀ (v2 : Int32) (v3 : Int32) (S : zS) (H : Heap) (locs : List Loc) (ls : Array Slot), K19 v2 v3 S → z_I D cA 51 ad s.heap S H locs → lv_has ls 4 [(0, .ref (ad 31)), (1, .int v1), (2, .int v2), (3, .int v3)] → W p l e rm_M_takeStrips s m args below meth c H locs cells slots Q (F0 m 19 ls [])) (S : zS) (H : Heap) (locs : List Loc) (ls : Array Slot) (hI : z_I D cA 51 ad s.heap S H locs) (hl : lv_has ls 4 [(0, .ref (ad 31)), (1, .int v1), (3, .int v3)]) (h : J_M_takeStrips_45 post K19 v1 v3 S) : W p l e rm_M_takeStrips s m args below meth c H locs cells slots Q (F0 m 45 ls []) := by
  obtain ⟨hx, hb, hml, hown, hts, hK, hJ⟩ := id C
  unfold J_M_takeStrips_45 at h
  refine lv_iconst (v := 1) hx hb d_M_takeStrips_45 (by decide) ?_
  refine lv_goto (tgt := 50) hx hb d_M_takeStrips_46 (by decide) ?_
  refine lv_istore_n (lv' := [(2, .int 1), (0, .ref (ad 31)), (1, .int v1), (3, .int v3)]) hx hb d_M_takeStrips_50 rfl hl (by decide) rfl (fun ls hl => ?_)
  obtain ⟨x51, e51⟩ : ∃ y : Int32, y = v3 + 1 := ⟨_, rfl⟩
  replace h := h x51 e51
  refine lv_iinc (v := x51) (lv' := [(3, .int x51), (2, .int 1), (0, .ref (ad 31)), (1, .int v1)]) hx hb d_M_takeStrips_51 hl (k := 3) rfl (by rw [e51]; rfl) (by decide) rfl (fun ls hl => ?_)
  refine lv_goto (tgt := 19) hx hb d_M_takeStrips_54 (by decide) ?_
  exact kK19 1 x51 S _ _ ls h hI (lv_sub hl [2, 3, 1, 0] rfl)
set_option maxHeartbeats 4000000 in
set_option maxRecDepth 100000 in
theorem w_M_takeStrips_19 (C : z_CT p s m args c R_M b_M_takeStrips 4 D cA 51 ad) (hcs : cells ≤ rm_M_takeStrips.cells ∧ slots ≤ rm_M_takeStrips.slots) (post : zS → Prop) (K57 : Int32 → zS → Prop) (v1 : Int32) (hR : z_Rv p l e rm_M_takeStrips s m args below meth c Q b_M_takeStrips D cA 51 ad post) (kK57 : ∀ (v2 : Int32) (S : zS) (H : Heap) (locs : List Loc) (ls : Array Slot), K57 v2 S → z_I D cA 51 ad s.heap S H locs → lv_has ls 4 [(0, .ref (ad 31)), (1, .int v1), (2, .int v2)] → W p l e rm_M_takeStrips s m args below meth c H locs cells slots Q (F0 m 57 ls [])) : ∀ (n : Nat) (v2 : Int32) (v3 : Int32) (S : zS) (H : Heap) (locs : List Loc) (ls : Array Slot), z_I D cA 51 ad s.heap S H locs → lv_has ls 4 [(0, .ref (ad 31)), (1, .int v1), (2, .int v2), (3, .int v3)] → L_M_takeStrips_19 post K57 v1 n v2 v3 S → W p l e rm_M_takeStrips s m args below meth c H locs cells slots Q (F0 m 19 ls []) := by
  obtain ⟨hx, hb, hml, hown, hts, hK, hJ⟩ := id C
  intro n
  induction n with
  | zero => intro v2 v3 S H locs ls hI hl h; exact h.elim
  | succ n ih =>
    intro v2 v3 S H locs ls hI hl h
    rw [L_M_takeStrips_19] at h
    refine lv_iload_n hx hb d_M_takeStrips_19 rfl (lv_at hl 3 rfl) ?_
    refine lv_aload_n hx hb d_M_takeStrips_20 rfl (lv_at hl 0 rfl) ?_
    refine z_getI C hI 31 (by decide) kd_31 cl_M iw_M 2 (by decide) k_fl_M_76 rfl d_M_takeStrips_21 ?_
    refine lv_icmp_ge (tgt := 57) hx hb d_M_takeStrips_24 (by decide) (fun q => ?_) (fun q => ?_)
    · replace h := h.1 q
      exact kK57 v2 S _ _ ls h hI (lv_sub hl [0, 1, 2] rfl)
    · replace h := h.2 q
      refine lv_iload_n hx hb d_M_takeStrips_27 rfl (lv_at hl 2 rfl) ?_
      refine lv_if_ne (tgt := 45) hx hb d_M_takeStrips_28 (by decide) (fun q => ?_) (fun q => ?_)
      · replace h := h.1 q
        exact w_M_takeStrips_45 C hcs _ _ v1 v3 hR (fun v2 v3 S H locs ls h hI hl => ih v2 v3 S H locs ls hI hl h) S _ _ ls hI (lv_sub hl [0, 1, 3] rfl) h
      · replace h := h.2 q
        refine lv_aload_n hx hb d_M_takeStrips_31 rfl (lv_at hl 0 rfl) ?_
        refine z_getR C hI 31 (by decide) kd_31 cl_M iw_M 8 (by decide) k_fl_M_23 rfl d_M_takeStrips_32 ?_
        refine lv_bipush (v := 24) hx hb d_M_takeStrips_35 (by decide) ?_
        refine lv_iload_n hx hb d_M_takeStrips_37 rfl (lv_at hl 3 rfl) ?_
        refine lv_imul hx hb d_M_takeStrips_38 ?_
        refine lv_iload_n hx hb d_M_takeStrips_39 rfl (lv_at hl 1 rfl) ?_
        refine lv_iadd hx hb d_M_takeStrips_40 ?_
        obtain ⟨h1, h⟩ := h
        refine z_zld C hI 35 (by decide) kd_35 h1 d_M_takeStrips_41 ?_
        refine lv_if_eq (tgt := 49) hx hb d_M_takeStrips_42 (by decide) (fun q => ?_) (fun q => ?_)
        · replace h := h.1 q
          refine lv_iconst (v := 0) hx hb d_M_takeStrips_49 (by decide) ?_
          refine lv_istore_n (lv' := [(2, .int 0), (0, .ref (ad 31)), (1, .int v1), (3, .int v3)]) hx hb d_M_takeStrips_50 rfl hl (by decide) rfl (fun ls hl => ?_)
          obtain ⟨x51, e51⟩ : ∃ y : Int32, y = v3 + 1 := ⟨_, rfl⟩
          replace h := h x51 e51
          refine lv_iinc (v := x51) (lv' := [(3, .int x51), (2, .int 0), (0, .ref (ad 31)), (1, .int v1)]) hx hb d_M_takeStrips_51 hl (k := 3) rfl (by rw [e51]; rfl) (by decide) rfl (fun ls hl => ?_)
          refine lv_goto (tgt := 19) hx hb d_M_takeStrips_54 (by decide) ?_
          exact ih 0 x51 S _ _ ls hI (lv_sub hl [2, 3, 1, 0] rfl) h
        · replace h := h.2 q
          exact w_M_takeStrips_45 C hcs _ _ v1 v3 hR (fun v2 v3 S H locs ls h hI hl => ih v2 v3 S H locs ls hI hl h) S _ _ ls hI (lv_sub hl [0, 1, 3] rfl) h
set_option maxHeartbeats 4000000 in
set_option maxRecDepth 100000 in
theorem w_M_takeStrips_101 (C : z_CT p s m args c R_M b_M_takeStrips 4 D cA 51 ad) (hcs : cells ≤ rm_M_takeStrips.cells ∧ slots ≤ rm_M_takeStrips.slots) (post : zS → Prop) (K7 : Int32 → zS → Prop) (v1 : Int32) (v2 : Int32) (t0 : Int32) (hR : z_Rv p l e rm_M_takeStrips s m args below meth c Q b_M_takeStrips D cA 51 ad post) (kK7 : ∀ (v1 : Int32) (S : zS) (H : Heap) (locs : List Loc) (ls : Array Slot), K7 v1 S → z_I D cA 51 ad s.heap S H locs → lv_has ls 4 [(0, .ref (ad 31)), (1, .int v1)] → W p l e rm_M_takeStrips s m args below meth c H locs cells slots Q (F0 m 7 ls [])) (S : zS) (H : Heap) (locs : List Loc) (ls : Array Slot) (hI : z_I D cA 51 ad s.heap S H locs) (hl : lv_has ls 4 [(0, .ref (ad 31)), (1, .int v1), (2, .int v2)]) (h : J_M_takeStrips_101 post K7 v1 v2 t0 S) : W p l e rm_M_takeStrips s m args below meth c H locs cells slots Q (F0 m 101 ls [.int t0, .ref (ad 31)]) := by
  obtain ⟨hx, hb, hml, hown, hts, hK, hJ⟩ := id C
  unfold J_M_takeStrips_101 at h
  refine z_putI C hI 31 (by decide) kd_31 cl_M iw_M ty_M ty_M_ok n_M 21 (by decide) k_fl_M_134 rfl rfl rfl d_M_takeStrips_101 (fun S101 eS H locs hI => ?_)
  replace h := h S101 eS
  refine lv_aload_n hx hb d_M_takeStrips_104 rfl (lv_at hl 0 rfl) ?_
  refine z_getR C hI 31 (by decide) kd_31 cl_M iw_M 22 (by decide) k_fl_M_57 rfl d_M_takeStrips_105 ?_
  refine lv_iload_n hx hb d_M_takeStrips_108 rfl (lv_at hl 1 rfl) ?_
  refine lv_iload_n hx hb d_M_takeStrips_109 rfl (lv_at hl 2 rfl) ?_
  refine lv_if_eq (tgt := 122) hx hb d_M_takeStrips_110 (by decide) (fun q => ?_) (fun q => ?_)
  · replace h := h.1 q
    refine lv_iconst (v := (-1)) hx hb d_M_takeStrips_122 (by decide) ?_
    obtain ⟨h1, h⟩ := h
    refine z_ist C hI 46 (by decide) kd_46 h1 d_M_takeStrips_123 (fun S123 eS H locs hI => ?_)
    replace h := h S123 eS
    obtain ⟨x124, e124⟩ : ∃ y : Int32, y = v1 + 1 := ⟨_, rfl⟩
    replace h := h x124 e124
    refine lv_iinc (v := x124) (lv' := [(1, .int x124), (0, .ref (ad 31)), (2, .int v2)]) hx hb d_M_takeStrips_124 hl (k := 1) rfl (by rw [e124]; rfl) (by decide) rfl (fun ls hl => ?_)
    refine lv_goto (tgt := 7) hx hb d_M_takeStrips_127 (by decide) ?_
    exact kK7 x124 S123 _ _ ls h hI (lv_sub hl [1, 0] rfl)
  · replace h := h.2 q
    refine lv_aload_n hx hb d_M_takeStrips_113 rfl (lv_at hl 0 rfl) ?_
    refine z_getI C hI 31 (by decide) kd_31 cl_M iw_M 21 (by decide) k_fl_M_134 rfl d_M_takeStrips_114 ?_
    refine lv_iconst (v := 1) hx hb d_M_takeStrips_117 (by decide) ?_
    refine lv_isub hx hb d_M_takeStrips_118 ?_
    refine lv_goto (tgt := 123) hx hb d_M_takeStrips_119 (by decide) ?_
    obtain ⟨h1, h⟩ := h
    refine z_ist C hI 46 (by decide) kd_46 h1 d_M_takeStrips_123 (fun S123 eS H locs hI => ?_)
    replace h := h S123 eS
    obtain ⟨x124, e124⟩ : ∃ y : Int32, y = v1 + 1 := ⟨_, rfl⟩
    replace h := h x124 e124
    refine lv_iinc (v := x124) (lv' := [(1, .int x124), (0, .ref (ad 31)), (2, .int v2)]) hx hb d_M_takeStrips_124 hl (k := 1) rfl (by rw [e124]; rfl) (by decide) rfl (fun ls hl => ?_)
    refine lv_goto (tgt := 7) hx hb d_M_takeStrips_127 (by decide) ?_
    exact kK7 x124 S123 _ _ ls h hI (lv_sub hl [1, 0] rfl)
set_option maxHeartbeats 4000000 in
set_option maxRecDepth 100000 in
theorem w_M_takeStrips_97 (C : z_CT p s m args c R_M b_M_takeStrips 4 D cA 51 ad) (hcs : cells ≤ rm_M_takeStrips.cells ∧ slots ≤ rm_M_takeStrips.slots) (post : zS → Prop) (K7 : Int32 → zS → Prop) (v1 : Int32) (v2 : Int32) (hR : z_Rv p l e rm_M_takeStrips s m args below meth c Q b_M_takeStrips D cA 51 ad post) (kK7 : ∀ (v1 : Int32) (S : zS) (H : Heap) (locs : List Loc) (ls : Array Slot), K7 v1 S → z_I D cA 51 ad s.heap S H locs → lv_has ls 4 [(0, .ref (ad 31)), (1, .int v1)] → W p l e rm_M_takeStrips s m args below meth c H locs cells slots Q (F0 m 7 ls [])) (S : zS) (H : Heap) (locs : List Loc) (ls : Array Slot) (hI : z_I D cA 51 ad s.heap S H locs) (hl : lv_has ls 4 [(0, .ref (ad 31)), (1, .int v1), (2, .int v2)]) (h : J_M_takeStrips_97 post K7 v1 v2 S) : W p l e rm_M_takeStrips s m args below meth c H locs cells slots Q (F0 m 97 ls [.ref (ad 31)]) := by
  obtain ⟨hx, hb, hml, hown, hts, hK, hJ⟩ := id C
  unfold J_M_takeStrips_97 at h
  refine lv_aload_n hx hb d_M_takeStrips_97 rfl (lv_at hl 0 rfl) ?_
  refine z_getI C hI 31 (by decide) kd_31 cl_M iw_M 21 (by decide) k_fl_M_134 rfl d_M_takeStrips_98 ?_
  exact w_M_takeStrips_101 C hcs _ _ v1 v2 (S 31 21) hR kK7 S _ _ ls hI (lv_sub hl [0, 1, 2] rfl) h
set_option maxHeartbeats 4000000 in
set_option maxRecDepth 100000 in
theorem w_M_takeStrips_78 (C : z_CT p s m args c R_M b_M_takeStrips 4 D cA 51 ad) (hcs : cells ≤ rm_M_takeStrips.cells ∧ slots ≤ rm_M_takeStrips.slots) (post : zS → Prop) (K7 : Int32 → zS → Prop) (v1 : Int32) (v2 : Int32) (t0 : Int32) (hR : z_Rv p l e rm_M_takeStrips s m args below meth c Q b_M_takeStrips D cA 51 ad post) (kK7 : ∀ (v1 : Int32) (S : zS) (H : Heap) (locs : List Loc) (ls : Array Slot), K7 v1 S → z_I D cA 51 ad s.heap S H locs → lv_has ls 4 [(0, .ref (ad 31)), (1, .int v1)] → W p l e rm_M_takeStrips s m args below meth c H locs cells slots Q (F0 m 7 ls [])) (S : zS) (H : Heap) (locs : List Loc) (ls : Array Slot) (hI : z_I D cA 51 ad s.heap S H locs) (hl : lv_has ls 4 [(0, .ref (ad 31)), (1, .int v1), (2, .int v2)]) (h : J_M_takeStrips_78 post K7 v1 v2 t0 S) : W p l e rm_M_takeStrips s m args below meth c H locs cells slots Q (F0 m 78 ls [.int t0]) := by
  obtain ⟨hx, hb, hml, hown, hts, hK, hJ⟩ := id C
  unfold J_M_takeStrips_78 at h
  refine lv_istore_n (lv' := [(3, .int t0), (0, .ref (ad 31)), (1, .int v1), (2, .int v2)]) hx hb d_M_takeStrips_78 rfl hl (by decide) rfl (fun ls hl => ?_)
  refine lv_aload_n hx hb d_M_takeStrips_79 rfl (lv_at hl 1 rfl) ?_
  refine lv_iload_n hx hb d_M_takeStrips_80 rfl (lv_at hl 3 rfl) ?_
  refine lv_if_eq (tgt := 97) hx hb d_M_takeStrips_81 (by decide) (fun q => ?_) (fun q => ?_)
  · replace h := h.1 q
    exact w_M_takeStrips_97 C hcs _ _ v1 v2 hR kK7 S _ _ ls hI (lv_sub hl [1, 2, 3] rfl) h
  · replace h := h.2 q
    refine lv_iload_n hx hb d_M_takeStrips_84 rfl (lv_at hl 0 rfl) ?_
    refine lv_if_ne (tgt := 97) hx hb d_M_takeStrips_85 (by decide) (fun q => ?_) (fun q => ?_)
    · replace h := h.1 q
      exact w_M_takeStrips_97 C hcs _ _ v1 v2 hR kK7 S _ _ ls hI (lv_sub hl [1, 2, 3] rfl) h
    · replace h := h.2 q
      refine lv_aload_n hx hb d_M_takeStrips_88 rfl (lv_at hl 1 rfl) ?_
      refine z_getI C hI 31 (by decide) kd_31 cl_M iw_M 21 (by decide) k_fl_M_134 rfl d_M_takeStrips_89 ?_
      refine lv_iconst (v := 1) hx hb d_M_takeStrips_92 (by decide) ?_
      refine lv_iadd hx hb d_M_takeStrips_93 ?_
      refine lv_goto (tgt := 101) hx hb d_M_takeStrips_94 (by decide) ?_
      exact w_M_takeStrips_101 C hcs _ _ v1 v2 ((S 31 21) + 1) hR kK7 S _ _ ls hI (lv_sub hl [1, 2, 3] rfl) h
set_option maxHeartbeats 4000000 in
set_option maxRecDepth 100000 in
theorem w_M_takeStrips_77 (C : z_CT p s m args c R_M b_M_takeStrips 4 D cA 51 ad) (hcs : cells ≤ rm_M_takeStrips.cells ∧ slots ≤ rm_M_takeStrips.slots) (post : zS → Prop) (K7 : Int32 → zS → Prop) (v1 : Int32) (v2 : Int32) (hR : z_Rv p l e rm_M_takeStrips s m args below meth c Q b_M_takeStrips D cA 51 ad post) (kK7 : ∀ (v1 : Int32) (S : zS) (H : Heap) (locs : List Loc) (ls : Array Slot), K7 v1 S → z_I D cA 51 ad s.heap S H locs → lv_has ls 4 [(0, .ref (ad 31)), (1, .int v1)] → W p l e rm_M_takeStrips s m args below meth c H locs cells slots Q (F0 m 7 ls [])) (S : zS) (H : Heap) (locs : List Loc) (ls : Array Slot) (hI : z_I D cA 51 ad s.heap S H locs) (hl : lv_has ls 4 [(0, .ref (ad 31)), (1, .int v1), (2, .int v2)]) (h : J_M_takeStrips_77 post K7 v1 v2 S) : W p l e rm_M_takeStrips s m args below meth c H locs cells slots Q (F0 m 77 ls []) := by
  obtain ⟨hx, hb, hml, hown, hts, hK, hJ⟩ := id C
  unfold J_M_takeStrips_77 at h
  refine lv_iconst (v := 0) hx hb d_M_takeStrips_77 (by decide) ?_
  exact w_M_takeStrips_78 C hcs _ _ v1 v2 0 hR kK7 S _ _ ls hI (lv_sub hl [0, 1, 2] rfl) h
set_option maxHeartbeats 4000000 in
set_option maxRecDepth 100000 in
theorem w_M_takeStrips_7 (C : z_CT p s m args c R_M b_M_takeStrips 4 D cA 51 ad) (hcs : cells ≤ rm_M_takeStrips.cells ∧ slots ≤ rm_M_takeStrips.slots) (post : zS → Prop) (hR : z_Rv p l e rm_M_takeStrips s m args below meth c Q b_M_takeStrips D cA 51 ad post) : ∀ (n : Nat) (v1 : Int32) (S : zS) (H : Heap) (locs : List Loc) (ls : Array Slot), z_I D cA 51 ad s.heap S H locs → lv_has ls 4 [(0, .ref (ad 31)), (1, .int v1)] → L_M_takeStrips_7 post n v1 S → W p l e rm_M_takeStrips s m args below meth c H locs cells slots Q (F0 m 7 ls []) := by
  obtain ⟨hx, hb, hml, hown, hts, hK, hJ⟩ := id C
  intro n
  induction n with
  | zero => intro v1 S H locs ls hI hl h; exact h.elim
  | succ n ih =>
    intro v1 S H locs ls hI hl h
    rw [L_M_takeStrips_7] at h
    refine lv_iload_n hx hb d_M_takeStrips_7 rfl (lv_at hl 1 rfl) ?_
    refine lv_aload_n hx hb d_M_takeStrips_8 rfl (lv_at hl 0 rfl) ?_
    refine z_getI C hI 31 (by decide) kd_31 cl_M iw_M 1 (by decide) k_fl_M_73 rfl d_M_takeStrips_9 ?_
    refine lv_icmp_ge (tgt := 130) hx hb d_M_takeStrips_12 (by decide) (fun q => ?_) (fun q => ?_)
    · replace h := h.1 q
      exact hR _ _ hcs S _ _ 130 ls h hI d_M_takeStrips_130
    · replace h := h.2 q
      refine lv_iconst (v := 0) hx hb d_M_takeStrips_15 (by decide) ?_
      refine lv_istore_n (lv' := [(2, .int 0), (0, .ref (ad 31)), (1, .int v1)]) hx hb d_M_takeStrips_16 rfl hl (by decide) rfl (fun ls hl => ?_)
      refine lv_iconst (v := 0) hx hb d_M_takeStrips_17 (by decide) ?_
      refine lv_istore_n (lv' := [(3, .int 0), (2, .int 0), (0, .ref (ad 31)), (1, .int v1)]) hx hb d_M_takeStrips_18 rfl hl (by decide) rfl (fun ls hl => ?_)
      obtain ⟨k19, h⟩ := h
      refine w_M_takeStrips_19 C hcs _ _ v1 hR (fun v2_19e S19e H locs ls h hI hl => ?_) k19 0 0 S _ _ ls hI (lv_sub hl [2, 3, 1, 0] rfl) h
      refine lv_iload_n hx hb d_M_takeStrips_57 rfl (lv_at hl 1 rfl) ?_
      refine lv_if_le (tgt := 77) hx hb d_M_takeStrips_58 (by decide) (fun q => ?_) (fun q => ?_)
      · replace h := h.1 q
        exact w_M_takeStrips_77 C hcs _ _ v1 v2_19e hR (fun v1 S H locs ls h hI hl => ih v1 S H locs ls hI hl h) S19e _ _ ls hI (lv_sub hl [0, 1, 2] rfl) h
      · replace h := h.2 q
        refine lv_aload_n hx hb d_M_takeStrips_61 rfl (lv_at hl 0 rfl) ?_
        refine z_getR C hI 31 (by decide) kd_31 cl_M iw_M 22 (by decide) k_fl_M_57 rfl d_M_takeStrips_62 ?_
        refine lv_iload_n hx hb d_M_takeStrips_65 rfl (lv_at hl 1 rfl) ?_
        refine lv_iconst (v := 1) hx hb d_M_takeStrips_66 (by decide) ?_
        refine lv_isub hx hb d_M_takeStrips_67 ?_
        obtain ⟨h1, h⟩ := h
        refine z_ild C hI 46 (by decide) kd_46 h1 d_M_takeStrips_68 ?_
        refine lv_iconst (v := (-1)) hx hb d_M_takeStrips_69 (by decide) ?_
        refine lv_icmp_eq (tgt := 77) hx hb d_M_takeStrips_70 (by decide) (fun q => ?_) (fun q => ?_)
        · replace h := h.1 q
          exact w_M_takeStrips_77 C hcs _ _ v1 v2_19e hR (fun v1 S H locs ls h hI hl => ih v1 S H locs ls hI hl h) S19e _ _ ls hI (lv_sub hl [0, 1, 2] rfl) h
        · replace h := h.2 q
          refine lv_iconst (v := 1) hx hb d_M_takeStrips_73 (by decide) ?_
          refine lv_goto (tgt := 78) hx hb d_M_takeStrips_74 (by decide) ?_
          exact w_M_takeStrips_78 C hcs _ _ v1 v2_19e 1 hR (fun v1 S H locs ls h hI hl => ih v1 S H locs ls hI hl h) S19e _ _ ls hI (lv_sub hl [0, 1, 2] rfl) h
set_option maxHeartbeats 4000000 in
set_option maxRecDepth 100000 in
theorem c_M_takeStrips (S : zS) (post : zS → Prop) (h : P_M_takeStrips S post) : z_ctv l D cA 51 ad y_M_takeStrips b_M_takeStrips 4 none rm_M_takeStrips [.ref (ad 31)] S post := by
  refine z_metv (av := [.ref (ad 31)]) (by decide) (Nat.le_of_ble_eq_true rfl) ⟨rfl, rfl⟩ (fun p e s m args below meth c Q ls C hcs hl hI hR => ?_)
  obtain ⟨hx, hb, hml, hown, hts, hK, hJ⟩ := id C
  unfold P_M_takeStrips at h
  have hl : lv_has ls 4 [(0, .ref (ad 31))] := hl
  refine lv_aload_n hx hb d_M_takeStrips_0 rfl (lv_at hl 0 rfl) ?_
  refine lv_iconst (v := 0) hx hb d_M_takeStrips_1 (by decide) ?_
  refine z_putI C hI 31 (by decide) kd_31 cl_M iw_M ty_M ty_M_ok n_M 21 (by decide) k_fl_M_134 rfl rfl rfl d_M_takeStrips_2 (fun S2 eS H locs hI => ?_)
  replace h := h S2 eS
  refine lv_iconst (v := 0) hx hb d_M_takeStrips_5 (by decide) ?_
  refine lv_istore_n (lv' := [(1, .int 0), (0, .ref (ad 31))]) hx hb d_M_takeStrips_6 rfl hl (by decide) rfl (fun ls hl => ?_)
  obtain ⟨k7, h⟩ := h
  refine w_M_takeStrips_7 C hcs _ hR k7 0 S2 _ _ ls hI (lv_sub hl [1, 0] rfl) h
set_option maxHeartbeats 4000000 in
set_option maxRecDepth 100000 in
theorem w_M_isClosed_86 (C : z_CT p s m args c R_M b_M_isClosed 6 D cA 51 ad) (hcs : cells ≤ rm_M_isClosed.cells ∧ slots ≤ rm_M_isClosed.slots) (post : Int32 → zS → Prop) (K15 : Int32 → Int32 → zS → Prop) (v1 : Int32) (v3 : Int32) (v4 : Int32) (hR : z_Rz p l e rm_M_isClosed s m args below meth c Q b_M_isClosed D cA 51 ad post) (kK15 : ∀ (v2 : Int32) (v4 : Int32) (S : zS) (H : Heap) (locs : List Loc) (ls : Array Slot), K15 v2 v4 S → z_I D cA 51 ad s.heap S H locs → lv_has ls 6 [(0, .ref (ad 31)), (1, .int v1), (2, .int v2), (3, .int v3), (4, .int v4)] → W p l e rm_M_isClosed s m args below meth c H locs cells slots Q (F0 m 15 ls [])) (S : zS) (H : Heap) (locs : List Loc) (ls : Array Slot) (hI : z_I D cA 51 ad s.heap S H locs) (hl : lv_has ls 6 [(0, .ref (ad 31)), (1, .int v1), (3, .int v3), (4, .int v4)]) (h : J_M_isClosed_86 post K15 v1 v3 v4 S) : W p l e rm_M_isClosed s m args below meth c H locs cells slots Q (F0 m 86 ls []) := by
  obtain ⟨hx, hb, hml, hown, hts, hK, hJ⟩ := id C
  unfold J_M_isClosed_86 at h
  refine lv_iconst (v := 1) hx hb d_M_isClosed_86 (by decide) ?_
  refine lv_goto (tgt := 91) hx hb d_M_isClosed_87 (by decide) ?_
  refine lv_istore_n (lv' := [(2, .int 1), (0, .ref (ad 31)), (1, .int v1), (3, .int v3), (4, .int v4)]) hx hb d_M_isClosed_91 rfl hl (by decide) rfl (fun ls hl => ?_)
  obtain ⟨x92, e92⟩ : ∃ y : Int32, y = v4 + 1 := ⟨_, rfl⟩
  replace h := h x92 e92
  refine lv_iinc (v := x92) (lv' := [(4, .int x92), (2, .int 1), (0, .ref (ad 31)), (1, .int v1), (3, .int v3)]) hx hb d_M_isClosed_92 hl (k := 4) rfl (by rw [e92]; rfl) (by decide) rfl (fun ls hl => ?_)
  refine lv_goto (tgt := 15) hx hb d_M_isClosed_95 (by decide) ?_
  exact kK15 1 x92 S _ _ ls h hI (lv_sub hl [2, 3, 1, 4, 0] rfl)
set_option maxHeartbeats 4000000 in
set_option maxRecDepth 100000 in
theorem w_M_isClosed_59 (C : z_CT p s m args c R_M b_M_isClosed 6 D cA 51 ad) (hcs : cells ≤ rm_M_isClosed.cells ∧ slots ≤ rm_M_isClosed.slots) (post : Int32 → zS → Prop) (K15 : Int32 → Int32 → zS → Prop) (v1 : Int32) (v2 : Int32) (v3 : Int32) (v4 : Int32) (t0 : Int32) (hR : z_Rz p l e rm_M_isClosed s m args below meth c Q b_M_isClosed D cA 51 ad post) (kK15 : ∀ (v2 : Int32) (v4 : Int32) (S : zS) (H : Heap) (locs : List Loc) (ls : Array Slot), K15 v2 v4 S → z_I D cA 51 ad s.heap S H locs → lv_has ls 6 [(0, .ref (ad 31)), (1, .int v1), (2, .int v2), (3, .int v3), (4, .int v4)] → W p l e rm_M_isClosed s m args below meth c H locs cells slots Q (F0 m 15 ls [])) (S : zS) (H : Heap) (locs : List Loc) (ls : Array Slot) (hI : z_I D cA 51 ad s.heap S H locs) (hl : lv_has ls 6 [(0, .ref (ad 31)), (1, .int v1), (2, .int v2), (3, .int v3), (4, .int v4)]) (h : J_M_isClosed_59 post K15 v1 v2 v3 v4 t0 S) : W p l e rm_M_isClosed s m args below meth c H locs cells slots Q (F0 m 59 ls [.int t0]) := by
  obtain ⟨hx, hb, hml, hown, hts, hK, hJ⟩ := id C
  unfold J_M_isClosed_59 at h
  refine lv_istore (lv' := [(5, .int t0), (0, .ref (ad 31)), (1, .int v1), (2, .int v2), (3, .int v3), (4, .int v4)]) hx hb d_M_isClosed_59 hl (by decide) rfl (fun ls hl => ?_)
  refine lv_iload_n hx hb d_M_isClosed_61 rfl (lv_at hl 3 rfl) ?_
  refine lv_if_eq (tgt := 90) hx hb d_M_isClosed_62 (by decide) (fun q => ?_) (fun q => ?_)
  · replace h := h.1 q
    refine lv_iconst (v := 0) hx hb d_M_isClosed_90 (by decide) ?_
    refine lv_istore_n (lv' := [(2, .int 0), (5, .int t0), (0, .ref (ad 31)), (1, .int v1), (3, .int v3), (4, .int v4)]) hx hb d_M_isClosed_91 rfl hl (by decide) rfl (fun ls hl => ?_)
    obtain ⟨x92, e92⟩ : ∃ y : Int32, y = v4 + 1 := ⟨_, rfl⟩
    replace h := h x92 e92
    refine lv_iinc (v := x92) (lv' := [(4, .int x92), (2, .int 0), (5, .int t0), (0, .ref (ad 31)), (1, .int v1), (3, .int v3)]) hx hb d_M_isClosed_92 hl (k := 5) rfl (by rw [e92]; rfl) (by decide) rfl (fun ls hl => ?_)
    refine lv_goto (tgt := 15) hx hb d_M_isClosed_95 (by decide) ?_
    exact kK15 0 x92 S _ _ ls h hI (lv_sub hl [3, 4, 1, 5, 0] rfl)
  · replace h := h.2 q
    refine lv_iload hx hb d_M_isClosed_65 (lv_at hl 0 rfl) ?_
    refine lv_if_eq (tgt := 86) hx hb d_M_isClosed_67 (by decide) (fun q => ?_) (fun q => ?_)
    · replace h := h.1 q
      exact w_M_isClosed_86 C hcs _ _ v1 v3 v4 hR kK15 S _ _ ls hI (lv_sub hl [1, 2, 4, 5] rfl) h
    · replace h := h.2 q
      refine lv_aload_n hx hb d_M_isClosed_70 rfl (lv_at hl 1 rfl) ?_
      refine z_getR C hI 31 (by decide) kd_31 cl_M iw_M 10 (by decide) k_fl_M_29 rfl d_M_isClosed_71 ?_
      refine lv_bipush (v := 24) hx hb d_M_isClosed_74 (by decide) ?_
      refine lv_iload_n hx hb d_M_isClosed_76 rfl (lv_at hl 4 rfl) ?_
      refine lv_imul hx hb d_M_isClosed_77 ?_
      refine lv_iload hx hb d_M_isClosed_78 (lv_at hl 5 rfl) ?_
      refine lv_iadd hx hb d_M_isClosed_80 ?_
      obtain ⟨h1, h⟩ := h
      refine z_ild C hI 37 (by decide) kd_37 h1 d_M_isClosed_81 ?_
      refine lv_iload_n hx hb d_M_isClosed_82 rfl (lv_at hl 2 rfl) ?_
      refine lv_icmp_eq (tgt := 90) hx hb d_M_isClosed_83 (by decide) (fun q => ?_) (fun q => ?_)
      · replace h := h.1 q
        refine lv_iconst (v := 0) hx hb d_M_isClosed_90 (by decide) ?_
        refine lv_istore_n (lv' := [(2, .int 0), (5, .int t0), (0, .ref (ad 31)), (1, .int v1), (3, .int v3), (4, .int v4)]) hx hb d_M_isClosed_91 rfl hl (by decide) rfl (fun ls hl => ?_)
        obtain ⟨x92, e92⟩ : ∃ y : Int32, y = v4 + 1 := ⟨_, rfl⟩
        replace h := h x92 e92
        refine lv_iinc (v := x92) (lv' := [(4, .int x92), (2, .int 0), (5, .int t0), (0, .ref (ad 31)), (1, .int v1), (3, .int v3)]) hx hb d_M_isClosed_92 hl (k := 5) rfl (by rw [e92]; rfl) (by decide) rfl (fun ls hl => ?_)
        refine lv_goto (tgt := 15) hx hb d_M_isClosed_95 (by decide) ?_
        exact kK15 0 x92 S _ _ ls h hI (lv_sub hl [3, 4, 1, 5, 0] rfl)
      · replace h := h.2 q
        exact w_M_isClosed_86 C hcs _ _ v1 v3 v4 hR kK15 S _ _ ls hI (lv_sub hl [1, 2, 4, 5] rfl) h
set_option maxHeartbeats 4000000 in
set_option maxRecDepth 100000 in
theorem w_M_isClosed_54 (C : z_CT p s m args c R_M b_M_isClosed 6 D cA 51 ad) (hcs : cells ≤ rm_M_isClosed.cells ∧ slots ≤ rm_M_isClosed.slots) (post : Int32 → zS → Prop) (K15 : Int32 → Int32 → zS → Prop) (v1 : Int32) (v2 : Int32) (v3 : Int32) (v4 : Int32) (hR : z_Rz p l e rm_M_isClosed s m args below meth c Q b_M_isClosed D cA 51 ad post) (kK15 : ∀ (v2 : Int32) (v4 : Int32) (S : zS) (H : Heap) (locs : List Loc) (ls : Array Slot), K15 v2 v4 S → z_I D cA 51 ad s.heap S H locs → lv_has ls 6 [(0, .ref (ad 31)), (1, .int v1), (2, .int v2), (3, .int v3), (4, .int v4)] → W p l e rm_M_isClosed s m args below meth c H locs cells slots Q (F0 m 15 ls [])) (S : zS) (H : Heap) (locs : List Loc) (ls : Array Slot) (hI : z_I D cA 51 ad s.heap S H locs) (hl : lv_has ls 6 [(0, .ref (ad 31)), (1, .int v1), (2, .int v2), (3, .int v3), (4, .int v4)]) (h : J_M_isClosed_54 post K15 v1 v2 v3 v4 S) : W p l e rm_M_isClosed s m args below meth c H locs cells slots Q (F0 m 54 ls []) := by
  obtain ⟨hx, hb, hml, hown, hts, hK, hJ⟩ := id C
  unfold J_M_isClosed_54 at h
  refine lv_iconst (v := 1) hx hb d_M_isClosed_54 (by decide) ?_
  refine lv_goto (tgt := 59) hx hb d_M_isClosed_55 (by decide) ?_
  exact w_M_isClosed_59 C hcs _ _ v1 v2 v3 v4 1 hR kK15 S _ _ ls hI (lv_sub hl [0, 1, 2, 3, 4] rfl) h
set_option maxHeartbeats 4000000 in
set_option maxRecDepth 100000 in
theorem w_M_isClosed_15 (C : z_CT p s m args c R_M b_M_isClosed 6 D cA 51 ad) (hcs : cells ≤ rm_M_isClosed.cells ∧ slots ≤ rm_M_isClosed.slots) (post : Int32 → zS → Prop) (K98 : Int32 → zS → Prop) (v1 : Int32) (v3 : Int32) (hR : z_Rz p l e rm_M_isClosed s m args below meth c Q b_M_isClosed D cA 51 ad post) (kK98 : ∀ (v2 : Int32) (S : zS) (H : Heap) (locs : List Loc) (ls : Array Slot), K98 v2 S → z_I D cA 51 ad s.heap S H locs → lv_has ls 6 [(0, .ref (ad 31)), (1, .int v1), (2, .int v2), (3, .int v3)] → W p l e rm_M_isClosed s m args below meth c H locs cells slots Q (F0 m 98 ls [])) : ∀ (n : Nat) (v2 : Int32) (v4 : Int32) (S : zS) (H : Heap) (locs : List Loc) (ls : Array Slot), z_I D cA 51 ad s.heap S H locs → lv_has ls 6 [(0, .ref (ad 31)), (1, .int v1), (2, .int v2), (3, .int v3), (4, .int v4)] → L_M_isClosed_15 post K98 v1 v3 n v2 v4 S → W p l e rm_M_isClosed s m args below meth c H locs cells slots Q (F0 m 15 ls []) := by
  obtain ⟨hx, hb, hml, hown, hts, hK, hJ⟩ := id C
  intro n
  induction n with
  | zero => intro v2 v4 S H locs ls hI hl h; exact h.elim
  | succ n ih =>
    intro v2 v4 S H locs ls hI hl h
    rw [L_M_isClosed_15] at h
    refine lv_iload hx hb d_M_isClosed_15 (lv_at hl 4 rfl) ?_
    refine lv_aload_n hx hb d_M_isClosed_17 rfl (lv_at hl 0 rfl) ?_
    refine z_getI C hI 31 (by decide) kd_31 cl_M iw_M 1 (by decide) k_fl_M_73 rfl d_M_isClosed_18 ?_
    refine lv_icmp_ge (tgt := 98) hx hb d_M_isClosed_21 (by decide) (fun q => ?_) (fun q => ?_)
    · replace h := h.1 q
      exact kK98 v2 S _ _ ls h hI (lv_sub hl [0, 1, 2, 3] rfl)
    · replace h := h.2 q
      refine lv_iload hx hb d_M_isClosed_24 (lv_at hl 4 rfl) ?_
      refine lv_if_eq (tgt := 54) hx hb d_M_isClosed_26 (by decide) (fun q => ?_) (fun q => ?_)
      · replace h := h.1 q
        exact w_M_isClosed_54 C hcs _ _ v1 v2 v3 v4 hR (fun v2 v4 S H locs ls h hI hl => ih v2 v4 S H locs ls hI hl h) S _ _ ls hI (lv_sub hl [0, 1, 2, 3, 4] rfl) h
      · replace h := h.2 q
        refine lv_iload_n hx hb d_M_isClosed_29 rfl (lv_at hl 3 rfl) ?_
        refine lv_if_eq (tgt := 54) hx hb d_M_isClosed_30 (by decide) (fun q => ?_) (fun q => ?_)
        · replace h := h.1 q
          exact w_M_isClosed_54 C hcs _ _ v1 v2 v3 v4 hR (fun v2 v4 S H locs ls h hI hl => ih v2 v4 S H locs ls hI hl h) S _ _ ls hI (lv_sub hl [0, 1, 2, 3, 4] rfl) h
        · replace h := h.2 q
          refine lv_iload hx hb d_M_isClosed_33 (lv_at hl 4 rfl) ?_
          refine lv_aload_n hx hb d_M_isClosed_35 rfl (lv_at hl 0 rfl) ?_
          refine z_getI C hI 31 (by decide) kd_31 cl_M iw_M 1 (by decide) k_fl_M_73 rfl d_M_isClosed_36 ?_
          refine lv_iconst (v := 1) hx hb d_M_isClosed_39 (by decide) ?_
          refine lv_isub hx hb d_M_isClosed_40 ?_
          refine lv_icmp_eq (tgt := 54) hx hb d_M_isClosed_41 (by decide) (fun q => ?_) (fun q => ?_)
          · replace h := h.1 q
            exact w_M_isClosed_54 C hcs _ _ v1 v2 v3 v4 hR (fun v2 v4 S H locs ls h hI hl => ih v2 v4 S H locs ls hI hl h) S _ _ ls hI (lv_sub hl [0, 1, 2, 3, 4] rfl) h
          · replace h := h.2 q
            refine lv_iload_n hx hb d_M_isClosed_44 rfl (lv_at hl 3 rfl) ?_
            refine lv_aload_n hx hb d_M_isClosed_45 rfl (lv_at hl 0 rfl) ?_
            refine z_getI C hI 31 (by decide) kd_31 cl_M iw_M 2 (by decide) k_fl_M_76 rfl d_M_isClosed_46 ?_
            refine lv_iconst (v := 1) hx hb d_M_isClosed_49 (by decide) ?_
            refine lv_isub hx hb d_M_isClosed_50 ?_
            refine lv_icmp_ne (tgt := 58) hx hb d_M_isClosed_51 (by decide) (fun q => ?_) (fun q => ?_)
            · replace h := h.1 q
              refine lv_iconst (v := 0) hx hb d_M_isClosed_58 (by decide) ?_
              exact w_M_isClosed_59 C hcs _ _ v1 v2 v3 v4 0 hR (fun v2 v4 S H locs ls h hI hl => ih v2 v4 S H locs ls hI hl h) S _ _ ls hI (lv_sub hl [0, 1, 2, 3, 4] rfl) h
            · replace h := h.2 q
              exact w_M_isClosed_54 C hcs _ _ v1 v2 v3 v4 hR (fun v2 v4 S H locs ls h hI hl => ih v2 v4 S H locs ls hI hl h) S _ _ ls hI (lv_sub hl [0, 1, 2, 3, 4] rfl) h
set_option maxHeartbeats 4000000 in
set_option maxRecDepth 100000 in
theorem w_M_isClosed_4 (C : z_CT p s m args c R_M b_M_isClosed 6 D cA 51 ad) (hcs : cells ≤ rm_M_isClosed.cells ∧ slots ≤ rm_M_isClosed.slots) (post : Int32 → zS → Prop) (v1 : Int32) (hR : z_Rz p l e rm_M_isClosed s m args below meth c Q b_M_isClosed D cA 51 ad post) : ∀ (n : Nat) (v2 : Int32) (v3 : Int32) (S : zS) (H : Heap) (locs : List Loc) (ls : Array Slot), z_I D cA 51 ad s.heap S H locs → lv_has ls 6 [(0, .ref (ad 31)), (1, .int v1), (2, .int v2), (3, .int v3)] → L_M_isClosed_4 post v1 n v2 v3 S → W p l e rm_M_isClosed s m args below meth c H locs cells slots Q (F0 m 4 ls []) := by
  obtain ⟨hx, hb, hml, hown, hts, hK, hJ⟩ := id C
  intro n
  induction n with
  | zero => intro v2 v3 S H locs ls hI hl h; exact h.elim
  | succ n ih =>
    intro v2 v3 S H locs ls hI hl h
    rw [L_M_isClosed_4] at h
    refine lv_iload_n hx hb d_M_isClosed_4 rfl (lv_at hl 3 rfl) ?_
    refine lv_aload_n hx hb d_M_isClosed_5 rfl (lv_at hl 0 rfl) ?_
    refine z_getI C hI 31 (by decide) kd_31 cl_M iw_M 2 (by decide) k_fl_M_76 rfl d_M_isClosed_6 ?_
    refine lv_icmp_ge (tgt := 104) hx hb d_M_isClosed_9 (by decide) (fun q => ?_) (fun q => ?_)
    · replace h := h.1 q
      refine lv_iload_n hx hb d_M_isClosed_104 rfl (lv_at hl 2 rfl) ?_
      exact hR _ _ hcs v2 S _ _ 105 ls h.1 h.2 hI d_M_isClosed_105
    · replace h := h.2 q
      refine lv_iconst (v := 0) hx hb d_M_isClosed_12 (by decide) ?_
      refine lv_istore (lv' := [(4, .int 0), (0, .ref (ad 31)), (1, .int v1), (2, .int v2), (3, .int v3)]) hx hb d_M_isClosed_13 hl (by decide) rfl (fun ls hl => ?_)
      obtain ⟨k15, h⟩ := h
      refine w_M_isClosed_15 C hcs _ _ v1 v3 hR (fun v2_15e S15e H locs ls h hI hl => ?_) k15 v2 0 S _ _ ls hI (lv_sub hl [1, 2, 3, 4, 0] rfl) h
      obtain ⟨x98, e98⟩ : ∃ y : Int32, y = v3 + 1 := ⟨_, rfl⟩
      replace h := h x98 e98
      refine lv_iinc (v := x98) (lv' := [(3, .int x98), (0, .ref (ad 31)), (1, .int v1), (2, .int v2_15e)]) hx hb d_M_isClosed_98 hl (k := 3) rfl (by rw [e98]; rfl) (by decide) rfl (fun ls hl => ?_)
      refine lv_goto (tgt := 4) hx hb d_M_isClosed_101 (by decide) ?_
      exact ih v2_15e x98 S15e _ _ ls hI (lv_sub hl [1, 2, 3, 0] rfl) h
set_option maxHeartbeats 4000000 in
set_option maxRecDepth 100000 in
theorem c_M_isClosed (v1 : Int32) (S : zS) (post : Int32 → zS → Prop) (h : P_M_isClosed v1 S post) : z_cti l D cA 51 ad y_M_isClosed b_M_isClosed 6 (some .boolean) rm_M_isClosed [.ref (ad 31), .int v1] S post := by
  refine z_metz (av := [.ref (ad 31), .int v1]) (by decide) (Nat.le_of_ble_eq_true rfl) ⟨rfl, rfl⟩ (fun p e s m args below meth c Q ls C hcs hl hI hR => ?_)
  obtain ⟨hx, hb, hml, hown, hts, hK, hJ⟩ := id C
  unfold P_M_isClosed at h
  have hl : lv_has ls 6 [(0, .ref (ad 31)), (1, .int v1)] := hl
  refine lv_iconst (v := 1) hx hb d_M_isClosed_0 (by decide) ?_
  refine lv_istore_n (lv' := [(2, .int 1), (0, .ref (ad 31)), (1, .int v1)]) hx hb d_M_isClosed_1 rfl hl (by decide) rfl (fun ls hl => ?_)
  refine lv_iconst (v := 0) hx hb d_M_isClosed_2 (by decide) ?_
  refine lv_istore_n (lv' := [(3, .int 0), (2, .int 1), (0, .ref (ad 31)), (1, .int v1)]) hx hb d_M_isClosed_3 rfl hl (by decide) rfl (fun ls hl => ?_)
  obtain ⟨k4, h⟩ := h
  refine w_M_isClosed_4 C hcs _ v1 hR k4 1 0 S _ _ ls hI (lv_sub hl [2, 3, 1, 0] rfl) h
set_option maxHeartbeats 4000000 in
set_option maxRecDepth 100000 in
theorem w_M_takeCells_131 (C : z_CT p s m args c R_M b_M_takeCells 4 D cA 51 ad) (hcs : cells ≤ rm_M_takeCells.cells ∧ slots ≤ rm_M_takeCells.slots) (post : zS → Prop) (K23 : Int32 → zS → Prop) (v1 : Int32) (v2 : Int32) (hR : z_Rv p l e rm_M_takeCells s m args below meth c Q b_M_takeCells D cA 51 ad post) (kK23 : ∀ (v2 : Int32) (S : zS) (H : Heap) (locs : List Loc) (ls : Array Slot), K23 v2 S → z_I D cA 51 ad s.heap S H locs → lv_has ls 4 [(0, .ref (ad 31)), (1, .int v1), (2, .int v2)] → W p l e rm_M_takeCells s m args below meth c H locs cells slots Q (F0 m 23 ls [])) (S : zS) (H : Heap) (locs : List Loc) (ls : Array Slot) (hI : z_I D cA 51 ad s.heap S H locs) (hl : lv_has ls 4 [(0, .ref (ad 31)), (1, .int v1), (2, .int v2)]) (h : J_M_takeCells_131 post K23 v1 v2 S) : W p l e rm_M_takeCells s m args below meth c H locs cells slots Q (F0 m 131 ls [.ref (ad 31)]) := by
  obtain ⟨hx, hb, hml, hown, hts, hK, hJ⟩ := id C
  unfold J_M_takeCells_131 at h
  refine lv_aload_n hx hb d_M_takeCells_131 rfl (lv_at hl 0 rfl) ?_
  refine z_getI C hI 31 (by decide) kd_31 cl_M iw_M 23 (by decide) k_fl_M_137 rfl d_M_takeCells_132 ?_
  refine z_putI C hI 31 (by decide) kd_31 cl_M iw_M ty_M ty_M_ok n_M 23 (by decide) k_fl_M_137 rfl rfl rfl d_M_takeCells_135 (fun S135 eS H locs hI => ?_)
  replace h := h S135 eS
  obtain ⟨x138, e138⟩ : ∃ y : Int32, y = v2 + 1 := ⟨_, rfl⟩
  replace h := h x138 e138
  refine lv_iinc (v := x138) (lv' := [(2, .int x138), (0, .ref (ad 31)), (1, .int v1)]) hx hb d_M_takeCells_138 hl (k := 2) rfl (by rw [e138]; rfl) (by decide) rfl (fun ls hl => ?_)
  refine lv_goto (tgt := 23) hx hb d_M_takeCells_141 (by decide) ?_
  exact kK23 x138 S135 _ _ ls h hI (lv_sub hl [1, 2, 0] rfl)
set_option maxHeartbeats 4000000 in
set_option maxRecDepth 100000 in
theorem w_M_takeCells_97 (C : z_CT p s m args c R_M b_M_takeCells 4 D cA 51 ad) (hcs : cells ≤ rm_M_takeCells.cells ∧ slots ≤ rm_M_takeCells.slots) (post : zS → Prop) (K23 : Int32 → zS → Prop) (v1 : Int32) (v2 : Int32) (v3 : Int32) (t0 : Int32) (t1 : Int32) (hR : z_Rv p l e rm_M_takeCells s m args below meth c Q b_M_takeCells D cA 51 ad post) (kK23 : ∀ (v2 : Int32) (S : zS) (H : Heap) (locs : List Loc) (ls : Array Slot), K23 v2 S → z_I D cA 51 ad s.heap S H locs → lv_has ls 4 [(0, .ref (ad 31)), (1, .int v1), (2, .int v2)] → W p l e rm_M_takeCells s m args below meth c H locs cells slots Q (F0 m 23 ls [])) (S : zS) (H : Heap) (locs : List Loc) (ls : Array Slot) (hI : z_I D cA 51 ad s.heap S H locs) (hl : lv_has ls 4 [(0, .ref (ad 31)), (1, .int v1), (2, .int v2), (3, .int v3)]) (h : J_M_takeCells_97 post K23 v1 v2 v3 t0 t1 S) : W p l e rm_M_takeCells s m args below meth c H locs cells slots Q (F0 m 97 ls [.int t0, .int t1, .ref (ad 47)]) := by
  obtain ⟨hx, hb, hml, hown, hts, hK, hJ⟩ := id C
  unfold J_M_takeCells_97 at h
  obtain ⟨h1, h⟩ := h
  refine z_ist C hI 47 (by decide) kd_47 h1 d_M_takeCells_97 (fun S97 eS H locs hI => ?_)
  replace h := h S97 eS
  refine lv_aload_n hx hb d_M_takeCells_98 rfl (lv_at hl 0 rfl) ?_
  refine lv_aload_n hx hb d_M_takeCells_99 rfl (lv_at hl 0 rfl) ?_
  refine z_getR C hI 31 (by decide) kd_31 cl_M iw_M 10 (by decide) k_fl_M_29 rfl d_M_takeCells_100 ?_
  refine lv_iload_n hx hb d_M_takeCells_103 rfl (lv_at hl 3 rfl) ?_
  obtain ⟨h1, h⟩ := h
  refine z_ild C hI 37 (by decide) kd_37 h1 d_M_takeCells_104 ?_
  refine lv_iload_n hx hb d_M_takeCells_105 rfl (lv_at hl 3 rfl) ?_
  refine lv_icmp_ne (tgt := 131) hx hb d_M_takeCells_106 (by decide) (fun q => ?_) (fun q => ?_)
  · replace h := h.1 q
    exact w_M_takeCells_131 C hcs _ _ v1 v2 hR kK23 S97 _ _ ls hI (lv_sub hl [0, 1, 2] rfl) h
  · replace h := h.2 q
    refine lv_aload_n hx hb d_M_takeCells_109 rfl (lv_at hl 0 rfl) ?_
    refine z_getR C hI 31 (by decide) kd_31 cl_M iw_M 24 (by decide) k_fl_M_60 rfl d_M_takeCells_110 ?_
    refine lv_iload_n hx hb d_M_takeCells_113 rfl (lv_at hl 3 rfl) ?_
    obtain ⟨h1, h⟩ := h
    refine z_ild C hI 47 (by decide) kd_47 h1 d_M_takeCells_114 ?_
    refine lv_aload_n hx hb d_M_takeCells_115 rfl (lv_at hl 0 rfl) ?_
    refine z_getI C hI 31 (by decide) kd_31 cl_M iw_M 23 (by decide) k_fl_M_137 rfl d_M_takeCells_116 ?_
    refine lv_icmp_ne (tgt := 131) hx hb d_M_takeCells_119 (by decide) (fun q => ?_) (fun q => ?_)
    · replace h := h.1 q
      exact w_M_takeCells_131 C hcs _ _ v1 v2 hR kK23 S97 _ _ ls hI (lv_sub hl [0, 1, 2] rfl) h
    · replace h := h.2 q
      refine lv_aload_n hx hb d_M_takeCells_122 rfl (lv_at hl 0 rfl) ?_
      refine z_getI C hI 31 (by decide) kd_31 cl_M iw_M 23 (by decide) k_fl_M_137 rfl d_M_takeCells_123 ?_
      refine lv_iconst (v := 1) hx hb d_M_takeCells_126 (by decide) ?_
      refine lv_iadd hx hb d_M_takeCells_127 ?_
      refine lv_goto (tgt := 135) hx hb d_M_takeCells_128 (by decide) ?_
      refine z_putI C hI 31 (by decide) kd_31 cl_M iw_M ty_M ty_M_ok n_M 23 (by decide) k_fl_M_137 rfl rfl rfl d_M_takeCells_135 (fun S135 eS H locs hI => ?_)
      replace h := h S135 eS
      obtain ⟨x138, e138⟩ : ∃ y : Int32, y = v2 + 1 := ⟨_, rfl⟩
      replace h := h x138 e138
      refine lv_iinc (v := x138) (lv' := [(2, .int x138), (0, .ref (ad 31)), (1, .int v1), (3, .int v3)]) hx hb d_M_takeCells_138 hl (k := 2) rfl (by rw [e138]; rfl) (by decide) rfl (fun ls hl => ?_)
      refine lv_goto (tgt := 23) hx hb d_M_takeCells_141 (by decide) ?_
      exact kK23 x138 S135 _ _ ls h hI (lv_sub hl [1, 2, 0] rfl)
set_option maxHeartbeats 4000000 in
set_option maxRecDepth 100000 in
theorem w_M_takeCells_23 (C : z_CT p s m args c R_M b_M_takeCells 4 D cA 51 ad) (hcs : cells ≤ rm_M_takeCells.cells ∧ slots ≤ rm_M_takeCells.slots) (post : zS → Prop) (K144 : zS → Prop) (v1 : Int32) (hR : z_Rv p l e rm_M_takeCells s m args below meth c Q b_M_takeCells D cA 51 ad post) (kK144 : ∀ (S : zS) (H : Heap) (locs : List Loc) (ls : Array Slot), K144 S → z_I D cA 51 ad s.heap S H locs → lv_has ls 4 [(0, .ref (ad 31)), (1, .int v1)] → W p l e rm_M_takeCells s m args below meth c H locs cells slots Q (F0 m 144 ls [])) : ∀ (n : Nat) (v2 : Int32) (S : zS) (H : Heap) (locs : List Loc) (ls : Array Slot), z_I D cA 51 ad s.heap S H locs → lv_has ls 4 [(0, .ref (ad 31)), (1, .int v1), (2, .int v2)] → L_M_takeCells_23 post K144 v1 n v2 S → W p l e rm_M_takeCells s m args below meth c H locs cells slots Q (F0 m 23 ls []) := by
  obtain ⟨hx, hb, hml, hown, hts, hK, hJ⟩ := id C
  intro n
  induction n with
  | zero => intro v2 S H locs ls hI hl h; exact h.elim
  | succ n ih =>
    intro v2 S H locs ls hI hl h
    rw [L_M_takeCells_23] at h
    refine lv_iload_n hx hb d_M_takeCells_23 rfl (lv_at hl 2 rfl) ?_
    refine lv_aload_n hx hb d_M_takeCells_24 rfl (lv_at hl 0 rfl) ?_
    refine z_getI C hI 31 (by decide) kd_31 cl_M iw_M 1 (by decide) k_fl_M_73 rfl d_M_takeCells_25 ?_
    refine lv_icmp_ge (tgt := 144) hx hb d_M_takeCells_28 (by decide) (fun q => ?_) (fun q => ?_)
    · replace h := h.1 q
      exact kK144 S _ _ ls h hI (lv_sub hl [0, 1] rfl)
    · replace h := h.2 q
      refine lv_bipush (v := 24) hx hb d_M_takeCells_31 (by decide) ?_
      refine lv_iload_n hx hb d_M_takeCells_33 rfl (lv_at hl 1 rfl) ?_
      refine lv_imul hx hb d_M_takeCells_34 ?_
      refine lv_iload_n hx hb d_M_takeCells_35 rfl (lv_at hl 2 rfl) ?_
      refine lv_iadd hx hb d_M_takeCells_36 ?_
      refine lv_topi (fun x37 e37 => ?_)
      replace h := h x37 e37
      refine lv_istore_n (lv' := [(3, .int x37), (0, .ref (ad 31)), (1, .int v1), (2, .int v2)]) hx hb d_M_takeCells_37 rfl hl (by decide) rfl (fun ls hl => ?_)
      refine lv_aload_n hx hb d_M_takeCells_38 rfl (lv_at hl 1 rfl) ?_
      refine z_getR C hI 31 (by decide) kd_31 cl_M iw_M 24 (by decide) k_fl_M_60 rfl d_M_takeCells_39 ?_
      refine lv_iload_n hx hb d_M_takeCells_42 rfl (lv_at hl 0 rfl) ?_
      refine lv_aload_n hx hb d_M_takeCells_43 rfl (lv_at hl 1 rfl) ?_
      refine z_getR C hI 31 (by decide) kd_31 cl_M iw_M 10 (by decide) k_fl_M_29 rfl d_M_takeCells_44 ?_
      refine lv_iload_n hx hb d_M_takeCells_47 rfl (lv_at hl 0 rfl) ?_
      obtain ⟨h1, h⟩ := h
      refine z_ild C hI 37 (by decide) kd_37 h1 d_M_takeCells_48 ?_
      refine lv_iload_n hx hb d_M_takeCells_49 rfl (lv_at hl 0 rfl) ?_
      refine lv_icmp_ne (tgt := 72) hx hb d_M_takeCells_50 (by decide) (fun q => ?_) (fun q => ?_)
      · replace h := h.1 q
        refine lv_aload_n hx hb d_M_takeCells_72 rfl (lv_at hl 1 rfl) ?_
        refine z_getR C hI 31 (by decide) kd_31 cl_M iw_M 10 (by decide) k_fl_M_29 rfl d_M_takeCells_73 ?_
        refine lv_iload_n hx hb d_M_takeCells_76 rfl (lv_at hl 0 rfl) ?_
        obtain ⟨h1, h⟩ := h
        refine z_ild C hI 37 (by decide) kd_37 h1 d_M_takeCells_77 ?_
        refine lv_iconst (v := (-1)) hx hb d_M_takeCells_78 (by decide) ?_
        refine lv_icmp_ne (tgt := 86) hx hb d_M_takeCells_79 (by decide) (fun q => ?_) (fun q => ?_)
        · replace h := h.1 q
          refine lv_aload_n hx hb d_M_takeCells_86 rfl (lv_at hl 1 rfl) ?_
          refine z_getR C hI 31 (by decide) kd_31 cl_M iw_M 24 (by decide) k_fl_M_60 rfl d_M_takeCells_87 ?_
          refine lv_aload_n hx hb d_M_takeCells_90 rfl (lv_at hl 1 rfl) ?_
          refine z_getR C hI 31 (by decide) kd_31 cl_M iw_M 10 (by decide) k_fl_M_29 rfl d_M_takeCells_91 ?_
          refine lv_iload_n hx hb d_M_takeCells_94 rfl (lv_at hl 0 rfl) ?_
          obtain ⟨h1, h⟩ := h
          refine z_ild C hI 37 (by decide) kd_37 h1 d_M_takeCells_95 ?_
          obtain ⟨h1, h⟩ := h
          refine z_ild C hI 47 (by decide) kd_47 h1 d_M_takeCells_96 ?_
          exact w_M_takeCells_97 C hcs _ _ v1 v2 x37 (S 47 (z_ix (S 37 (z_ix x37)))) x37 hR (fun v2 S H locs ls h hI hl => ih v2 S H locs ls hI hl h) S _ _ ls hI (lv_sub hl [1, 2, 3, 0] rfl) h
        · replace h := h.2 q
          refine lv_iconst (v := (-1)) hx hb d_M_takeCells_82 (by decide) ?_
          refine lv_goto (tgt := 97) hx hb d_M_takeCells_83 (by decide) ?_
          exact w_M_takeCells_97 C hcs _ _ v1 v2 x37 (-1) x37 hR (fun v2 S H locs ls h hI hl => ih v2 S H locs ls hI hl h) S _ _ ls hI (lv_sub hl [1, 2, 3, 0] rfl) h
      · replace h := h.2 q
        refine lv_aload_n hx hb d_M_takeCells_53 rfl (lv_at hl 1 rfl) ?_
        refine lv_iload_n hx hb d_M_takeCells_54 rfl (lv_at hl 0 rfl) ?_
        refine z_callVi C hI 31 (by decide) kd_31 cl_M (As := [.int x37]) (rest := [.int x37, .ref (ad 47)]) (c_M_isClosed x37 _ _ h) wc_M_isClosed k_ml_M_140 rfl rfl (Nat.le_of_ble_eq_true rfl) (Nat.le_of_ble_eq_true rfl) hcs hl.1 (Nat.le_of_ble_eq_true rfl) rfl d_M_takeCells_55 (fun r55 S55 H locs h hI => ?_)
        refine lv_if_eq (tgt := 68) hx hb d_M_takeCells_58 (by decide) (fun q => ?_) (fun q => ?_)
        · replace h := h.1 q
          refine lv_iconst (v := (-1)) hx hb d_M_takeCells_68 (by decide) ?_
          refine lv_goto (tgt := 97) hx hb d_M_takeCells_69 (by decide) ?_
          exact w_M_takeCells_97 C hcs _ _ v1 v2 x37 (-1) x37 hR (fun v2 S H locs ls h hI hl => ih v2 S H locs ls hI hl h) S55 _ _ ls hI (lv_sub hl [1, 2, 3, 0] rfl) h
        · replace h := h.2 q
          refine lv_aload_n hx hb d_M_takeCells_61 rfl (lv_at hl 1 rfl) ?_
          refine z_getI C hI 31 (by decide) kd_31 cl_M iw_M 23 (by decide) k_fl_M_137 rfl d_M_takeCells_62 ?_
          refine lv_goto (tgt := 97) hx hb d_M_takeCells_65 (by decide) ?_
          exact w_M_takeCells_97 C hcs _ _ v1 v2 x37 (S55 31 23) x37 hR (fun v2 S H locs ls h hI hl => ih v2 S H locs ls hI hl h) S55 _ _ ls hI (lv_sub hl [1, 2, 3, 0] rfl) h
set_option maxHeartbeats 4000000 in
set_option maxRecDepth 100000 in
theorem w_M_takeCells_13 (C : z_CT p s m args c R_M b_M_takeCells 4 D cA 51 ad) (hcs : cells ≤ rm_M_takeCells.cells ∧ slots ≤ rm_M_takeCells.slots) (post : zS → Prop) (hR : z_Rv p l e rm_M_takeCells s m args below meth c Q b_M_takeCells D cA 51 ad post) : ∀ (n : Nat) (v1 : Int32) (S : zS) (H : Heap) (locs : List Loc) (ls : Array Slot), z_I D cA 51 ad s.heap S H locs → lv_has ls 4 [(0, .ref (ad 31)), (1, .int v1)] → L_M_takeCells_13 post n v1 S → W p l e rm_M_takeCells s m args below meth c H locs cells slots Q (F0 m 13 ls []) := by
  obtain ⟨hx, hb, hml, hown, hts, hK, hJ⟩ := id C
  intro n
  induction n with
  | zero => intro v1 S H locs ls hI hl h; exact h.elim
  | succ n ih =>
    intro v1 S H locs ls hI hl h
    rw [L_M_takeCells_13] at h
    refine lv_iload_n hx hb d_M_takeCells_13 rfl (lv_at hl 1 rfl) ?_
    refine lv_aload_n hx hb d_M_takeCells_14 rfl (lv_at hl 0 rfl) ?_
    refine z_getI C hI 31 (by decide) kd_31 cl_M iw_M 2 (by decide) k_fl_M_76 rfl d_M_takeCells_15 ?_
    refine lv_icmp_ge (tgt := 150) hx hb d_M_takeCells_18 (by decide) (fun q => ?_) (fun q => ?_)
    · replace h := h.1 q
      exact hR _ _ hcs S _ _ 150 ls h hI d_M_takeCells_150
    · replace h := h.2 q
      refine lv_iconst (v := 0) hx hb d_M_takeCells_21 (by decide) ?_
      refine lv_istore_n (lv' := [(2, .int 0), (0, .ref (ad 31)), (1, .int v1)]) hx hb d_M_takeCells_22 rfl hl (by decide) rfl (fun ls hl => ?_)
      obtain ⟨k23, h⟩ := h
      refine w_M_takeCells_23 C hcs _ _ v1 hR (fun S23e H locs ls h hI hl => ?_) k23 0 S _ _ ls hI (lv_sub hl [1, 2, 0] rfl) h
      obtain ⟨x144, e144⟩ : ∃ y : Int32, y = v1 + 1 := ⟨_, rfl⟩
      replace h := h x144 e144
      refine lv_iinc (v := x144) (lv' := [(1, .int x144), (0, .ref (ad 31))]) hx hb d_M_takeCells_144 hl (k := 1) rfl (by rw [e144]; rfl) (by decide) rfl (fun ls hl => ?_)
      refine lv_goto (tgt := 13) hx hb d_M_takeCells_147 (by decide) ?_
      exact ih x144 S23e _ _ ls hI (lv_sub hl [1, 0] rfl) h
set_option maxHeartbeats 4000000 in
set_option maxRecDepth 100000 in
theorem c_M_takeCells (S : zS) (post : zS → Prop) (h : P_M_takeCells S post) : z_ctv l D cA 51 ad y_M_takeCells b_M_takeCells 4 none rm_M_takeCells [.ref (ad 31)] S post := by
  refine z_metv (av := [.ref (ad 31)]) (by decide) (Nat.le_of_ble_eq_true rfl) ⟨rfl, rfl⟩ (fun p e s m args below meth c Q ls C hcs hl hI hR => ?_)
  obtain ⟨hx, hb, hml, hown, hts, hK, hJ⟩ := id C
  unfold P_M_takeCells at h
  have hl : lv_has ls 4 [(0, .ref (ad 31))] := hl
  refine lv_aload_n hx hb d_M_takeCells_0 rfl (lv_at hl 0 rfl) ?_
  refine lv_iconst (v := 2) hx hb d_M_takeCells_1 (by decide) ?_
  refine lv_iconst (v := 0) hx hb d_M_takeCells_2 (by decide) ?_
  refine z_callVv C hI 31 (by decide) kd_31 cl_M (As := [.int 2, .int 0]) (rest := []) (c_M_group 2 0 _ _ h) wc_M_group k_ml_M_105 rfl rfl (Nat.le_of_ble_eq_true rfl) (Nat.le_of_ble_eq_true rfl) hcs hl.1 (Nat.le_of_ble_eq_true rfl) rfl d_M_takeCells_3 (fun S3 H locs h hI => ?_)
  refine lv_aload_n hx hb d_M_takeCells_6 rfl (lv_at hl 0 rfl) ?_
  refine lv_iconst (v := 0) hx hb d_M_takeCells_7 (by decide) ?_
  refine z_putI C hI 31 (by decide) kd_31 cl_M iw_M ty_M ty_M_ok n_M 23 (by decide) k_fl_M_137 rfl rfl rfl d_M_takeCells_8 (fun S8 eS H locs hI => ?_)
  replace h := h S8 eS
  refine lv_iconst (v := 0) hx hb d_M_takeCells_11 (by decide) ?_
  refine lv_istore_n (lv' := [(1, .int 0), (0, .ref (ad 31))]) hx hb d_M_takeCells_12 rfl hl (by decide) rfl (fun ls hl => ?_)
  obtain ⟨k13, h⟩ := h
  refine w_M_takeCells_13 C hcs _ hR k13 0 S8 _ _ ls hI (lv_sub hl [1, 0] rfl) h
set_option maxHeartbeats 4000000 in
set_option maxRecDepth 100000 in
theorem c_M_low (v1 : Int32) (v2 : Int32) (S : zS) (post : Int32 → zS → Prop) (h : P_M_low v1 v2 S post) : z_cti l D cA 51 ad y_M_low b_M_low 3 (some .int) rm_M_low [.ref (ad 31), .int v1, .int v2] S post := by
  refine z_meti (av := [.ref (ad 31), .int v1, .int v2]) (by decide) (Nat.le_of_ble_eq_true rfl) ⟨rfl, rfl⟩ (fun p e s m args below meth c Q ls C hcs hl hI hR => ?_)
  obtain ⟨hx, hb, hml, hown, hts, hK, hJ⟩ := id C
  unfold P_M_low at h
  have hl : lv_has ls 3 [(0, .ref (ad 31)), (1, .int v1), (2, .int v2)] := hl
  refine lv_iload_n hx hb d_M_low_0 rfl (lv_at hl 2 rfl) ?_
  refine lv_if_eq (tgt := 13) hx hb d_M_low_1 (by decide) (fun q => ?_) (fun q => ?_)
  · replace h := h.1 q
    refine lv_aload_n hx hb d_M_low_13 rfl (lv_at hl 0 rfl) ?_
    refine z_getR C hI 31 (by decide) kd_31 cl_M iw_M 13 (by decide) k_fl_M_36 rfl d_M_low_14 ?_
    refine lv_iload_n hx hb d_M_low_17 rfl (lv_at hl 1 rfl) ?_
    obtain ⟨h1, h⟩ := h
    refine z_ild C hI 39 (by decide) kd_39 h1 d_M_low_18 ?_
    exact hR _ _ hcs (S 39 (z_ix v1)) S _ _ 19 ls h hI d_M_low_19
  · replace h := h.2 q
    refine lv_aload_n hx hb d_M_low_4 rfl (lv_at hl 0 rfl) ?_
    refine z_getR C hI 31 (by decide) kd_31 cl_M iw_M 14 (by decide) k_fl_M_39 rfl d_M_low_5 ?_
    refine lv_iload_n hx hb d_M_low_8 rfl (lv_at hl 1 rfl) ?_
    obtain ⟨h1, h⟩ := h
    refine z_ild C hI 40 (by decide) kd_40 h1 d_M_low_9 ?_
    refine lv_goto (tgt := 19) hx hb d_M_low_10 (by decide) ?_
    exact hR _ _ hcs (S 40 (z_ix v1)) S _ _ 19 ls h hI d_M_low_19
set_option maxHeartbeats 4000000 in
set_option maxRecDepth 100000 in
theorem c_M_high (v1 : Int32) (v2 : Int32) (S : zS) (post : Int32 → zS → Prop) (h : P_M_high v1 v2 S post) : z_cti l D cA 51 ad y_M_high b_M_high 3 (some .int) rm_M_high [.ref (ad 31), .int v1, .int v2] S post := by
  refine z_meti (av := [.ref (ad 31), .int v1, .int v2]) (by decide) (Nat.le_of_ble_eq_true rfl) ⟨rfl, rfl⟩ (fun p e s m args below meth c Q ls C hcs hl hI hR => ?_)
  obtain ⟨hx, hb, hml, hown, hts, hK, hJ⟩ := id C
  unfold P_M_high at h
  have hl : lv_has ls 3 [(0, .ref (ad 31)), (1, .int v1), (2, .int v2)] := hl
  refine lv_iload_n hx hb d_M_high_0 rfl (lv_at hl 2 rfl) ?_
  refine lv_if_eq (tgt := 13) hx hb d_M_high_1 (by decide) (fun q => ?_) (fun q => ?_)
  · replace h := h.1 q
    refine lv_aload_n hx hb d_M_high_13 rfl (lv_at hl 0 rfl) ?_
    refine z_getR C hI 31 (by decide) kd_31 cl_M iw_M 15 (by decide) k_fl_M_42 rfl d_M_high_14 ?_
    refine lv_iload_n hx hb d_M_high_17 rfl (lv_at hl 1 rfl) ?_
    obtain ⟨h1, h⟩ := h
    refine z_ild C hI 41 (by decide) kd_41 h1 d_M_high_18 ?_
    exact hR _ _ hcs (S 41 (z_ix v1)) S _ _ 19 ls h hI d_M_high_19
  · replace h := h.2 q
    refine lv_aload_n hx hb d_M_high_4 rfl (lv_at hl 0 rfl) ?_
    refine z_getR C hI 31 (by decide) kd_31 cl_M iw_M 16 (by decide) k_fl_M_45 rfl d_M_high_5 ?_
    refine lv_iload_n hx hb d_M_high_8 rfl (lv_at hl 1 rfl) ?_
    obtain ⟨h1, h⟩ := h
    refine z_ild C hI 42 (by decide) kd_42 h1 d_M_high_9 ?_
    refine lv_goto (tgt := 19) hx hb d_M_high_10 (by decide) ?_
    exact hR _ _ hcs (S 42 (z_ix v1)) S _ _ 19 ls h hI d_M_high_19
end ZW
