section ZW
variable {p : Program} {l : Launch} {e : Env} {s : State} {m : MethodId} {args : Array Value} {below : List Frame} {meth : Method} {c : Code} {cells slots : Nat} {Q : State → Prop} {D : va_G} {cA : Nat → ClassId} {n : Nat} {ad : Nat → Nat}
set_option maxHeartbeats 4000000 in
set_option maxRecDepth 100000 in
theorem w_M_takeInk_76 (C : z_CT p s m args c R_M b_M_takeInk 6 D cA 51 ad) (hcs : cells ≤ rm_M_takeInk.cells ∧ slots ≤ rm_M_takeInk.slots) (post : zS → Prop) (K19 : Int32 → zS → Prop) (v1 : Int32) (v2 : Int32) (v3 : Int32) (v4 : Int32) (v5 : Int32) (t0 : Int32) (t1 : Int32) (hR : z_Rv p l e rm_M_takeInk s m args below meth c Q b_M_takeInk D cA 51 ad post) (kK19 : ∀ (v4 : Int32) (S : zS) (H : Heap) (locs : List Loc) (ls : Array Slot), K19 v4 S → z_I D cA 51 ad s.heap S H locs → lv_has ls 6 [(0, .ref (ad 31)), (1, .int v1), (2, .int v2), (3, .int v3), (4, .int v4)] → W p l e rm_M_takeInk s m args below meth c H locs cells slots Q (F0 m 19 ls [])) (S : zS) (H : Heap) (locs : List Loc) (ls : Array Slot) (hI : z_I D cA 51 ad s.heap S H locs) (hl : lv_has ls 6 [(0, .ref (ad 31)), (1, .int v1), (2, .int v2), (3, .int v3), (4, .int v4), (5, .int v5)]) (h : J_M_takeInk_76 post K19 v1 v2 v3 v4 v5 t0 t1 S) : W p l e rm_M_takeInk s m args below meth c H locs cells slots Q (F0 m 76 ls [.int t0, .int t1, .ref (ad 33)]) := by
  obtain ⟨hx, hb, hml, hown, hts, hK, hJ⟩ := id C
  unfold J_M_takeInk_76 at h
  obtain ⟨h1, h⟩ := h
  obtain ⟨h2, h⟩ := h
  refine z_zst C hI 33 (by decide) kd_33 h1 h2 d_M_takeInk_76 (fun S76 eS H locs hI => ?_)
  replace h := h S76 eS
  refine lv_aload_n hx hb d_M_takeInk_77 rfl (lv_at hl 0 rfl) ?_
  refine z_getR C hI 31 (by decide) kd_31 cl_M iw_M 7 (by decide) k_fl_M_20 rfl d_M_takeInk_78 ?_
  refine lv_iload hx hb d_M_takeInk_81 (lv_at hl 5 rfl) ?_
  refine lv_aload_n hx hb d_M_takeInk_83 rfl (lv_at hl 0 rfl) ?_
  refine z_getR C hI 31 (by decide) kd_31 cl_M iw_M 3 (by decide) k_fl_M_7 rfl d_M_takeInk_84 ?_
  refine lv_iload hx hb d_M_takeInk_87 (lv_at hl 5 rfl) ?_
  obtain ⟨h1, h⟩ := h
  refine z_zld C hI 32 (by decide) kd_32 h1 d_M_takeInk_89 ?_
  refine lv_if_eq (tgt := 107) hx hb d_M_takeInk_90 (by decide) (fun q => ?_) (fun q => ?_)
  · replace h := h.1 q
    refine lv_iconst (v := 0) hx hb d_M_takeInk_107 (by decide) ?_
    obtain ⟨h1, h⟩ := h
    refine z_zst C hI 34 (by decide) kd_34 h1 (by decide) d_M_takeInk_108 (fun S108 eS H locs hI => ?_)
    replace h := h S108 eS
    obtain ⟨x109, e109⟩ : ∃ y : Int32, y = v4 + 1 := ⟨_, rfl⟩
    replace h := h x109 e109
    refine lv_iinc (v := x109) (lv' := [(4, .int x109), (0, .ref (ad 31)), (1, .int v1), (2, .int v2), (3, .int v3), (5, .int v5)]) hx hb d_M_takeInk_109 hl (k := 4) rfl (by rw [e109]; rfl) (by decide) rfl (fun ls hl => ?_)
    refine lv_goto (tgt := 19) hx hb d_M_takeInk_112 (by decide) ?_
    exact kK19 x109 S108 _ _ ls h hI (lv_sub hl [1, 2, 3, 4, 0] rfl)
  · replace h := h.2 q
    refine lv_aload_n hx hb d_M_takeInk_93 rfl (lv_at hl 0 rfl) ?_
    refine z_getR C hI 31 (by decide) kd_31 cl_M iw_M 6 (by decide) k_fl_M_17 rfl d_M_takeInk_94 ?_
    refine lv_iload hx hb d_M_takeInk_97 (lv_at hl 5 rfl) ?_
    obtain ⟨h1, h⟩ := h
    refine z_zld C hI 33 (by decide) kd_33 h1 d_M_takeInk_99 ?_
    refine lv_if_ne (tgt := 107) hx hb d_M_takeInk_100 (by decide) (fun q => ?_) (fun q => ?_)
    · replace h := h.1 q
      refine lv_iconst (v := 0) hx hb d_M_takeInk_107 (by decide) ?_
      obtain ⟨h1, h⟩ := h
      refine z_zst C hI 34 (by decide) kd_34 h1 (by decide) d_M_takeInk_108 (fun S108 eS H locs hI => ?_)
      replace h := h S108 eS
      obtain ⟨x109, e109⟩ : ∃ y : Int32, y = v4 + 1 := ⟨_, rfl⟩
      replace h := h x109 e109
      refine lv_iinc (v := x109) (lv' := [(4, .int x109), (0, .ref (ad 31)), (1, .int v1), (2, .int v2), (3, .int v3), (5, .int v5)]) hx hb d_M_takeInk_109 hl (k := 4) rfl (by rw [e109]; rfl) (by decide) rfl (fun ls hl => ?_)
      refine lv_goto (tgt := 19) hx hb d_M_takeInk_112 (by decide) ?_
      exact kK19 x109 S108 _ _ ls h hI (lv_sub hl [1, 2, 3, 4, 0] rfl)
    · replace h := h.2 q
      refine lv_iconst (v := 1) hx hb d_M_takeInk_103 (by decide) ?_
      refine lv_goto (tgt := 108) hx hb d_M_takeInk_104 (by decide) ?_
      obtain ⟨h1, h⟩ := h
      refine z_zst C hI 34 (by decide) kd_34 h1 (by decide) d_M_takeInk_108 (fun S108 eS H locs hI => ?_)
      replace h := h S108 eS
      obtain ⟨x109, e109⟩ : ∃ y : Int32, y = v4 + 1 := ⟨_, rfl⟩
      replace h := h x109 e109
      refine lv_iinc (v := x109) (lv' := [(4, .int x109), (0, .ref (ad 31)), (1, .int v1), (2, .int v2), (3, .int v3), (5, .int v5)]) hx hb d_M_takeInk_109 hl (k := 4) rfl (by rw [e109]; rfl) (by decide) rfl (fun ls hl => ?_)
      refine lv_goto (tgt := 19) hx hb d_M_takeInk_112 (by decide) ?_
      exact kK19 x109 S108 _ _ ls h hI (lv_sub hl [1, 2, 3, 4, 0] rfl)
set_option maxHeartbeats 4000000 in
set_option maxRecDepth 100000 in
theorem w_M_takeInk_75 (C : z_CT p s m args c R_M b_M_takeInk 6 D cA 51 ad) (hcs : cells ≤ rm_M_takeInk.cells ∧ slots ≤ rm_M_takeInk.slots) (post : zS → Prop) (K19 : Int32 → zS → Prop) (v1 : Int32) (v2 : Int32) (v3 : Int32) (v4 : Int32) (v5 : Int32) (t0 : Int32) (hR : z_Rv p l e rm_M_takeInk s m args below meth c Q b_M_takeInk D cA 51 ad post) (kK19 : ∀ (v4 : Int32) (S : zS) (H : Heap) (locs : List Loc) (ls : Array Slot), K19 v4 S → z_I D cA 51 ad s.heap S H locs → lv_has ls 6 [(0, .ref (ad 31)), (1, .int v1), (2, .int v2), (3, .int v3), (4, .int v4)] → W p l e rm_M_takeInk s m args below meth c H locs cells slots Q (F0 m 19 ls [])) (S : zS) (H : Heap) (locs : List Loc) (ls : Array Slot) (hI : z_I D cA 51 ad s.heap S H locs) (hl : lv_has ls 6 [(0, .ref (ad 31)), (1, .int v1), (2, .int v2), (3, .int v3), (4, .int v4), (5, .int v5)]) (h : J_M_takeInk_75 post K19 v1 v2 v3 v4 v5 t0 S) : W p l e rm_M_takeInk s m args below meth c H locs cells slots Q (F0 m 75 ls [.int t0, .ref (ad 33)]) := by
  obtain ⟨hx, hb, hml, hown, hts, hK, hJ⟩ := id C
  unfold J_M_takeInk_75 at h
  refine lv_iconst (v := 0) hx hb d_M_takeInk_75 (by decide) ?_
  exact w_M_takeInk_76 C hcs _ _ v1 v2 v3 v4 v5 0 t0 hR kK19 S _ _ ls hI (lv_sub hl [0, 1, 2, 3, 4, 5] rfl) h
set_option maxHeartbeats 4000000 in
set_option maxRecDepth 100000 in
theorem w_M_takeInk_19 (C : z_CT p s m args c R_M b_M_takeInk 6 D cA 51 ad) (hcs : cells ≤ rm_M_takeInk.cells ∧ slots ≤ rm_M_takeInk.slots) (post : zS → Prop) (K115 : zS → Prop) (v1 : Int32) (v2 : Int32) (v3 : Int32) (hR : z_Rv p l e rm_M_takeInk s m args below meth c Q b_M_takeInk D cA 51 ad post) (kK115 : ∀ (S : zS) (H : Heap) (locs : List Loc) (ls : Array Slot), K115 S → z_I D cA 51 ad s.heap S H locs → lv_has ls 6 [(0, .ref (ad 31)), (1, .int v1), (2, .int v2), (3, .int v3)] → W p l e rm_M_takeInk s m args below meth c H locs cells slots Q (F0 m 115 ls [])) : ∀ (n : Nat) (v4 : Int32) (S : zS) (H : Heap) (locs : List Loc) (ls : Array Slot), z_I D cA 51 ad s.heap S H locs → lv_has ls 6 [(0, .ref (ad 31)), (1, .int v1), (2, .int v2), (3, .int v3), (4, .int v4)] → L_M_takeInk_19 post K115 v1 v2 v3 n v4 S → W p l e rm_M_takeInk s m args below meth c H locs cells slots Q (F0 m 19 ls []) := by
  obtain ⟨hx, hb, hml, hown, hts, hK, hJ⟩ := id C
  intro n
  induction n with
  | zero => intro v4 S H locs ls hI hl h; exact h.elim
  | succ n ih =>
    intro v4 S H locs ls hI hl h
    rw [L_M_takeInk_19] at h
    refine lv_iload hx hb d_M_takeInk_19 (lv_at hl 4 rfl) ?_
    refine lv_aload_n hx hb d_M_takeInk_21 rfl (lv_at hl 0 rfl) ?_
    refine z_getI C hI 31 (by decide) kd_31 cl_M iw_M 1 (by decide) k_fl_M_73 rfl d_M_takeInk_22 ?_
    refine lv_icmp_ge (tgt := 115) hx hb d_M_takeInk_25 (by decide) (fun q => ?_) (fun q => ?_)
    · replace h := h.1 q
      exact kK115 S _ _ ls h hI (lv_sub hl [0, 1, 2, 3] rfl)
    · replace h := h.2 q
      refine lv_bipush (v := 24) hx hb d_M_takeInk_28 (by decide) ?_
      refine lv_iload_n hx hb d_M_takeInk_30 rfl (lv_at hl 3 rfl) ?_
      refine lv_imul hx hb d_M_takeInk_31 ?_
      refine lv_iload hx hb d_M_takeInk_32 (lv_at hl 4 rfl) ?_
      refine lv_iadd hx hb d_M_takeInk_34 ?_
      refine lv_topi (fun x35 e35 => ?_)
      replace h := h x35 e35
      refine lv_istore (lv' := [(5, .int x35), (0, .ref (ad 31)), (1, .int v1), (2, .int v2), (3, .int v3), (4, .int v4)]) hx hb d_M_takeInk_35 hl (by decide) rfl (fun ls hl => ?_)
      refine lv_aload_n hx hb d_M_takeInk_37 rfl (lv_at hl 1 rfl) ?_
      refine z_getR C hI 31 (by decide) kd_31 cl_M iw_M 6 (by decide) k_fl_M_17 rfl d_M_takeInk_38 ?_
      refine lv_iload hx hb d_M_takeInk_41 (lv_at hl 0 rfl) ?_
      refine lv_aload_n hx hb d_M_takeInk_43 rfl (lv_at hl 1 rfl) ?_
      refine z_getR C hI 31 (by decide) kd_31 cl_M iw_M 3 (by decide) k_fl_M_7 rfl d_M_takeInk_44 ?_
      refine lv_iload hx hb d_M_takeInk_47 (lv_at hl 0 rfl) ?_
      obtain ⟨h1, h⟩ := h
      refine z_zld C hI 32 (by decide) kd_32 h1 d_M_takeInk_49 ?_
      refine lv_if_eq (tgt := 75) hx hb d_M_takeInk_50 (by decide) (fun q => ?_) (fun q => ?_)
      · replace h := h.1 q
        exact w_M_takeInk_75 C hcs _ _ v1 v2 v3 v4 x35 x35 hR (fun v4 S H locs ls h hI hl => ih v4 S H locs ls hI hl h) S _ _ ls hI (lv_sub hl [1, 2, 3, 4, 5, 0] rfl) h
      · replace h := h.2 q
        refine lv_aload_n hx hb d_M_takeInk_53 rfl (lv_at hl 1 rfl) ?_
        refine lv_aload_n hx hb d_M_takeInk_54 rfl (lv_at hl 1 rfl) ?_
        refine z_getR C hI 31 (by decide) kd_31 cl_M iw_M 10 (by decide) k_fl_M_29 rfl d_M_takeInk_55 ?_
        refine lv_iload hx hb d_M_takeInk_58 (lv_at hl 0 rfl) ?_
        obtain ⟨h1, h⟩ := h
        refine z_ild C hI 37 (by decide) kd_37 h1 d_M_takeInk_60 ?_
        refine z_callVi C hI 31 (by decide) kd_31 cl_M (As := [.int (S 37 (z_ix x35))]) (rest := [.int x35, .ref (ad 33)]) (c_M_sizeOf (S 37 (z_ix x35)) _ _ h) wc_M_sizeOf k_ml_M_109 rfl rfl (Nat.le_of_ble_eq_true rfl) (Nat.le_of_ble_eq_true rfl) hcs hl.1 (Nat.le_of_ble_eq_true rfl) rfl d_M_takeInk_61 (fun r61 S61 H locs h hI => ?_)
        refine lv_aload_n hx hb d_M_takeInk_64 rfl (lv_at hl 1 rfl) ?_
        refine z_getI C hI 31 (by decide) kd_31 cl_M iw_M 4 (by decide) k_fl_M_13 rfl d_M_takeInk_65 ?_
        refine lv_icmp_ge (tgt := 75) hx hb d_M_takeInk_68 (by decide) (fun q => ?_) (fun q => ?_)
        · replace h := h.1 q
          exact w_M_takeInk_75 C hcs _ _ v1 v2 v3 v4 x35 x35 hR (fun v4 S H locs ls h hI hl => ih v4 S H locs ls hI hl h) S61 _ _ ls hI (lv_sub hl [1, 2, 3, 4, 5, 0] rfl) h
        · replace h := h.2 q
          refine lv_iconst (v := 1) hx hb d_M_takeInk_71 (by decide) ?_
          refine lv_goto (tgt := 76) hx hb d_M_takeInk_72 (by decide) ?_
          exact w_M_takeInk_76 C hcs _ _ v1 v2 v3 v4 x35 1 x35 hR (fun v4 S H locs ls h hI hl => ih v4 S H locs ls hI hl h) S61 _ _ ls hI (lv_sub hl [1, 2, 3, 4, 5, 0] rfl) h
set_option maxHeartbeats 4000000 in
set_option maxRecDepth 100000 in
theorem w_M_takeInk_8 (C : z_CT p s m args c R_M b_M_takeInk 6 D cA 51 ad) (hcs : cells ≤ rm_M_takeInk.cells ∧ slots ≤ rm_M_takeInk.slots) (post : zS → Prop) (K121 : zS → Prop) (v1 : Int32) (v2 : Int32) (hR : z_Rv p l e rm_M_takeInk s m args below meth c Q b_M_takeInk D cA 51 ad post) (kK121 : ∀ (S : zS) (H : Heap) (locs : List Loc) (ls : Array Slot), K121 S → z_I D cA 51 ad s.heap S H locs → lv_has ls 6 [(0, .ref (ad 31)), (1, .int v1), (2, .int v2)] → W p l e rm_M_takeInk s m args below meth c H locs cells slots Q (F0 m 121 ls [])) : ∀ (n : Nat) (v3 : Int32) (S : zS) (H : Heap) (locs : List Loc) (ls : Array Slot), z_I D cA 51 ad s.heap S H locs → lv_has ls 6 [(0, .ref (ad 31)), (1, .int v1), (2, .int v2), (3, .int v3)] → L_M_takeInk_8 post K121 v1 v2 n v3 S → W p l e rm_M_takeInk s m args below meth c H locs cells slots Q (F0 m 8 ls []) := by
  obtain ⟨hx, hb, hml, hown, hts, hK, hJ⟩ := id C
  intro n
  induction n with
  | zero => intro v3 S H locs ls hI hl h; exact h.elim
  | succ n ih =>
    intro v3 S H locs ls hI hl h
    rw [L_M_takeInk_8] at h
    refine lv_iload_n hx hb d_M_takeInk_8 rfl (lv_at hl 3 rfl) ?_
    refine lv_aload_n hx hb d_M_takeInk_9 rfl (lv_at hl 0 rfl) ?_
    refine z_getI C hI 31 (by decide) kd_31 cl_M iw_M 2 (by decide) k_fl_M_76 rfl d_M_takeInk_10 ?_
    refine lv_icmp_ge (tgt := 121) hx hb d_M_takeInk_13 (by decide) (fun q => ?_) (fun q => ?_)
    · replace h := h.1 q
      exact kK121 S _ _ ls h hI (lv_sub hl [0, 1, 2] rfl)
    · replace h := h.2 q
      refine lv_iconst (v := 0) hx hb d_M_takeInk_16 (by decide) ?_
      refine lv_istore (lv' := [(4, .int 0), (0, .ref (ad 31)), (1, .int v1), (2, .int v2), (3, .int v3)]) hx hb d_M_takeInk_17 hl (by decide) rfl (fun ls hl => ?_)
      obtain ⟨k19, h⟩ := h
      refine w_M_takeInk_19 C hcs _ _ v1 v2 v3 hR (fun S19e H locs ls h hI hl => ?_) k19 0 S _ _ ls hI (lv_sub hl [1, 2, 3, 4, 0] rfl) h
      obtain ⟨x115, e115⟩ : ∃ y : Int32, y = v3 + 1 := ⟨_, rfl⟩
      replace h := h x115 e115
      refine lv_iinc (v := x115) (lv' := [(3, .int x115), (0, .ref (ad 31)), (1, .int v1), (2, .int v2)]) hx hb d_M_takeInk_115 hl (k := 3) rfl (by rw [e115]; rfl) (by decide) rfl (fun ls hl => ?_)
      refine lv_goto (tgt := 8) hx hb d_M_takeInk_118 (by decide) ?_
      exact ih x115 S19e _ _ ls hI (lv_sub hl [1, 2, 3, 0] rfl) h
set_option maxHeartbeats 4000000 in
set_option maxRecDepth 100000 in
theorem w_M_takeInk_195 (C : z_CT p s m args c R_M b_M_takeInk 6 D cA 51 ad) (hcs : cells ≤ rm_M_takeInk.cells ∧ slots ≤ rm_M_takeInk.slots) (post : zS → Prop) (K134 : Int32 → zS → Prop) (v1 : Int32) (v2 : Int32) (v3 : Int32) (v4 : Int32) (t0 : Int32) (hR : z_Rv p l e rm_M_takeInk s m args below meth c Q b_M_takeInk D cA 51 ad post) (kK134 : ∀ (v4 : Int32) (S : zS) (H : Heap) (locs : List Loc) (ls : Array Slot), K134 v4 S → z_I D cA 51 ad s.heap S H locs → lv_has ls 6 [(0, .ref (ad 31)), (1, .int v1), (2, .int v2), (3, .int v3), (4, .int v4)] → W p l e rm_M_takeInk s m args below meth c H locs cells slots Q (F0 m 134 ls [])) (S : zS) (H : Heap) (locs : List Loc) (ls : Array Slot) (hI : z_I D cA 51 ad s.heap S H locs) (hl : lv_has ls 6 [(0, .ref (ad 31)), (1, .int v1), (2, .int v2), (3, .int v3), (4, .int v4)]) (h : J_M_takeInk_195 post K134 v1 v2 v3 v4 t0 S) : W p l e rm_M_takeInk s m args below meth c H locs cells slots Q (F0 m 195 ls [.int t0, .ref (ad 35)]) := by
  obtain ⟨hx, hb, hml, hown, hts, hK, hJ⟩ := id C
  unfold J_M_takeInk_195 at h
  refine lv_iconst (v := 1) hx hb d_M_takeInk_195 (by decide) ?_
  refine lv_goto (tgt := 200) hx hb d_M_takeInk_196 (by decide) ?_
  obtain ⟨h1, h⟩ := h
  refine z_zst C hI 35 (by decide) kd_35 h1 (by decide) d_M_takeInk_200 (fun S200 eS H locs hI => ?_)
  replace h := h S200 eS
  obtain ⟨x201, e201⟩ : ∃ y : Int32, y = v4 + 1 := ⟨_, rfl⟩
  replace h := h x201 e201
  refine lv_iinc (v := x201) (lv' := [(4, .int x201), (0, .ref (ad 31)), (1, .int v1), (2, .int v2), (3, .int v3)]) hx hb d_M_takeInk_201 hl (k := 4) rfl (by rw [e201]; rfl) (by decide) rfl (fun ls hl => ?_)
  refine lv_goto (tgt := 134) hx hb d_M_takeInk_204 (by decide) ?_
  exact kK134 x201 S200 _ _ ls h hI (lv_sub hl [1, 2, 3, 4, 0] rfl)
set_option maxHeartbeats 4000000 in
set_option maxRecDepth 100000 in
theorem w_M_takeInk_134 (C : z_CT p s m args c R_M b_M_takeInk 6 D cA 51 ad) (hcs : cells ≤ rm_M_takeInk.cells ∧ slots ≤ rm_M_takeInk.slots) (post : zS → Prop) (K207 : zS → Prop) (v1 : Int32) (v2 : Int32) (v3 : Int32) (hR : z_Rv p l e rm_M_takeInk s m args below meth c Q b_M_takeInk D cA 51 ad post) (kK207 : ∀ (S : zS) (H : Heap) (locs : List Loc) (ls : Array Slot), K207 S → z_I D cA 51 ad s.heap S H locs → lv_has ls 6 [(0, .ref (ad 31)), (1, .int v1), (2, .int v2), (3, .int v3)] → W p l e rm_M_takeInk s m args below meth c H locs cells slots Q (F0 m 207 ls [])) : ∀ (n : Nat) (v4 : Int32) (S : zS) (H : Heap) (locs : List Loc) (ls : Array Slot), z_I D cA 51 ad s.heap S H locs → lv_has ls 6 [(0, .ref (ad 31)), (1, .int v1), (2, .int v2), (3, .int v3), (4, .int v4)] → L_M_takeInk_134 post K207 v1 v2 v3 n v4 S → W p l e rm_M_takeInk s m args below meth c H locs cells slots Q (F0 m 134 ls []) := by
  obtain ⟨hx, hb, hml, hown, hts, hK, hJ⟩ := id C
  intro n
  induction n with
  | zero => intro v4 S H locs ls hI hl h; exact h.elim
  | succ n ih =>
    intro v4 S H locs ls hI hl h
    rw [L_M_takeInk_134] at h
    refine lv_iload hx hb d_M_takeInk_134 (lv_at hl 4 rfl) ?_
    refine lv_aload_n hx hb d_M_takeInk_136 rfl (lv_at hl 0 rfl) ?_
    refine z_getI C hI 31 (by decide) kd_31 cl_M iw_M 1 (by decide) k_fl_M_73 rfl d_M_takeInk_137 ?_
    refine lv_icmp_ge (tgt := 207) hx hb d_M_takeInk_140 (by decide) (fun q => ?_) (fun q => ?_)
    · replace h := h.1 q
      exact kK207 S _ _ ls h hI (lv_sub hl [0, 1, 2, 3] rfl)
    · replace h := h.2 q
      refine lv_aload_n hx hb d_M_takeInk_143 rfl (lv_at hl 0 rfl) ?_
      refine z_getR C hI 31 (by decide) kd_31 cl_M iw_M 8 (by decide) k_fl_M_23 rfl d_M_takeInk_144 ?_
      refine lv_bipush (v := 24) hx hb d_M_takeInk_147 (by decide) ?_
      refine lv_iload_n hx hb d_M_takeInk_149 rfl (lv_at hl 3 rfl) ?_
      refine lv_imul hx hb d_M_takeInk_150 ?_
      refine lv_iload hx hb d_M_takeInk_151 (lv_at hl 4 rfl) ?_
      refine lv_iadd hx hb d_M_takeInk_153 ?_
      refine lv_aload_n hx hb d_M_takeInk_154 rfl (lv_at hl 0 rfl) ?_
      refine z_getR C hI 31 (by decide) kd_31 cl_M iw_M 7 (by decide) k_fl_M_20 rfl d_M_takeInk_155 ?_
      refine lv_bipush (v := 24) hx hb d_M_takeInk_158 (by decide) ?_
      refine lv_iload_n hx hb d_M_takeInk_160 rfl (lv_at hl 3 rfl) ?_
      refine lv_imul hx hb d_M_takeInk_161 ?_
      refine lv_iload hx hb d_M_takeInk_162 (lv_at hl 4 rfl) ?_
      refine lv_iadd hx hb d_M_takeInk_164 ?_
      obtain ⟨h1, h⟩ := h
      refine z_zld C hI 34 (by decide) kd_34 h1 d_M_takeInk_165 ?_
      refine lv_if_ne (tgt := 195) hx hb d_M_takeInk_166 (by decide) (fun q => ?_) (fun q => ?_)
      · replace h := h.1 q
        exact w_M_takeInk_195 C hcs _ _ v1 v2 v3 v4 ((24 * v3) + v4) hR (fun v4 S H locs ls h hI hl => ih v4 S H locs ls hI hl h) S _ _ ls hI (lv_sub hl [0, 1, 2, 3, 4] rfl) h
      · replace h := h.2 q
        refine lv_aload_n hx hb d_M_takeInk_169 rfl (lv_at hl 0 rfl) ?_
        refine lv_iload hx hb d_M_takeInk_170 (lv_at hl 4 rfl) ?_
        refine lv_iload_n hx hb d_M_takeInk_172 rfl (lv_at hl 3 rfl) ?_
        refine lv_iconst (v := 1) hx hb d_M_takeInk_173 (by decide) ?_
        refine lv_iconst (v := 0) hx hb d_M_takeInk_174 (by decide) ?_
        refine lv_iload_n hx hb d_M_takeInk_175 rfl (lv_at hl 1 rfl) ?_
        refine z_callVi C hI 31 (by decide) kd_31 cl_M (As := [.int v4, .int v3, .int 1, .int 0, .int v1]) (rest := [.int ((24 * v3) + v4), .ref (ad 35)]) (c_M_inGap v4 v3 1 0 v1 _ _ h) wc_M_inGap k_ml_M_112 rfl rfl (Nat.le_of_ble_eq_true rfl) (Nat.le_of_ble_eq_true rfl) hcs hl.1 (Nat.le_of_ble_eq_true rfl) rfl d_M_takeInk_176 (fun r176 S176 H locs h hI => ?_)
        refine lv_if_ne (tgt := 195) hx hb d_M_takeInk_179 (by decide) (fun q => ?_) (fun q => ?_)
        · replace h := h.1 q
          exact w_M_takeInk_195 C hcs _ _ v1 v2 v3 v4 ((24 * v3) + v4) hR (fun v4 S H locs ls h hI hl => ih v4 S H locs ls hI hl h) S176 _ _ ls hI (lv_sub hl [0, 1, 2, 3, 4] rfl) h
        · replace h := h.2 q
          refine lv_aload_n hx hb d_M_takeInk_182 rfl (lv_at hl 0 rfl) ?_
          refine lv_iload hx hb d_M_takeInk_183 (lv_at hl 4 rfl) ?_
          refine lv_iload_n hx hb d_M_takeInk_185 rfl (lv_at hl 3 rfl) ?_
          refine lv_iconst (v := 0) hx hb d_M_takeInk_186 (by decide) ?_
          refine lv_iconst (v := 1) hx hb d_M_takeInk_187 (by decide) ?_
          refine lv_iload_n hx hb d_M_takeInk_188 rfl (lv_at hl 2 rfl) ?_
          refine z_callVi C hI 31 (by decide) kd_31 cl_M (As := [.int v4, .int v3, .int 0, .int 1, .int v2]) (rest := [.int ((24 * v3) + v4), .ref (ad 35)]) (c_M_inGap v4 v3 0 1 v2 _ _ h) wc_M_inGap k_ml_M_112 rfl rfl (Nat.le_of_ble_eq_true rfl) (Nat.le_of_ble_eq_true rfl) hcs hl.1 (Nat.le_of_ble_eq_true rfl) rfl d_M_takeInk_189 (fun r189 S189 H locs h hI => ?_)
          refine lv_if_eq (tgt := 199) hx hb d_M_takeInk_192 (by decide) (fun q => ?_) (fun q => ?_)
          · replace h := h.1 q
            refine lv_iconst (v := 0) hx hb d_M_takeInk_199 (by decide) ?_
            obtain ⟨h1, h⟩ := h
            refine z_zst C hI 35 (by decide) kd_35 h1 (by decide) d_M_takeInk_200 (fun S200 eS H locs hI => ?_)
            replace h := h S200 eS
            obtain ⟨x201, e201⟩ : ∃ y : Int32, y = v4 + 1 := ⟨_, rfl⟩
            replace h := h x201 e201
            refine lv_iinc (v := x201) (lv' := [(4, .int x201), (0, .ref (ad 31)), (1, .int v1), (2, .int v2), (3, .int v3)]) hx hb d_M_takeInk_201 hl (k := 4) rfl (by rw [e201]; rfl) (by decide) rfl (fun ls hl => ?_)
            refine lv_goto (tgt := 134) hx hb d_M_takeInk_204 (by decide) ?_
            exact ih x201 S200 _ _ ls hI (lv_sub hl [1, 2, 3, 4, 0] rfl) h
          · replace h := h.2 q
            exact w_M_takeInk_195 C hcs _ _ v1 v2 v3 v4 ((24 * v3) + v4) hR (fun v4 S H locs ls h hI hl => ih v4 S H locs ls hI hl h) S189 _ _ ls hI (lv_sub hl [0, 1, 2, 3, 4] rfl) h
set_option maxHeartbeats 4000000 in
set_option maxRecDepth 100000 in
theorem w_M_takeInk_123 (C : z_CT p s m args c R_M b_M_takeInk 6 D cA 51 ad) (hcs : cells ≤ rm_M_takeInk.cells ∧ slots ≤ rm_M_takeInk.slots) (post : zS → Prop) (v1 : Int32) (v2 : Int32) (hR : z_Rv p l e rm_M_takeInk s m args below meth c Q b_M_takeInk D cA 51 ad post) : ∀ (n : Nat) (v3 : Int32) (S : zS) (H : Heap) (locs : List Loc) (ls : Array Slot), z_I D cA 51 ad s.heap S H locs → lv_has ls 6 [(0, .ref (ad 31)), (1, .int v1), (2, .int v2), (3, .int v3)] → L_M_takeInk_123 post v1 v2 n v3 S → W p l e rm_M_takeInk s m args below meth c H locs cells slots Q (F0 m 123 ls []) := by
  obtain ⟨hx, hb, hml, hown, hts, hK, hJ⟩ := id C
  intro n
  induction n with
  | zero => intro v3 S H locs ls hI hl h; exact h.elim
  | succ n ih =>
    intro v3 S H locs ls hI hl h
    rw [L_M_takeInk_123] at h
    refine lv_iload_n hx hb d_M_takeInk_123 rfl (lv_at hl 3 rfl) ?_
    refine lv_aload_n hx hb d_M_takeInk_124 rfl (lv_at hl 0 rfl) ?_
    refine z_getI C hI 31 (by decide) kd_31 cl_M iw_M 2 (by decide) k_fl_M_76 rfl d_M_takeInk_125 ?_
    refine lv_icmp_ge (tgt := 213) hx hb d_M_takeInk_128 (by decide) (fun q => ?_) (fun q => ?_)
    · replace h := h.1 q
      exact hR _ _ hcs S _ _ 213 ls h hI d_M_takeInk_213
    · replace h := h.2 q
      refine lv_iconst (v := 0) hx hb d_M_takeInk_131 (by decide) ?_
      refine lv_istore (lv' := [(4, .int 0), (0, .ref (ad 31)), (1, .int v1), (2, .int v2), (3, .int v3)]) hx hb d_M_takeInk_132 hl (by decide) rfl (fun ls hl => ?_)
      obtain ⟨k134, h⟩ := h
      refine w_M_takeInk_134 C hcs _ _ v1 v2 v3 hR (fun S134e H locs ls h hI hl => ?_) k134 0 S _ _ ls hI (lv_sub hl [1, 2, 3, 4, 0] rfl) h
      obtain ⟨x207, e207⟩ : ∃ y : Int32, y = v3 + 1 := ⟨_, rfl⟩
      replace h := h x207 e207
      refine lv_iinc (v := x207) (lv' := [(3, .int x207), (0, .ref (ad 31)), (1, .int v1), (2, .int v2)]) hx hb d_M_takeInk_207 hl (k := 3) rfl (by rw [e207]; rfl) (by decide) rfl (fun ls hl => ?_)
      refine lv_goto (tgt := 123) hx hb d_M_takeInk_210 (by decide) ?_
      exact ih x207 S134e _ _ ls hI (lv_sub hl [1, 2, 3, 0] rfl) h
set_option maxHeartbeats 4000000 in
set_option maxRecDepth 100000 in
theorem c_M_takeInk (v1 : Int32) (v2 : Int32) (S : zS) (post : zS → Prop) (h : P_M_takeInk v1 v2 S post) : z_ctv l D cA 51 ad y_M_takeInk b_M_takeInk 6 none rm_M_takeInk [.ref (ad 31), .int v1, .int v2] S post := by
  refine z_metv (av := [.ref (ad 31), .int v1, .int v2]) (by decide) (Nat.le_of_ble_eq_true rfl) ⟨rfl, rfl⟩ (fun p e s m args below meth c Q ls C hcs hl hI hR => ?_)
  obtain ⟨hx, hb, hml, hown, hts, hK, hJ⟩ := id C
  unfold P_M_takeInk at h
  have hl : lv_has ls 6 [(0, .ref (ad 31)), (1, .int v1), (2, .int v2)] := hl
  refine lv_aload_n hx hb d_M_takeInk_0 rfl (lv_at hl 0 rfl) ?_
  refine lv_iconst (v := 0) hx hb d_M_takeInk_1 (by decide) ?_
  refine lv_iconst (v := 1) hx hb d_M_takeInk_2 (by decide) ?_
  refine z_callVv C hI 31 (by decide) kd_31 cl_M (As := [.int 0, .int 1]) (rest := []) (c_M_group 0 1 _ _ h) wc_M_group k_ml_M_105 rfl rfl (Nat.le_of_ble_eq_true rfl) (Nat.le_of_ble_eq_true rfl) hcs hl.1 (Nat.le_of_ble_eq_true rfl) rfl d_M_takeInk_3 (fun S3 H locs h hI => ?_)
  refine lv_iconst (v := 0) hx hb d_M_takeInk_6 (by decide) ?_
  refine lv_istore_n (lv' := [(3, .int 0), (0, .ref (ad 31)), (1, .int v1), (2, .int v2)]) hx hb d_M_takeInk_7 rfl hl (by decide) rfl (fun ls hl => ?_)
  obtain ⟨k8, h⟩ := h
  refine w_M_takeInk_8 C hcs _ _ v1 v2 hR (fun S8e H locs ls h hI hl => ?_) k8 0 S3 _ _ ls hI (lv_sub hl [1, 2, 3, 0] rfl) h
  refine lv_iconst (v := 0) hx hb d_M_takeInk_121 (by decide) ?_
  refine lv_istore_n (lv' := [(3, .int 0), (0, .ref (ad 31)), (1, .int v1), (2, .int v2)]) hx hb d_M_takeInk_122 rfl hl (by decide) rfl (fun ls hl => ?_)
  obtain ⟨k123, h⟩ := h
  refine w_M_takeInk_123 C hcs _ v1 v2 hR k123 0 S8e _ _ ls hI (lv_sub hl [1, 2, 3, 0] rfl) h
set_option maxHeartbeats 4000000 in
set_option maxRecDepth 100000 in
theorem w_M_cleanIn_60 (C : z_CT p s m args c R_M b_M_cleanIn 10 D cA 51 ad) (hcs : cells ≤ rm_M_cleanIn.cells ∧ slots ≤ rm_M_cleanIn.slots) (post : Int32 → zS → Prop) (K16 : Int32 → Int32 → zS → Prop) (v1 : Int32) (v3 : Int32) (v4 : Int32) (v5 : Int32) (v6 : Int32) (v7 : Int32) (v8 : Int32) (hR : z_Ri p l e rm_M_cleanIn s m args below meth c Q b_M_cleanIn D cA 51 ad post) (kK16 : ∀ (v6 : Int32) (v8 : Int32) (S : zS) (H : Heap) (locs : List Loc) (ls : Array Slot), K16 v6 v8 S → z_I D cA 51 ad s.heap S H locs → lv_has ls 10 [(0, .ref (ad 31)), (1, .int v1), (3, .int v3), (4, .int v4), (5, .int v5), (6, .int v6), (7, .int v7), (8, .int v8)] → W p l e rm_M_cleanIn s m args below meth c H locs cells slots Q (F0 m 16 ls [])) (S : zS) (H : Heap) (locs : List Loc) (ls : Array Slot) (hI : z_I D cA 51 ad s.heap S H locs) (hl : lv_has ls 10 [(0, .ref (ad 31)), (1, .int v1), (3, .int v3), (4, .int v4), (5, .int v5), (6, .int v6), (7, .int v7), (8, .int v8)]) (h : J_M_cleanIn_60 post K16 v1 v3 v4 v5 v6 v7 v8 S) : W p l e rm_M_cleanIn s m args below meth c H locs cells slots Q (F0 m 60 ls []) := by
  obtain ⟨hx, hb, hml, hown, hts, hK, hJ⟩ := id C
  unfold J_M_cleanIn_60 at h
  refine lv_iload hx hb d_M_cleanIn_60 (lv_at hl 5 rfl) ?_
  refine lv_iconst (v := 1) hx hb d_M_cleanIn_62 (by decide) ?_
  refine lv_iadd hx hb d_M_cleanIn_63 ?_
  refine lv_goto (tgt := 69) hx hb d_M_cleanIn_64 (by decide) ?_
  refine lv_topi (fun x69 e69 => ?_)
  replace h := h x69 e69
  refine lv_istore (lv' := [(6, .int x69), (0, .ref (ad 31)), (1, .int v1), (3, .int v3), (4, .int v4), (5, .int v5), (7, .int v7), (8, .int v8)]) hx hb d_M_cleanIn_69 hl (by decide) rfl (fun ls hl => ?_)
  obtain ⟨x71, e71⟩ : ∃ y : Int32, y = v8 + 1 := ⟨_, rfl⟩
  replace h := h x71 e71
  refine lv_iinc (v := x71) (lv' := [(8, .int x71), (6, .int x69), (0, .ref (ad 31)), (1, .int v1), (3, .int v3), (4, .int v4), (5, .int v5), (7, .int v7)]) hx hb d_M_cleanIn_71 hl (k := 7) rfl (by rw [e71]; rfl) (by decide) rfl (fun ls hl => ?_)
  refine lv_goto (tgt := 16) hx hb d_M_cleanIn_74 (by decide) ?_
  exact kK16 x69 x71 S _ _ ls h hI (lv_sub hl [2, 3, 4, 5, 6, 1, 7, 0] rfl)
set_option maxHeartbeats 4000000 in
set_option maxRecDepth 100000 in
theorem w_M_cleanIn_16 (C : z_CT p s m args c R_M b_M_cleanIn 10 D cA 51 ad) (hcs : cells ≤ rm_M_cleanIn.cells ∧ slots ≤ rm_M_cleanIn.slots) (post : Int32 → zS → Prop) (K77 : Int32 → zS → Prop) (v1 : Int32) (v3 : Int32) (v4 : Int32) (v5 : Int32) (v7 : Int32) (hR : z_Ri p l e rm_M_cleanIn s m args below meth c Q b_M_cleanIn D cA 51 ad post) (kK77 : ∀ (v6 : Int32) (S : zS) (H : Heap) (locs : List Loc) (ls : Array Slot), K77 v6 S → z_I D cA 51 ad s.heap S H locs → lv_has ls 10 [(0, .ref (ad 31)), (1, .int v1), (3, .int v3), (4, .int v4), (5, .int v5), (6, .int v6), (7, .int v7)] → W p l e rm_M_cleanIn s m args below meth c H locs cells slots Q (F0 m 77 ls [])) : ∀ (n : Nat) (v6 : Int32) (v8 : Int32) (S : zS) (H : Heap) (locs : List Loc) (ls : Array Slot), z_I D cA 51 ad s.heap S H locs → lv_has ls 10 [(0, .ref (ad 31)), (1, .int v1), (3, .int v3), (4, .int v4), (5, .int v5), (6, .int v6), (7, .int v7), (8, .int v8)] → L_M_cleanIn_16 post K77 v1 v3 v4 v5 v7 n v6 v8 S → W p l e rm_M_cleanIn s m args below meth c H locs cells slots Q (F0 m 16 ls []) := by
  obtain ⟨hx, hb, hml, hown, hts, hK, hJ⟩ := id C
  intro n
  induction n with
  | zero => intro v6 v8 S H locs ls hI hl h; exact h.elim
  | succ n ih =>
    intro v6 v8 S H locs ls hI hl h
    rw [L_M_cleanIn_16] at h
    refine lv_iload hx hb d_M_cleanIn_16 (lv_at hl 7 rfl) ?_
    refine lv_iload_n hx hb d_M_cleanIn_18 rfl (lv_at hl 2 rfl) ?_
    refine lv_icmp_gt (tgt := 77) hx hb d_M_cleanIn_19 (by decide) (fun q => ?_) (fun q => ?_)
    · replace h := h.1 q
      exact kK77 v6 S _ _ ls h hI (lv_sub hl [0, 1, 2, 3, 4, 5, 6] rfl)
    · replace h := h.2 q
      refine lv_bipush (v := 24) hx hb d_M_cleanIn_22 (by decide) ?_
      refine lv_iload hx hb d_M_cleanIn_24 (lv_at hl 6 rfl) ?_
      refine lv_imul hx hb d_M_cleanIn_26 ?_
      refine lv_iload hx hb d_M_cleanIn_27 (lv_at hl 7 rfl) ?_
      refine lv_iadd hx hb d_M_cleanIn_29 ?_
      refine lv_topi (fun x30 e30 => ?_)
      replace h := h x30 e30
      refine lv_istore (lv' := [(9, .int x30), (0, .ref (ad 31)), (1, .int v1), (3, .int v3), (4, .int v4), (5, .int v5), (6, .int v6), (7, .int v7), (8, .int v8)]) hx hb d_M_cleanIn_30 hl (by decide) rfl (fun ls hl => ?_)
      refine lv_aload_n hx hb d_M_cleanIn_32 rfl (lv_at hl 1 rfl) ?_
      refine z_getR C hI 31 (by decide) kd_31 cl_M iw_M 7 (by decide) k_fl_M_20 rfl d_M_cleanIn_33 ?_
      refine lv_iload hx hb d_M_cleanIn_36 (lv_at hl 0 rfl) ?_
      obtain ⟨h1, h⟩ := h
      refine z_zld C hI 34 (by decide) kd_34 h1 d_M_cleanIn_38 ?_
      refine lv_if_eq (tgt := 67) hx hb d_M_cleanIn_39 (by decide) (fun q => ?_) (fun q => ?_)
      · replace h := h.1 q
        refine lv_iload hx hb d_M_cleanIn_67 (lv_at hl 6 rfl) ?_
        refine lv_istore (lv' := [(6, .int v6), (9, .int x30), (0, .ref (ad 31)), (1, .int v1), (3, .int v3), (4, .int v4), (5, .int v5), (7, .int v7), (8, .int v8)]) hx hb d_M_cleanIn_69 hl (by decide) rfl (fun ls hl => ?_)
        obtain ⟨x71, e71⟩ : ∃ y : Int32, y = v8 + 1 := ⟨_, rfl⟩
        replace h := h x71 e71
        refine lv_iinc (v := x71) (lv' := [(8, .int x71), (6, .int v6), (9, .int x30), (0, .ref (ad 31)), (1, .int v1), (3, .int v3), (4, .int v4), (5, .int v5), (7, .int v7)]) hx hb d_M_cleanIn_71 hl (k := 8) rfl (by rw [e71]; rfl) (by decide) rfl (fun ls hl => ?_)
        refine lv_goto (tgt := 16) hx hb d_M_cleanIn_74 (by decide) ?_
        exact ih v6 x71 S _ _ ls hI (lv_sub hl [3, 4, 5, 6, 7, 1, 8, 0] rfl) h
      · replace h := h.2 q
        refine lv_iload hx hb d_M_cleanIn_42 (lv_at hl 5 rfl) ?_
        refine lv_iconst (v := (-1)) hx hb d_M_cleanIn_44 (by decide) ?_
        refine lv_icmp_eq (tgt := 60) hx hb d_M_cleanIn_45 (by decide) (fun q => ?_) (fun q => ?_)
        · replace h := h.1 q
          exact w_M_cleanIn_60 C hcs _ _ v1 v3 v4 v5 v6 v7 v8 hR (fun v6 v8 S H locs ls h hI hl => ih v6 v8 S H locs ls hI hl h) S _ _ ls hI (lv_sub hl [1, 2, 3, 4, 5, 6, 7, 8] rfl) h
        · replace h := h.2 q
          refine lv_aload_n hx hb d_M_cleanIn_48 rfl (lv_at hl 1 rfl) ?_
          refine z_getR C hI 31 (by decide) kd_31 cl_M iw_M 11 (by decide) k_fl_M_33 rfl d_M_cleanIn_49 ?_
          refine lv_iload hx hb d_M_cleanIn_52 (lv_at hl 0 rfl) ?_
          obtain ⟨h1, h⟩ := h
          refine z_ild C hI 38 (by decide) kd_38 h1 d_M_cleanIn_54 ?_
          refine lv_iload hx hb d_M_cleanIn_55 (lv_at hl 5 rfl) ?_
          refine lv_icmp_ne (tgt := 67) hx hb d_M_cleanIn_57 (by decide) (fun q => ?_) (fun q => ?_)
          · replace h := h.1 q
            refine lv_iload hx hb d_M_cleanIn_67 (lv_at hl 6 rfl) ?_
            refine lv_istore (lv' := [(6, .int v6), (9, .int x30), (0, .ref (ad 31)), (1, .int v1), (3, .int v3), (4, .int v4), (5, .int v5), (7, .int v7), (8, .int v8)]) hx hb d_M_cleanIn_69 hl (by decide) rfl (fun ls hl => ?_)
            obtain ⟨x71, e71⟩ : ∃ y : Int32, y = v8 + 1 := ⟨_, rfl⟩
            replace h := h x71 e71
            refine lv_iinc (v := x71) (lv' := [(8, .int x71), (6, .int v6), (9, .int x30), (0, .ref (ad 31)), (1, .int v1), (3, .int v3), (4, .int v4), (5, .int v5), (7, .int v7)]) hx hb d_M_cleanIn_71 hl (k := 8) rfl (by rw [e71]; rfl) (by decide) rfl (fun ls hl => ?_)
            refine lv_goto (tgt := 16) hx hb d_M_cleanIn_74 (by decide) ?_
            exact ih v6 x71 S _ _ ls hI (lv_sub hl [3, 4, 5, 6, 7, 1, 8, 0] rfl) h
          · replace h := h.2 q
            exact w_M_cleanIn_60 C hcs _ _ v1 v3 v4 v5 v6 v7 v8 hR (fun v6 v8 S H locs ls h hI hl => ih v6 v8 S H locs ls hI hl h) S _ _ ls hI (lv_sub hl [1, 2, 3, 4, 5, 6, 7, 8] rfl) h
set_option maxHeartbeats 4000000 in
set_option maxRecDepth 100000 in
theorem w_M_cleanIn_6 (C : z_CT p s m args c R_M b_M_cleanIn 10 D cA 51 ad) (hcs : cells ≤ rm_M_cleanIn.cells ∧ slots ≤ rm_M_cleanIn.slots) (post : Int32 → zS → Prop) (v1 : Int32) (v3 : Int32) (v4 : Int32) (v5 : Int32) (hR : z_Ri p l e rm_M_cleanIn s m args below meth c Q b_M_cleanIn D cA 51 ad post) : ∀ (n : Nat) (v6 : Int32) (v7 : Int32) (S : zS) (H : Heap) (locs : List Loc) (ls : Array Slot), z_I D cA 51 ad s.heap S H locs → lv_has ls 10 [(0, .ref (ad 31)), (1, .int v1), (3, .int v3), (4, .int v4), (5, .int v5), (6, .int v6), (7, .int v7)] → L_M_cleanIn_6 post v1 v3 v4 v5 n v6 v7 S → W p l e rm_M_cleanIn s m args below meth c H locs cells slots Q (F0 m 6 ls []) := by
  obtain ⟨hx, hb, hml, hown, hts, hK, hJ⟩ := id C
  intro n
  induction n with
  | zero => intro v6 v7 S H locs ls hI hl h; exact h.elim
  | succ n ih =>
    intro v6 v7 S H locs ls hI hl h
    rw [L_M_cleanIn_6] at h
    refine lv_iload hx hb d_M_cleanIn_6 (lv_at hl 6 rfl) ?_
    refine lv_iload hx hb d_M_cleanIn_8 (lv_at hl 3 rfl) ?_
    refine lv_icmp_gt (tgt := 83) hx hb d_M_cleanIn_10 (by decide) (fun q => ?_) (fun q => ?_)
    · replace h := h.1 q
      refine lv_iload hx hb d_M_cleanIn_83 (lv_at hl 5 rfl) ?_
      exact hR _ _ hcs v6 S _ _ 85 ls h hI d_M_cleanIn_85
    · replace h := h.2 q
      refine lv_iload_n hx hb d_M_cleanIn_13 rfl (lv_at hl 1 rfl) ?_
      refine lv_istore (lv' := [(8, .int v1), (0, .ref (ad 31)), (1, .int v1), (3, .int v3), (4, .int v4), (5, .int v5), (6, .int v6), (7, .int v7)]) hx hb d_M_cleanIn_14 hl (by decide) rfl (fun ls hl => ?_)
      obtain ⟨k16, h⟩ := h
      refine w_M_cleanIn_16 C hcs _ _ v1 v3 v4 v5 v7 hR (fun v6_16e S16e H locs ls h hI hl => ?_) k16 v6 v1 S _ _ ls hI (lv_sub hl [1, 2, 3, 4, 5, 6, 7, 0] rfl) h
      obtain ⟨x77, e77⟩ : ∃ y : Int32, y = v7 + 1 := ⟨_, rfl⟩
      replace h := h x77 e77
      refine lv_iinc (v := x77) (lv' := [(7, .int x77), (0, .ref (ad 31)), (1, .int v1), (3, .int v3), (4, .int v4), (5, .int v5), (6, .int v6_16e)]) hx hb d_M_cleanIn_77 hl (k := 6) rfl (by rw [e77]; rfl) (by decide) rfl (fun ls hl => ?_)
      refine lv_goto (tgt := 6) hx hb d_M_cleanIn_80 (by decide) ?_
      exact ih v6_16e x77 S16e _ _ ls hI (lv_sub hl [1, 2, 3, 4, 5, 6, 0] rfl) h
set_option maxHeartbeats 4000000 in
set_option maxRecDepth 100000 in
theorem c_M_cleanIn (v1 : Int32) (v2 : Int32) (v3 : Int32) (v4 : Int32) (v5 : Int32) (S : zS) (post : Int32 → zS → Prop) (h : P_M_cleanIn v1 v2 v3 v4 v5 S post) : z_cti l D cA 51 ad y_M_cleanIn b_M_cleanIn 10 (some .int) rm_M_cleanIn [.ref (ad 31), .int v1, .int v2, .int v3, .int v4, .int v5] S post := by
  refine z_meti (av := [.ref (ad 31), .int v1, .int v2, .int v3, .int v4, .int v5]) (by decide) (Nat.le_of_ble_eq_true rfl) ⟨rfl, rfl⟩ (fun p e s m args below meth c Q ls C hcs hl hI hR => ?_)
  obtain ⟨hx, hb, hml, hown, hts, hK, hJ⟩ := id C
  unfold P_M_cleanIn at h
  have hl : lv_has ls 10 [(0, .ref (ad 31)), (1, .int v1), (2, .int v2), (3, .int v3), (4, .int v4), (5, .int v5)] := hl
  refine lv_iconst (v := 0) hx hb d_M_cleanIn_0 (by decide) ?_
  refine lv_istore (lv' := [(6, .int 0), (0, .ref (ad 31)), (1, .int v1), (2, .int v2), (3, .int v3), (4, .int v4), (5, .int v5)]) hx hb d_M_cleanIn_1 hl (by decide) rfl (fun ls hl => ?_)
  refine lv_iload_n hx hb d_M_cleanIn_3 rfl (lv_at hl 3 rfl) ?_
  refine lv_istore (lv' := [(7, .int v2), (6, .int 0), (0, .ref (ad 31)), (1, .int v1), (2, .int v2), (3, .int v3), (4, .int v4), (5, .int v5)]) hx hb d_M_cleanIn_4 hl (by decide) rfl (fun ls hl => ?_)
  obtain ⟨k6, h⟩ := h
  refine w_M_cleanIn_6 C hcs _ v1 v3 v4 v5 hR k6 0 v2 S _ _ ls hI (lv_sub hl [2, 3, 5, 6, 7, 1, 0] rfl) h
set_option maxHeartbeats 4000000 in
set_option maxRecDepth 100000 in
theorem w_M_kindOf_197 (C : z_CT p s m args c R_M b_M_kindOf 9 D cA 51 ad) (hcs : cells ≤ rm_M_kindOf.cells ∧ slots ≤ rm_M_kindOf.slots) (post : Int32 → zS → Prop) (v1 : Int32) (v2 : Int32) (v3 : Int32) (v4 : Int32) (v5 : Int32) (v6 : Int32) (hR : z_Ri p l e rm_M_kindOf s m args below meth c Q b_M_kindOf D cA 51 ad post) (S : zS) (H : Heap) (locs : List Loc) (ls : Array Slot) (hI : z_I D cA 51 ad s.heap S H locs) (hl : lv_has ls 9 [(0, .ref (ad 31)), (1, .int v1), (2, .int v2), (3, .int v3), (4, .int v4), (5, .int v5), (6, .int v6)]) (h : J_M_kindOf_197 post v1 v2 v3 v4 v5 v6 S) : W p l e rm_M_kindOf s m args below meth c H locs cells slots Q (F0 m 197 ls []) := by
  obtain ⟨hx, hb, hml, hown, hts, hK, hJ⟩ := id C
  unfold J_M_kindOf_197 at h
  refine lv_iconst (v := 2) hx hb d_M_kindOf_197 (by decide) ?_
  refine lv_aload_n hx hb d_M_kindOf_198 rfl (lv_at hl 0 rfl) ?_
  refine lv_iload_n hx hb d_M_kindOf_199 rfl (lv_at hl 1 rfl) ?_
  refine lv_iload_n hx hb d_M_kindOf_200 rfl (lv_at hl 2 rfl) ?_
  refine lv_iload_n hx hb d_M_kindOf_201 rfl (lv_at hl 3 rfl) ?_
  refine lv_iload hx hb d_M_kindOf_202 (lv_at hl 4 rfl) ?_
  refine lv_iconst (v := (-1)) hx hb d_M_kindOf_204 (by decide) ?_
  refine z_callVi C hI 31 (by decide) kd_31 cl_M (As := [.int v1, .int v2, .int v3, .int v4, .int (-1)]) (rest := [.int 2]) (c_M_cleanIn v1 v2 v3 v4 (-1) _ _ h) wc_M_cleanIn k_ml_M_123 rfl rfl (Nat.le_of_ble_eq_true rfl) (Nat.le_of_ble_eq_true rfl) hcs hl.1 (Nat.le_of_ble_eq_true rfl) rfl d_M_kindOf_205 (fun r205 S205 H locs h hI => ?_)
  refine lv_imul hx hb d_M_kindOf_208 ?_
  refine lv_iload hx hb d_M_kindOf_209 (lv_at hl 5 rfl) ?_
  refine lv_iload hx hb d_M_kindOf_211 (lv_at hl 6 rfl) ?_
  refine lv_imul hx hb d_M_kindOf_213 ?_
  refine lv_icmp_lt (tgt := 221) hx hb d_M_kindOf_214 (by decide) (fun q => ?_) (fun q => ?_)
  · replace h := h.1 q
    refine lv_iconst (v := 0) hx hb d_M_kindOf_221 (by decide) ?_
    exact hR _ _ hcs 0 S205 _ _ 222 ls h hI d_M_kindOf_222
  · replace h := h.2 q
    refine lv_iconst (v := 2) hx hb d_M_kindOf_217 (by decide) ?_
    refine lv_goto (tgt := 222) hx hb d_M_kindOf_218 (by decide) ?_
    exact hR _ _ hcs 2 S205 _ _ 222 ls h hI d_M_kindOf_222
set_option maxHeartbeats 4000000 in
set_option maxRecDepth 100000 in
theorem w_M_kindOf_151 (C : z_CT p s m args c R_M b_M_kindOf 9 D cA 51 ad) (hcs : cells ≤ rm_M_kindOf.cells ∧ slots ≤ rm_M_kindOf.slots) (post : Int32 → zS → Prop) (v1 : Int32) (v2 : Int32) (v3 : Int32) (v4 : Int32) (v5 : Int32) (v6 : Int32) (v7 : Int32) (t0 : Int32) (hR : z_Ri p l e rm_M_kindOf s m args below meth c Q b_M_kindOf D cA 51 ad post) (S : zS) (H : Heap) (locs : List Loc) (ls : Array Slot) (hI : z_I D cA 51 ad s.heap S H locs) (hl : lv_has ls 9 [(0, .ref (ad 31)), (1, .int v1), (2, .int v2), (3, .int v3), (4, .int v4), (5, .int v5), (6, .int v6), (7, .int v7)]) (h : J_M_kindOf_151 post v1 v2 v3 v4 v5 v6 v7 t0 S) : W p l e rm_M_kindOf s m args below meth c H locs cells slots Q (F0 m 151 ls [.int t0]) := by
  obtain ⟨hx, hb, hml, hown, hts, hK, hJ⟩ := id C
  unfold J_M_kindOf_151 at h
  refine lv_istore (lv' := [(8, .int t0), (0, .ref (ad 31)), (1, .int v1), (2, .int v2), (3, .int v3), (4, .int v4), (5, .int v5), (6, .int v6), (7, .int v7)]) hx hb d_M_kindOf_151 hl (by decide) rfl (fun ls hl => ?_)
  refine lv_iload hx hb d_M_kindOf_153 (lv_at hl 8 rfl) ?_
  refine lv_if_eq (tgt := 197) hx hb d_M_kindOf_155 (by decide) (fun q => ?_) (fun q => ?_)
  · replace h := h.1 q
    exact w_M_kindOf_197 C hcs _ v1 v2 v3 v4 v5 v6 hR S _ _ ls hI (lv_sub hl [1, 2, 3, 4, 5, 6, 7] rfl) h
  · replace h := h.2 q
    refine lv_iload hx hb d_M_kindOf_158 (lv_at hl 0 rfl) ?_
    refine lv_if_eq (tgt := 197) hx hb d_M_kindOf_160 (by decide) (fun q => ?_) (fun q => ?_)
    · replace h := h.1 q
      exact w_M_kindOf_197 C hcs _ v1 v2 v3 v4 v5 v6 hR S _ _ ls hI (lv_sub hl [1, 2, 3, 4, 5, 6, 7] rfl) h
    · replace h := h.2 q
      refine lv_iconst (v := 4) hx hb d_M_kindOf_163 (by decide) ?_
      refine lv_aload_n hx hb d_M_kindOf_164 rfl (lv_at hl 1 rfl) ?_
      refine lv_iload_n hx hb d_M_kindOf_165 rfl (lv_at hl 2 rfl) ?_
      refine lv_iconst (v := 1) hx hb d_M_kindOf_166 (by decide) ?_
      refine lv_iadd hx hb d_M_kindOf_167 ?_
      refine lv_iload_n hx hb d_M_kindOf_168 rfl (lv_at hl 3 rfl) ?_
      refine lv_iconst (v := 1) hx hb d_M_kindOf_169 (by decide) ?_
      refine lv_iadd hx hb d_M_kindOf_170 ?_
      refine lv_iload_n hx hb d_M_kindOf_171 rfl (lv_at hl 4 rfl) ?_
      refine lv_iconst (v := 1) hx hb d_M_kindOf_172 (by decide) ?_
      refine lv_isub hx hb d_M_kindOf_173 ?_
      refine lv_iload hx hb d_M_kindOf_174 (lv_at hl 5 rfl) ?_
      refine lv_iconst (v := 1) hx hb d_M_kindOf_176 (by decide) ?_
      refine lv_isub hx hb d_M_kindOf_177 ?_
      refine lv_iconst (v := (-1)) hx hb d_M_kindOf_178 (by decide) ?_
      refine z_callVi C hI 31 (by decide) kd_31 cl_M (As := [.int (v1 + 1), .int (v2 + 1), .int (v3 - 1), .int (v4 - 1), .int (-1)]) (rest := [.int 4]) (c_M_cleanIn (v1 + 1) (v2 + 1) (v3 - 1) (v4 - 1) (-1) _ _ h) wc_M_cleanIn k_ml_M_123 rfl rfl (Nat.le_of_ble_eq_true rfl) (Nat.le_of_ble_eq_true rfl) hcs hl.1 (Nat.le_of_ble_eq_true rfl) rfl d_M_kindOf_179 (fun r179 S179 H locs h hI => ?_)
      refine lv_imul hx hb d_M_kindOf_182 ?_
      refine lv_iload hx hb d_M_kindOf_183 (lv_at hl 6 rfl) ?_
      refine lv_iconst (v := 2) hx hb d_M_kindOf_185 (by decide) ?_
      refine lv_isub hx hb d_M_kindOf_186 ?_
      refine lv_iload hx hb d_M_kindOf_187 (lv_at hl 7 rfl) ?_
      refine lv_iconst (v := 2) hx hb d_M_kindOf_189 (by decide) ?_
      refine lv_isub hx hb d_M_kindOf_190 ?_
      refine lv_imul hx hb d_M_kindOf_191 ?_
      refine lv_icmp_gt (tgt := 197) hx hb d_M_kindOf_192 (by decide) (fun q => ?_) (fun q => ?_)
      · replace h := h.1 q
        exact w_M_kindOf_197 C hcs _ v1 v2 v3 v4 v5 v6 hR S179 _ _ ls hI (lv_sub hl [1, 2, 3, 4, 5, 6, 7] rfl) h
      · replace h := h.2 q
        refine lv_iconst (v := 3) hx hb d_M_kindOf_195 (by decide) ?_
        exact hR _ _ hcs 3 S179 _ _ 196 ls h hI d_M_kindOf_196
set_option maxHeartbeats 4000000 in
set_option maxRecDepth 100000 in
theorem w_M_kindOf_150 (C : z_CT p s m args c R_M b_M_kindOf 9 D cA 51 ad) (hcs : cells ≤ rm_M_kindOf.cells ∧ slots ≤ rm_M_kindOf.slots) (post : Int32 → zS → Prop) (v1 : Int32) (v2 : Int32) (v3 : Int32) (v4 : Int32) (v5 : Int32) (v6 : Int32) (v7 : Int32) (hR : z_Ri p l e rm_M_kindOf s m args below meth c Q b_M_kindOf D cA 51 ad post) (S : zS) (H : Heap) (locs : List Loc) (ls : Array Slot) (hI : z_I D cA 51 ad s.heap S H locs) (hl : lv_has ls 9 [(0, .ref (ad 31)), (1, .int v1), (2, .int v2), (3, .int v3), (4, .int v4), (5, .int v5), (6, .int v6), (7, .int v7)]) (h : J_M_kindOf_150 post v1 v2 v3 v4 v5 v6 v7 S) : W p l e rm_M_kindOf s m args below meth c H locs cells slots Q (F0 m 150 ls []) := by
  obtain ⟨hx, hb, hml, hown, hts, hK, hJ⟩ := id C
  unfold J_M_kindOf_150 at h
  refine lv_iconst (v := 0) hx hb d_M_kindOf_150 (by decide) ?_
  exact w_M_kindOf_151 C hcs _ v1 v2 v3 v4 v5 v6 v7 0 hR S _ _ ls hI (lv_sub hl [0, 1, 2, 3, 4, 5, 6, 7] rfl) h
set_option maxHeartbeats 4000000 in
set_option maxRecDepth 100000 in
theorem w_M_kindOf_106 (C : z_CT p s m args c R_M b_M_kindOf 9 D cA 51 ad) (hcs : cells ≤ rm_M_kindOf.cells ∧ slots ≤ rm_M_kindOf.slots) (post : Int32 → zS → Prop) (v1 : Int32) (v2 : Int32) (v3 : Int32) (v4 : Int32) (v5 : Int32) (v6 : Int32) (t0 : Int32) (hR : z_Ri p l e rm_M_kindOf s m args below meth c Q b_M_kindOf D cA 51 ad post) (S : zS) (H : Heap) (locs : List Loc) (ls : Array Slot) (hI : z_I D cA 51 ad s.heap S H locs) (hl : lv_has ls 9 [(0, .ref (ad 31)), (1, .int v1), (2, .int v2), (3, .int v3), (4, .int v4), (5, .int v5), (6, .int v6)]) (h : J_M_kindOf_106 post v1 v2 v3 v4 v5 v6 t0 S) : W p l e rm_M_kindOf s m args below meth c H locs cells slots Q (F0 m 106 ls [.int t0]) := by
  obtain ⟨hx, hb, hml, hown, hts, hK, hJ⟩ := id C
  unfold J_M_kindOf_106 at h
  refine lv_istore (lv' := [(7, .int t0), (0, .ref (ad 31)), (1, .int v1), (2, .int v2), (3, .int v3), (4, .int v4), (5, .int v5), (6, .int v6)]) hx hb d_M_kindOf_106 hl (by decide) rfl (fun ls hl => ?_)
  refine lv_iconst (v := 4) hx hb d_M_kindOf_108 (by decide) ?_
  refine lv_aload_n hx hb d_M_kindOf_109 rfl (lv_at hl 1 rfl) ?_
  refine lv_iload_n hx hb d_M_kindOf_110 rfl (lv_at hl 2 rfl) ?_
  refine lv_iload_n hx hb d_M_kindOf_111 rfl (lv_at hl 3 rfl) ?_
  refine lv_iload_n hx hb d_M_kindOf_112 rfl (lv_at hl 2 rfl) ?_
  refine lv_iload hx hb d_M_kindOf_113 (lv_at hl 5 rfl) ?_
  refine lv_iconst (v := (-1)) hx hb d_M_kindOf_115 (by decide) ?_
  refine z_callVi C hI 31 (by decide) kd_31 cl_M (As := [.int v1, .int v2, .int v1, .int v4, .int (-1)]) (rest := [.int 4]) (c_M_cleanIn v1 v2 v1 v4 (-1) _ _ h) wc_M_cleanIn k_ml_M_123 rfl rfl (Nat.le_of_ble_eq_true rfl) (Nat.le_of_ble_eq_true rfl) hcs hl.1 (Nat.le_of_ble_eq_true rfl) rfl d_M_kindOf_116 (fun r116 S116 H locs h hI => ?_)
  refine lv_imul hx hb d_M_kindOf_119 ?_
  refine lv_iconst (v := 3) hx hb d_M_kindOf_120 (by decide) ?_
  refine lv_iload hx hb d_M_kindOf_121 (lv_at hl 7 rfl) ?_
  refine lv_imul hx hb d_M_kindOf_123 ?_
  refine lv_icmp_lt (tgt := 150) hx hb d_M_kindOf_124 (by decide) (fun q => ?_) (fun q => ?_)
  · replace h := h.1 q
    exact w_M_kindOf_150 C hcs _ v1 v2 v3 v4 v5 v6 t0 hR S116 _ _ ls hI (lv_sub hl [1, 2, 3, 4, 5, 6, 7, 0] rfl) h
  · replace h := h.2 q
    refine lv_iconst (v := 4) hx hb d_M_kindOf_127 (by decide) ?_
    refine lv_aload_n hx hb d_M_kindOf_128 rfl (lv_at hl 1 rfl) ?_
    refine lv_iload_n hx hb d_M_kindOf_129 rfl (lv_at hl 4 rfl) ?_
    refine lv_iload_n hx hb d_M_kindOf_130 rfl (lv_at hl 3 rfl) ?_
    refine lv_iload_n hx hb d_M_kindOf_131 rfl (lv_at hl 4 rfl) ?_
    refine lv_iload hx hb d_M_kindOf_132 (lv_at hl 5 rfl) ?_
    refine lv_iconst (v := (-1)) hx hb d_M_kindOf_134 (by decide) ?_
    refine z_callVi C hI 31 (by decide) kd_31 cl_M (As := [.int v3, .int v2, .int v3, .int v4, .int (-1)]) (rest := [.int 4]) (c_M_cleanIn v3 v2 v3 v4 (-1) _ _ h) wc_M_cleanIn k_ml_M_123 rfl rfl (Nat.le_of_ble_eq_true rfl) (Nat.le_of_ble_eq_true rfl) hcs hl.1 (Nat.le_of_ble_eq_true rfl) rfl d_M_kindOf_135 (fun r135 S135 H locs h hI => ?_)
    refine lv_imul hx hb d_M_kindOf_138 ?_
    refine lv_iconst (v := 3) hx hb d_M_kindOf_139 (by decide) ?_
    refine lv_iload hx hb d_M_kindOf_140 (lv_at hl 7 rfl) ?_
    refine lv_imul hx hb d_M_kindOf_142 ?_
    refine lv_icmp_lt (tgt := 150) hx hb d_M_kindOf_143 (by decide) (fun q => ?_) (fun q => ?_)
    · replace h := h.1 q
      exact w_M_kindOf_150 C hcs _ v1 v2 v3 v4 v5 v6 t0 hR S135 _ _ ls hI (lv_sub hl [1, 2, 3, 4, 5, 6, 7, 0] rfl) h
    · replace h := h.2 q
      refine lv_iconst (v := 1) hx hb d_M_kindOf_146 (by decide) ?_
      refine lv_goto (tgt := 151) hx hb d_M_kindOf_147 (by decide) ?_
      exact w_M_kindOf_151 C hcs _ v1 v2 v3 v4 v5 v6 t0 1 hR S135 _ _ ls hI (lv_sub hl [1, 2, 3, 4, 5, 6, 7, 0] rfl) h
set_option maxHeartbeats 4000000 in
set_option maxRecDepth 100000 in
theorem w_M_kindOf_105 (C : z_CT p s m args c R_M b_M_kindOf 9 D cA 51 ad) (hcs : cells ≤ rm_M_kindOf.cells ∧ slots ≤ rm_M_kindOf.slots) (post : Int32 → zS → Prop) (v1 : Int32) (v2 : Int32) (v3 : Int32) (v4 : Int32) (v5 : Int32) (v6 : Int32) (hR : z_Ri p l e rm_M_kindOf s m args below meth c Q b_M_kindOf D cA 51 ad post) (S : zS) (H : Heap) (locs : List Loc) (ls : Array Slot) (hI : z_I D cA 51 ad s.heap S H locs) (hl : lv_has ls 9 [(0, .ref (ad 31)), (1, .int v1), (2, .int v2), (3, .int v3), (4, .int v4), (5, .int v5), (6, .int v6)]) (h : J_M_kindOf_105 post v1 v2 v3 v4 v5 v6 S) : W p l e rm_M_kindOf s m args below meth c H locs cells slots Q (F0 m 105 ls []) := by
  obtain ⟨hx, hb, hml, hown, hts, hK, hJ⟩ := id C
  unfold J_M_kindOf_105 at h
  refine lv_iconst (v := 0) hx hb d_M_kindOf_105 (by decide) ?_
  exact w_M_kindOf_106 C hcs _ v1 v2 v3 v4 v5 v6 0 hR S _ _ ls hI (lv_sub hl [0, 1, 2, 3, 4, 5, 6] rfl) h
set_option maxHeartbeats 4000000 in
set_option maxRecDepth 100000 in
theorem w_M_kindOf_47 (C : z_CT p s m args c R_M b_M_kindOf 9 D cA 51 ad) (hcs : cells ≤ rm_M_kindOf.cells ∧ slots ≤ rm_M_kindOf.slots) (post : Int32 → zS → Prop) (v1 : Int32) (v2 : Int32) (v3 : Int32) (v4 : Int32) (v5 : Int32) (v6 : Int32) (hR : z_Ri p l e rm_M_kindOf s m args below meth c Q b_M_kindOf D cA 51 ad post) (S : zS) (H : Heap) (locs : List Loc) (ls : Array Slot) (hI : z_I D cA 51 ad s.heap S H locs) (hl : lv_has ls 9 [(0, .ref (ad 31)), (1, .int v1), (2, .int v2), (3, .int v3), (4, .int v4), (5, .int v5), (6, .int v6)]) (h : J_M_kindOf_47 post v1 v2 v3 v4 v5 v6 S) : W p l e rm_M_kindOf s m args below meth c H locs cells slots Q (F0 m 47 ls []) := by
  obtain ⟨hx, hb, hml, hown, hts, hK, hJ⟩ := id C
  unfold J_M_kindOf_47 at h
  refine lv_iload hx hb d_M_kindOf_47 (lv_at hl 5 rfl) ?_
  refine lv_bipush (v := 7) hx hb d_M_kindOf_49 (by decide) ?_
  refine lv_icmp_lt (tgt := 61) hx hb d_M_kindOf_51 (by decide) (fun q => ?_) (fun q => ?_)
  · replace h := h.1 q
    refine lv_iconst (v := 0) hx hb d_M_kindOf_61 (by decide) ?_
    exact hR _ _ hcs 0 S _ _ 62 ls h hI d_M_kindOf_62
  · replace h := h.2 q
    refine lv_iload hx hb d_M_kindOf_54 (lv_at hl 6 rfl) ?_
    refine lv_bipush (v := 7) hx hb d_M_kindOf_56 (by decide) ?_
    refine lv_icmp_ge (tgt := 63) hx hb d_M_kindOf_58 (by decide) (fun q => ?_) (fun q => ?_)
    · replace h := h.1 q
      refine lv_iconst (v := 4) hx hb d_M_kindOf_63 (by decide) ?_
      refine lv_aload_n hx hb d_M_kindOf_64 rfl (lv_at hl 0 rfl) ?_
      refine lv_iload_n hx hb d_M_kindOf_65 rfl (lv_at hl 1 rfl) ?_
      refine lv_iload_n hx hb d_M_kindOf_66 rfl (lv_at hl 2 rfl) ?_
      refine lv_iload_n hx hb d_M_kindOf_67 rfl (lv_at hl 3 rfl) ?_
      refine lv_iload_n hx hb d_M_kindOf_68 rfl (lv_at hl 2 rfl) ?_
      refine lv_iconst (v := (-1)) hx hb d_M_kindOf_69 (by decide) ?_
      refine z_callVi C hI 31 (by decide) kd_31 cl_M (As := [.int v1, .int v2, .int v3, .int v2, .int (-1)]) (rest := [.int 4]) (c_M_cleanIn v1 v2 v3 v2 (-1) _ _ h) wc_M_cleanIn k_ml_M_123 rfl rfl (Nat.le_of_ble_eq_true rfl) (Nat.le_of_ble_eq_true rfl) hcs hl.1 (Nat.le_of_ble_eq_true rfl) rfl d_M_kindOf_70 (fun r70 S70 H locs h hI => ?_)
      refine lv_imul hx hb d_M_kindOf_73 ?_
      refine lv_iconst (v := 3) hx hb d_M_kindOf_74 (by decide) ?_
      refine lv_iload hx hb d_M_kindOf_75 (lv_at hl 5 rfl) ?_
      refine lv_imul hx hb d_M_kindOf_77 ?_
      refine lv_icmp_lt (tgt := 105) hx hb d_M_kindOf_78 (by decide) (fun q => ?_) (fun q => ?_)
      · replace h := h.1 q
        exact w_M_kindOf_105 C hcs _ v1 v2 v3 v4 v5 v6 hR S70 _ _ ls hI (lv_sub hl [0, 1, 2, 3, 4, 5, 6] rfl) h
      · replace h := h.2 q
        refine lv_iconst (v := 4) hx hb d_M_kindOf_81 (by decide) ?_
        refine lv_aload_n hx hb d_M_kindOf_82 rfl (lv_at hl 0 rfl) ?_
        refine lv_iload_n hx hb d_M_kindOf_83 rfl (lv_at hl 1 rfl) ?_
        refine lv_iload hx hb d_M_kindOf_84 (lv_at hl 4 rfl) ?_
        refine lv_iload_n hx hb d_M_kindOf_86 rfl (lv_at hl 3 rfl) ?_
        refine lv_iload hx hb d_M_kindOf_87 (lv_at hl 4 rfl) ?_
        refine lv_iconst (v := (-1)) hx hb d_M_kindOf_89 (by decide) ?_
        refine z_callVi C hI 31 (by decide) kd_31 cl_M (As := [.int v1, .int v4, .int v3, .int v4, .int (-1)]) (rest := [.int 4]) (c_M_cleanIn v1 v4 v3 v4 (-1) _ _ h) wc_M_cleanIn k_ml_M_123 rfl rfl (Nat.le_of_ble_eq_true rfl) (Nat.le_of_ble_eq_true rfl) hcs hl.1 (Nat.le_of_ble_eq_true rfl) rfl d_M_kindOf_90 (fun r90 S90 H locs h hI => ?_)
        refine lv_imul hx hb d_M_kindOf_93 ?_
        refine lv_iconst (v := 3) hx hb d_M_kindOf_94 (by decide) ?_
        refine lv_iload hx hb d_M_kindOf_95 (lv_at hl 5 rfl) ?_
        refine lv_imul hx hb d_M_kindOf_97 ?_
        refine lv_icmp_lt (tgt := 105) hx hb d_M_kindOf_98 (by decide) (fun q => ?_) (fun q => ?_)
        · replace h := h.1 q
          exact w_M_kindOf_105 C hcs _ v1 v2 v3 v4 v5 v6 hR S90 _ _ ls hI (lv_sub hl [0, 1, 2, 3, 4, 5, 6] rfl) h
        · replace h := h.2 q
          refine lv_iconst (v := 1) hx hb d_M_kindOf_101 (by decide) ?_
          refine lv_goto (tgt := 106) hx hb d_M_kindOf_102 (by decide) ?_
          exact w_M_kindOf_106 C hcs _ v1 v2 v3 v4 v5 v6 1 hR S90 _ _ ls hI (lv_sub hl [0, 1, 2, 3, 4, 5, 6] rfl) h
    · replace h := h.2 q
      refine lv_iconst (v := 0) hx hb d_M_kindOf_61 (by decide) ?_
      exact hR _ _ hcs 0 S _ _ 62 ls h hI d_M_kindOf_62
set_option maxHeartbeats 4000000 in
set_option maxRecDepth 100000 in
theorem w_M_kindOf_30 (C : z_CT p s m args c R_M b_M_kindOf 9 D cA 51 ad) (hcs : cells ≤ rm_M_kindOf.cells ∧ slots ≤ rm_M_kindOf.slots) (post : Int32 → zS → Prop) (v1 : Int32) (v2 : Int32) (v3 : Int32) (v4 : Int32) (v5 : Int32) (v6 : Int32) (hR : z_Ri p l e rm_M_kindOf s m args below meth c Q b_M_kindOf D cA 51 ad post) (S : zS) (H : Heap) (locs : List Loc) (ls : Array Slot) (hI : z_I D cA 51 ad s.heap S H locs) (hl : lv_has ls 9 [(0, .ref (ad 31)), (1, .int v1), (2, .int v2), (3, .int v3), (4, .int v4), (5, .int v5), (6, .int v6)]) (h : J_M_kindOf_30 post v1 v2 v3 v4 v5 v6 S) : W p l e rm_M_kindOf s m args below meth c H locs cells slots Q (F0 m 30 ls []) := by
  obtain ⟨hx, hb, hml, hown, hts, hK, hJ⟩ := id C
  unfold J_M_kindOf_30 at h
  refine lv_iload hx hb d_M_kindOf_30 (lv_at hl 5 rfl) ?_
  refine lv_iconst (v := 2) hx hb d_M_kindOf_32 (by decide) ?_
  refine lv_icmp_gt (tgt := 47) hx hb d_M_kindOf_33 (by decide) (fun q => ?_) (fun q => ?_)
  · replace h := h.1 q
    exact w_M_kindOf_47 C hcs _ v1 v2 v3 v4 v5 v6 hR S _ _ ls hI (lv_sub hl [0, 1, 2, 3, 4, 5, 6] rfl) h
  · replace h := h.2 q
    refine lv_iload hx hb d_M_kindOf_36 (lv_at hl 6 rfl) ?_
    refine lv_iconst (v := 5) hx hb d_M_kindOf_38 (by decide) ?_
    refine lv_iload hx hb d_M_kindOf_39 (lv_at hl 5 rfl) ?_
    refine lv_imul hx hb d_M_kindOf_41 ?_
    refine lv_icmp_lt (tgt := 47) hx hb d_M_kindOf_42 (by decide) (fun q => ?_) (fun q => ?_)
    · replace h := h.1 q
      exact w_M_kindOf_47 C hcs _ v1 v2 v3 v4 v5 v6 hR S _ _ ls hI (lv_sub hl [0, 1, 2, 3, 4, 5, 6] rfl) h
    · replace h := h.2 q
      refine lv_iconst (v := 1) hx hb d_M_kindOf_45 (by decide) ?_
      exact hR _ _ hcs 1 S _ _ 46 ls h hI d_M_kindOf_46
set_option maxHeartbeats 4000000 in
set_option maxRecDepth 100000 in
theorem c_M_kindOf (v1 : Int32) (v2 : Int32) (v3 : Int32) (v4 : Int32) (S : zS) (post : Int32 → zS → Prop) (h : P_M_kindOf v1 v2 v3 v4 S post) : z_cti l D cA 51 ad y_M_kindOf b_M_kindOf 9 (some .int) rm_M_kindOf [.ref (ad 31), .int v1, .int v2, .int v3, .int v4] S post := by
  refine z_meti (av := [.ref (ad 31), .int v1, .int v2, .int v3, .int v4]) (by decide) (Nat.le_of_ble_eq_true rfl) ⟨rfl, rfl⟩ (fun p e s m args below meth c Q ls C hcs hl hI hR => ?_)
  obtain ⟨hx, hb, hml, hown, hts, hK, hJ⟩ := id C
  unfold P_M_kindOf at h
  have hl : lv_has ls 9 [(0, .ref (ad 31)), (1, .int v1), (2, .int v2), (3, .int v3), (4, .int v4)] := hl
  refine lv_iload_n hx hb d_M_kindOf_0 rfl (lv_at hl 3 rfl) ?_
  refine lv_iload_n hx hb d_M_kindOf_1 rfl (lv_at hl 1 rfl) ?_
  refine lv_isub hx hb d_M_kindOf_2 ?_
  refine lv_iconst (v := 1) hx hb d_M_kindOf_3 (by decide) ?_
  refine lv_iadd hx hb d_M_kindOf_4 ?_
  refine lv_topi (fun x5 e5 => ?_)
  replace h := h x5 e5
  refine lv_istore (lv' := [(5, .int x5), (0, .ref (ad 31)), (1, .int v1), (2, .int v2), (3, .int v3), (4, .int v4)]) hx hb d_M_kindOf_5 hl (by decide) rfl (fun ls hl => ?_)
  refine lv_iload hx hb d_M_kindOf_7 (lv_at hl 5 rfl) ?_
  refine lv_iload_n hx hb d_M_kindOf_9 rfl (lv_at hl 3 rfl) ?_
  refine lv_isub hx hb d_M_kindOf_10 ?_
  refine lv_iconst (v := 1) hx hb d_M_kindOf_11 (by decide) ?_
  refine lv_iadd hx hb d_M_kindOf_12 ?_
  refine lv_topi (fun x13 e13 => ?_)
  replace h := h x13 e13
  refine lv_istore (lv' := [(6, .int x13), (5, .int x5), (0, .ref (ad 31)), (1, .int v1), (2, .int v2), (3, .int v3), (4, .int v4)]) hx hb d_M_kindOf_13 hl (by decide) rfl (fun ls hl => ?_)
  refine lv_iload hx hb d_M_kindOf_15 (lv_at hl 0 rfl) ?_
  refine lv_iconst (v := 2) hx hb d_M_kindOf_17 (by decide) ?_
  refine lv_icmp_gt (tgt := 30) hx hb d_M_kindOf_18 (by decide) (fun q => ?_) (fun q => ?_)
  · replace h := h.1 q
    exact w_M_kindOf_30 C hcs _ v1 v2 v3 v4 x5 x13 hR S _ _ ls hI (lv_sub hl [2, 3, 4, 5, 6, 1, 0] rfl) h
  · replace h := h.2 q
    refine lv_iload hx hb d_M_kindOf_21 (lv_at hl 1 rfl) ?_
    refine lv_iconst (v := 5) hx hb d_M_kindOf_23 (by decide) ?_
    refine lv_iload hx hb d_M_kindOf_24 (lv_at hl 0 rfl) ?_
    refine lv_imul hx hb d_M_kindOf_26 ?_
    refine lv_icmp_ge (tgt := 45) hx hb d_M_kindOf_27 (by decide) (fun q => ?_) (fun q => ?_)
    · replace h := h.1 q
      refine lv_iconst (v := 1) hx hb d_M_kindOf_45 (by decide) ?_
      exact hR _ _ hcs 1 S _ _ 46 ls h hI d_M_kindOf_46
    · replace h := h.2 q
      exact w_M_kindOf_30 C hcs _ v1 v2 v3 v4 x5 x13 hR S _ _ ls hI (lv_sub hl [2, 3, 4, 5, 6, 1, 0] rfl) h
set_option maxHeartbeats 4000000 in
set_option maxRecDepth 100000 in
theorem w_M_takeParts_206 (C : z_CT p s m args c R_M b_M_takeParts 5 D cA 51 ad) (hcs : cells ≤ rm_M_takeParts.cells ∧ slots ≤ rm_M_takeParts.slots) (post : zS → Prop) (K23 : Int32 → zS → Prop) (v1 : Int32) (v2 : Int32) (v4 : Int32) (t0 : Int32) (t1 : Int32) (hR : z_Rv p l e rm_M_takeParts s m args below meth c Q b_M_takeParts D cA 51 ad post) (kK23 : ∀ (v2 : Int32) (S : zS) (H : Heap) (locs : List Loc) (ls : Array Slot), K23 v2 S → z_I D cA 51 ad s.heap S H locs → lv_has ls 5 [(0, .ref (ad 31)), (1, .int v1), (2, .int v2)] → W p l e rm_M_takeParts s m args below meth c H locs cells slots Q (F0 m 23 ls [])) (S : zS) (H : Heap) (locs : List Loc) (ls : Array Slot) (hI : z_I D cA 51 ad s.heap S H locs) (hl : lv_has ls 5 [(0, .ref (ad 31)), (1, .int v1), (2, .int v2), (4, .int v4)]) (h : J_M_takeParts_206 post K23 v1 v2 v4 t0 t1 S) : W p l e rm_M_takeParts s m args below meth c H locs cells slots Q (F0 m 206 ls [.int t0, .int t1, .ref (ad 41)]) := by
  obtain ⟨hx, hb, hml, hown, hts, hK, hJ⟩ := id C
  unfold J_M_takeParts_206 at h
  obtain ⟨h1, h⟩ := h
  refine z_ist C hI 41 (by decide) kd_41 h1 d_M_takeParts_206 (fun S206 eS H locs hI => ?_)
  replace h := h S206 eS
  refine lv_aload_n hx hb d_M_takeParts_207 rfl (lv_at hl 0 rfl) ?_
  refine z_getR C hI 31 (by decide) kd_31 cl_M iw_M 16 (by decide) k_fl_M_45 rfl d_M_takeParts_208 ?_
  refine lv_iload hx hb d_M_takeParts_211 (lv_at hl 3 rfl) ?_
  refine lv_iload_n hx hb d_M_takeParts_213 rfl (lv_at hl 1 rfl) ?_
  obtain ⟨h1, h⟩ := h
  refine z_ist C hI 42 (by decide) kd_42 h1 d_M_takeParts_214 (fun S214 eS H locs hI => ?_)
  replace h := h S214 eS
  obtain ⟨x215, e215⟩ : ∃ y : Int32, y = v2 + 1 := ⟨_, rfl⟩
  replace h := h x215 e215
  refine lv_iinc (v := x215) (lv' := [(2, .int x215), (0, .ref (ad 31)), (1, .int v1), (4, .int v4)]) hx hb d_M_takeParts_215 hl (k := 2) rfl (by rw [e215]; rfl) (by decide) rfl (fun ls hl => ?_)
  refine lv_goto (tgt := 23) hx hb d_M_takeParts_218 (by decide) ?_
  exact kK23 x215 S214 _ _ ls h hI (lv_sub hl [1, 2, 0] rfl)
set_option maxHeartbeats 4000000 in
set_option maxRecDepth 100000 in
theorem w_M_takeParts_177 (C : z_CT p s m args c R_M b_M_takeParts 5 D cA 51 ad) (hcs : cells ≤ rm_M_takeParts.cells ∧ slots ≤ rm_M_takeParts.slots) (post : zS → Prop) (K23 : Int32 → zS → Prop) (v1 : Int32) (v2 : Int32) (v4 : Int32) (t0 : Int32) (t1 : Int32) (hR : z_Rv p l e rm_M_takeParts s m args below meth c Q b_M_takeParts D cA 51 ad post) (kK23 : ∀ (v2 : Int32) (S : zS) (H : Heap) (locs : List Loc) (ls : Array Slot), K23 v2 S → z_I D cA 51 ad s.heap S H locs → lv_has ls 5 [(0, .ref (ad 31)), (1, .int v1), (2, .int v2)] → W p l e rm_M_takeParts s m args below meth c H locs cells slots Q (F0 m 23 ls [])) (S : zS) (H : Heap) (locs : List Loc) (ls : Array Slot) (hI : z_I D cA 51 ad s.heap S H locs) (hl : lv_has ls 5 [(0, .ref (ad 31)), (1, .int v1), (2, .int v2), (4, .int v4)]) (h : J_M_takeParts_177 post K23 v1 v2 v4 t0 t1 S) : W p l e rm_M_takeParts s m args below meth c H locs cells slots Q (F0 m 177 ls [.int t0, .int t1, .ref (ad 39)]) := by
  obtain ⟨hx, hb, hml, hown, hts, hK, hJ⟩ := id C
  unfold J_M_takeParts_177 at h
  obtain ⟨h1, h⟩ := h
  refine z_ist C hI 39 (by decide) kd_39 h1 d_M_takeParts_177 (fun S177 eS H locs hI => ?_)
  replace h := h S177 eS
  refine lv_aload_n hx hb d_M_takeParts_178 rfl (lv_at hl 0 rfl) ?_
  refine z_getR C hI 31 (by decide) kd_31 cl_M iw_M 15 (by decide) k_fl_M_42 rfl d_M_takeParts_179 ?_
  refine lv_iload hx hb d_M_takeParts_182 (lv_at hl 3 rfl) ?_
  refine lv_iload_n hx hb d_M_takeParts_184 rfl (lv_at hl 2 rfl) ?_
  refine lv_aload_n hx hb d_M_takeParts_185 rfl (lv_at hl 0 rfl) ?_
  refine z_getR C hI 31 (by decide) kd_31 cl_M iw_M 15 (by decide) k_fl_M_42 rfl d_M_takeParts_186 ?_
  refine lv_iload hx hb d_M_takeParts_189 (lv_at hl 3 rfl) ?_
  obtain ⟨h1, h⟩ := h
  refine z_ild C hI 41 (by decide) kd_41 h1 d_M_takeParts_191 ?_
  refine lv_icmp_le (tgt := 199) hx hb d_M_takeParts_192 (by decide) (fun q => ?_) (fun q => ?_)
  · replace h := h.1 q
    refine lv_aload_n hx hb d_M_takeParts_199 rfl (lv_at hl 0 rfl) ?_
    refine z_getR C hI 31 (by decide) kd_31 cl_M iw_M 15 (by decide) k_fl_M_42 rfl d_M_takeParts_200 ?_
    refine lv_iload hx hb d_M_takeParts_203 (lv_at hl 3 rfl) ?_
    obtain ⟨h1, h⟩ := h
    refine z_ild C hI 41 (by decide) kd_41 h1 d_M_takeParts_205 ?_
    exact w_M_takeParts_206 C hcs _ _ v1 v2 v4 (S177 41 (z_ix v4)) v4 hR kK23 S177 _ _ ls hI (lv_sub hl [0, 1, 2, 3] rfl) h
  · replace h := h.2 q
    refine lv_iload_n hx hb d_M_takeParts_195 rfl (lv_at hl 2 rfl) ?_
    refine lv_goto (tgt := 206) hx hb d_M_takeParts_196 (by decide) ?_
    exact w_M_takeParts_206 C hcs _ _ v1 v2 v4 v2 v4 hR kK23 S177 _ _ ls hI (lv_sub hl [0, 1, 2, 3] rfl) h
set_option maxHeartbeats 4000000 in
set_option maxRecDepth 100000 in
theorem w_M_takeParts_23 (C : z_CT p s m args c R_M b_M_takeParts 5 D cA 51 ad) (hcs : cells ≤ rm_M_takeParts.cells ∧ slots ≤ rm_M_takeParts.slots) (post : zS → Prop) (K221 : zS → Prop) (v1 : Int32) (hR : z_Rv p l e rm_M_takeParts s m args below meth c Q b_M_takeParts D cA 51 ad post) (kK221 : ∀ (S : zS) (H : Heap) (locs : List Loc) (ls : Array Slot), K221 S → z_I D cA 51 ad s.heap S H locs → lv_has ls 5 [(0, .ref (ad 31)), (1, .int v1)] → W p l e rm_M_takeParts s m args below meth c H locs cells slots Q (F0 m 221 ls [])) : ∀ (n : Nat) (v2 : Int32) (S : zS) (H : Heap) (locs : List Loc) (ls : Array Slot), z_I D cA 51 ad s.heap S H locs → lv_has ls 5 [(0, .ref (ad 31)), (1, .int v1), (2, .int v2)] → L_M_takeParts_23 post K221 v1 n v2 S → W p l e rm_M_takeParts s m args below meth c H locs cells slots Q (F0 m 23 ls []) := by
  obtain ⟨hx, hb, hml, hown, hts, hK, hJ⟩ := id C
  intro n
  induction n with
  | zero => intro v2 S H locs ls hI hl h; exact h.elim
  | succ n ih =>
    intro v2 S H locs ls hI hl h
    rw [L_M_takeParts_23] at h
    refine lv_iload_n hx hb d_M_takeParts_23 rfl (lv_at hl 2 rfl) ?_
    refine lv_aload_n hx hb d_M_takeParts_24 rfl (lv_at hl 0 rfl) ?_
    refine z_getI C hI 31 (by decide) kd_31 cl_M iw_M 1 (by decide) k_fl_M_73 rfl d_M_takeParts_25 ?_
    refine lv_icmp_ge (tgt := 221) hx hb d_M_takeParts_28 (by decide) (fun q => ?_) (fun q => ?_)
    · replace h := h.1 q
      exact kK221 S _ _ ls h hI (lv_sub hl [0, 1] rfl)
    · replace h := h.2 q
      refine lv_bipush (v := 24) hx hb d_M_takeParts_31 (by decide) ?_
      refine lv_iload_n hx hb d_M_takeParts_33 rfl (lv_at hl 1 rfl) ?_
      refine lv_imul hx hb d_M_takeParts_34 ?_
      refine lv_iload_n hx hb d_M_takeParts_35 rfl (lv_at hl 2 rfl) ?_
      refine lv_iadd hx hb d_M_takeParts_36 ?_
      refine lv_topi (fun x37 e37 => ?_)
      replace h := h x37 e37
      refine lv_istore_n (lv' := [(3, .int x37), (0, .ref (ad 31)), (1, .int v1), (2, .int v2)]) hx hb d_M_takeParts_37 rfl hl (by decide) rfl (fun ls hl => ?_)
      refine lv_aload_n hx hb d_M_takeParts_38 rfl (lv_at hl 1 rfl) ?_
      refine z_getR C hI 31 (by decide) kd_31 cl_M iw_M 11 (by decide) k_fl_M_33 rfl d_M_takeParts_39 ?_
      refine lv_iload_n hx hb d_M_takeParts_42 rfl (lv_at hl 0 rfl) ?_
      refine lv_iconst (v := (-1)) hx hb d_M_takeParts_43 (by decide) ?_
      obtain ⟨h1, h⟩ := h
      refine z_ist C hI 38 (by decide) kd_38 h1 d_M_takeParts_44 (fun S44 eS H locs hI => ?_)
      replace h := h S44 eS
      refine lv_aload_n hx hb d_M_takeParts_45 rfl (lv_at hl 1 rfl) ?_
      refine z_getR C hI 31 (by decide) kd_31 cl_M iw_M 10 (by decide) k_fl_M_29 rfl d_M_takeParts_46 ?_
      refine lv_iload_n hx hb d_M_takeParts_49 rfl (lv_at hl 0 rfl) ?_
      obtain ⟨h1, h⟩ := h
      refine z_ild C hI 37 (by decide) kd_37 h1 d_M_takeParts_50 ?_
      refine lv_iload_n hx hb d_M_takeParts_51 rfl (lv_at hl 0 rfl) ?_
      refine lv_icmp_ne (tgt := 118) hx hb d_M_takeParts_52 (by decide) (fun q => ?_) (fun q => ?_)
      · replace h := h.1 q
        refine lv_aload_n hx hb d_M_takeParts_118 rfl (lv_at hl 1 rfl) ?_
        refine z_getR C hI 31 (by decide) kd_31 cl_M iw_M 10 (by decide) k_fl_M_29 rfl d_M_takeParts_119 ?_
        refine lv_iload_n hx hb d_M_takeParts_122 rfl (lv_at hl 0 rfl) ?_
        obtain ⟨h1, h⟩ := h
        refine z_ild C hI 37 (by decide) kd_37 h1 d_M_takeParts_123 ?_
        refine lv_iconst (v := (-1)) hx hb d_M_takeParts_124 (by decide) ?_
        refine lv_icmp_eq (tgt := 215) hx hb d_M_takeParts_125 (by decide) (fun q => ?_) (fun q => ?_)
        · replace h := h.1 q
          obtain ⟨x215, e215⟩ : ∃ y : Int32, y = v2 + 1 := ⟨_, rfl⟩
          replace h := h x215 e215
          refine lv_iinc (v := x215) (lv' := [(2, .int x215), (3, .int x37), (0, .ref (ad 31)), (1, .int v1)]) hx hb d_M_takeParts_215 hl (k := 3) rfl (by rw [e215]; rfl) (by decide) rfl (fun ls hl => ?_)
          refine lv_goto (tgt := 23) hx hb d_M_takeParts_218 (by decide) ?_
          exact ih x215 S44 _ _ ls hI (lv_sub hl [2, 3, 0] rfl) h
        · replace h := h.2 q
          refine lv_aload_n hx hb d_M_takeParts_128 rfl (lv_at hl 1 rfl) ?_
          refine z_getR C hI 31 (by decide) kd_31 cl_M iw_M 11 (by decide) k_fl_M_33 rfl d_M_takeParts_129 ?_
          refine lv_aload_n hx hb d_M_takeParts_132 rfl (lv_at hl 1 rfl) ?_
          refine z_getR C hI 31 (by decide) kd_31 cl_M iw_M 10 (by decide) k_fl_M_29 rfl d_M_takeParts_133 ?_
          refine lv_iload_n hx hb d_M_takeParts_136 rfl (lv_at hl 0 rfl) ?_
          obtain ⟨h1, h⟩ := h
          refine z_ild C hI 37 (by decide) kd_37 h1 d_M_takeParts_137 ?_
          obtain ⟨h1, h⟩ := h
          refine z_ild C hI 38 (by decide) kd_38 h1 d_M_takeParts_138 ?_
          refine lv_topi (fun x139 e139 => ?_)
          replace h := h x139 e139
          refine lv_istore (lv' := [(4, .int x139), (3, .int x37), (0, .ref (ad 31)), (1, .int v1), (2, .int v2)]) hx hb d_M_takeParts_139 hl (by decide) rfl (fun ls hl => ?_)
          refine lv_aload_n hx hb d_M_takeParts_141 rfl (lv_at hl 2 rfl) ?_
          refine z_getR C hI 31 (by decide) kd_31 cl_M iw_M 11 (by decide) k_fl_M_33 rfl d_M_takeParts_142 ?_
          refine lv_iload_n hx hb d_M_takeParts_145 rfl (lv_at hl 1 rfl) ?_
          refine lv_iload hx hb d_M_takeParts_146 (lv_at hl 0 rfl) ?_
          obtain ⟨h1, h⟩ := h
          refine z_ist C hI 38 (by decide) kd_38 h1 d_M_takeParts_148 (fun S148 eS H locs hI => ?_)
          replace h := h S148 eS
          refine lv_aload_n hx hb d_M_takeParts_149 rfl (lv_at hl 2 rfl) ?_
          refine z_getR C hI 31 (by decide) kd_31 cl_M iw_M 13 (by decide) k_fl_M_36 rfl d_M_takeParts_150 ?_
          refine lv_iload hx hb d_M_takeParts_153 (lv_at hl 0 rfl) ?_
          refine lv_iload_n hx hb d_M_takeParts_155 rfl (lv_at hl 4 rfl) ?_
          refine lv_aload_n hx hb d_M_takeParts_156 rfl (lv_at hl 2 rfl) ?_
          refine z_getR C hI 31 (by decide) kd_31 cl_M iw_M 13 (by decide) k_fl_M_36 rfl d_M_takeParts_157 ?_
          refine lv_iload hx hb d_M_takeParts_160 (lv_at hl 0 rfl) ?_
          obtain ⟨h1, h⟩ := h
          refine z_ild C hI 39 (by decide) kd_39 h1 d_M_takeParts_162 ?_
          refine lv_icmp_ge (tgt := 170) hx hb d_M_takeParts_163 (by decide) (fun q => ?_) (fun q => ?_)
          · replace h := h.1 q
            refine lv_aload_n hx hb d_M_takeParts_170 rfl (lv_at hl 2 rfl) ?_
            refine z_getR C hI 31 (by decide) kd_31 cl_M iw_M 13 (by decide) k_fl_M_36 rfl d_M_takeParts_171 ?_
            refine lv_iload hx hb d_M_takeParts_174 (lv_at hl 0 rfl) ?_
            obtain ⟨h1, h⟩ := h
            refine z_ild C hI 39 (by decide) kd_39 h1 d_M_takeParts_176 ?_
            exact w_M_takeParts_177 C hcs _ _ v1 v2 x139 (S148 39 (z_ix x139)) x139 hR (fun v2 S H locs ls h hI hl => ih v2 S H locs ls hI hl h) S148 _ _ ls hI (lv_sub hl [2, 3, 4, 0] rfl) h
          · replace h := h.2 q
            refine lv_iload_n hx hb d_M_takeParts_166 rfl (lv_at hl 4 rfl) ?_
            refine lv_goto (tgt := 177) hx hb d_M_takeParts_167 (by decide) ?_
            exact w_M_takeParts_177 C hcs _ _ v1 v2 x139 v2 x139 hR (fun v2 S H locs ls h hI hl => ih v2 S H locs ls hI hl h) S148 _ _ ls hI (lv_sub hl [2, 3, 4, 0] rfl) h
      · replace h := h.2 q
        refine lv_aload_n hx hb d_M_takeParts_55 rfl (lv_at hl 1 rfl) ?_
        refine z_getR C hI 31 (by decide) kd_31 cl_M iw_M 11 (by decide) k_fl_M_33 rfl d_M_takeParts_56 ?_
        refine lv_iload_n hx hb d_M_takeParts_59 rfl (lv_at hl 0 rfl) ?_
        refine lv_aload_n hx hb d_M_takeParts_60 rfl (lv_at hl 1 rfl) ?_
        refine z_getI C hI 31 (by decide) kd_31 cl_M iw_M 12 (by decide) k_fl_M_116 rfl d_M_takeParts_61 ?_
        obtain ⟨h1, h⟩ := h
        refine z_ist C hI 38 (by decide) kd_38 h1 d_M_takeParts_64 (fun S64 eS H locs hI => ?_)
        replace h := h S64 eS
        refine lv_aload_n hx hb d_M_takeParts_65 rfl (lv_at hl 1 rfl) ?_
        refine z_getR C hI 31 (by decide) kd_31 cl_M iw_M 13 (by decide) k_fl_M_36 rfl d_M_takeParts_66 ?_
        refine lv_aload_n hx hb d_M_takeParts_69 rfl (lv_at hl 1 rfl) ?_
        refine z_getI C hI 31 (by decide) kd_31 cl_M iw_M 12 (by decide) k_fl_M_116 rfl d_M_takeParts_70 ?_
        refine lv_iload_n hx hb d_M_takeParts_73 rfl (lv_at hl 3 rfl) ?_
        obtain ⟨h1, h⟩ := h
        refine z_ist C hI 39 (by decide) kd_39 h1 d_M_takeParts_74 (fun S74 eS H locs hI => ?_)
        replace h := h S74 eS
        refine lv_aload_n hx hb d_M_takeParts_75 rfl (lv_at hl 1 rfl) ?_
        refine z_getR C hI 31 (by decide) kd_31 cl_M iw_M 15 (by decide) k_fl_M_42 rfl d_M_takeParts_76 ?_
        refine lv_aload_n hx hb d_M_takeParts_79 rfl (lv_at hl 1 rfl) ?_
        refine z_getI C hI 31 (by decide) kd_31 cl_M iw_M 12 (by decide) k_fl_M_116 rfl d_M_takeParts_80 ?_
        refine lv_iload_n hx hb d_M_takeParts_83 rfl (lv_at hl 3 rfl) ?_
        obtain ⟨h1, h⟩ := h
        refine z_ist C hI 41 (by decide) kd_41 h1 d_M_takeParts_84 (fun S84 eS H locs hI => ?_)
        replace h := h S84 eS
        refine lv_aload_n hx hb d_M_takeParts_85 rfl (lv_at hl 1 rfl) ?_
        refine z_getR C hI 31 (by decide) kd_31 cl_M iw_M 14 (by decide) k_fl_M_39 rfl d_M_takeParts_86 ?_
        refine lv_aload_n hx hb d_M_takeParts_89 rfl (lv_at hl 1 rfl) ?_
        refine z_getI C hI 31 (by decide) kd_31 cl_M iw_M 12 (by decide) k_fl_M_116 rfl d_M_takeParts_90 ?_
        refine lv_iload_n hx hb d_M_takeParts_93 rfl (lv_at hl 2 rfl) ?_
        obtain ⟨h1, h⟩ := h
        refine z_ist C hI 40 (by decide) kd_40 h1 d_M_takeParts_94 (fun S94 eS H locs hI => ?_)
        replace h := h S94 eS
        refine lv_aload_n hx hb d_M_takeParts_95 rfl (lv_at hl 1 rfl) ?_
        refine z_getR C hI 31 (by decide) kd_31 cl_M iw_M 16 (by decide) k_fl_M_45 rfl d_M_takeParts_96 ?_
        refine lv_aload_n hx hb d_M_takeParts_99 rfl (lv_at hl 1 rfl) ?_
        refine z_getI C hI 31 (by decide) kd_31 cl_M iw_M 12 (by decide) k_fl_M_116 rfl d_M_takeParts_100 ?_
        refine lv_iload_n hx hb d_M_takeParts_103 rfl (lv_at hl 2 rfl) ?_
        obtain ⟨h1, h⟩ := h
        refine z_ist C hI 42 (by decide) kd_42 h1 d_M_takeParts_104 (fun S104 eS H locs hI => ?_)
        replace h := h S104 eS
        refine lv_aload_n hx hb d_M_takeParts_105 rfl (lv_at hl 1 rfl) ?_
        refine lv_dup hx hb d_M_takeParts_106 rfl ?_
        refine z_getI C hI 31 (by decide) kd_31 cl_M iw_M 12 (by decide) k_fl_M_116 rfl d_M_takeParts_107 ?_
        refine lv_iconst (v := 1) hx hb d_M_takeParts_110 (by decide) ?_
        refine lv_iadd hx hb d_M_takeParts_111 ?_
        refine z_putI C hI 31 (by decide) kd_31 cl_M iw_M ty_M ty_M_ok n_M 12 (by decide) k_fl_M_116 rfl rfl rfl d_M_takeParts_112 (fun S112 eS H locs hI => ?_)
        replace h := h S112 eS
        refine lv_goto (tgt := 215) hx hb d_M_takeParts_115 (by decide) ?_
        obtain ⟨x215, e215⟩ : ∃ y : Int32, y = v2 + 1 := ⟨_, rfl⟩
        replace h := h x215 e215
        refine lv_iinc (v := x215) (lv' := [(2, .int x215), (3, .int x37), (0, .ref (ad 31)), (1, .int v1)]) hx hb d_M_takeParts_215 hl (k := 3) rfl (by rw [e215]; rfl) (by decide) rfl (fun ls hl => ?_)
        refine lv_goto (tgt := 23) hx hb d_M_takeParts_218 (by decide) ?_
        exact ih x215 S112 _ _ ls hI (lv_sub hl [2, 3, 0] rfl) h
set_option maxHeartbeats 4000000 in
set_option maxRecDepth 100000 in
theorem w_M_takeParts_13 (C : z_CT p s m args c R_M b_M_takeParts 5 D cA 51 ad) (hcs : cells ≤ rm_M_takeParts.cells ∧ slots ≤ rm_M_takeParts.slots) (post : zS → Prop) (K227 : zS → Prop) (hR : z_Rv p l e rm_M_takeParts s m args below meth c Q b_M_takeParts D cA 51 ad post) (kK227 : ∀ (S : zS) (H : Heap) (locs : List Loc) (ls : Array Slot), K227 S → z_I D cA 51 ad s.heap S H locs → lv_has ls 5 [(0, .ref (ad 31))] → W p l e rm_M_takeParts s m args below meth c H locs cells slots Q (F0 m 227 ls [])) : ∀ (n : Nat) (v1 : Int32) (S : zS) (H : Heap) (locs : List Loc) (ls : Array Slot), z_I D cA 51 ad s.heap S H locs → lv_has ls 5 [(0, .ref (ad 31)), (1, .int v1)] → L_M_takeParts_13 post K227 n v1 S → W p l e rm_M_takeParts s m args below meth c H locs cells slots Q (F0 m 13 ls []) := by
  obtain ⟨hx, hb, hml, hown, hts, hK, hJ⟩ := id C
  intro n
  induction n with
  | zero => intro v1 S H locs ls hI hl h; exact h.elim
  | succ n ih =>
    intro v1 S H locs ls hI hl h
    rw [L_M_takeParts_13] at h
    refine lv_iload_n hx hb d_M_takeParts_13 rfl (lv_at hl 1 rfl) ?_
    refine lv_aload_n hx hb d_M_takeParts_14 rfl (lv_at hl 0 rfl) ?_
    refine z_getI C hI 31 (by decide) kd_31 cl_M iw_M 2 (by decide) k_fl_M_76 rfl d_M_takeParts_15 ?_
    refine lv_icmp_ge (tgt := 227) hx hb d_M_takeParts_18 (by decide) (fun q => ?_) (fun q => ?_)
    · replace h := h.1 q
      exact kK227 S _ _ ls h hI (lv_sub hl [0] rfl)
    · replace h := h.2 q
      refine lv_iconst (v := 0) hx hb d_M_takeParts_21 (by decide) ?_
      refine lv_istore_n (lv' := [(2, .int 0), (0, .ref (ad 31)), (1, .int v1)]) hx hb d_M_takeParts_22 rfl hl (by decide) rfl (fun ls hl => ?_)
      obtain ⟨k23, h⟩ := h
      refine w_M_takeParts_23 C hcs _ _ v1 hR (fun S23e H locs ls h hI hl => ?_) k23 0 S _ _ ls hI (lv_sub hl [1, 2, 0] rfl) h
      obtain ⟨x221, e221⟩ : ∃ y : Int32, y = v1 + 1 := ⟨_, rfl⟩
      replace h := h x221 e221
      refine lv_iinc (v := x221) (lv' := [(1, .int x221), (0, .ref (ad 31))]) hx hb d_M_takeParts_221 hl (k := 1) rfl (by rw [e221]; rfl) (by decide) rfl (fun ls hl => ?_)
      refine lv_goto (tgt := 13) hx hb d_M_takeParts_224 (by decide) ?_
      exact ih x221 S23e _ _ ls hI (lv_sub hl [1, 0] rfl) h
set_option maxHeartbeats 4000000 in
set_option maxRecDepth 100000 in
theorem w_M_takeParts_229 (C : z_CT p s m args c R_M b_M_takeParts 5 D cA 51 ad) (hcs : cells ≤ rm_M_takeParts.cells ∧ slots ≤ rm_M_takeParts.slots) (post : zS → Prop) (hR : z_Rv p l e rm_M_takeParts s m args below meth c Q b_M_takeParts D cA 51 ad post) : ∀ (n : Nat) (v1 : Int32) (S : zS) (H : Heap) (locs : List Loc) (ls : Array Slot), z_I D cA 51 ad s.heap S H locs → lv_has ls 5 [(0, .ref (ad 31)), (1, .int v1)] → L_M_takeParts_229 post n v1 S → W p l e rm_M_takeParts s m args below meth c H locs cells slots Q (F0 m 229 ls []) := by
  obtain ⟨hx, hb, hml, hown, hts, hK, hJ⟩ := id C
  intro n
  induction n with
  | zero => intro v1 S H locs ls hI hl h; exact h.elim
  | succ n ih =>
    intro v1 S H locs ls hI hl h
    rw [L_M_takeParts_229] at h
    refine lv_iload_n hx hb d_M_takeParts_229 rfl (lv_at hl 1 rfl) ?_
    refine lv_aload_n hx hb d_M_takeParts_230 rfl (lv_at hl 0 rfl) ?_
    refine z_getI C hI 31 (by decide) kd_31 cl_M iw_M 12 (by decide) k_fl_M_116 rfl d_M_takeParts_231 ?_
    refine lv_icmp_ge (tgt := 277) hx hb d_M_takeParts_234 (by decide) (fun q => ?_) (fun q => ?_)
    · replace h := h.1 q
      exact hR _ _ hcs S _ _ 277 ls h hI d_M_takeParts_277
    · replace h := h.2 q
      refine lv_aload_n hx hb d_M_takeParts_237 rfl (lv_at hl 0 rfl) ?_
      refine z_getR C hI 31 (by decide) kd_31 cl_M iw_M 17 (by decide) k_fl_M_48 rfl d_M_takeParts_238 ?_
      refine lv_iload_n hx hb d_M_takeParts_241 rfl (lv_at hl 1 rfl) ?_
      refine lv_aload_n hx hb d_M_takeParts_242 rfl (lv_at hl 0 rfl) ?_
      refine lv_aload_n hx hb d_M_takeParts_243 rfl (lv_at hl 0 rfl) ?_
      refine z_getR C hI 31 (by decide) kd_31 cl_M iw_M 13 (by decide) k_fl_M_36 rfl d_M_takeParts_244 ?_
      refine lv_iload_n hx hb d_M_takeParts_247 rfl (lv_at hl 1 rfl) ?_
      obtain ⟨h1, h⟩ := h
      refine z_ild C hI 39 (by decide) kd_39 h1 d_M_takeParts_248 ?_
      refine lv_aload_n hx hb d_M_takeParts_249 rfl (lv_at hl 0 rfl) ?_
      refine z_getR C hI 31 (by decide) kd_31 cl_M iw_M 14 (by decide) k_fl_M_39 rfl d_M_takeParts_250 ?_
      refine lv_iload_n hx hb d_M_takeParts_253 rfl (lv_at hl 1 rfl) ?_
      obtain ⟨h1, h⟩ := h
      refine z_ild C hI 40 (by decide) kd_40 h1 d_M_takeParts_254 ?_
      refine lv_aload_n hx hb d_M_takeParts_255 rfl (lv_at hl 0 rfl) ?_
      refine z_getR C hI 31 (by decide) kd_31 cl_M iw_M 15 (by decide) k_fl_M_42 rfl d_M_takeParts_256 ?_
      refine lv_iload_n hx hb d_M_takeParts_259 rfl (lv_at hl 1 rfl) ?_
      obtain ⟨h1, h⟩ := h
      refine z_ild C hI 41 (by decide) kd_41 h1 d_M_takeParts_260 ?_
      refine lv_aload_n hx hb d_M_takeParts_261 rfl (lv_at hl 0 rfl) ?_
      refine z_getR C hI 31 (by decide) kd_31 cl_M iw_M 16 (by decide) k_fl_M_45 rfl d_M_takeParts_262 ?_
      refine lv_iload_n hx hb d_M_takeParts_265 rfl (lv_at hl 1 rfl) ?_
      obtain ⟨h1, h⟩ := h
      refine z_ild C hI 42 (by decide) kd_42 h1 d_M_takeParts_266 ?_
      refine z_callVi C hI 31 (by decide) kd_31 cl_M (As := [.int (S 39 (z_ix v1)), .int (S 40 (z_ix v1)), .int (S 41 (z_ix v1)), .int (S 42 (z_ix v1))]) (rest := [.int v1, .ref (ad 43)]) (c_M_kindOf (S 39 (z_ix v1)) (S 40 (z_ix v1)) (S 41 (z_ix v1)) (S 42 (z_ix v1)) _ _ h) wc_M_kindOf k_ml_M_119 rfl rfl (Nat.le_of_ble_eq_true rfl) (Nat.le_of_ble_eq_true rfl) hcs hl.1 (Nat.le_of_ble_eq_true rfl) rfl d_M_takeParts_267 (fun r267 S267 H locs h hI => ?_)
      obtain ⟨h1, h⟩ := h
      refine z_ist C hI 43 (by decide) kd_43 h1 d_M_takeParts_270 (fun S270 eS H locs hI => ?_)
      replace h := h S270 eS
      obtain ⟨x271, e271⟩ : ∃ y : Int32, y = v1 + 1 := ⟨_, rfl⟩
      replace h := h x271 e271
      refine lv_iinc (v := x271) (lv' := [(1, .int x271), (0, .ref (ad 31))]) hx hb d_M_takeParts_271 hl (k := 1) rfl (by rw [e271]; rfl) (by decide) rfl (fun ls hl => ?_)
      refine lv_goto (tgt := 229) hx hb d_M_takeParts_274 (by decide) ?_
      exact ih x271 S270 _ _ ls hI (lv_sub hl [1, 0] rfl) h
set_option maxHeartbeats 4000000 in
set_option maxRecDepth 100000 in
theorem c_M_takeParts (S : zS) (post : zS → Prop) (h : P_M_takeParts S post) : z_ctv l D cA 51 ad y_M_takeParts b_M_takeParts 5 none rm_M_takeParts [.ref (ad 31)] S post := by
  refine z_metv (av := [.ref (ad 31)]) (by decide) (Nat.le_of_ble_eq_true rfl) ⟨rfl, rfl⟩ (fun p e s m args below meth c Q ls C hcs hl hI hR => ?_)
  obtain ⟨hx, hb, hml, hown, hts, hK, hJ⟩ := id C
  unfold P_M_takeParts at h
  have hl : lv_has ls 5 [(0, .ref (ad 31))] := hl
  refine lv_aload_n hx hb d_M_takeParts_0 rfl (lv_at hl 0 rfl) ?_
  refine lv_iconst (v := 1) hx hb d_M_takeParts_1 (by decide) ?_
  refine lv_iconst (v := 0) hx hb d_M_takeParts_2 (by decide) ?_
  refine z_callVv C hI 31 (by decide) kd_31 cl_M (As := [.int 1, .int 0]) (rest := []) (c_M_group 1 0 _ _ h) wc_M_group k_ml_M_105 rfl rfl (Nat.le_of_ble_eq_true rfl) (Nat.le_of_ble_eq_true rfl) hcs hl.1 (Nat.le_of_ble_eq_true rfl) rfl d_M_takeParts_3 (fun S3 H locs h hI => ?_)
  refine lv_aload_n hx hb d_M_takeParts_6 rfl (lv_at hl 0 rfl) ?_
  refine lv_iconst (v := 0) hx hb d_M_takeParts_7 (by decide) ?_
  refine z_putI C hI 31 (by decide) kd_31 cl_M iw_M ty_M ty_M_ok n_M 12 (by decide) k_fl_M_116 rfl rfl rfl d_M_takeParts_8 (fun S8 eS H locs hI => ?_)
  replace h := h S8 eS
  refine lv_iconst (v := 0) hx hb d_M_takeParts_11 (by decide) ?_
  refine lv_istore_n (lv' := [(1, .int 0), (0, .ref (ad 31))]) hx hb d_M_takeParts_12 rfl hl (by decide) rfl (fun ls hl => ?_)
  obtain ⟨k13, h⟩ := h
  refine w_M_takeParts_13 C hcs _ _ hR (fun S13e H locs ls h hI hl => ?_) k13 0 S8 _ _ ls hI (lv_sub hl [1, 0] rfl) h
  refine lv_iconst (v := 0) hx hb d_M_takeParts_227 (by decide) ?_
  refine lv_istore_n (lv' := [(1, .int 0), (0, .ref (ad 31))]) hx hb d_M_takeParts_228 rfl hl (by decide) rfl (fun ls hl => ?_)
  obtain ⟨k229, h⟩ := h
  refine w_M_takeParts_229 C hcs _ hR k229 0 S13e _ _ ls hI (lv_sub hl [1, 0] rfl) h
end ZW
