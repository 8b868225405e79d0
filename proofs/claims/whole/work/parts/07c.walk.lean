section ZW
variable {p : Program} {l : Launch} {e : Env} {s : State} {m : MethodId} {args : Array Value} {below : List Frame} {meth : Method} {c : Code} {cells slots : Nat} {Q : State → Prop} {D : va_G} {cA : Nat → ClassId} {n : Nat} {ad : Nat → Nat}
set_option maxHeartbeats 4000000 in
set_option maxRecDepth 100000 in
theorem w_R_lookAlong_9 (C : z_CT p s m args c R_R b_R_lookAlong 10 D cA 51 ad) (hcs : cells ≤ rm_R_lookAlong.cells ∧ slots ≤ rm_R_lookAlong.slots) (fa : Nat) (la : Nat) (hfa : z_A fa) (hla : z_A la) (post : zS → Prop) (K65 : Int32 → Int32 → zS → Prop) (v4 : Int32) (v5 : Int32) (hR : z_Rv p l e rm_R_lookAlong s m args below meth c Q b_R_lookAlong D cA 51 ad post) (kK65 : ∀ (v6 : Int32) (v7 : Int32) (S : zS) (H : Heap) (locs : List Loc) (ls : Array Slot), K65 v6 v7 S → z_I D cA 51 ad s.heap S H locs → lv_has ls 10 [(0, .ref (ad 27)), (5, .int v5), (6, .int v6), (7, .int v7)] → W p l e rm_R_lookAlong s m args below meth c H locs cells slots Q (F0 m 65 ls [])) : ∀ (n : Nat) (v6 : Int32) (v7 : Int32) (v8 : Int32) (S : zS) (H : Heap) (locs : List Loc) (ls : Array Slot), z_I D cA 51 ad s.heap S H locs → lv_has ls 10 [(0, .ref (ad 27)), (1, .ref (ad fa)), (2, .ref (ad la)), (4, .int v4), (5, .int v5), (6, .int v6), (7, .int v7), (8, .int v8)] → L_R_lookAlong_9 fa la post K65 v4 v5 n v6 v7 v8 S → W p l e rm_R_lookAlong s m args below meth c H locs cells slots Q (F0 m 9 ls []) := by
  obtain ⟨hx, hb, hml, hown, hts, hK, hJ⟩ := id C
  intro n
  induction n with
  | zero => intro v6 v7 v8 S H locs ls hI hl h; exact h.elim
  | succ n ih =>
    intro v6 v7 v8 S H locs ls hI hl h
    rw [L_R_lookAlong_9] at h
    refine lv_iload hx hb d_R_lookAlong_9 (lv_at hl 7 rfl) ?_
    refine lv_iload hx hb d_R_lookAlong_11 (lv_at hl 3 rfl) ?_
    refine lv_icmp_ge (tgt := 65) hx hb d_R_lookAlong_13 (by decide) (fun q => ?_) (fun q => ?_)
    · replace h := h.1 q
      exact kK65 v6 v7 S _ _ ls h hI (lv_sub hl [0, 4, 5, 6] rfl)
    · replace h := h.2 q
      refine lv_aload_n hx hb d_R_lookAlong_16 rfl (lv_at hl 0 rfl) ?_
      refine z_getR C hI 27 (by decide) kd_27 cl_R iw_R 0 (by decide) k_fl_R_9 rfl d_R_lookAlong_17 ?_
      refine lv_iload hx hb d_R_lookAlong_20 (lv_at hl 7 rfl) ?_
      obtain ⟨h1, h⟩ := h
      refine z_ild C hI 28 (by decide) kd_28 h1 d_R_lookAlong_22 ?_
      refine lv_topi (fun x23 e23 => ?_)
      replace h := h x23 e23
      refine lv_istore (lv' := [(9, .int x23), (0, .ref (ad 27)), (1, .ref (ad fa)), (2, .ref (ad la)), (4, .int v4), (5, .int v5), (6, .int v6), (7, .int v7), (8, .int v8)]) hx hb d_R_lookAlong_23 hl (by decide) rfl (fun ls hl => ?_)
      refine lv_iload hx hb d_R_lookAlong_25 (lv_at hl 6 rfl) ?_
      refine lv_aload_n hx hb d_R_lookAlong_27 rfl (lv_at hl 2 rfl) ?_
      refine lv_iload hx hb d_R_lookAlong_28 (lv_at hl 0 rfl) ?_
      obtain ⟨h1, h⟩ := h
      refine z_ild C hI fa hfa.1 hfa.2 h1 d_R_lookAlong_30 ?_
      refine lv_aload_n hx hb d_R_lookAlong_31 rfl (lv_at hl 3 rfl) ?_
      refine lv_iload hx hb d_R_lookAlong_32 (lv_at hl 0 rfl) ?_
      obtain ⟨h1, h⟩ := h
      refine z_ild C hI la hla.1 hla.2 h1 d_R_lookAlong_34 ?_
      refine z_callSi C hI (As := [.int (S fa (z_ix x23)), .int (S la (z_ix x23))]) (rest := [.int v6]) (c_R_bits (S fa (z_ix x23)) (S la (z_ix x23)) _ _ h) wc_R_bits k_ml_R_61 rfl rfl (Nat.le_of_ble_eq_true rfl) (Nat.le_of_ble_eq_true rfl) hcs hl.1 (Nat.le_of_ble_eq_true rfl) rfl d_R_lookAlong_35 (fun r35 S35 H locs h hI => ?_)
      refine lv_ior hx hb d_R_lookAlong_38 ?_
      refine lv_topi (fun x39 e39 => ?_)
      replace h := h x39 e39
      refine lv_istore (lv' := [(6, .int x39), (9, .int x23), (0, .ref (ad 27)), (1, .ref (ad fa)), (2, .ref (ad la)), (4, .int v4), (5, .int v5), (7, .int v7), (8, .int v8)]) hx hb d_R_lookAlong_39 hl (by decide) rfl (fun ls hl => ?_)
      refine lv_iload hx hb d_R_lookAlong_41 (lv_at hl 7 rfl) ?_
      refine lv_aload_n hx hb d_R_lookAlong_43 rfl (lv_at hl 3 rfl) ?_
      refine lv_iload hx hb d_R_lookAlong_44 (lv_at hl 1 rfl) ?_
      obtain ⟨h1, h⟩ := h
      refine z_ild C hI fa hfa.1 hfa.2 h1 d_R_lookAlong_46 ?_
      refine lv_iconst (v := 1) hx hb d_R_lookAlong_47 (by decide) ?_
      refine lv_iadd hx hb d_R_lookAlong_48 ?_
      refine lv_aload_n hx hb d_R_lookAlong_49 rfl (lv_at hl 4 rfl) ?_
      refine lv_iload hx hb d_R_lookAlong_50 (lv_at hl 1 rfl) ?_
      obtain ⟨h1, h⟩ := h
      refine z_ild C hI la hla.1 hla.2 h1 d_R_lookAlong_52 ?_
      refine z_callSi C hI (As := [.int ((S35 fa (z_ix x23)) + 1), .int (S35 la (z_ix x23))]) (rest := [.int v7]) (c_R_bits ((S35 fa (z_ix x23)) + 1) (S35 la (z_ix x23)) _ _ h) wc_R_bits k_ml_R_61 rfl rfl (Nat.le_of_ble_eq_true rfl) (Nat.le_of_ble_eq_true rfl) hcs hl.1 (Nat.le_of_ble_eq_true rfl) rfl d_R_lookAlong_53 (fun r53 S53 H locs h hI => ?_)
      refine lv_ior hx hb d_R_lookAlong_56 ?_
      refine lv_topi (fun x57 e57 => ?_)
      replace h := h x57 e57
      refine lv_istore (lv' := [(7, .int x57), (6, .int x39), (9, .int x23), (0, .ref (ad 27)), (1, .ref (ad fa)), (2, .ref (ad la)), (4, .int v4), (5, .int v5), (8, .int v8)]) hx hb d_R_lookAlong_57 hl (by decide) rfl (fun ls hl => ?_)
      obtain ⟨x59, e59⟩ : ∃ y : Int32, y = v8 + 1 := ⟨_, rfl⟩
      replace h := h x59 e59
      refine lv_iinc (v := x59) (lv' := [(8, .int x59), (7, .int x57), (6, .int x39), (9, .int x23), (0, .ref (ad 27)), (1, .ref (ad fa)), (2, .ref (ad la)), (4, .int v4), (5, .int v5)]) hx hb d_R_lookAlong_59 hl (k := 8) rfl (by rw [e59]; rfl) (by decide) rfl (fun ls hl => ?_)
      refine lv_goto (tgt := 9) hx hb d_R_lookAlong_62 (by decide) ?_
      exact ih x39 x57 x59 S53 _ _ ls hI (lv_sub hl [4, 5, 6, 7, 8, 2, 1, 0] rfl) h
set_option maxHeartbeats 4000000 in
set_option maxRecDepth 100000 in
theorem w_R_lookAlong_140 (C : z_CT p s m args c R_R b_R_lookAlong 10 D cA 51 ad) (hcs : cells ≤ rm_R_lookAlong.cells ∧ slots ≤ rm_R_lookAlong.slots) (fa : Nat) (la : Nat) (hfa : z_A fa) (hla : z_A la) (post : zS → Prop) (K71 : Int32 → Int32 → zS → Prop) (v5 : Int32) (v6 : Int32) (v7 : Int32) (v9 : Int32) (hR : z_Rv p l e rm_R_lookAlong s m args below meth c Q b_R_lookAlong D cA 51 ad post) (kK71 : ∀ (v8 : Int32) (v9 : Int32) (S : zS) (H : Heap) (locs : List Loc) (ls : Array Slot), K71 v8 v9 S → z_I D cA 51 ad s.heap S H locs → lv_has ls 10 [(0, .ref (ad 27)), (5, .int v5), (6, .int v6), (7, .int v7), (8, .int v8), (9, .int v9)] → W p l e rm_R_lookAlong s m args below meth c H locs cells slots Q (F0 m 71 ls [])) (S : zS) (H : Heap) (locs : List Loc) (ls : Array Slot) (hI : z_I D cA 51 ad s.heap S H locs) (hl : lv_has ls 10 [(0, .ref (ad 27)), (5, .int v5), (6, .int v6), (7, .int v7), (9, .int v9)]) (h : J_R_lookAlong_140 fa la post K71 v5 v6 v7 v9 S) : W p l e rm_R_lookAlong s m args below meth c H locs cells slots Q (F0 m 140 ls []) := by
  obtain ⟨hx, hb, hml, hown, hts, hK, hJ⟩ := id C
  unfold J_R_lookAlong_140 at h
  refine lv_iload hx hb d_R_lookAlong_140 (lv_at hl 4 rfl) ?_
  refine lv_iconst (v := 1) hx hb d_R_lookAlong_142 (by decide) ?_
  refine lv_iadd hx hb d_R_lookAlong_143 ?_
  refine lv_topi (fun x144 e144 => ?_)
  replace h := h x144 e144
  refine lv_istore (lv' := [(8, .int x144), (0, .ref (ad 27)), (5, .int v5), (6, .int v6), (7, .int v7), (9, .int v9)]) hx hb d_R_lookAlong_144 hl (by decide) rfl (fun ls hl => ?_)
  obtain ⟨x146, e146⟩ : ∃ y : Int32, y = v9 + 1 := ⟨_, rfl⟩
  replace h := h x146 e146
  refine lv_iinc (v := x146) (lv' := [(9, .int x146), (8, .int x144), (0, .ref (ad 27)), (5, .int v5), (6, .int v6), (7, .int v7)]) hx hb d_R_lookAlong_146 hl (k := 5) rfl (by rw [e146]; rfl) (by decide) rfl (fun ls hl => ?_)
  refine lv_goto (tgt := 71) hx hb d_R_lookAlong_149 (by decide) ?_
  exact kK71 x144 x146 S _ _ ls h hI (lv_sub hl [2, 3, 4, 5, 1, 0] rfl)
set_option maxHeartbeats 4000000 in
set_option maxRecDepth 100000 in
theorem w_R_lookAlong_71 (C : z_CT p s m args c R_R b_R_lookAlong 10 D cA 51 ad) (hcs : cells ≤ rm_R_lookAlong.cells ∧ slots ≤ rm_R_lookAlong.slots) (fa : Nat) (la : Nat) (hfa : z_A fa) (hla : z_A la) (post : zS → Prop) (v5 : Int32) (v6 : Int32) (v7 : Int32) (hR : z_Rv p l e rm_R_lookAlong s m args below meth c Q b_R_lookAlong D cA 51 ad post) : ∀ (n : Nat) (v8 : Int32) (v9 : Int32) (S : zS) (H : Heap) (locs : List Loc) (ls : Array Slot), z_I D cA 51 ad s.heap S H locs → lv_has ls 10 [(0, .ref (ad 27)), (5, .int v5), (6, .int v6), (7, .int v7), (8, .int v8), (9, .int v9)] → L_R_lookAlong_71 fa la post v5 v6 v7 n v8 v9 S → W p l e rm_R_lookAlong s m args below meth c H locs cells slots Q (F0 m 71 ls []) := by
  obtain ⟨hx, hb, hml, hown, hts, hK, hJ⟩ := id C
  intro n
  induction n with
  | zero => intro v8 v9 S H locs ls hI hl h; exact h.elim
  | succ n ih =>
    intro v8 v9 S H locs ls hI hl h
    rw [L_R_lookAlong_71] at h
    refine lv_iload hx hb d_R_lookAlong_71 (lv_at hl 5 rfl) ?_
    refine lv_bipush (v := 24) hx hb d_R_lookAlong_73 (by decide) ?_
    refine lv_icmp_ge (tgt := 152) hx hb d_R_lookAlong_75 (by decide) (fun q => ?_) (fun q => ?_)
    · replace h := h.1 q
      exact hR _ _ hcs S _ _ 152 ls h hI d_R_lookAlong_152
    · replace h := h.2 q
      refine lv_iload hx hb d_R_lookAlong_78 (lv_at hl 2 rfl) ?_
      refine lv_iload hx hb d_R_lookAlong_80 (lv_at hl 5 rfl) ?_
      refine z_callSi C hI (As := [.int v6, .int v9]) (rest := []) (c_R_hasBit v6 v9 _ _ h) wc_R_hasBit k_ml_R_65 rfl rfl (Nat.le_of_ble_eq_true rfl) (Nat.le_of_ble_eq_true rfl) hcs hl.1 (Nat.le_of_ble_eq_true rfl) rfl d_R_lookAlong_82 (fun r82 S82 H locs h hI => ?_)
      refine lv_if_ne (tgt := 91) hx hb d_R_lookAlong_85 (by decide) (fun q => ?_) (fun q => ?_)
      · replace h := h.1 q
        refine lv_iload hx hb d_R_lookAlong_91 (lv_at hl 4 rfl) ?_
        refine lv_iconst (v := (-1)) hx hb d_R_lookAlong_93 (by decide) ?_
        refine lv_icmp_eq (tgt := 140) hx hb d_R_lookAlong_94 (by decide) (fun q => ?_) (fun q => ?_)
        · replace h := h.1 q
          exact w_R_lookAlong_140 C hcs fa la hfa hla _ _ v5 v6 v7 v9 hR (fun v8 v9 S H locs ls h hI hl => ih v8 v9 S H locs ls hI hl h) S82 _ _ ls hI (lv_sub hl [0, 1, 2, 3, 5] rfl) h
        · replace h := h.2 q
          refine lv_iload hx hb d_R_lookAlong_97 (lv_at hl 3 rfl) ?_
          refine lv_iload hx hb d_R_lookAlong_99 (lv_at hl 5 rfl) ?_
          refine z_callSi C hI (As := [.int v7, .int v9]) (rest := []) (c_R_hasBit v7 v9 _ _ h) wc_R_hasBit k_ml_R_65 rfl rfl (Nat.le_of_ble_eq_true rfl) (Nat.le_of_ble_eq_true rfl) hcs hl.1 (Nat.le_of_ble_eq_true rfl) rfl d_R_lookAlong_101 (fun r101 S101 H locs h hI => ?_)
          refine lv_if_ne (tgt := 140) hx hb d_R_lookAlong_104 (by decide) (fun q => ?_) (fun q => ?_)
          · replace h := h.1 q
            exact w_R_lookAlong_140 C hcs fa la hfa hla _ _ v5 v6 v7 v9 hR (fun v8 v9 S H locs ls h hI hl => ih v8 v9 S H locs ls hI hl h) S101 _ _ ls hI (lv_sub hl [0, 1, 2, 3, 5] rfl) h
          · replace h := h.2 q
            refine lv_iload hx hb d_R_lookAlong_107 (lv_at hl 5 rfl) ?_
            refine lv_iload hx hb d_R_lookAlong_109 (lv_at hl 4 rfl) ?_
            refine lv_isub hx hb d_R_lookAlong_111 ?_
            refine lv_aload_n hx hb d_R_lookAlong_112 rfl (lv_at hl 0 rfl) ?_
            refine z_getI C hI 27 (by decide) kd_27 cl_R iw_R 4 (by decide) k_fl_R_48 rfl d_R_lookAlong_113 ?_
            refine lv_icmp_le (tgt := 140) hx hb d_R_lookAlong_116 (by decide) (fun q => ?_) (fun q => ?_)
            · replace h := h.1 q
              exact w_R_lookAlong_140 C hcs fa la hfa hla _ _ v5 v6 v7 v9 hR (fun v8 v9 S H locs ls h hI hl => ih v8 v9 S H locs ls hI hl h) S101 _ _ ls hI (lv_sub hl [0, 1, 2, 3, 5] rfl) h
            · replace h := h.2 q
              refine lv_aload_n hx hb d_R_lookAlong_119 rfl (lv_at hl 0 rfl) ?_
              refine lv_iload hx hb d_R_lookAlong_120 (lv_at hl 5 rfl) ?_
              refine lv_iload hx hb d_R_lookAlong_122 (lv_at hl 4 rfl) ?_
              refine lv_isub hx hb d_R_lookAlong_124 ?_
              refine z_putI C hI 27 (by decide) kd_27 cl_R iw_R ty_R ty_R_ok n_R 4 (by decide) k_fl_R_48 rfl rfl rfl d_R_lookAlong_125 (fun S125 eS H locs hI => ?_)
              replace h := h S125 eS
              refine lv_aload_n hx hb d_R_lookAlong_128 rfl (lv_at hl 0 rfl) ?_
              refine lv_iload hx hb d_R_lookAlong_129 (lv_at hl 5 rfl) ?_
              refine z_putI C hI 27 (by decide) kd_27 cl_R iw_R ty_R ty_R_ok n_R 3 (by decide) k_fl_R_69 rfl rfl rfl d_R_lookAlong_131 (fun S131 eS H locs hI => ?_)
              replace h := h S131 eS
              refine lv_aload_n hx hb d_R_lookAlong_134 rfl (lv_at hl 0 rfl) ?_
              refine lv_iload hx hb d_R_lookAlong_135 (lv_at hl 1 rfl) ?_
              obtain ⟨h1, h⟩ := h
              refine z_putZ C hI 27 (by decide) kd_27 cl_R iw_R ty_R ty_R_ok n_R 5 (by decide) k_fl_R_72 rfl rfl rfl h1 d_R_lookAlong_137 (fun S137 eS H locs hI => ?_)
              replace h := h S137 eS
              exact w_R_lookAlong_140 C hcs fa la hfa hla _ _ v5 v6 v7 v9 hR (fun v8 v9 S H locs ls h hI hl => ih v8 v9 S H locs ls hI hl h) S137 _ _ ls hI (lv_sub hl [0, 1, 2, 3, 5] rfl) h
      · replace h := h.2 q
        refine lv_goto (tgt := 146) hx hb d_R_lookAlong_88 (by decide) ?_
        obtain ⟨x146, e146⟩ : ∃ y : Int32, y = v9 + 1 := ⟨_, rfl⟩
        replace h := h x146 e146
        refine lv_iinc (v := x146) (lv' := [(9, .int x146), (0, .ref (ad 27)), (5, .int v5), (6, .int v6), (7, .int v7), (8, .int v8)]) hx hb d_R_lookAlong_146 hl (k := 5) rfl (by rw [e146]; rfl) (by decide) rfl (fun ls hl => ?_)
        refine lv_goto (tgt := 71) hx hb d_R_lookAlong_149 (by decide) ?_
        exact ih v8 x146 S82 _ _ ls hI (lv_sub hl [1, 2, 3, 4, 5, 0] rfl) h
set_option maxHeartbeats 4000000 in
set_option maxRecDepth 100000 in
theorem c_R_lookAlong (fa : Nat) (la : Nat) (hfa : z_A fa) (hla : z_A la) (v3 : Int32) (v4 : Int32) (v5 : Int32) (S : zS) (post : zS → Prop) (h : P_R_lookAlong fa la v3 v4 v5 S post) : z_ctv l D cA 51 ad y_R_lookAlong b_R_lookAlong 10 none rm_R_lookAlong [.ref (ad 27), .ref (ad fa), .ref (ad la), .int v3, .int v4, .int v5] S post := by
  refine z_metv (av := [.ref (ad 27), .ref (ad fa), .ref (ad la), .int v3, .int v4, .int v5]) (by decide) (Nat.le_of_ble_eq_true rfl) ⟨rfl, rfl⟩ (fun p e s m args below meth c Q ls C hcs hl hI hR => ?_)
  obtain ⟨hx, hb, hml, hown, hts, hK, hJ⟩ := id C
  unfold P_R_lookAlong at h
  have hl : lv_has ls 10 [(0, .ref (ad 27)), (1, .ref (ad fa)), (2, .ref (ad la)), (3, .int v3), (4, .int v4), (5, .int v5)] := hl
  refine lv_iconst (v := 0) hx hb d_R_lookAlong_0 (by decide) ?_
  refine lv_istore (lv' := [(6, .int 0), (0, .ref (ad 27)), (1, .ref (ad fa)), (2, .ref (ad la)), (3, .int v3), (4, .int v4), (5, .int v5)]) hx hb d_R_lookAlong_1 hl (by decide) rfl (fun ls hl => ?_)
  refine lv_iconst (v := 0) hx hb d_R_lookAlong_3 (by decide) ?_
  refine lv_istore (lv' := [(7, .int 0), (6, .int 0), (0, .ref (ad 27)), (1, .ref (ad fa)), (2, .ref (ad la)), (3, .int v3), (4, .int v4), (5, .int v5)]) hx hb d_R_lookAlong_4 hl (by decide) rfl (fun ls hl => ?_)
  refine lv_iload_n hx hb d_R_lookAlong_6 rfl (lv_at hl 5 rfl) ?_
  refine lv_istore (lv' := [(8, .int v3), (7, .int 0), (6, .int 0), (0, .ref (ad 27)), (1, .ref (ad fa)), (2, .ref (ad la)), (3, .int v3), (4, .int v4), (5, .int v5)]) hx hb d_R_lookAlong_7 hl (by decide) rfl (fun ls hl => ?_)
  obtain ⟨k9, h⟩ := h
  refine w_R_lookAlong_9 C hcs fa la hfa hla _ _ v4 v5 hR (fun v6_9e v7_9e S9e H locs ls h hI hl => ?_) k9 0 0 v3 S _ _ ls hI (lv_sub hl [3, 4, 5, 7, 8, 2, 1, 0] rfl) h
  refine lv_iconst (v := (-1)) hx hb d_R_lookAlong_65 (by decide) ?_
  refine lv_istore (lv' := [(8, .int (-1)), (0, .ref (ad 27)), (5, .int v5), (6, .int v6_9e), (7, .int v7_9e)]) hx hb d_R_lookAlong_66 hl (by decide) rfl (fun ls hl => ?_)
  refine lv_iconst (v := 0) hx hb d_R_lookAlong_68 (by decide) ?_
  refine lv_istore (lv' := [(9, .int 0), (8, .int (-1)), (0, .ref (ad 27)), (5, .int v5), (6, .int v6_9e), (7, .int v7_9e)]) hx hb d_R_lookAlong_69 hl (by decide) rfl (fun ls hl => ?_)
  obtain ⟨k71, h⟩ := h
  refine w_R_lookAlong_71 C hcs fa la hfa hla _ v5 v6_9e v7_9e hR k71 (-1) 0 S9e _ _ ls hI (lv_sub hl [2, 3, 4, 5, 1, 0] rfl) h
set_option maxHeartbeats 4000000 in
set_option maxRecDepth 100000 in
theorem c_R_findCut (v2 : Int32) (v3 : Int32) (S : zS) (post : Int32 → zS → Prop) (h : P_R_findCut v2 v3 S post) : z_cti l D cA 51 ad y_R_findCut b_R_findCut 4 (some .boolean) rm_R_findCut [.ref (ad 27), .ref (ad 5), .int v2, .int v3] S post := by
  refine z_metz (av := [.ref (ad 27), .ref (ad 5), .int v2, .int v3]) (by decide) (Nat.le_of_ble_eq_true rfl) ⟨rfl, rfl⟩ (fun p e s m args below meth c Q ls C hcs hl hI hR => ?_)
  obtain ⟨hx, hb, hml, hown, hts, hK, hJ⟩ := id C
  unfold P_R_findCut at h
  have hl : lv_has ls 4 [(0, .ref (ad 27)), (1, .ref (ad 5)), (2, .int v2), (3, .int v3)] := hl
  refine lv_aload_n hx hb d_R_findCut_0 rfl (lv_at hl 0 rfl) ?_
  refine lv_iconst (v := (-1)) hx hb d_R_findCut_1 (by decide) ?_
  refine z_putI C hI 27 (by decide) kd_27 cl_R iw_R ty_R ty_R_ok n_R 4 (by decide) k_fl_R_48 rfl rfl rfl d_R_findCut_2 (fun S2 eS H locs hI => ?_)
  replace h := h S2 eS
  refine lv_aload_n hx hb d_R_findCut_5 rfl (lv_at hl 0 rfl) ?_
  refine lv_aload_n hx hb d_R_findCut_6 rfl (lv_at hl 1 rfl) ?_
  refine z_getR C hI 5 (by decide) kd_5 cl_G iw_G 1 (by decide) k_fl_R_45 rfl d_R_findCut_7 ?_
  refine lv_aload_n hx hb d_R_findCut_10 rfl (lv_at hl 1 rfl) ?_
  refine z_getR C hI 5 (by decide) kd_5 cl_G iw_G 3 (by decide) k_fl_R_51 rfl d_R_findCut_11 ?_
  refine lv_iload_n hx hb d_R_findCut_14 rfl (lv_at hl 2 rfl) ?_
  refine lv_iload_n hx hb d_R_findCut_15 rfl (lv_at hl 3 rfl) ?_
  refine lv_iconst (v := 0) hx hb d_R_findCut_16 (by decide) ?_
  refine z_callVv C hI 27 (by decide) kd_27 cl_R (As := [.ref (ad 7), .ref (ad 9), .int v2, .int v3, .int 0]) (rest := []) (c_R_lookAlong 7 9 z_A_7 z_A_9 v2 v3 0 _ _ h) wc_R_lookAlong k_ml_R_54 rfl rfl (Nat.le_of_ble_eq_true rfl) (Nat.le_of_ble_eq_true rfl) hcs hl.1 (Nat.le_of_ble_eq_true rfl) rfl d_R_findCut_17 (fun S17 H locs h hI => ?_)
  refine lv_aload_n hx hb d_R_findCut_20 rfl (lv_at hl 0 rfl) ?_
  refine lv_aload_n hx hb d_R_findCut_21 rfl (lv_at hl 1 rfl) ?_
  refine z_getR C hI 5 (by decide) kd_5 cl_G iw_G 2 (by decide) k_fl_R_42 rfl d_R_findCut_22 ?_
  refine lv_aload_n hx hb d_R_findCut_25 rfl (lv_at hl 1 rfl) ?_
  refine z_getR C hI 5 (by decide) kd_5 cl_G iw_G 4 (by decide) k_fl_R_58 rfl d_R_findCut_26 ?_
  refine lv_iload_n hx hb d_R_findCut_29 rfl (lv_at hl 2 rfl) ?_
  refine lv_iload_n hx hb d_R_findCut_30 rfl (lv_at hl 3 rfl) ?_
  refine lv_iconst (v := 1) hx hb d_R_findCut_31 (by decide) ?_
  refine z_callVv C hI 27 (by decide) kd_27 cl_R (As := [.ref (ad 8), .ref (ad 10), .int v2, .int v3, .int 1]) (rest := []) (c_R_lookAlong 8 10 z_A_8 z_A_10 v2 v3 1 _ _ h) wc_R_lookAlong k_ml_R_54 rfl rfl (Nat.le_of_ble_eq_true rfl) (Nat.le_of_ble_eq_true rfl) hcs hl.1 (Nat.le_of_ble_eq_true rfl) rfl d_R_findCut_32 (fun S32 H locs h hI => ?_)
  refine lv_aload_n hx hb d_R_findCut_35 rfl (lv_at hl 0 rfl) ?_
  refine z_getI C hI 27 (by decide) kd_27 cl_R iw_R 4 (by decide) k_fl_R_48 rfl d_R_findCut_36 ?_
  refine lv_iconst (v := (-1)) hx hb d_R_findCut_39 (by decide) ?_
  refine lv_icmp_eq (tgt := 47) hx hb d_R_findCut_40 (by decide) (fun q => ?_) (fun q => ?_)
  · replace h := h.1 q
    refine lv_iconst (v := 0) hx hb d_R_findCut_47 (by decide) ?_
    exact hR _ _ hcs 0 S32 _ _ 48 ls (by decide) h hI d_R_findCut_48
  · replace h := h.2 q
    refine lv_iconst (v := 1) hx hb d_R_findCut_43 (by decide) ?_
    refine lv_goto (tgt := 48) hx hb d_R_findCut_44 (by decide) ?_
    exact hR _ _ hcs 1 S32 _ _ 48 ls (by decide) h hI d_R_findCut_48
set_option maxHeartbeats 4000000 in
set_option maxRecDepth 100000 in
theorem w_R_divide_29 (C : z_CT p s m args c R_R b_R_divide 9 D cA 51 ad) (hcs : cells ≤ rm_R_divide.cells ∧ slots ≤ rm_R_divide.slots) (la : Nat) (hla : z_A la) (post : Int32 → zS → Prop) (K89 : Int32 → Int32 → zS → Prop) (v3 : Int32) (hR : z_Ri p l e rm_R_divide s m args below meth c Q b_R_divide D cA 51 ad post) (kK89 : ∀ (v5 : Int32) (v6 : Int32) (S : zS) (H : Heap) (locs : List Loc) (ls : Array Slot), K89 v5 v6 S → z_I D cA 51 ad s.heap S H locs → lv_has ls 9 [(0, .ref (ad 27)), (5, .int v5), (6, .int v6)] → W p l e rm_R_divide s m args below meth c H locs cells slots Q (F0 m 89 ls [])) : ∀ (n : Nat) (v5 : Int32) (v6 : Int32) (v7 : Int32) (S : zS) (H : Heap) (locs : List Loc) (ls : Array Slot), z_I D cA 51 ad s.heap S H locs → lv_has ls 9 [(0, .ref (ad 27)), (3, .int v3), (4, .ref (ad la)), (5, .int v5), (6, .int v6), (7, .int v7)] → L_R_divide_29 la post K89 v3 n v5 v6 v7 S → W p l e rm_R_divide s m args below meth c H locs cells slots Q (F0 m 29 ls []) := by
  obtain ⟨hx, hb, hml, hown, hts, hK, hJ⟩ := id C
  intro n
  induction n with
  | zero => intro v5 v6 v7 S H locs ls hI hl h; exact h.elim
  | succ n ih =>
    intro v5 v6 v7 S H locs ls hI hl h
    rw [L_R_divide_29] at h
    refine lv_iload hx hb d_R_divide_29 (lv_at hl 5 rfl) ?_
    refine lv_iload_n hx hb d_R_divide_31 rfl (lv_at hl 1 rfl) ?_
    refine lv_icmp_ge (tgt := 89) hx hb d_R_divide_32 (by decide) (fun q => ?_) (fun q => ?_)
    · replace h := h.1 q
      exact kK89 v5 v6 S _ _ ls h hI (lv_sub hl [0, 3, 4] rfl)
    · replace h := h.2 q
      refine lv_aload_n hx hb d_R_divide_35 rfl (lv_at hl 0 rfl) ?_
      refine z_getR C hI 27 (by decide) kd_27 cl_R iw_R 0 (by decide) k_fl_R_9 rfl d_R_divide_36 ?_
      refine lv_iload hx hb d_R_divide_39 (lv_at hl 5 rfl) ?_
      obtain ⟨h1, h⟩ := h
      refine z_ild C hI 28 (by decide) kd_28 h1 d_R_divide_41 ?_
      refine lv_topi (fun x42 e42 => ?_)
      replace h := h x42 e42
      refine lv_istore (lv' := [(8, .int x42), (0, .ref (ad 27)), (3, .int v3), (4, .ref (ad la)), (5, .int v5), (6, .int v6), (7, .int v7)]) hx hb d_R_divide_42 hl (by decide) rfl (fun ls hl => ?_)
      refine lv_aload hx hb d_R_divide_44 (lv_at hl 3 rfl) ?_
      refine lv_iload hx hb d_R_divide_46 (lv_at hl 0 rfl) ?_
      obtain ⟨h1, h⟩ := h
      refine z_ild C hI la hla.1 hla.2 h1 d_R_divide_48 ?_
      refine lv_aload_n hx hb d_R_divide_49 rfl (lv_at hl 1 rfl) ?_
      refine z_getI C hI 27 (by decide) kd_27 cl_R iw_R 3 (by decide) k_fl_R_69 rfl d_R_divide_50 ?_
      refine lv_icmp_ge (tgt := 71) hx hb d_R_divide_53 (by decide) (fun q => ?_) (fun q => ?_)
      · replace h := h.1 q
        refine lv_aload_n hx hb d_R_divide_71 rfl (lv_at hl 1 rfl) ?_
        refine z_getR C hI 27 (by decide) kd_27 cl_R iw_R 1 (by decide) k_fl_R_15 rfl d_R_divide_72 ?_
        refine lv_iload hx hb d_R_divide_75 (lv_at hl 5 rfl) ?_
        refine lv_iload hx hb d_R_divide_77 (lv_at hl 0 rfl) ?_
        obtain ⟨h1, h⟩ := h
        refine z_ist C hI 29 (by decide) kd_29 h1 d_R_divide_79 (fun S79 eS H locs hI => ?_)
        replace h := h S79 eS
        obtain ⟨x80, e80⟩ : ∃ y : Int32, y = v6 + 1 := ⟨_, rfl⟩
        replace h := h x80 e80
        refine lv_iinc (v := x80) (lv' := [(6, .int x80), (8, .int x42), (0, .ref (ad 27)), (3, .int v3), (4, .ref (ad la)), (5, .int v5), (7, .int v7)]) hx hb d_R_divide_80 hl (k := 5) rfl (by rw [e80]; rfl) (by decide) rfl (fun ls hl => ?_)
        obtain ⟨x83, e83⟩ : ∃ y : Int32, y = v7 + 1 := ⟨_, rfl⟩
        replace h := h x83 e83
        refine lv_iinc (v := x83) (lv' := [(7, .int x83), (6, .int x80), (8, .int x42), (0, .ref (ad 27)), (3, .int v3), (4, .ref (ad la)), (5, .int v5)]) hx hb d_R_divide_83 hl (k := 6) rfl (by rw [e83]; rfl) (by decide) rfl (fun ls hl => ?_)
        refine lv_goto (tgt := 29) hx hb d_R_divide_86 (by decide) ?_
        exact ih v5 x80 x83 S79 _ _ ls hI (lv_sub hl [3, 4, 5, 6, 1, 0] rfl) h
      · replace h := h.2 q
        refine lv_aload_n hx hb d_R_divide_56 rfl (lv_at hl 1 rfl) ?_
        refine z_getR C hI 27 (by decide) kd_27 cl_R iw_R 0 (by decide) k_fl_R_9 rfl d_R_divide_57 ?_
        refine lv_iload hx hb d_R_divide_60 (lv_at hl 4 rfl) ?_
        refine lv_iload hx hb d_R_divide_62 (lv_at hl 0 rfl) ?_
        obtain ⟨h1, h⟩ := h
        refine z_ist C hI 28 (by decide) kd_28 h1 d_R_divide_64 (fun S64 eS H locs hI => ?_)
        replace h := h S64 eS
        obtain ⟨x65, e65⟩ : ∃ y : Int32, y = v5 + 1 := ⟨_, rfl⟩
        replace h := h x65 e65
        refine lv_iinc (v := x65) (lv' := [(5, .int x65), (8, .int x42), (0, .ref (ad 27)), (3, .int v3), (4, .ref (ad la)), (6, .int v6), (7, .int v7)]) hx hb d_R_divide_65 hl (k := 4) rfl (by rw [e65]; rfl) (by decide) rfl (fun ls hl => ?_)
        refine lv_goto (tgt := 83) hx hb d_R_divide_68 (by decide) ?_
        obtain ⟨x83, e83⟩ : ∃ y : Int32, y = v7 + 1 := ⟨_, rfl⟩
        replace h := h x83 e83
        refine lv_iinc (v := x83) (lv' := [(7, .int x83), (5, .int x65), (8, .int x42), (0, .ref (ad 27)), (3, .int v3), (4, .ref (ad la)), (6, .int v6)]) hx hb d_R_divide_83 hl (k := 6) rfl (by rw [e83]; rfl) (by decide) rfl (fun ls hl => ?_)
        refine lv_goto (tgt := 29) hx hb d_R_divide_86 (by decide) ?_
        exact ih x65 v6 x83 S64 _ _ ls hI (lv_sub hl [3, 4, 5, 1, 6, 0] rfl) h
set_option maxHeartbeats 4000000 in
set_option maxRecDepth 100000 in
theorem w_R_divide_18 (C : z_CT p s m args c R_R b_R_divide 9 D cA 51 ad) (hcs : cells ≤ rm_R_divide.cells ∧ slots ≤ rm_R_divide.slots) (la : Nat) (hla : z_A la) (post : Int32 → zS → Prop) (v2 : Int32) (v3 : Int32) (hR : z_Ri p l e rm_R_divide s m args below meth c Q b_R_divide D cA 51 ad post) (S : zS) (H : Heap) (locs : List Loc) (ls : Array Slot) (hI : z_I D cA 51 ad s.heap S H locs) (hl : lv_has ls 9 [(0, .ref (ad 27)), (2, .int v2), (3, .int v3)]) (h : J_R_divide_18 la post v2 v3 S) : W p l e rm_R_divide s m args below meth c H locs cells slots Q (F0 m 18 ls [.ref (ad la)]) := by
  obtain ⟨hx, hb, hml, hown, hts, hK, hJ⟩ := id C
  unfold J_R_divide_18 at h
  refine lv_astore (lv' := [(4, .ref (ad la)), (0, .ref (ad 27)), (2, .int v2), (3, .int v3)]) hx hb d_R_divide_18 hl (by decide) rfl (fun ls hl => ?_)
  refine lv_iload_n hx hb d_R_divide_20 rfl (lv_at hl 2 rfl) ?_
  refine lv_istore (lv' := [(5, .int v2), (4, .ref (ad la)), (0, .ref (ad 27)), (2, .int v2), (3, .int v3)]) hx hb d_R_divide_21 hl (by decide) rfl (fun ls hl => ?_)
  refine lv_iconst (v := 0) hx hb d_R_divide_23 (by decide) ?_
  refine lv_istore (lv' := [(6, .int 0), (5, .int v2), (4, .ref (ad la)), (0, .ref (ad 27)), (2, .int v2), (3, .int v3)]) hx hb d_R_divide_24 hl (by decide) rfl (fun ls hl => ?_)
  refine lv_iload_n hx hb d_R_divide_26 rfl (lv_at hl 4 rfl) ?_
  refine lv_istore (lv' := [(7, .int v2), (6, .int 0), (5, .int v2), (4, .ref (ad la)), (0, .ref (ad 27)), (2, .int v2), (3, .int v3)]) hx hb d_R_divide_27 hl (by decide) rfl (fun ls hl => ?_)
  obtain ⟨k29, h⟩ := h
  refine w_R_divide_29 C hcs la hla _ _ v3 hR (fun v5_29e v6_29e S29e H locs ls h hI hl => ?_) k29 v2 0 v2 S _ _ ls hI (lv_sub hl [4, 6, 3, 2, 1, 0] rfl) h
  refine lv_aload_n hx hb d_R_divide_89 rfl (lv_at hl 0 rfl) ?_
  refine z_getR C hI 27 (by decide) kd_27 cl_R iw_R 1 (by decide) k_fl_R_15 rfl d_R_divide_90 ?_
  refine lv_iconst (v := 0) hx hb d_R_divide_93 (by decide) ?_
  refine lv_aload_n hx hb d_R_divide_94 rfl (lv_at hl 0 rfl) ?_
  refine z_getR C hI 27 (by decide) kd_27 cl_R iw_R 0 (by decide) k_fl_R_9 rfl d_R_divide_95 ?_
  refine lv_iload hx hb d_R_divide_98 (lv_at hl 1 rfl) ?_
  refine lv_iload hx hb d_R_divide_100 (lv_at hl 2 rfl) ?_
  obtain ⟨h1, h⟩ := h
  refine z_copy C hI 29 28 (by decide) (by decide) kd_29 kd_28 h1 hl.1 k_ml_R_76 (Nat.le_of_ble_eq_true rfl) (Nat.le_of_ble_eq_true rfl) d_R_divide_102 (fun S102 eS H locs hI => ?_)
  replace h := h S102 eS
  refine lv_iload hx hb d_R_divide_105 (lv_at hl 1 rfl) ?_
  exact hR _ _ hcs v5_29e S102 _ _ 107 ls h hI d_R_divide_107
set_option maxHeartbeats 4000000 in
set_option maxRecDepth 100000 in
theorem c_R_divide (v2 : Int32) (v3 : Int32) (S : zS) (post : Int32 → zS → Prop) (h : P_R_divide v2 v3 S post) : z_cti l D cA 51 ad y_R_divide b_R_divide 9 (some .int) rm_R_divide [.ref (ad 27), .ref (ad 5), .int v2, .int v3] S post := by
  refine z_meti (av := [.ref (ad 27), .ref (ad 5), .int v2, .int v3]) (by decide) (Nat.le_of_ble_eq_true rfl) ⟨rfl, rfl⟩ (fun p e s m args below meth c Q ls C hcs hl hI hR => ?_)
  obtain ⟨hx, hb, hml, hown, hts, hK, hJ⟩ := id C
  unfold P_R_divide at h
  have hl : lv_has ls 9 [(0, .ref (ad 27)), (1, .ref (ad 5)), (2, .int v2), (3, .int v3)] := hl
  refine lv_aload_n hx hb d_R_divide_0 rfl (lv_at hl 0 rfl) ?_
  refine z_getI C hI 27 (by decide) kd_27 cl_R iw_R 5 (by decide) k_fl_R_72 rfl d_R_divide_1 ?_
  refine lv_if_eq (tgt := 14) hx hb d_R_divide_4 (by decide) (fun q => ?_) (fun q => ?_)
  · replace h := h.1 q
    refine lv_aload_n hx hb d_R_divide_14 rfl (lv_at hl 1 rfl) ?_
    refine z_getR C hI 5 (by decide) kd_5 cl_G iw_G 3 (by decide) k_fl_R_51 rfl d_R_divide_15 ?_
    exact w_R_divide_18 C hcs 9 z_A_9 _ v2 v3 hR S _ _ ls hI (lv_sub hl [0, 2, 3] rfl) h
  · replace h := h.2 q
    refine lv_aload_n hx hb d_R_divide_7 rfl (lv_at hl 1 rfl) ?_
    refine z_getR C hI 5 (by decide) kd_5 cl_G iw_G 4 (by decide) k_fl_R_58 rfl d_R_divide_8 ?_
    refine lv_goto (tgt := 18) hx hb d_R_divide_11 (by decide) ?_
    exact w_R_divide_18 C hcs 10 z_A_10 _ v2 v3 hR S _ _ ls hI (lv_sub hl [0, 2, 3] rfl) h
set_option maxHeartbeats 4000000 in
set_option maxRecDepth 100000 in
theorem w_R_arrange_82 (C : z_CT p s m args c R_R b_R_arrange 6 D cA 51 ad) (hcs : cells ≤ rm_R_arrange.cells ∧ slots ≤ rm_R_arrange.slots) (post : zS → Prop) (K22 : Int32 → Int32 → Int32 → zS → Prop) (v3 : Int32) (v4 : Int32) (v5 : Int32) (hR : z_Rv p l e rm_R_arrange s m args below meth c Q b_R_arrange D cA 51 ad post) (kK22 : ∀ (v2 : Int32) (v3 : Int32) (v4 : Int32) (S : zS) (H : Heap) (locs : List Loc) (ls : Array Slot), K22 v2 v3 v4 S → z_I D cA 51 ad s.heap S H locs → lv_has ls 6 [(0, .ref (ad 27)), (1, .ref (ad 5)), (2, .int v2), (3, .int v3), (4, .int v4)] → W p l e rm_R_arrange s m args below meth c H locs cells slots Q (F0 m 22 ls [])) (S : zS) (H : Heap) (locs : List Loc) (ls : Array Slot) (hI : z_I D cA 51 ad s.heap S H locs) (hl : lv_has ls 6 [(0, .ref (ad 27)), (1, .ref (ad 5)), (3, .int v3), (4, .int v4), (5, .int v5)]) (h : J_R_arrange_82 post K22 v3 v4 v5 S) : W p l e rm_R_arrange s m args below meth c H locs cells slots Q (F0 m 82 ls []) := by
  obtain ⟨hx, hb, hml, hown, hts, hK, hJ⟩ := id C
  unfold J_R_arrange_82 at h
  refine lv_iload hx hb d_R_arrange_82 (lv_at hl 4 rfl) ?_
  refine lv_istore_n (lv' := [(2, .int v5), (0, .ref (ad 27)), (1, .ref (ad 5)), (3, .int v3), (4, .int v4), (5, .int v5)]) hx hb d_R_arrange_84 rfl hl (by decide) rfl (fun ls hl => ?_)
  obtain ⟨x85, e85⟩ : ∃ y : Int32, y = v3 + (-1) := ⟨_, rfl⟩
  replace h := h x85 e85
  refine lv_iinc (v := x85) (lv' := [(3, .int x85), (2, .int v5), (0, .ref (ad 27)), (1, .ref (ad 5)), (4, .int v4), (5, .int v5)]) hx hb d_R_arrange_85 hl (k := 3) rfl (by rw [e85]; rfl) (by decide) rfl (fun ls hl => ?_)
  obtain ⟨x88, e88⟩ : ∃ y : Int32, y = v4 + 1 := ⟨_, rfl⟩
  replace h := h x88 e88
  refine lv_iinc (v := x88) (lv' := [(4, .int x88), (3, .int x85), (2, .int v5), (0, .ref (ad 27)), (1, .ref (ad 5)), (5, .int v5)]) hx hb d_R_arrange_88 hl (k := 4) rfl (by rw [e88]; rfl) (by decide) rfl (fun ls hl => ?_)
  refine lv_goto (tgt := 22) hx hb d_R_arrange_91 (by decide) ?_
  exact kK22 v5 x85 x88 S _ _ ls h hI (lv_sub hl [3, 4, 2, 1, 0] rfl)
set_option maxHeartbeats 4000000 in
set_option maxRecDepth 100000 in
theorem w_R_arrange_22 (C : z_CT p s m args c R_R b_R_arrange 6 D cA 51 ad) (hcs : cells ≤ rm_R_arrange.cells ∧ slots ≤ rm_R_arrange.slots) (post : zS → Prop) (hR : z_Rv p l e rm_R_arrange s m args below meth c Q b_R_arrange D cA 51 ad post) : ∀ (n : Nat) (v2 : Int32) (v3 : Int32) (v4 : Int32) (S : zS) (H : Heap) (locs : List Loc) (ls : Array Slot), z_I D cA 51 ad s.heap S H locs → lv_has ls 6 [(0, .ref (ad 27)), (1, .ref (ad 5)), (2, .int v2), (3, .int v3), (4, .int v4)] → L_R_arrange_22 post n v2 v3 v4 S → W p l e rm_R_arrange s m args below meth c H locs cells slots Q (F0 m 22 ls []) := by
  obtain ⟨hx, hb, hml, hown, hts, hK, hJ⟩ := id C
  intro n
  induction n with
  | zero => intro v2 v3 v4 S H locs ls hI hl h; exact h.elim
  | succ n ih =>
    intro v2 v3 v4 S H locs ls hI hl h
    rw [L_R_arrange_22] at h
    refine lv_iload hx hb d_R_arrange_22 (lv_at hl 4 rfl) ?_
    refine lv_sipush (v := 576) hx hb d_R_arrange_24 (by decide) ?_
    refine lv_icmp_ge (tgt := 94) hx hb d_R_arrange_27 (by decide) (fun q => ?_) (fun q => ?_)
    · replace h := h.1 q
      exact hR _ _ hcs S _ _ 94 ls h hI d_R_arrange_94
    · replace h := h.2 q
      refine lv_iload_n hx hb d_R_arrange_30 rfl (lv_at hl 3 rfl) ?_
      refine lv_if_lt (tgt := 94) hx hb d_R_arrange_31 (by decide) (fun q => ?_) (fun q => ?_)
      · replace h := h.1 q
        exact hR _ _ hcs S _ _ 94 ls h hI d_R_arrange_94
      · replace h := h.2 q
        refine lv_aload_n hx hb d_R_arrange_34 rfl (lv_at hl 0 rfl) ?_
        refine z_getR C hI 27 (by decide) kd_27 cl_R iw_R 2 (by decide) k_fl_R_18 rfl d_R_arrange_35 ?_
        refine lv_iload_n hx hb d_R_arrange_38 rfl (lv_at hl 3 rfl) ?_
        obtain ⟨h1, h⟩ := h
        refine z_ild C hI 30 (by decide) kd_30 h1 d_R_arrange_39 ?_
        refine lv_topi (fun x40 e40 => ?_)
        replace h := h x40 e40
        refine lv_istore (lv' := [(5, .int x40), (0, .ref (ad 27)), (1, .ref (ad 5)), (2, .int v2), (3, .int v3), (4, .int v4)]) hx hb d_R_arrange_40 hl (by decide) rfl (fun ls hl => ?_)
        refine lv_aload_n hx hb d_R_arrange_42 rfl (lv_at hl 1 rfl) ?_
        refine lv_aload_n hx hb d_R_arrange_43 rfl (lv_at hl 2 rfl) ?_
        refine lv_iload_n hx hb d_R_arrange_44 rfl (lv_at hl 3 rfl) ?_
        refine lv_iload hx hb d_R_arrange_45 (lv_at hl 0 rfl) ?_
        refine z_callVi C hI 27 (by decide) kd_27 cl_R (As := [.ref (ad 5), .int v2, .int x40]) (rest := []) (c_R_findCut v2 x40 _ _ h) wc_R_findCut k_ml_R_31 rfl rfl (Nat.le_of_ble_eq_true rfl) (Nat.le_of_ble_eq_true rfl) hcs hl.1 (Nat.le_of_ble_eq_true rfl) rfl d_R_arrange_47 (fun r47 S47 H locs h hI => ?_)
        refine lv_if_eq (tgt := 82) hx hb d_R_arrange_50 (by decide) (fun q => ?_) (fun q => ?_)
        · replace h := h.1 q
          exact w_R_arrange_82 C hcs _ _ v3 v4 x40 hR (fun v2 v3 v4 S H locs ls h hI hl => ih v2 v3 v4 S H locs ls hI hl h) S47 _ _ ls hI (lv_sub hl [1, 2, 4, 5, 0] rfl) h
        · replace h := h.2 q
          refine lv_iload_n hx hb d_R_arrange_53 rfl (lv_at hl 4 rfl) ?_
          refine lv_iconst (v := 1) hx hb d_R_arrange_54 (by decide) ?_
          refine lv_iadd hx hb d_R_arrange_55 ?_
          refine lv_sipush (v := 288) hx hb d_R_arrange_56 (by decide) ?_
          refine lv_icmp_ge (tgt := 82) hx hb d_R_arrange_59 (by decide) (fun q => ?_) (fun q => ?_)
          · replace h := h.1 q
            exact w_R_arrange_82 C hcs _ _ v3 v4 x40 hR (fun v2 v3 v4 S H locs ls h hI hl => ih v2 v3 v4 S H locs ls hI hl h) S47 _ _ ls hI (lv_sub hl [1, 2, 4, 5, 0] rfl) h
          · replace h := h.2 q
            obtain ⟨x62, e62⟩ : ∃ y : Int32, y = v3 + 1 := ⟨_, rfl⟩
            replace h := h x62 e62
            refine lv_iinc (v := x62) (lv' := [(3, .int x62), (5, .int x40), (0, .ref (ad 27)), (1, .ref (ad 5)), (2, .int v2), (4, .int v4)]) hx hb d_R_arrange_62 hl (k := 4) rfl (by rw [e62]; rfl) (by decide) rfl (fun ls hl => ?_)
            refine lv_aload_n hx hb d_R_arrange_65 rfl (lv_at hl 2 rfl) ?_
            refine z_getR C hI 27 (by decide) kd_27 cl_R iw_R 2 (by decide) k_fl_R_18 rfl d_R_arrange_66 ?_
            refine lv_iload_n hx hb d_R_arrange_69 rfl (lv_at hl 0 rfl) ?_
            refine lv_aload_n hx hb d_R_arrange_70 rfl (lv_at hl 2 rfl) ?_
            refine lv_aload_n hx hb d_R_arrange_71 rfl (lv_at hl 3 rfl) ?_
            refine lv_iload_n hx hb d_R_arrange_72 rfl (lv_at hl 4 rfl) ?_
            refine lv_iload hx hb d_R_arrange_73 (lv_at hl 1 rfl) ?_
            refine z_callVi C hI 27 (by decide) kd_27 cl_R (As := [.ref (ad 5), .int v2, .int x40]) (rest := [.int x62, .ref (ad 30)]) (c_R_divide v2 x40 _ _ h) wc_R_divide k_ml_R_35 rfl rfl (Nat.le_of_ble_eq_true rfl) (Nat.le_of_ble_eq_true rfl) hcs hl.1 (Nat.le_of_ble_eq_true rfl) rfl d_R_arrange_75 (fun r75 S75 H locs h hI => ?_)
            obtain ⟨h1, h⟩ := h
            refine z_ist C hI 30 (by decide) kd_30 h1 d_R_arrange_78 (fun S78 eS H locs hI => ?_)
            replace h := h S78 eS
            refine lv_goto (tgt := 88) hx hb d_R_arrange_79 (by decide) ?_
            obtain ⟨x88, e88⟩ : ∃ y : Int32, y = v4 + 1 := ⟨_, rfl⟩
            replace h := h x88 e88
            refine lv_iinc (v := x88) (lv' := [(4, .int x88), (3, .int x62), (5, .int x40), (0, .ref (ad 27)), (1, .ref (ad 5)), (2, .int v2)]) hx hb d_R_arrange_88 hl (k := 5) rfl (by rw [e88]; rfl) (by decide) rfl (fun ls hl => ?_)
            refine lv_goto (tgt := 22) hx hb d_R_arrange_91 (by decide) ?_
            exact ih v2 x62 x88 S78 _ _ ls hI (lv_sub hl [3, 4, 5, 1, 0] rfl) h
set_option maxHeartbeats 4000000 in
set_option maxRecDepth 100000 in
theorem c_R_arrange (S : zS) (post : zS → Prop) (h : P_R_arrange S post) : z_ctv l D cA 51 ad y_R_arrange b_R_arrange 6 none rm_R_arrange [.ref (ad 27), .ref (ad 5)] S post := by
  refine z_metv (av := [.ref (ad 27), .ref (ad 5)]) (by decide) (Nat.le_of_ble_eq_true rfl) ⟨rfl, rfl⟩ (fun p e s m args below meth c Q ls C hcs hl hI hR => ?_)
  obtain ⟨hx, hb, hml, hown, hts, hK, hJ⟩ := id C
  unfold P_R_arrange at h
  have hl : lv_has ls 6 [(0, .ref (ad 27)), (1, .ref (ad 5))] := hl
  refine lv_aload_n hx hb d_R_arrange_0 rfl (lv_at hl 0 rfl) ?_
  refine lv_aload_n hx hb d_R_arrange_1 rfl (lv_at hl 1 rfl) ?_
  refine z_callVv C hI 27 (by decide) kd_27 cl_R (As := [.ref (ad 5)]) (rest := []) (c_R_sortByBoxes _ _ h) wc_R_sortByBoxes k_ml_R_21 rfl rfl (Nat.le_of_ble_eq_true rfl) (Nat.le_of_ble_eq_true rfl) hcs hl.1 (Nat.le_of_ble_eq_true rfl) rfl d_R_arrange_2 (fun S2 H locs h hI => ?_)
  refine lv_iconst (v := 0) hx hb d_R_arrange_5 (by decide) ?_
  refine lv_istore_n (lv' := [(2, .int 0), (0, .ref (ad 27)), (1, .ref (ad 5))]) hx hb d_R_arrange_6 rfl hl (by decide) rfl (fun ls hl => ?_)
  refine lv_iconst (v := 0) hx hb d_R_arrange_7 (by decide) ?_
  refine lv_istore_n (lv' := [(3, .int 0), (2, .int 0), (0, .ref (ad 27)), (1, .ref (ad 5))]) hx hb d_R_arrange_8 rfl hl (by decide) rfl (fun ls hl => ?_)
  refine lv_aload_n hx hb d_R_arrange_9 rfl (lv_at hl 2 rfl) ?_
  refine z_getR C hI 27 (by decide) kd_27 cl_R iw_R 2 (by decide) k_fl_R_18 rfl d_R_arrange_10 ?_
  refine lv_iload_n hx hb d_R_arrange_13 rfl (lv_at hl 0 rfl) ?_
  refine lv_aload_n hx hb d_R_arrange_14 rfl (lv_at hl 3 rfl) ?_
  refine z_getI C hI 5 (by decide) kd_5 cl_G iw_G 6 (by decide) k_fl_R_25 rfl d_R_arrange_15 ?_
  obtain ⟨h1, h⟩ := h
  refine z_ist C hI 30 (by decide) kd_30 h1 d_R_arrange_18 (fun S18 eS H locs hI => ?_)
  replace h := h S18 eS
  refine lv_iconst (v := 0) hx hb d_R_arrange_19 (by decide) ?_
  refine lv_istore (lv' := [(4, .int 0), (3, .int 0), (2, .int 0), (0, .ref (ad 27)), (1, .ref (ad 5))]) hx hb d_R_arrange_20 hl (by decide) rfl (fun ls hl => ?_)
  obtain ⟨k22, h⟩ := h
  refine w_R_arrange_22 C hcs _ hR k22 0 0 0 S18 _ _ ls hI (lv_sub hl [3, 4, 2, 1, 0] rfl) h
set_option maxHeartbeats 4000000 in
set_option maxRecDepth 100000 in
theorem c_P_run (v1 : Int32) (v2 : Int32) (S : zS) (post : Int32 → zS → Prop) (h : P_P_run v1 v2 S post) : z_cti l D cA 51 ad y_P_run b_P_run 3 (some .int) rm_P_run [.ref (ad 0), .int v1, .int v2] S post := by
  refine z_meti (av := [.ref (ad 0), .int v1, .int v2]) (by decide) (Nat.le_of_ble_eq_true rfl) ⟨rfl, rfl⟩ (fun p e s m args below meth c Q ls C hcs hl hI hR => ?_)
  obtain ⟨hx, hb, hml, hown, hts, hK, hJ⟩ := id C
  unfold P_P_run at h
  have hl : lv_has ls 3 [(0, .ref (ad 0)), (1, .int v1), (2, .int v2)] := hl
  refine lv_iload_n hx hb d_P_run_0 rfl (lv_at hl 1 rfl) ?_
  refine lv_if_lt (tgt := 20) hx hb d_P_run_1 (by decide) (fun q => ?_) (fun q => ?_)
  · replace h := h.1 q
    exact h.elim
  · replace h := h.2 q
    refine lv_iload_n hx hb d_P_run_4 rfl (lv_at hl 1 rfl) ?_
    refine lv_bipush (v := 24) hx hb d_P_run_5 (by decide) ?_
    refine lv_icmp_gt (tgt := 20) hx hb d_P_run_7 (by decide) (fun q => ?_) (fun q => ?_)
    · replace h := h.1 q
      exact h.elim
    · replace h := h.2 q
      refine lv_iload_n hx hb d_P_run_10 rfl (lv_at hl 2 rfl) ?_
      refine lv_if_lt (tgt := 20) hx hb d_P_run_11 (by decide) (fun q => ?_) (fun q => ?_)
      · replace h := h.1 q
        exact h.elim
      · replace h := h.2 q
        refine lv_iload_n hx hb d_P_run_14 rfl (lv_at hl 2 rfl) ?_
        refine lv_bipush (v := 24) hx hb d_P_run_15 (by decide) ?_
        refine lv_icmp_le (tgt := 30) hx hb d_P_run_17 (by decide) (fun q => ?_) (fun q => ?_)
        · replace h := h.1 q
          refine lv_aload_n hx hb d_P_run_30 rfl (lv_at hl 0 rfl) ?_
          refine z_callVv C hI 0 (by decide) kd_0 cl_P (As := []) (rest := []) (c_P_findClean _ _ h) wc_P_findClean k_ml_P_91 rfl rfl (Nat.le_of_ble_eq_true rfl) (Nat.le_of_ble_eq_true rfl) hcs hl.1 (Nat.le_of_ble_eq_true rfl) rfl d_P_run_31 (fun S31 H locs h hI => ?_)
          refine lv_aload_n hx hb d_P_run_34 rfl (lv_at hl 0 rfl) ?_
          refine lv_iload_n hx hb d_P_run_35 rfl (lv_at hl 1 rfl) ?_
          refine lv_iload_n hx hb d_P_run_36 rfl (lv_at hl 2 rfl) ?_
          refine z_callVv C hI 0 (by decide) kd_0 cl_P (As := [.int v1, .int v2]) (rest := []) (c_P_smear v1 v2 _ _ h) wc_P_smear k_ml_P_94 rfl rfl (Nat.le_of_ble_eq_true rfl) (Nat.le_of_ble_eq_true rfl) hcs hl.1 (Nat.le_of_ble_eq_true rfl) rfl d_P_run_37 (fun S37 H locs h hI => ?_)
          refine lv_aload_n hx hb d_P_run_40 rfl (lv_at hl 0 rfl) ?_
          refine z_getR C hI 0 (by decide) kd_0 cl_P iw_P 6 (by decide) k_fl_P_39 rfl d_P_run_41 ?_
          refine lv_aload_n hx hb d_P_run_44 rfl (lv_at hl 0 rfl) ?_
          refine z_getR C hI 0 (by decide) kd_0 cl_P iw_P 4 (by decide) k_fl_P_16 rfl d_P_run_45 ?_
          refine lv_iconst (v := 1) hx hb d_P_run_48 (by decide) ?_
          refine lv_iconst (v := 0) hx hb d_P_run_49 (by decide) ?_
          refine z_callVv C hI 5 (by decide) kd_5 cl_G (As := [.ref (ad 3), .int 1, .int 0]) (rest := []) (c_G_find 5 3 z_G_5 z_B_3 1 0 _ _ h) wc_G_find k_ml_P_97 rfl rfl (Nat.le_of_ble_eq_true rfl) (Nat.le_of_ble_eq_true rfl) hcs hl.1 (Nat.le_of_ble_eq_true rfl) rfl d_P_run_50 (fun S50 H locs h hI => ?_)
          refine lv_aload_n hx hb d_P_run_53 rfl (lv_at hl 0 rfl) ?_
          refine z_getR C hI 0 (by decide) kd_0 cl_P iw_P 8 (by decide) k_fl_P_49 rfl d_P_run_54 ?_
          refine lv_aload_n hx hb d_P_run_57 rfl (lv_at hl 0 rfl) ?_
          refine z_getR C hI 0 (by decide) kd_0 cl_P iw_P 4 (by decide) k_fl_P_16 rfl d_P_run_58 ?_
          refine z_callVv C hI 21 (by decide) kd_21 cl_C (As := [.ref (ad 3)]) (rest := []) (c_C_find _ _ h) wc_C_find k_ml_P_101 rfl rfl (Nat.le_of_ble_eq_true rfl) (Nat.le_of_ble_eq_true rfl) hcs hl.1 (Nat.le_of_ble_eq_true rfl) rfl d_P_run_61 (fun S61 H locs h hI => ?_)
          refine lv_aload_n hx hb d_P_run_64 rfl (lv_at hl 0 rfl) ?_
          refine z_callVv C hI 0 (by decide) kd_0 cl_P (As := []) (rest := []) (c_P_findStrips _ _ h) wc_P_findStrips k_ml_P_104 rfl rfl (Nat.le_of_ble_eq_true rfl) (Nat.le_of_ble_eq_true rfl) hcs hl.1 (Nat.le_of_ble_eq_true rfl) rfl d_P_run_65 (fun S65 H locs h hI => ?_)
          refine lv_aload_n hx hb d_P_run_68 rfl (lv_at hl 0 rfl) ?_
          refine z_getR C hI 0 (by decide) kd_0 cl_P iw_P 7 (by decide) k_fl_P_43 rfl d_P_run_69 ?_
          refine lv_aload_n hx hb d_P_run_72 rfl (lv_at hl 0 rfl) ?_
          refine z_getR C hI 0 (by decide) kd_0 cl_P iw_P 3 (by decide) k_fl_P_13 rfl d_P_run_73 ?_
          refine lv_iconst (v := 0) hx hb d_P_run_76 (by decide) ?_
          refine lv_iconst (v := 0) hx hb d_P_run_77 (by decide) ?_
          refine z_callVv C hI 13 (by decide) kd_13 cl_G (As := [.ref (ad 2), .int 0, .int 0]) (rest := []) (c_G_find 13 2 z_G_13 z_B_2 0 0 _ _ h) wc_G_find k_ml_P_97 rfl rfl (Nat.le_of_ble_eq_true rfl) (Nat.le_of_ble_eq_true rfl) hcs hl.1 (Nat.le_of_ble_eq_true rfl) rfl d_P_run_78 (fun S78 H locs h hI => ?_)
          refine lv_aload_n hx hb d_P_run_81 rfl (lv_at hl 0 rfl) ?_
          refine z_getR C hI 0 (by decide) kd_0 cl_P iw_P 7 (by decide) k_fl_P_43 rfl d_P_run_82 ?_
          refine z_callVv C hI 13 (by decide) kd_13 cl_G (As := []) (rest := []) (c_G_dropAtEdge 13 z_G_13 _ _ h) wc_G_dropAtEdge k_ml_P_107 rfl rfl (Nat.le_of_ble_eq_true rfl) (Nat.le_of_ble_eq_true rfl) hcs hl.1 (Nat.le_of_ble_eq_true rfl) rfl d_P_run_85 (fun S85 H locs h hI => ?_)
          refine lv_aload_n hx hb d_P_run_88 rfl (lv_at hl 0 rfl) ?_
          refine z_getR C hI 0 (by decide) kd_0 cl_P iw_P 9 (by decide) k_fl_P_56 rfl d_P_run_89 ?_
          refine lv_aload_n hx hb d_P_run_92 rfl (lv_at hl 0 rfl) ?_
          refine z_getR C hI 0 (by decide) kd_0 cl_P iw_P 6 (by decide) k_fl_P_39 rfl d_P_run_93 ?_
          refine z_callVv C hI 27 (by decide) kd_27 cl_R (As := [.ref (ad 5)]) (rest := []) (c_R_arrange _ _ h) wc_R_arrange k_ml_P_110 rfl rfl (Nat.le_of_ble_eq_true rfl) (Nat.le_of_ble_eq_true rfl) hcs hl.1 (Nat.le_of_ble_eq_true rfl) rfl d_P_run_96 (fun S96 H locs h hI => ?_)
          refine lv_aload_n hx hb d_P_run_99 rfl (lv_at hl 0 rfl) ?_
          refine lv_iconst (v := 1) hx hb d_P_run_100 (by decide) ?_
          refine z_putZ C hI 0 (by decide) kd_0 cl_P iw_P ty_P ty_P_ok n_P 14 (by decide) k_fl_P_66 rfl rfl rfl (by decide) d_P_run_101 (fun S101 eS H locs hI => ?_)
          replace h := h S101 eS
          refine lv_aload_n hx hb d_P_run_104 rfl (lv_at hl 0 rfl) ?_
          refine z_getR C hI 0 (by decide) kd_0 cl_P iw_P 6 (by decide) k_fl_P_39 rfl d_P_run_105 ?_
          refine z_getI C hI 5 (by decide) kd_5 cl_G iw_G 6 (by decide) k_fl_P_114 rfl d_P_run_108 ?_
          exact hR _ _ hcs (S101 5 6) S101 _ _ 111 ls h hI d_P_run_111
        · replace h := h.2 q
          exact h.elim
set_option maxHeartbeats 4000000 in
set_option maxRecDepth 100000 in
theorem c_P_mustBeParted (S : zS) (post : zS → Prop) (h : P_P_mustBeParted S post) : z_ctv l D cA 51 ad y_P_mustBeParted b_P_mustBeParted 1 none rm_P_mustBeParted [.ref (ad 0)] S post := by
  refine z_metv (av := [.ref (ad 0)]) (by decide) (Nat.le_of_ble_eq_true rfl) ⟨rfl, rfl⟩ (fun p e s m args below meth c Q ls C hcs hl hI hR => ?_)
  obtain ⟨hx, hb, hml, hown, hts, hK, hJ⟩ := id C
  unfold P_P_mustBeParted at h
  have hl : lv_has ls 1 [(0, .ref (ad 0))] := hl
  refine lv_aload_n hx hb d_P_mustBeParted_0 rfl (lv_at hl 0 rfl) ?_
  refine z_getI C hI 0 (by decide) kd_0 cl_P iw_P 14 (by decide) k_fl_P_66 rfl d_P_mustBeParted_1 ?_
  refine lv_if_ne (tgt := 17) hx hb d_P_mustBeParted_4 (by decide) (fun q => ?_) (fun q => ?_)
  · replace h := h.1 q
    exact hR _ _ hcs S _ _ 17 ls h hI d_P_mustBeParted_17
  · replace h := h.2 q
    exact h.elim
set_option maxHeartbeats 4000000 in
set_option maxRecDepth 100000 in
theorem c_P_mustBeBelow (v0 : Int32) (v1 : Int32) (S : zS) (post : zS → Prop) (h : P_P_mustBeBelow v0 v1 S post) : z_ctv l D cA n ad y_P_mustBeBelow b_P_mustBeBelow 2 none rm_P_mustBeBelow [.int v0, .int v1] S post := by
  refine z_metv (av := [.int v0, .int v1]) (by decide) (Nat.le_of_ble_eq_true rfl) ⟨rfl, rfl⟩ (fun p e s m args below meth c Q ls C hcs hl hI hR => ?_)
  obtain ⟨hx, hb, hml, hown, hts, hK, hJ⟩ := id C
  unfold P_P_mustBeBelow at h
  have hl : lv_has ls 2 [(0, .int v0), (1, .int v1)] := hl
  refine lv_iload_n hx hb d_P_mustBeBelow_0 rfl (lv_at hl 0 rfl) ?_
  refine lv_if_lt (tgt := 9) hx hb d_P_mustBeBelow_1 (by decide) (fun q => ?_) (fun q => ?_)
  · replace h := h.1 q
    exact h.elim
  · replace h := h.2 q
    refine lv_iload_n hx hb d_P_mustBeBelow_4 rfl (lv_at hl 0 rfl) ?_
    refine lv_iload_n hx hb d_P_mustBeBelow_5 rfl (lv_at hl 1 rfl) ?_
    refine lv_icmp_lt (tgt := 19) hx hb d_P_mustBeBelow_6 (by decide) (fun q => ?_) (fun q => ?_)
    · replace h := h.1 q
      exact hR _ _ hcs S _ _ 19 ls h hI d_P_mustBeBelow_19
    · replace h := h.2 q
      exact h.elim
set_option maxHeartbeats 4000000 in
set_option maxRecDepth 100000 in
theorem c_P_mustBeTold (v0 : Int32) (v1 : Int32) (S : zS) (post : zS → Prop) (h : P_P_mustBeTold v0 v1 S post) : z_ctv l D cA n ad y_P_mustBeTold b_P_mustBeTold 2 none rm_P_mustBeTold [.int v0, .int v1] S post := by
  refine z_metv (av := [.int v0, .int v1]) (by decide) (Nat.le_of_ble_eq_true rfl) ⟨rfl, rfl⟩ (fun p e s m args below meth c Q ls C hcs hl hI hR => ?_)
  obtain ⟨hx, hb, hml, hown, hts, hK, hJ⟩ := id C
  unfold P_P_mustBeTold at h
  have hl : lv_has ls 2 [(0, .int v0), (1, .int v1)] := hl
  refine lv_iload_n hx hb d_P_mustBeTold_0 rfl (lv_at hl 0 rfl) ?_
  refine lv_if_lt (tgt := 9) hx hb d_P_mustBeTold_1 (by decide) (fun q => ?_) (fun q => ?_)
  · replace h := h.1 q
    exact h.elim
  · replace h := h.2 q
    refine lv_iload_n hx hb d_P_mustBeTold_4 rfl (lv_at hl 0 rfl) ?_
    refine lv_iload_n hx hb d_P_mustBeTold_5 rfl (lv_at hl 1 rfl) ?_
    refine lv_icmp_lt (tgt := 19) hx hb d_P_mustBeTold_6 (by decide) (fun q => ?_) (fun q => ?_)
    · replace h := h.1 q
      exact hR _ _ hcs S _ _ 19 ls h hI d_P_mustBeTold_19
    · replace h := h.2 q
      exact h.elim
set_option maxHeartbeats 4000000 in
set_option maxRecDepth 100000 in
theorem w_P_weightOf_4 (C : z_CT p s m args c R_P b_P_weightOf 4 D cA 51 ad) (hcs : cells ≤ rm_P_weightOf.cells ∧ slots ≤ rm_P_weightOf.slots) (post : Int32 → zS → Prop) (v1 : Int32) (hR : z_Ri p l e rm_P_weightOf s m args below meth c Q b_P_weightOf D cA 51 ad post) : ∀ (n : Nat) (v2 : Int32) (v3 : Int32) (S : zS) (H : Heap) (locs : List Loc) (ls : Array Slot), z_I D cA 51 ad s.heap S H locs → lv_has ls 4 [(0, .ref (ad 0)), (1, .int v1), (2, .int v2), (3, .int v3)] → L_P_weightOf_4 post v1 n v2 v3 S → W p l e rm_P_weightOf s m args below meth c H locs cells slots Q (F0 m 4 ls []) := by
  obtain ⟨hx, hb, hml, hown, hts, hK, hJ⟩ := id C
  intro n
  induction n with
  | zero => intro v2 v3 S H locs ls hI hl h; exact h.elim
  | succ n ih =>
    intro v2 v3 S H locs ls hI hl h
    rw [L_P_weightOf_4] at h
    refine lv_iload_n hx hb d_P_weightOf_4 rfl (lv_at hl 3 rfl) ?_
    refine lv_sipush (v := 576) hx hb d_P_weightOf_5 (by decide) ?_
    refine lv_icmp_ge (tgt := 42) hx hb d_P_weightOf_8 (by decide) (fun q => ?_) (fun q => ?_)
    · replace h := h.1 q
      refine lv_iload_n hx hb d_P_weightOf_42 rfl (lv_at hl 2 rfl) ?_
      exact hR _ _ hcs v2 S _ _ 43 ls h hI d_P_weightOf_43
    · replace h := h.2 q
      refine lv_aload_n hx hb d_P_weightOf_11 rfl (lv_at hl 0 rfl) ?_
      refine z_getR C hI 0 (by decide) kd_0 cl_P iw_P 3 (by decide) k_fl_P_13 rfl d_P_weightOf_12 ?_
      refine lv_iload_n hx hb d_P_weightOf_15 rfl (lv_at hl 3 rfl) ?_
      obtain ⟨h1, h⟩ := h
      refine z_zld C hI 2 (by decide) kd_2 h1 d_P_weightOf_16 ?_
      refine lv_if_eq (tgt := 36) hx hb d_P_weightOf_17 (by decide) (fun q => ?_) (fun q => ?_)
      · replace h := h.1 q
        obtain ⟨x36, e36⟩ : ∃ y : Int32, y = v3 + 1 := ⟨_, rfl⟩
        replace h := h x36 e36
        refine lv_iinc (v := x36) (lv' := [(3, .int x36), (0, .ref (ad 0)), (1, .int v1), (2, .int v2)]) hx hb d_P_weightOf_36 hl (k := 3) rfl (by rw [e36]; rfl) (by decide) rfl (fun ls hl => ?_)
        refine lv_goto (tgt := 4) hx hb d_P_weightOf_39 (by decide) ?_
        exact ih v2 x36 S _ _ ls hI (lv_sub hl [1, 2, 3, 0] rfl) h
      · replace h := h.2 q
        refine lv_aload_n hx hb d_P_weightOf_20 rfl (lv_at hl 0 rfl) ?_
        refine z_getR C hI 0 (by decide) kd_0 cl_P iw_P 6 (by decide) k_fl_P_39 rfl d_P_weightOf_21 ?_
        refine z_getR C hI 5 (by decide) kd_5 cl_G iw_G 0 (by decide) k_fl_P_141 rfl d_P_weightOf_24 ?_
        refine lv_iload_n hx hb d_P_weightOf_27 rfl (lv_at hl 3 rfl) ?_
        obtain ⟨h1, h⟩ := h
        refine z_ild C hI 6 (by decide) kd_6 h1 d_P_weightOf_28 ?_
        refine lv_iload_n hx hb d_P_weightOf_29 rfl (lv_at hl 1 rfl) ?_
        refine lv_icmp_ne (tgt := 36) hx hb d_P_weightOf_30 (by decide) (fun q => ?_) (fun q => ?_)
        · replace h := h.1 q
          obtain ⟨x36, e36⟩ : ∃ y : Int32, y = v3 + 1 := ⟨_, rfl⟩
          replace h := h x36 e36
          refine lv_iinc (v := x36) (lv' := [(3, .int x36), (0, .ref (ad 0)), (1, .int v1), (2, .int v2)]) hx hb d_P_weightOf_36 hl (k := 3) rfl (by rw [e36]; rfl) (by decide) rfl (fun ls hl => ?_)
          refine lv_goto (tgt := 4) hx hb d_P_weightOf_39 (by decide) ?_
          exact ih v2 x36 S _ _ ls hI (lv_sub hl [1, 2, 3, 0] rfl) h
        · replace h := h.2 q
          obtain ⟨x33, e33⟩ : ∃ y : Int32, y = v2 + 1 := ⟨_, rfl⟩
          replace h := h x33 e33
          refine lv_iinc (v := x33) (lv' := [(2, .int x33), (0, .ref (ad 0)), (1, .int v1), (3, .int v3)]) hx hb d_P_weightOf_33 hl (k := 2) rfl (by rw [e33]; rfl) (by decide) rfl (fun ls hl => ?_)
          obtain ⟨x36, e36⟩ : ∃ y : Int32, y = v3 + 1 := ⟨_, rfl⟩
          replace h := h x36 e36
          refine lv_iinc (v := x36) (lv' := [(3, .int x36), (2, .int x33), (0, .ref (ad 0)), (1, .int v1)]) hx hb d_P_weightOf_36 hl (k := 3) rfl (by rw [e36]; rfl) (by decide) rfl (fun ls hl => ?_)
          refine lv_goto (tgt := 4) hx hb d_P_weightOf_39 (by decide) ?_
          exact ih x33 x36 S _ _ ls hI (lv_sub hl [2, 3, 1, 0] rfl) h
set_option maxHeartbeats 4000000 in
set_option maxRecDepth 100000 in
theorem c_P_weightOf (v1 : Int32) (S : zS) (post : Int32 → zS → Prop) (h : P_P_weightOf v1 S post) : z_cti l D cA 51 ad y_P_weightOf b_P_weightOf 4 (some .int) rm_P_weightOf [.ref (ad 0), .int v1] S post := by
  refine z_meti (av := [.ref (ad 0), .int v1]) (by decide) (Nat.le_of_ble_eq_true rfl) ⟨rfl, rfl⟩ (fun p e s m args below meth c Q ls C hcs hl hI hR => ?_)
  obtain ⟨hx, hb, hml, hown, hts, hK, hJ⟩ := id C
  unfold P_P_weightOf at h
  have hl : lv_has ls 4 [(0, .ref (ad 0)), (1, .int v1)] := hl
  refine lv_iconst (v := 0) hx hb d_P_weightOf_0 (by decide) ?_
  refine lv_istore_n (lv' := [(2, .int 0), (0, .ref (ad 0)), (1, .int v1)]) hx hb d_P_weightOf_1 rfl hl (by decide) rfl (fun ls hl => ?_)
  refine lv_iconst (v := 0) hx hb d_P_weightOf_2 (by decide) ?_
  refine lv_istore_n (lv' := [(3, .int 0), (2, .int 0), (0, .ref (ad 0)), (1, .int v1)]) hx hb d_P_weightOf_3 rfl hl (by decide) rfl (fun ls hl => ?_)
  obtain ⟨k4, h⟩ := h
  refine w_P_weightOf_4 C hcs _ v1 hR k4 0 0 S _ _ ls hI (lv_sub hl [2, 3, 1, 0] rfl) h
set_option maxHeartbeats 4000000 in
set_option maxRecDepth 100000 in
theorem c_G_wideOf (g : Nat) (hg : z_G g) (v1 : Int32) (S : zS) (post : Int32 → zS → Prop) (h : P_G_wideOf g v1 S post) : z_cti l D cA 51 ad y_G_wideOf b_G_wideOf 2 (some .int) rm_G_wideOf [.ref (ad g), .int v1] S post := by
  refine z_meti (av := [.ref (ad g), .int v1]) (by decide) (Nat.le_of_ble_eq_true rfl) ⟨rfl, rfl⟩ (fun p e s m args below meth c Q ls C hcs hl hI hR => ?_)
  obtain ⟨hx, hb, hml, hown, hts, hK, hJ⟩ := id C
  unfold P_G_wideOf at h
  have hl : lv_has ls 2 [(0, .ref (ad g)), (1, .int v1)] := hl
  refine lv_aload_n hx hb d_G_wideOf_0 rfl (lv_at hl 0 rfl) ?_
  refine z_getR C hI g (z_lt0 hg) hg.2.1 cl_G iw_G 3 (by decide) k_fl_G_21 rfl d_G_wideOf_1 ?_
  refine lv_iload_n hx hb d_G_wideOf_4 rfl (lv_at hl 1 rfl) ?_
  obtain ⟨h1, h⟩ := h
  refine z_ild C hI (g + 4) (z_lt hg 4 (by decide)) hg.2.2.2.2.2.1 h1 d_G_wideOf_5 ?_
  refine lv_aload_n hx hb d_G_wideOf_6 rfl (lv_at hl 0 rfl) ?_
  refine z_getR C hI g (z_lt0 hg) hg.2.1 cl_G iw_G 1 (by decide) k_fl_G_15 rfl d_G_wideOf_7 ?_
  refine lv_iload_n hx hb d_G_wideOf_10 rfl (lv_at hl 1 rfl) ?_
  obtain ⟨h1, h⟩ := h
  refine z_ild C hI (g + 2) (z_lt hg 2 (by decide)) hg.2.2.2.1 h1 d_G_wideOf_11 ?_
  refine lv_isub hx hb d_G_wideOf_12 ?_
  refine lv_iconst (v := 1) hx hb d_G_wideOf_13 (by decide) ?_
  refine lv_iadd hx hb d_G_wideOf_14 ?_
  exact hR _ _ hcs (((S (g + 4) (z_ix v1)) - (S (g + 2) (z_ix v1))) + 1) S _ _ 15 ls h hI d_G_wideOf_15
set_option maxHeartbeats 4000000 in
set_option maxRecDepth 100000 in
theorem c_G_highOf (g : Nat) (hg : z_G g) (v1 : Int32) (S : zS) (post : Int32 → zS → Prop) (h : P_G_highOf g v1 S post) : z_cti l D cA 51 ad y_G_highOf b_G_highOf 2 (some .int) rm_G_highOf [.ref (ad g), .int v1] S post := by
  refine z_meti (av := [.ref (ad g), .int v1]) (by decide) (Nat.le_of_ble_eq_true rfl) ⟨rfl, rfl⟩ (fun p e s m args below meth c Q ls C hcs hl hI hR => ?_)
  obtain ⟨hx, hb, hml, hown, hts, hK, hJ⟩ := id C
  unfold P_G_highOf at h
  have hl : lv_has ls 2 [(0, .ref (ad g)), (1, .int v1)] := hl
  refine lv_aload_n hx hb d_G_highOf_0 rfl (lv_at hl 0 rfl) ?_
  refine z_getR C hI g (z_lt0 hg) hg.2.1 cl_G iw_G 4 (by decide) k_fl_G_24 rfl d_G_highOf_1 ?_
  refine lv_iload_n hx hb d_G_highOf_4 rfl (lv_at hl 1 rfl) ?_
  obtain ⟨h1, h⟩ := h
  refine z_ild C hI (g + 5) (z_lt hg 5 (by decide)) hg.2.2.2.2.2.2.1 h1 d_G_highOf_5 ?_
  refine lv_aload_n hx hb d_G_highOf_6 rfl (lv_at hl 0 rfl) ?_
  refine z_getR C hI g (z_lt0 hg) hg.2.1 cl_G iw_G 2 (by decide) k_fl_G_18 rfl d_G_highOf_7 ?_
  refine lv_iload_n hx hb d_G_highOf_10 rfl (lv_at hl 1 rfl) ?_
  obtain ⟨h1, h⟩ := h
  refine z_ild C hI (g + 3) (z_lt hg 3 (by decide)) hg.2.2.2.2.1 h1 d_G_highOf_11 ?_
  refine lv_isub hx hb d_G_highOf_12 ?_
  refine lv_iconst (v := 1) hx hb d_G_highOf_13 (by decide) ?_
  refine lv_iadd hx hb d_G_highOf_14 ?_
  exact hR _ _ hcs (((S (g + 5) (z_ix v1)) - (S (g + 3) (z_ix v1))) + 1) S _ _ 15 ls h hI d_G_highOf_15
set_option maxHeartbeats 4000000 in
set_option maxRecDepth 100000 in
theorem c_P_isThin (v0 : Int32) (v1 : Int32) (S : zS) (post : Int32 → zS → Prop) (h : P_P_isThin v0 v1 S post) : z_cti l D cA n ad y_P_isThin b_P_isThin 2 (some .boolean) rm_P_isThin [.int v0, .int v1] S post := by
  refine z_metz (av := [.int v0, .int v1]) (by decide) (Nat.le_of_ble_eq_true rfl) ⟨rfl, rfl⟩ (fun p e s m args below meth c Q ls C hcs hl hI hR => ?_)
  obtain ⟨hx, hb, hml, hown, hts, hK, hJ⟩ := id C
  unfold P_P_isThin at h
  have hl : lv_has ls 2 [(0, .int v0), (1, .int v1)] := hl
  refine lv_iload_n hx hb d_P_isThin_0 rfl (lv_at hl 1 rfl) ?_
  refine lv_iconst (v := 2) hx hb d_P_isThin_1 (by decide) ?_
  refine lv_icmp_gt (tgt := 16) hx hb d_P_isThin_2 (by decide) (fun q => ?_) (fun q => ?_)
  · replace h := h.1 q
    refine lv_iconst (v := 0) hx hb d_P_isThin_16 (by decide) ?_
    exact hR _ _ hcs 0 S _ _ 17 ls (by decide) h hI d_P_isThin_17
  · replace h := h.2 q
    refine lv_iload_n hx hb d_P_isThin_5 rfl (lv_at hl 0 rfl) ?_
    refine lv_iconst (v := 5) hx hb d_P_isThin_6 (by decide) ?_
    refine lv_iload_n hx hb d_P_isThin_7 rfl (lv_at hl 1 rfl) ?_
    refine lv_imul hx hb d_P_isThin_8 ?_
    refine lv_icmp_lt (tgt := 16) hx hb d_P_isThin_9 (by decide) (fun q => ?_) (fun q => ?_)
    · replace h := h.1 q
      refine lv_iconst (v := 0) hx hb d_P_isThin_16 (by decide) ?_
      exact hR _ _ hcs 0 S _ _ 17 ls (by decide) h hI d_P_isThin_17
    · replace h := h.2 q
      refine lv_iconst (v := 1) hx hb d_P_isThin_12 (by decide) ?_
      refine lv_goto (tgt := 17) hx hb d_P_isThin_13 (by decide) ?_
      exact hR _ _ hcs 1 S _ _ 17 ls (by decide) h hI d_P_isThin_17
set_option maxHeartbeats 4000000 in
set_option maxRecDepth 100000 in
theorem w_P_countClean_18 (C : z_CT p s m args c R_P b_P_countClean 8 D cA 51 ad) (hcs : cells ≤ rm_P_countClean.cells ∧ slots ≤ rm_P_countClean.slots) (post : Int32 → zS → Prop) (K51 : Int32 → zS → Prop) (v1 : Int32) (v2 : Int32) (v3 : Int32) (v4 : Int32) (v6 : Int32) (hR : z_Ri p l e rm_P_countClean s m args below meth c Q b_P_countClean D cA 51 ad post) (kK51 : ∀ (v5 : Int32) (S : zS) (H : Heap) (locs : List Loc) (ls : Array Slot), K51 v5 S → z_I D cA 51 ad s.heap S H locs → lv_has ls 8 [(0, .ref (ad 0)), (1, .int v1), (2, .int v2), (3, .int v3), (4, .int v4), (5, .int v5), (6, .int v6)] → W p l e rm_P_countClean s m args below meth c H locs cells slots Q (F0 m 51 ls [])) : ∀ (n : Nat) (v5 : Int32) (v7 : Int32) (S : zS) (H : Heap) (locs : List Loc) (ls : Array Slot), z_I D cA 51 ad s.heap S H locs → lv_has ls 8 [(0, .ref (ad 0)), (1, .int v1), (2, .int v2), (3, .int v3), (4, .int v4), (5, .int v5), (6, .int v6), (7, .int v7)] → L_P_countClean_18 post K51 v1 v2 v3 v4 v6 n v5 v7 S → W p l e rm_P_countClean s m args below meth c H locs cells slots Q (F0 m 18 ls []) := by
  obtain ⟨hx, hb, hml, hown, hts, hK, hJ⟩ := id C
  intro n
  induction n with
  | zero => intro v5 v7 S H locs ls hI hl h; exact h.elim
  | succ n ih =>
    intro v5 v7 S H locs ls hI hl h
    rw [L_P_countClean_18] at h
    refine lv_iload hx hb d_P_countClean_18 (lv_at hl 7 rfl) ?_
    refine lv_iload_n hx hb d_P_countClean_20 rfl (lv_at hl 1 rfl) ?_
    refine lv_iload_n hx hb d_P_countClean_21 rfl (lv_at hl 3 rfl) ?_
    refine lv_iadd hx hb d_P_countClean_22 ?_
    refine lv_icmp_ge (tgt := 51) hx hb d_P_countClean_23 (by decide) (fun q => ?_) (fun q => ?_)
    · replace h := h.1 q
      exact kK51 v5 S _ _ ls h hI (lv_sub hl [0, 1, 2, 3, 4, 5, 6] rfl)
    · replace h := h.2 q
      refine lv_aload_n hx hb d_P_countClean_26 rfl (lv_at hl 0 rfl) ?_
      refine z_getR C hI 0 (by decide) kd_0 cl_P iw_P 3 (by decide) k_fl_P_13 rfl d_P_countClean_27 ?_
      refine lv_iload hx hb d_P_countClean_30 (lv_at hl 6 rfl) ?_
      refine lv_bipush (v := 24) hx hb d_P_countClean_32 (by decide) ?_
      refine lv_imul hx hb d_P_countClean_34 ?_
      refine lv_iload hx hb d_P_countClean_35 (lv_at hl 7 rfl) ?_
      refine lv_iadd hx hb d_P_countClean_37 ?_
      obtain ⟨h1, h⟩ := h
      refine z_zld C hI 2 (by decide) kd_2 h1 d_P_countClean_38 ?_
      refine lv_if_eq (tgt := 45) hx hb d_P_countClean_39 (by decide) (fun q => ?_) (fun q => ?_)
      · replace h := h.1 q
        obtain ⟨x45, e45⟩ : ∃ y : Int32, y = v7 + 1 := ⟨_, rfl⟩
        replace h := h x45 e45
        refine lv_iinc (v := x45) (lv' := [(7, .int x45), (0, .ref (ad 0)), (1, .int v1), (2, .int v2), (3, .int v3), (4, .int v4), (5, .int v5), (6, .int v6)]) hx hb d_P_countClean_45 hl (k := 7) rfl (by rw [e45]; rfl) (by decide) rfl (fun ls hl => ?_)
        refine lv_goto (tgt := 18) hx hb d_P_countClean_48 (by decide) ?_
        exact ih v5 x45 S _ _ ls hI (lv_sub hl [1, 2, 3, 4, 5, 6, 7, 0] rfl) h
      · replace h := h.2 q
        obtain ⟨x42, e42⟩ : ∃ y : Int32, y = v5 + 1 := ⟨_, rfl⟩
        replace h := h x42 e42
        refine lv_iinc (v := x42) (lv' := [(5, .int x42), (0, .ref (ad 0)), (1, .int v1), (2, .int v2), (3, .int v3), (4, .int v4), (6, .int v6), (7, .int v7)]) hx hb d_P_countClean_42 hl (k := 5) rfl (by rw [e42]; rfl) (by decide) rfl (fun ls hl => ?_)
        obtain ⟨x45, e45⟩ : ∃ y : Int32, y = v7 + 1 := ⟨_, rfl⟩
        replace h := h x45 e45
        refine lv_iinc (v := x45) (lv' := [(7, .int x45), (5, .int x42), (0, .ref (ad 0)), (1, .int v1), (2, .int v2), (3, .int v3), (4, .int v4), (6, .int v6)]) hx hb d_P_countClean_45 hl (k := 7) rfl (by rw [e45]; rfl) (by decide) rfl (fun ls hl => ?_)
        refine lv_goto (tgt := 18) hx hb d_P_countClean_48 (by decide) ?_
        exact ih x42 x45 S _ _ ls hI (lv_sub hl [2, 3, 4, 5, 6, 1, 7, 0] rfl) h
set_option maxHeartbeats 4000000 in
set_option maxRecDepth 100000 in
theorem w_P_countClean_6 (C : z_CT p s m args c R_P b_P_countClean 8 D cA 51 ad) (hcs : cells ≤ rm_P_countClean.cells ∧ slots ≤ rm_P_countClean.slots) (post : Int32 → zS → Prop) (v1 : Int32) (v2 : Int32) (v3 : Int32) (v4 : Int32) (hR : z_Ri p l e rm_P_countClean s m args below meth c Q b_P_countClean D cA 51 ad post) : ∀ (n : Nat) (v5 : Int32) (v6 : Int32) (S : zS) (H : Heap) (locs : List Loc) (ls : Array Slot), z_I D cA 51 ad s.heap S H locs → lv_has ls 8 [(0, .ref (ad 0)), (1, .int v1), (2, .int v2), (3, .int v3), (4, .int v4), (5, .int v5), (6, .int v6)] → L_P_countClean_6 post v1 v2 v3 v4 n v5 v6 S → W p l e rm_P_countClean s m args below meth c H locs cells slots Q (F0 m 6 ls []) := by
  obtain ⟨hx, hb, hml, hown, hts, hK, hJ⟩ := id C
  intro n
  induction n with
  | zero => intro v5 v6 S H locs ls hI hl h; exact h.elim
  | succ n ih =>
    intro v5 v6 S H locs ls hI hl h
    rw [L_P_countClean_6] at h
    refine lv_iload hx hb d_P_countClean_6 (lv_at hl 6 rfl) ?_
    refine lv_iload_n hx hb d_P_countClean_8 rfl (lv_at hl 2 rfl) ?_
    refine lv_iload hx hb d_P_countClean_9 (lv_at hl 4 rfl) ?_
    refine lv_iadd hx hb d_P_countClean_11 ?_
    refine lv_icmp_ge (tgt := 57) hx hb d_P_countClean_12 (by decide) (fun q => ?_) (fun q => ?_)
    · replace h := h.1 q
      refine lv_iload hx hb d_P_countClean_57 (lv_at hl 5 rfl) ?_
      exact hR _ _ hcs v5 S _ _ 59 ls h hI d_P_countClean_59
    · replace h := h.2 q
      refine lv_iload_n hx hb d_P_countClean_15 rfl (lv_at hl 1 rfl) ?_
      refine lv_istore (lv' := [(7, .int v1), (0, .ref (ad 0)), (1, .int v1), (2, .int v2), (3, .int v3), (4, .int v4), (5, .int v5), (6, .int v6)]) hx hb d_P_countClean_16 hl (by decide) rfl (fun ls hl => ?_)
      obtain ⟨k18, h⟩ := h
      refine w_P_countClean_18 C hcs _ _ v1 v2 v3 v4 v6 hR (fun v5_18e S18e H locs ls h hI hl => ?_) k18 v5 v1 S _ _ ls hI (lv_sub hl [1, 2, 3, 4, 5, 6, 7, 0] rfl) h
      obtain ⟨x51, e51⟩ : ∃ y : Int32, y = v6 + 1 := ⟨_, rfl⟩
      replace h := h x51 e51
      refine lv_iinc (v := x51) (lv' := [(6, .int x51), (0, .ref (ad 0)), (1, .int v1), (2, .int v2), (3, .int v3), (4, .int v4), (5, .int v5_18e)]) hx hb d_P_countClean_51 hl (k := 6) rfl (by rw [e51]; rfl) (by decide) rfl (fun ls hl => ?_)
      refine lv_goto (tgt := 6) hx hb d_P_countClean_54 (by decide) ?_
      exact ih v5_18e x51 S18e _ _ ls hI (lv_sub hl [1, 2, 3, 4, 5, 6, 0] rfl) h
set_option maxHeartbeats 4000000 in
set_option maxRecDepth 100000 in
theorem c_P_countClean (v1 : Int32) (v2 : Int32) (v3 : Int32) (v4 : Int32) (S : zS) (post : Int32 → zS → Prop) (h : P_P_countClean v1 v2 v3 v4 S post) : z_cti l D cA 51 ad y_P_countClean b_P_countClean 8 (some .int) rm_P_countClean [.ref (ad 0), .int v1, .int v2, .int v3, .int v4] S post := by
  refine z_meti (av := [.ref (ad 0), .int v1, .int v2, .int v3, .int v4]) (by decide) (Nat.le_of_ble_eq_true rfl) ⟨rfl, rfl⟩ (fun p e s m args below meth c Q ls C hcs hl hI hR => ?_)
  obtain ⟨hx, hb, hml, hown, hts, hK, hJ⟩ := id C
  unfold P_P_countClean at h
  have hl : lv_has ls 8 [(0, .ref (ad 0)), (1, .int v1), (2, .int v2), (3, .int v3), (4, .int v4)] := hl
  refine lv_iconst (v := 0) hx hb d_P_countClean_0 (by decide) ?_
  refine lv_istore (lv' := [(5, .int 0), (0, .ref (ad 0)), (1, .int v1), (2, .int v2), (3, .int v3), (4, .int v4)]) hx hb d_P_countClean_1 hl (by decide) rfl (fun ls hl => ?_)
  refine lv_iload_n hx hb d_P_countClean_3 rfl (lv_at hl 3 rfl) ?_
  refine lv_istore (lv' := [(6, .int v2), (5, .int 0), (0, .ref (ad 0)), (1, .int v1), (2, .int v2), (3, .int v3), (4, .int v4)]) hx hb d_P_countClean_4 hl (by decide) rfl (fun ls hl => ?_)
  obtain ⟨k6, h⟩ := h
  refine w_P_countClean_6 C hcs _ v1 v2 v3 v4 hR k6 0 v2 S _ _ ls hI (lv_sub hl [2, 3, 4, 5, 6, 1, 0] rfl) h
set_option maxHeartbeats 4000000 in
set_option maxRecDepth 100000 in
theorem c_P_isFramed (v1 : Int32) (S : zS) (post : Int32 → zS → Prop) (h : P_P_isFramed v1 S post) : z_cti l D cA 51 ad y_P_isFramed b_P_isFramed 6 (some .boolean) rm_P_isFramed [.ref (ad 0), .int v1] S post := by
  refine z_metz (av := [.ref (ad 0), .int v1]) (by decide) (Nat.le_of_ble_eq_true rfl) ⟨rfl, rfl⟩ (fun p e s m args below meth c Q ls C hcs hl hI hR => ?_)
  obtain ⟨hx, hb, hml, hown, hts, hK, hJ⟩ := id C
  unfold P_P_isFramed at h
  have hl : lv_has ls 6 [(0, .ref (ad 0)), (1, .int v1)] := hl
  refine lv_aload_n hx hb d_P_isFramed_0 rfl (lv_at hl 0 rfl) ?_
  refine z_getR C hI 0 (by decide) kd_0 cl_P iw_P 6 (by decide) k_fl_P_39 rfl d_P_isFramed_1 ?_
  refine z_getR C hI 5 (by decide) kd_5 cl_G iw_G 1 (by decide) k_fl_P_219 rfl d_P_isFramed_4 ?_
  refine lv_iload_n hx hb d_P_isFramed_7 rfl (lv_at hl 1 rfl) ?_
  obtain ⟨h1, h⟩ := h
  refine z_ild C hI 7 (by decide) kd_7 h1 d_P_isFramed_8 ?_
  refine lv_topi (fun x9 e9 => ?_)
  replace h := h x9 e9
  refine lv_istore_n (lv' := [(2, .int x9), (0, .ref (ad 0)), (1, .int v1)]) hx hb d_P_isFramed_9 rfl hl (by decide) rfl (fun ls hl => ?_)
  refine lv_aload_n hx hb d_P_isFramed_10 rfl (lv_at hl 1 rfl) ?_
  refine z_getR C hI 0 (by decide) kd_0 cl_P iw_P 6 (by decide) k_fl_P_39 rfl d_P_isFramed_11 ?_
  refine z_getR C hI 5 (by decide) kd_5 cl_G iw_G 2 (by decide) k_fl_P_220 rfl d_P_isFramed_14 ?_
  refine lv_iload_n hx hb d_P_isFramed_17 rfl (lv_at hl 2 rfl) ?_
  obtain ⟨h1, h⟩ := h
  refine z_ild C hI 8 (by decide) kd_8 h1 d_P_isFramed_18 ?_
  refine lv_topi (fun x19 e19 => ?_)
  replace h := h x19 e19
  refine lv_istore_n (lv' := [(3, .int x19), (2, .int x9), (0, .ref (ad 0)), (1, .int v1)]) hx hb d_P_isFramed_19 rfl hl (by decide) rfl (fun ls hl => ?_)
  refine lv_aload_n hx hb d_P_isFramed_20 rfl (lv_at hl 2 rfl) ?_
  refine z_getR C hI 0 (by decide) kd_0 cl_P iw_P 6 (by decide) k_fl_P_39 rfl d_P_isFramed_21 ?_
  refine lv_iload_n hx hb d_P_isFramed_24 rfl (lv_at hl 3 rfl) ?_
  refine z_callVi C hI 5 (by decide) kd_5 cl_G (As := [.int v1]) (rest := []) (c_G_wideOf 5 z_G_5 v1 _ _ h) wc_G_wideOf k_ml_P_203 rfl rfl (Nat.le_of_ble_eq_true rfl) (Nat.le_of_ble_eq_true rfl) hcs hl.1 (Nat.le_of_ble_eq_true rfl) rfl d_P_isFramed_25 (fun r25 S25 H locs h hI => ?_)
  refine lv_istore (lv' := [(4, .int r25), (3, .int x19), (2, .int x9), (0, .ref (ad 0)), (1, .int v1)]) hx hb d_P_isFramed_28 hl (by decide) rfl (fun ls hl => ?_)
  refine lv_aload_n hx hb d_P_isFramed_30 rfl (lv_at hl 3 rfl) ?_
  refine z_getR C hI 0 (by decide) kd_0 cl_P iw_P 6 (by decide) k_fl_P_39 rfl d_P_isFramed_31 ?_
  refine lv_iload_n hx hb d_P_isFramed_34 rfl (lv_at hl 4 rfl) ?_
  refine z_callVi C hI 5 (by decide) kd_5 cl_G (As := [.int v1]) (rest := []) (c_G_highOf 5 z_G_5 v1 _ _ h) wc_G_highOf k_ml_P_206 rfl rfl (Nat.le_of_ble_eq_true rfl) (Nat.le_of_ble_eq_true rfl) hcs hl.1 (Nat.le_of_ble_eq_true rfl) rfl d_P_isFramed_35 (fun r35 S35 H locs h hI => ?_)
  refine lv_istore (lv' := [(5, .int r35), (4, .int r25), (3, .int x19), (2, .int x9), (0, .ref (ad 0)), (1, .int v1)]) hx hb d_P_isFramed_38 hl (by decide) rfl (fun ls hl => ?_)
  refine lv_iconst (v := 4) hx hb d_P_isFramed_40 (by decide) ?_
  refine lv_aload_n hx hb d_P_isFramed_41 rfl (lv_at hl 4 rfl) ?_
  refine lv_iload_n hx hb d_P_isFramed_42 rfl (lv_at hl 3 rfl) ?_
  refine lv_iload_n hx hb d_P_isFramed_43 rfl (lv_at hl 2 rfl) ?_
  refine lv_iload hx hb d_P_isFramed_44 (lv_at hl 1 rfl) ?_
  refine lv_iconst (v := 1) hx hb d_P_isFramed_46 (by decide) ?_
  refine z_callVi C hI 0 (by decide) kd_0 cl_P (As := [.int x9, .int x19, .int r25, .int 1]) (rest := [.int 4]) (c_P_countClean x9 x19 r25 1 _ _ h) wc_P_countClean k_ml_P_221 rfl rfl (Nat.le_of_ble_eq_true rfl) (Nat.le_of_ble_eq_true rfl) hcs hl.1 (Nat.le_of_ble_eq_true rfl) rfl d_P_isFramed_47 (fun r47 S47 H locs h hI => ?_)
  refine lv_imul hx hb d_P_isFramed_50 ?_
  refine lv_iconst (v := 3) hx hb d_P_isFramed_51 (by decide) ?_
  refine lv_iload hx hb d_P_isFramed_52 (lv_at hl 1 rfl) ?_
  refine lv_imul hx hb d_P_isFramed_54 ?_
  refine lv_icmp_lt (tgt := 132) hx hb d_P_isFramed_55 (by decide) (fun q => ?_) (fun q => ?_)
  · replace h := h.1 q
    refine lv_iconst (v := 0) hx hb d_P_isFramed_132 (by decide) ?_
    exact hR _ _ hcs 0 S47 _ _ 133 ls (by decide) h hI d_P_isFramed_133
  · replace h := h.2 q
    refine lv_iconst (v := 4) hx hb d_P_isFramed_58 (by decide) ?_
    refine lv_aload_n hx hb d_P_isFramed_59 rfl (lv_at hl 4 rfl) ?_
    refine lv_iload_n hx hb d_P_isFramed_60 rfl (lv_at hl 3 rfl) ?_
    refine lv_aload_n hx hb d_P_isFramed_61 rfl (lv_at hl 4 rfl) ?_
    refine z_getR C hI 0 (by decide) kd_0 cl_P iw_P 6 (by decide) k_fl_P_39 rfl d_P_isFramed_62 ?_
    refine z_getR C hI 5 (by decide) kd_5 cl_G iw_G 4 (by decide) k_fl_P_225 rfl d_P_isFramed_65 ?_
    refine lv_iload_n hx hb d_P_isFramed_68 rfl (lv_at hl 5 rfl) ?_
    obtain ⟨h1, h⟩ := h
    refine z_ild C hI 10 (by decide) kd_10 h1 d_P_isFramed_69 ?_
    refine lv_iload hx hb d_P_isFramed_70 (lv_at hl 1 rfl) ?_
    refine lv_iconst (v := 1) hx hb d_P_isFramed_72 (by decide) ?_
    refine z_callVi C hI 0 (by decide) kd_0 cl_P (As := [.int x9, .int (S47 10 (z_ix v1)), .int r25, .int 1]) (rest := [.int 4]) (c_P_countClean x9 (S47 10 (z_ix v1)) r25 1 _ _ h) wc_P_countClean k_ml_P_221 rfl rfl (Nat.le_of_ble_eq_true rfl) (Nat.le_of_ble_eq_true rfl) hcs hl.1 (Nat.le_of_ble_eq_true rfl) rfl d_P_isFramed_73 (fun r73 S73 H locs h hI => ?_)
    refine lv_imul hx hb d_P_isFramed_76 ?_
    refine lv_iconst (v := 3) hx hb d_P_isFramed_77 (by decide) ?_
    refine lv_iload hx hb d_P_isFramed_78 (lv_at hl 1 rfl) ?_
    refine lv_imul hx hb d_P_isFramed_80 ?_
    refine lv_icmp_lt (tgt := 132) hx hb d_P_isFramed_81 (by decide) (fun q => ?_) (fun q => ?_)
    · replace h := h.1 q
      refine lv_iconst (v := 0) hx hb d_P_isFramed_132 (by decide) ?_
      exact hR _ _ hcs 0 S73 _ _ 133 ls (by decide) h hI d_P_isFramed_133
    · replace h := h.2 q
      refine lv_iconst (v := 4) hx hb d_P_isFramed_84 (by decide) ?_
      refine lv_aload_n hx hb d_P_isFramed_85 rfl (lv_at hl 4 rfl) ?_
      refine lv_iload_n hx hb d_P_isFramed_86 rfl (lv_at hl 3 rfl) ?_
      refine lv_iload_n hx hb d_P_isFramed_87 rfl (lv_at hl 2 rfl) ?_
      refine lv_iconst (v := 1) hx hb d_P_isFramed_88 (by decide) ?_
      refine lv_iload hx hb d_P_isFramed_89 (lv_at hl 0 rfl) ?_
      refine z_callVi C hI 0 (by decide) kd_0 cl_P (As := [.int x9, .int x19, .int 1, .int r35]) (rest := [.int 4]) (c_P_countClean x9 x19 1 r35 _ _ h) wc_P_countClean k_ml_P_221 rfl rfl (Nat.le_of_ble_eq_true rfl) (Nat.le_of_ble_eq_true rfl) hcs hl.1 (Nat.le_of_ble_eq_true rfl) rfl d_P_isFramed_91 (fun r91 S91 H locs h hI => ?_)
      refine lv_imul hx hb d_P_isFramed_94 ?_
      refine lv_iconst (v := 3) hx hb d_P_isFramed_95 (by decide) ?_
      refine lv_iload hx hb d_P_isFramed_96 (lv_at hl 0 rfl) ?_
      refine lv_imul hx hb d_P_isFramed_98 ?_
      refine lv_icmp_lt (tgt := 132) hx hb d_P_isFramed_99 (by decide) (fun q => ?_) (fun q => ?_)
      · replace h := h.1 q
        refine lv_iconst (v := 0) hx hb d_P_isFramed_132 (by decide) ?_
        exact hR _ _ hcs 0 S91 _ _ 133 ls (by decide) h hI d_P_isFramed_133
      · replace h := h.2 q
        refine lv_iconst (v := 4) hx hb d_P_isFramed_102 (by decide) ?_
        refine lv_aload_n hx hb d_P_isFramed_103 rfl (lv_at hl 4 rfl) ?_
        refine lv_aload_n hx hb d_P_isFramed_104 rfl (lv_at hl 4 rfl) ?_
        refine z_getR C hI 0 (by decide) kd_0 cl_P iw_P 6 (by decide) k_fl_P_39 rfl d_P_isFramed_105 ?_
        refine z_getR C hI 5 (by decide) kd_5 cl_G iw_G 3 (by decide) k_fl_P_228 rfl d_P_isFramed_108 ?_
        refine lv_iload_n hx hb d_P_isFramed_111 rfl (lv_at hl 5 rfl) ?_
        obtain ⟨h1, h⟩ := h
        refine z_ild C hI 9 (by decide) kd_9 h1 d_P_isFramed_112 ?_
        refine lv_iload_n hx hb d_P_isFramed_113 rfl (lv_at hl 2 rfl) ?_
        refine lv_iconst (v := 1) hx hb d_P_isFramed_114 (by decide) ?_
        refine lv_iload hx hb d_P_isFramed_115 (lv_at hl 0 rfl) ?_
        refine z_callVi C hI 0 (by decide) kd_0 cl_P (As := [.int (S91 9 (z_ix v1)), .int x19, .int 1, .int r35]) (rest := [.int 4]) (c_P_countClean (S91 9 (z_ix v1)) x19 1 r35 _ _ h) wc_P_countClean k_ml_P_221 rfl rfl (Nat.le_of_ble_eq_true rfl) (Nat.le_of_ble_eq_true rfl) hcs hl.1 (Nat.le_of_ble_eq_true rfl) rfl d_P_isFramed_117 (fun r117 S117 H locs h hI => ?_)
        refine lv_imul hx hb d_P_isFramed_120 ?_
        refine lv_iconst (v := 3) hx hb d_P_isFramed_121 (by decide) ?_
        refine lv_iload hx hb d_P_isFramed_122 (lv_at hl 0 rfl) ?_
        refine lv_imul hx hb d_P_isFramed_124 ?_
        refine lv_icmp_lt (tgt := 132) hx hb d_P_isFramed_125 (by decide) (fun q => ?_) (fun q => ?_)
        · replace h := h.1 q
          refine lv_iconst (v := 0) hx hb d_P_isFramed_132 (by decide) ?_
          exact hR _ _ hcs 0 S117 _ _ 133 ls (by decide) h hI d_P_isFramed_133
        · replace h := h.2 q
          refine lv_iconst (v := 1) hx hb d_P_isFramed_128 (by decide) ?_
          refine lv_goto (tgt := 133) hx hb d_P_isFramed_129 (by decide) ?_
          exact hR _ _ hcs 1 S117 _ _ 133 ls (by decide) h hI d_P_isFramed_133
set_option maxHeartbeats 4000000 in
set_option maxRecDepth 100000 in
theorem c_P_isMostlyEmptyWithin (v1 : Int32) (S : zS) (post : Int32 → zS → Prop) (h : P_P_isMostlyEmptyWithin v1 S post) : z_cti l D cA 51 ad y_P_isMostlyEmptyWithin b_P_isMostlyEmptyWithin 4 (some .boolean) rm_P_isMostlyEmptyWithin [.ref (ad 0), .int v1] S post := by
  refine z_metz (av := [.ref (ad 0), .int v1]) (by decide) (Nat.le_of_ble_eq_true rfl) ⟨rfl, rfl⟩ (fun p e s m args below meth c Q ls C hcs hl hI hR => ?_)
  obtain ⟨hx, hb, hml, hown, hts, hK, hJ⟩ := id C
  unfold P_P_isMostlyEmptyWithin at h
  have hl : lv_has ls 4 [(0, .ref (ad 0)), (1, .int v1)] := hl
  refine lv_aload_n hx hb d_P_isMostlyEmptyWithin_0 rfl (lv_at hl 0 rfl) ?_
  refine z_getR C hI 0 (by decide) kd_0 cl_P iw_P 6 (by decide) k_fl_P_39 rfl d_P_isMostlyEmptyWithin_1 ?_
  refine lv_iload_n hx hb d_P_isMostlyEmptyWithin_4 rfl (lv_at hl 1 rfl) ?_
  refine z_callVi C hI 5 (by decide) kd_5 cl_G (As := [.int v1]) (rest := []) (c_G_wideOf 5 z_G_5 v1 _ _ h) wc_G_wideOf k_ml_P_203 rfl rfl (Nat.le_of_ble_eq_true rfl) (Nat.le_of_ble_eq_true rfl) hcs hl.1 (Nat.le_of_ble_eq_true rfl) rfl d_P_isMostlyEmptyWithin_5 (fun r5 S5 H locs h hI => ?_)
  refine lv_iconst (v := 2) hx hb d_P_isMostlyEmptyWithin_8 (by decide) ?_
  refine lv_isub hx hb d_P_isMostlyEmptyWithin_9 ?_
  refine lv_topi (fun x10 e10 => ?_)
  replace h := h x10 e10
  refine lv_istore_n (lv' := [(2, .int x10), (0, .ref (ad 0)), (1, .int v1)]) hx hb d_P_isMostlyEmptyWithin_10 rfl hl (by decide) rfl (fun ls hl => ?_)
  refine lv_aload_n hx hb d_P_isMostlyEmptyWithin_11 rfl (lv_at hl 1 rfl) ?_
  refine z_getR C hI 0 (by decide) kd_0 cl_P iw_P 6 (by decide) k_fl_P_39 rfl d_P_isMostlyEmptyWithin_12 ?_
  refine lv_iload_n hx hb d_P_isMostlyEmptyWithin_15 rfl (lv_at hl 2 rfl) ?_
  refine z_callVi C hI 5 (by decide) kd_5 cl_G (As := [.int v1]) (rest := []) (c_G_highOf 5 z_G_5 v1 _ _ h) wc_G_highOf k_ml_P_206 rfl rfl (Nat.le_of_ble_eq_true rfl) (Nat.le_of_ble_eq_true rfl) hcs hl.1 (Nat.le_of_ble_eq_true rfl) rfl d_P_isMostlyEmptyWithin_16 (fun r16 S16 H locs h hI => ?_)
  refine lv_iconst (v := 2) hx hb d_P_isMostlyEmptyWithin_19 (by decide) ?_
  refine lv_isub hx hb d_P_isMostlyEmptyWithin_20 ?_
  refine lv_topi (fun x21 e21 => ?_)
  replace h := h x21 e21
  refine lv_istore_n (lv' := [(3, .int x21), (2, .int x10), (0, .ref (ad 0)), (1, .int v1)]) hx hb d_P_isMostlyEmptyWithin_21 rfl hl (by decide) rfl (fun ls hl => ?_)
  refine lv_iconst (v := 4) hx hb d_P_isMostlyEmptyWithin_22 (by decide) ?_
  refine lv_aload_n hx hb d_P_isMostlyEmptyWithin_23 rfl (lv_at hl 2 rfl) ?_
  refine lv_aload_n hx hb d_P_isMostlyEmptyWithin_24 rfl (lv_at hl 2 rfl) ?_
  refine z_getR C hI 0 (by decide) kd_0 cl_P iw_P 6 (by decide) k_fl_P_39 rfl d_P_isMostlyEmptyWithin_25 ?_
  refine z_getR C hI 5 (by decide) kd_5 cl_G iw_G 1 (by decide) k_fl_P_219 rfl d_P_isMostlyEmptyWithin_28 ?_
  refine lv_iload_n hx hb d_P_isMostlyEmptyWithin_31 rfl (lv_at hl 3 rfl) ?_
  obtain ⟨h1, h⟩ := h
  refine z_ild C hI 7 (by decide) kd_7 h1 d_P_isMostlyEmptyWithin_32 ?_
  refine lv_iconst (v := 1) hx hb d_P_isMostlyEmptyWithin_33 (by decide) ?_
  refine lv_iadd hx hb d_P_isMostlyEmptyWithin_34 ?_
  refine lv_aload_n hx hb d_P_isMostlyEmptyWithin_35 rfl (lv_at hl 2 rfl) ?_
  refine z_getR C hI 0 (by decide) kd_0 cl_P iw_P 6 (by decide) k_fl_P_39 rfl d_P_isMostlyEmptyWithin_36 ?_
  refine z_getR C hI 5 (by decide) kd_5 cl_G iw_G 2 (by decide) k_fl_P_220 rfl d_P_isMostlyEmptyWithin_39 ?_
  refine lv_iload_n hx hb d_P_isMostlyEmptyWithin_42 rfl (lv_at hl 3 rfl) ?_
  obtain ⟨h1, h⟩ := h
  refine z_ild C hI 8 (by decide) kd_8 h1 d_P_isMostlyEmptyWithin_43 ?_
  refine lv_iconst (v := 1) hx hb d_P_isMostlyEmptyWithin_44 (by decide) ?_
  refine lv_iadd hx hb d_P_isMostlyEmptyWithin_45 ?_
  refine lv_iload_n hx hb d_P_isMostlyEmptyWithin_46 rfl (lv_at hl 1 rfl) ?_
  refine lv_iload_n hx hb d_P_isMostlyEmptyWithin_47 rfl (lv_at hl 0 rfl) ?_
  refine z_callVi C hI 0 (by decide) kd_0 cl_P (As := [.int ((S16 7 (z_ix v1)) + 1), .int ((S16 8 (z_ix v1)) + 1), .int x10, .int x21]) (rest := [.int 4]) (c_P_countClean ((S16 7 (z_ix v1)) + 1) ((S16 8 (z_ix v1)) + 1) x10 x21 _ _ h) wc_P_countClean k_ml_P_221 rfl rfl (Nat.le_of_ble_eq_true rfl) (Nat.le_of_ble_eq_true rfl) hcs hl.1 (Nat.le_of_ble_eq_true rfl) rfl d_P_isMostlyEmptyWithin_48 (fun r48 S48 H locs h hI => ?_)
  refine lv_imul hx hb d_P_isMostlyEmptyWithin_51 ?_
  refine lv_iload_n hx hb d_P_isMostlyEmptyWithin_52 rfl (lv_at hl 1 rfl) ?_
  refine lv_iload_n hx hb d_P_isMostlyEmptyWithin_53 rfl (lv_at hl 0 rfl) ?_
  refine lv_imul hx hb d_P_isMostlyEmptyWithin_54 ?_
  refine lv_icmp_gt (tgt := 62) hx hb d_P_isMostlyEmptyWithin_55 (by decide) (fun q => ?_) (fun q => ?_)
  · replace h := h.1 q
    refine lv_iconst (v := 0) hx hb d_P_isMostlyEmptyWithin_62 (by decide) ?_
    exact hR _ _ hcs 0 S48 _ _ 63 ls (by decide) h hI d_P_isMostlyEmptyWithin_63
  · replace h := h.2 q
    refine lv_iconst (v := 1) hx hb d_P_isMostlyEmptyWithin_58 (by decide) ?_
    refine lv_goto (tgt := 63) hx hb d_P_isMostlyEmptyWithin_59 (by decide) ?_
    exact hR _ _ hcs 1 S48 _ _ 63 ls (by decide) h hI d_P_isMostlyEmptyWithin_63
set_option maxHeartbeats 4000000 in
set_option maxRecDepth 100000 in
theorem w_P_kindOf_68 (C : z_CT p s m args c R_P b_P_kindOf 5 D cA 51 ad) (hcs : cells ≤ rm_P_kindOf.cells ∧ slots ≤ rm_P_kindOf.slots) (post : Int32 → zS → Prop) (v1 : Int32) (v2 : Int32) (v3 : Int32) (hR : z_Ri p l e rm_P_kindOf s m args below meth c Q b_P_kindOf D cA 51 ad post) (S : zS) (H : Heap) (locs : List Loc) (ls : Array Slot) (hI : z_I D cA 51 ad s.heap S H locs) (hl : lv_has ls 5 [(0, .ref (ad 0)), (1, .int v1), (2, .int v2), (3, .int v3)]) (h : J_P_kindOf_68 post v1 v2 v3 S) : W p l e rm_P_kindOf s m args below meth c H locs cells slots Q (F0 m 68 ls []) := by
  obtain ⟨hx, hb, hml, hown, hts, hK, hJ⟩ := id C
  unfold J_P_kindOf_68 at h
  refine lv_aload_n hx hb d_P_kindOf_68 rfl (lv_at hl 0 rfl) ?_
  refine lv_aload_n hx hb d_P_kindOf_69 rfl (lv_at hl 0 rfl) ?_
  refine z_getR C hI 0 (by decide) kd_0 cl_P iw_P 6 (by decide) k_fl_P_39 rfl d_P_kindOf_70 ?_
  refine z_getR C hI 5 (by decide) kd_5 cl_G iw_G 1 (by decide) k_fl_P_219 rfl d_P_kindOf_73 ?_
  refine lv_iload_n hx hb d_P_kindOf_76 rfl (lv_at hl 1 rfl) ?_
  obtain ⟨h1, h⟩ := h
  refine z_ild C hI 7 (by decide) kd_7 h1 d_P_kindOf_77 ?_
  refine lv_aload_n hx hb d_P_kindOf_78 rfl (lv_at hl 0 rfl) ?_
  refine z_getR C hI 0 (by decide) kd_0 cl_P iw_P 6 (by decide) k_fl_P_39 rfl d_P_kindOf_79 ?_
  refine z_getR C hI 5 (by decide) kd_5 cl_G iw_G 2 (by decide) k_fl_P_220 rfl d_P_kindOf_82 ?_
  refine lv_iload_n hx hb d_P_kindOf_85 rfl (lv_at hl 1 rfl) ?_
  obtain ⟨h1, h⟩ := h
  refine z_ild C hI 8 (by decide) kd_8 h1 d_P_kindOf_86 ?_
  refine lv_iload_n hx hb d_P_kindOf_87 rfl (lv_at hl 2 rfl) ?_
  refine lv_iload_n hx hb d_P_kindOf_88 rfl (lv_at hl 3 rfl) ?_
  refine z_callVi C hI 0 (by decide) kd_0 cl_P (As := [.int (S 7 (z_ix v1)), .int (S 8 (z_ix v1)), .int v2, .int v3]) (rest := []) (c_P_countClean (S 7 (z_ix v1)) (S 8 (z_ix v1)) v2 v3 _ _ h) wc_P_countClean k_ml_P_221 rfl rfl (Nat.le_of_ble_eq_true rfl) (Nat.le_of_ble_eq_true rfl) hcs hl.1 (Nat.le_of_ble_eq_true rfl) rfl d_P_kindOf_89 (fun r89 S89 H locs h hI => ?_)
  refine lv_istore (lv' := [(4, .int r89), (0, .ref (ad 0)), (1, .int v1), (2, .int v2), (3, .int v3)]) hx hb d_P_kindOf_92 hl (by decide) rfl (fun ls hl => ?_)
  refine lv_iconst (v := 2) hx hb d_P_kindOf_94 (by decide) ?_
  refine lv_iload hx hb d_P_kindOf_95 (lv_at hl 0 rfl) ?_
  refine lv_imul hx hb d_P_kindOf_97 ?_
  refine lv_iload_n hx hb d_P_kindOf_98 rfl (lv_at hl 3 rfl) ?_
  refine lv_iload_n hx hb d_P_kindOf_99 rfl (lv_at hl 4 rfl) ?_
  refine lv_imul hx hb d_P_kindOf_100 ?_
  refine lv_icmp_lt (tgt := 108) hx hb d_P_kindOf_101 (by decide) (fun q => ?_) (fun q => ?_)
  · replace h := h.1 q
    refine lv_iconst (v := 0) hx hb d_P_kindOf_108 (by decide) ?_
    exact hR _ _ hcs 0 S89 _ _ 109 ls h hI d_P_kindOf_109
  · replace h := h.2 q
    refine lv_iconst (v := 2) hx hb d_P_kindOf_104 (by decide) ?_
    refine lv_goto (tgt := 109) hx hb d_P_kindOf_105 (by decide) ?_
    exact hR _ _ hcs 2 S89 _ _ 109 ls h hI d_P_kindOf_109
set_option maxHeartbeats 4000000 in
set_option maxRecDepth 100000 in
theorem c_P_kindOf (v1 : Int32) (S : zS) (post : Int32 → zS → Prop) (h : P_P_kindOf v1 S post) : z_cti l D cA 51 ad y_P_kindOf b_P_kindOf 5 (some .int) rm_P_kindOf [.ref (ad 0), .int v1] S post := by
  refine z_meti (av := [.ref (ad 0), .int v1]) (by decide) (Nat.le_of_ble_eq_true rfl) ⟨rfl, rfl⟩ (fun p e s m args below meth c Q ls C hcs hl hI hR => ?_)
  obtain ⟨hx, hb, hml, hown, hts, hK, hJ⟩ := id C
  unfold P_P_kindOf at h
  have hl : lv_has ls 5 [(0, .ref (ad 0)), (1, .int v1)] := hl
  refine lv_aload_n hx hb d_P_kindOf_0 rfl (lv_at hl 0 rfl) ?_
  refine z_getR C hI 0 (by decide) kd_0 cl_P iw_P 6 (by decide) k_fl_P_39 rfl d_P_kindOf_1 ?_
  refine lv_iload_n hx hb d_P_kindOf_4 rfl (lv_at hl 1 rfl) ?_
  refine z_callVi C hI 5 (by decide) kd_5 cl_G (As := [.int v1]) (rest := []) (c_G_wideOf 5 z_G_5 v1 _ _ h) wc_G_wideOf k_ml_P_203 rfl rfl (Nat.le_of_ble_eq_true rfl) (Nat.le_of_ble_eq_true rfl) hcs hl.1 (Nat.le_of_ble_eq_true rfl) rfl d_P_kindOf_5 (fun r5 S5 H locs h hI => ?_)
  refine lv_istore_n (lv' := [(2, .int r5), (0, .ref (ad 0)), (1, .int v1)]) hx hb d_P_kindOf_8 rfl hl (by decide) rfl (fun ls hl => ?_)
  refine lv_aload_n hx hb d_P_kindOf_9 rfl (lv_at hl 1 rfl) ?_
  refine z_getR C hI 0 (by decide) kd_0 cl_P iw_P 6 (by decide) k_fl_P_39 rfl d_P_kindOf_10 ?_
  refine lv_iload_n hx hb d_P_kindOf_13 rfl (lv_at hl 2 rfl) ?_
  refine z_callVi C hI 5 (by decide) kd_5 cl_G (As := [.int v1]) (rest := []) (c_G_highOf 5 z_G_5 v1 _ _ h) wc_G_highOf k_ml_P_206 rfl rfl (Nat.le_of_ble_eq_true rfl) (Nat.le_of_ble_eq_true rfl) hcs hl.1 (Nat.le_of_ble_eq_true rfl) rfl d_P_kindOf_14 (fun r14 S14 H locs h hI => ?_)
  refine lv_istore_n (lv' := [(3, .int r14), (2, .int r5), (0, .ref (ad 0)), (1, .int v1)]) hx hb d_P_kindOf_17 rfl hl (by decide) rfl (fun ls hl => ?_)
  refine lv_iload_n hx hb d_P_kindOf_18 rfl (lv_at hl 1 rfl) ?_
  refine lv_iload_n hx hb d_P_kindOf_19 rfl (lv_at hl 0 rfl) ?_
  refine z_callSi C hI (As := [.int r5, .int r14]) (rest := []) (c_P_isThin r5 r14 _ _ h) wc_P_isThin k_ml_P_209 rfl rfl (Nat.le_of_ble_eq_true rfl) (Nat.le_of_ble_eq_true rfl) hcs hl.1 (Nat.le_of_ble_eq_true rfl) rfl d_P_kindOf_20 (fun r20 S20 H locs h hI => ?_)
  refine lv_if_ne (tgt := 34) hx hb d_P_kindOf_23 (by decide) (fun q => ?_) (fun q => ?_)
  · replace h := h.1 q
    refine lv_iconst (v := 1) hx hb d_P_kindOf_34 (by decide) ?_
    exact hR _ _ hcs 1 S20 _ _ 35 ls h hI d_P_kindOf_35
  · replace h := h.2 q
    refine lv_iload_n hx hb d_P_kindOf_26 rfl (lv_at hl 0 rfl) ?_
    refine lv_iload_n hx hb d_P_kindOf_27 rfl (lv_at hl 1 rfl) ?_
    refine z_callSi C hI (As := [.int r14, .int r5]) (rest := []) (c_P_isThin r14 r5 _ _ h) wc_P_isThin k_ml_P_209 rfl rfl (Nat.le_of_ble_eq_true rfl) (Nat.le_of_ble_eq_true rfl) hcs hl.1 (Nat.le_of_ble_eq_true rfl) rfl d_P_kindOf_28 (fun r28 S28 H locs h hI => ?_)
    refine lv_if_eq (tgt := 36) hx hb d_P_kindOf_31 (by decide) (fun q => ?_) (fun q => ?_)
    · replace h := h.1 q
      refine lv_iload_n hx hb d_P_kindOf_36 rfl (lv_at hl 1 rfl) ?_
      refine lv_bipush (v := 7) hx hb d_P_kindOf_37 (by decide) ?_
      refine lv_icmp_lt (tgt := 48) hx hb d_P_kindOf_39 (by decide) (fun q => ?_) (fun q => ?_)
      · replace h := h.1 q
        refine lv_iconst (v := 0) hx hb d_P_kindOf_48 (by decide) ?_
        exact hR _ _ hcs 0 S28 _ _ 49 ls h hI d_P_kindOf_49
      · replace h := h.2 q
        refine lv_iload_n hx hb d_P_kindOf_42 rfl (lv_at hl 0 rfl) ?_
        refine lv_bipush (v := 7) hx hb d_P_kindOf_43 (by decide) ?_
        refine lv_icmp_ge (tgt := 50) hx hb d_P_kindOf_45 (by decide) (fun q => ?_) (fun q => ?_)
        · replace h := h.1 q
          refine lv_aload_n hx hb d_P_kindOf_50 rfl (lv_at hl 2 rfl) ?_
          refine lv_iload_n hx hb d_P_kindOf_51 rfl (lv_at hl 3 rfl) ?_
          refine z_callVi C hI 0 (by decide) kd_0 cl_P (As := [.int v1]) (rest := []) (c_P_isFramed v1 _ _ h) wc_P_isFramed k_ml_P_213 rfl rfl (Nat.le_of_ble_eq_true rfl) (Nat.le_of_ble_eq_true rfl) hcs hl.1 (Nat.le_of_ble_eq_true rfl) rfl d_P_kindOf_52 (fun r52 S52 H locs h hI => ?_)
          refine lv_if_eq (tgt := 68) hx hb d_P_kindOf_55 (by decide) (fun q => ?_) (fun q => ?_)
          · replace h := h.1 q
            exact w_P_kindOf_68 C hcs _ v1 r5 r14 hR S52 _ _ ls hI (lv_sub hl [2, 3, 1, 0] rfl) h
          · replace h := h.2 q
            refine lv_aload_n hx hb d_P_kindOf_58 rfl (lv_at hl 2 rfl) ?_
            refine lv_iload_n hx hb d_P_kindOf_59 rfl (lv_at hl 3 rfl) ?_
            refine z_callVi C hI 0 (by decide) kd_0 cl_P (As := [.int v1]) (rest := []) (c_P_isMostlyEmptyWithin v1 _ _ h) wc_P_isMostlyEmptyWithin k_ml_P_216 rfl rfl (Nat.le_of_ble_eq_true rfl) (Nat.le_of_ble_eq_true rfl) hcs hl.1 (Nat.le_of_ble_eq_true rfl) rfl d_P_kindOf_60 (fun r60 S60 H locs h hI => ?_)
            refine lv_if_eq (tgt := 68) hx hb d_P_kindOf_63 (by decide) (fun q => ?_) (fun q => ?_)
            · replace h := h.1 q
              exact w_P_kindOf_68 C hcs _ v1 r5 r14 hR S60 _ _ ls hI (lv_sub hl [2, 3, 1, 0] rfl) h
            · replace h := h.2 q
              refine lv_iconst (v := 3) hx hb d_P_kindOf_66 (by decide) ?_
              exact hR _ _ hcs 3 S60 _ _ 67 ls h hI d_P_kindOf_67
        · replace h := h.2 q
          refine lv_iconst (v := 0) hx hb d_P_kindOf_48 (by decide) ?_
          exact hR _ _ hcs 0 S28 _ _ 49 ls h hI d_P_kindOf_49
    · replace h := h.2 q
      refine lv_iconst (v := 1) hx hb d_P_kindOf_34 (by decide) ?_
      exact hR _ _ hcs 1 S28 _ _ 35 ls h hI d_P_kindOf_35
end ZW
