
set_option maxHeartbeats 16000000 in
set_option maxRecDepth 100000 in
/-- the law from its entry, if the pure statement holds -/
theorem whole_open (hpure : z_pure) {p : Program} {e : Env} {s : State} {m : MethodId} {below : List Frame} {meth : Method} {c : Code} (l : Launch) (hl0 : l.stackTraces = false) {b L : Nat} {xs : Nat → Int32} (hL : L ≤ 3074) (C0 : lw_At p s m meth c b L xs) : W p l e room_1 s m #[Value.ref b] below meth c s.heap [] 0 0 (lw_Z below #[Value.ref b] s) (entryFrame m ([Value.ref b] : List Value).toArray 7) := by
  obtain ⟨hx, hb, hr, hml, hown, hts0, hX, hbl, hlocks, hgv⟩ := id C0
  have hts : ∀ w ∈ z_gw, w.before #[Value.ref b] s = true := fun w hw => hts0 w (List.mem_filter.mp hw).1
  obtain ⟨c0, iS0, hKn0⟩ := u_known (C := R_P) (T := F_P) (N := 15) (n := 15) hts0 (fun w hw => (List.mem_filter.mp (iw_P w hw)).1) (hts _ k_is_P)
  obtain ⟨c1, iS1, hKn1⟩ := u_known (C := R_G) (T := F_G) (N := 10) (n := 10) hts0 (fun w hw => (List.mem_filter.mp (iw_G w hw)).1) (hts _ k_is_G)
  obtain ⟨c2, iS2, hKn2⟩ := u_known (C := R_C) (T := F_C) (N := 9) (n := 9) hts0 (fun w hw => (List.mem_filter.mp (iw_C w hw)).1) (hts _ k_is_C)
  obtain ⟨c3, iS3, hKn3⟩ := u_known (C := R_R) (T := F_R) (N := 6) (n := 6) hts0 (fun w hw => (List.mem_filter.mp (iw_R w hw)).1) (hts _ k_is_R)
  obtain ⟨c4, iS4, hKn4⟩ := u_known (C := R_M) (T := F_M) (N := 27) (n := 27) hts0 (fun w hw => (List.mem_filter.mp (iw_M w hw)).1) (hts _ k_is_M)
  obtain ⟨dC, dI, hKc⟩ : ∃ (dC : Nat → ClassId) (dI : Nat → Nat → Nat), ∀ (k : Nat) (q : vw_C), z_cl[k]? = some q → u_Kn s q.1 q.2.1 q.2.2 (dC k) (dI k) := by
    refine ⟨fun k => if k = 0 then c0 else if k = 1 then c1 else if k = 2 then c2 else if k = 3 then c3 else c4, fun k => if k = 0 then iS0 else if k = 1 then iS1 else if k = 2 then iS2 else if k = 3 then iS3 else iS4, ?_⟩
    intro k q hq
    match k, hq with
    | 0, hq => cases hq; exact hKn0
    | 1, hq => cases hq; exact hKn1
    | 2, hq => cases hq; exact hKn2
    | 3, hq => cases hq; exact hKn3
    | 4, hq => cases hq; exact hKn4
    | k + 5, hq => simp [z_cl] at hq
  obtain ⟨cA, hKa⟩ := z_arrs hts
  have hK : va_K (dC, dI) z_cl (z_ty cA) s := ⟨hKc, hKa⟩
  have C : z_CT p s m #[Value.ref b] c R_L b_L_law 7 (dC, dI) cA 0 (fun _ => 0) := ⟨hx, hb, hml, hown, hts, hK, fun i j hi => absurd hi (Nat.not_lt_zero i)⟩
  have hA : ∀ q, s.heap.size ≤ q → (fun q : Nat => s.heap.size ≤ q) q := fun _ h => h
  have hE : z_E (dC, dI) (fun q => s.heap.size ≤ q) s.heap [] s.heap [] := ⟨fun k q h => by simp at h, ⟨fun i j p q h => by simp at h, fun k q h => by simp at h⟩, va_S.rf⟩
  have hl := lv_entry ([.ref b]) (n := 7) (Nat.le_of_ble_eq_true rfl)
  rw [lg_entry_eq]
  generalize (lg_sl ([.ref b]) ++ List.replicate (7 - (lg_sl ([.ref b])).length) Slot.unset).toArray = ls at hl ⊢
  have hl : lv_has ls 7 [(0, .ref b)] := hl
  have hnest : ∀ U : State, s.WarmedH U.vm → va_Nw (.methodLinkNest R_P 55 y_R_init R_P) U := fun U hW => va_Nw.warmM hW (va_Nw.of rfl (hts0 _ (List.mem_of_getElem? (i := 183) (by decide +kernel))))
  refine z_eNew C hE hA cl_P iw_P ty_P ty_P_ok k_nc_L_8 k_is_P k_in_P (fs := [.int 0, .int 0, .null, .null, .null, .null, .null, .null, .null, .null, .int 0, .int 0, .int 0, .int 0, .int 0]) (by decide +kernel) ⟨Nat.le_of_ble_eq_true rfl, Nat.le_of_ble_eq_true rfl⟩ d_L_law_0 (fun q0 H hE => ?_)
  refine lv_dup hx hb d_L_law_3 rfl ?_
  refine lv_aload_n hx hb d_L_law_4 rfl (lv_at hl 0 rfl) ?_
  refine lv_iconst (v := 0) hx hb d_L_law_5 (by decide) ?_
  refine z_eCallC C hE hX hbl hL 0 (by decide) k_ml_L_57 (Nat.le_of_ble_eq_true rfl) (Nat.le_of_ble_eq_true rfl) ⟨Nat.le_of_ble_eq_true rfl, Nat.le_of_ble_eq_true rfl⟩ hl.1 (rest := [.ref q0, .ref q0]) (Nat.le_of_ble_eq_true rfl) rfl d_L_law_6 (fun H locs hE => ?_)
  refine lv_aload_n hx hb d_L_law_9 rfl (lv_at hl 0 rfl) ?_
  refine lv_iconst (v := 1) hx hb d_L_law_10 (by decide) ?_
  refine z_eCallC C hE hX hbl hL 1 (by decide) k_ml_L_57 (Nat.le_of_ble_eq_true rfl) (Nat.le_of_ble_eq_true rfl) ⟨Nat.le_of_ble_eq_true rfl, Nat.le_of_ble_eq_true rfl⟩ hl.1 (rest := [.int (z_cv L xs 0), .ref q0, .ref q0]) (Nat.le_of_ble_eq_true rfl) rfl d_L_law_11 (fun H locs hE => ?_)
  refine z_eCtor (wr := []) C hE hA (X := fun U => va_Nw (.methodLinkNest R_P 55 y_R_init R_P) U) hnest (fun a U g mk h => va_Nw.same rfl rfl h) (As := [.int (z_cv L xs 0), .int (z_cv L xs 1)]) (rest := [.ref q0]) (c_P_init q0 (z_cv L xs 0) (z_cv L xs 1)) k_ci_P k_in_P k_cc_P k_ml_L_62 rfl k_hd_P rfl rfl (Nat.le_of_ble_eq_true rfl) (Nat.le_of_ble_eq_true rfl) ⟨Nat.le_of_ble_eq_true rfl, Nat.le_of_ble_eq_true rfl⟩ hl.1 (Nat.le_of_ble_eq_true rfl) rfl d_L_law_14 (fun u H locs hE => ?_)
  refine lv_astore_n (lv' := [(1, .ref q0), (0, .ref b)]) hx hb d_L_law_17 rfl hl (by decide) rfl (fun ls hl => ?_)
  refine z_eNew C hE hA cl_M iw_M ty_M ty_M_ok k_nc_L_65 k_is_M k_in_M (fs := [.int 0, .int 0, .int 0, .null, .int 0, .int 0, .null, .null, .null, .null, .null, .null, .int 0, .null, .null, .null, .null, .null, .null, .int 0, .null, .int 0, .null, .int 0, .null, .null, .null]) (by decide +kernel) ⟨Nat.le_of_ble_eq_true rfl, Nat.le_of_ble_eq_true rfl⟩ d_L_law_18 (fun q1 H hE => ?_)
  refine lv_dup hx hb d_L_law_21 rfl ?_
  refine lv_aload_n hx hb d_L_law_22 rfl (lv_at hl 1 rfl) ?_
  refine lv_iconst (v := 0) hx hb d_L_law_23 (by decide) ?_
  refine z_eCallC C hE hX hbl hL 0 (by decide) k_ml_L_57 (Nat.le_of_ble_eq_true rfl) (Nat.le_of_ble_eq_true rfl) ⟨Nat.le_of_ble_eq_true rfl, Nat.le_of_ble_eq_true rfl⟩ hl.1 (rest := [.ref q1, .ref q1]) (Nat.le_of_ble_eq_true rfl) rfl d_L_law_24 (fun H locs hE => ?_)
  refine lv_aload_n hx hb d_L_law_27 rfl (lv_at hl 1 rfl) ?_
  refine lv_iconst (v := 1) hx hb d_L_law_28 (by decide) ?_
  refine z_eCallC C hE hX hbl hL 1 (by decide) k_ml_L_57 (Nat.le_of_ble_eq_true rfl) (Nat.le_of_ble_eq_true rfl) ⟨Nat.le_of_ble_eq_true rfl, Nat.le_of_ble_eq_true rfl⟩ hl.1 (rest := [.int (z_cv L xs 0), .ref q1, .ref q1]) (Nat.le_of_ble_eq_true rfl) rfl d_L_law_29 (fun H locs hE => ?_)
  refine z_eCtor (wr := [] ++ B_P_init cA q0 (z_cv L xs 0) (z_cv L xs 1) u) C hE hA (X := fun _ => True) (fun _ _ => trivial) (fun _ _ _ _ h => h) (As := [.int (z_cv L xs 0), .int (z_cv L xs 1)]) (rest := [.ref q1]) (c_M_init q1 (z_cv L xs 0) (z_cv L xs 1)) k_ci_M k_in_M k_cc_M k_ml_L_67 rfl k_hd_M rfl rfl (Nat.le_of_ble_eq_true rfl) (Nat.le_of_ble_eq_true rfl) ⟨Nat.le_of_ble_eq_true rfl, Nat.le_of_ble_eq_true rfl⟩ hl.1 (Nat.le_of_ble_eq_true rfl) rfl d_L_law_32 (fun v H locs hE => ?_)
  refine lv_astore_n (lv' := [(2, .ref q1), (1, .ref q0), (0, .ref b)]) hx hb d_L_law_35 rfl hl (by decide) rfl (fun ls hl => ?_)
  refine lv_iconst (v := 1) hx hb d_L_law_36 (by decide) ?_
  refine z_eNewJ C hE hA (N := 1) (by decide) (by decide) (by decide) ⟨Nat.le_of_ble_eq_true rfl, Nat.le_of_ble_eq_true rfl⟩ d_L_law_37 (fun q2 H hE => ?_)
  refine lv_astore_n (lv' := [(3, .ref q2), (2, .ref q1), (1, .ref q0), (0, .ref b)]) hx hb d_L_law_39 rfl hl (by decide) rfl (fun ls hl => ?_)
  refine lv_iconst (v := 2) hx hb d_L_law_40 (by decide) ?_
  refine lv_istore (lv' := [(4, .int 2), (3, .ref q2), (2, .ref q1), (1, .ref q0), (0, .ref b)]) hx hb d_L_law_41 hl (by decide) rfl (fun ls hl => ?_)
  obtain ⟨ad, ead⟩ : ∃ ad : Nat → Nat, ad = fun k => [q0, u 0, u 1, u 2, u 3, u 4, u 5, u 6, u 7, u 8, u 9, u 10, u 11, u 12, u 13, u 14, u 15, u 16, u 17, u 18, u 19, u 20, u 21, u 22, u 23, u 24, u 25, u 26, u 27, u 28, u 29, q1, v 0, v 1, v 2, v 3, v 4, v 5, v 6, v 7, v 8, v 9, v 10, v 11, v 12, v 13, v 14, v 15, v 16, v 17, q2].getD k 0 := ⟨_, rfl⟩
  have hw : ([] ++ B_P_init cA q0 (z_cv L xs 0) (z_cv L xs 1) u ++ B_M_init cA q1 (z_cv L xs 0) (z_cv L xs 1) v) ++ [(q2, .inl (cA 2, 1, .inr (.inl fun _ => 0)))] = z_w cA 51 ad (z_S0 (z_side (z_cv L xs 0)) (z_side (z_cv L xs 1))) := by
    rw [ze_w]
    subst ead
    rfl
  obtain ⟨hP, hD, hS⟩ := hE
  rw [hw] at hP hD
  have hge : ∀ k, k < 51 → s.heap.size ≤ ad k := fun k hk => hD.2 k _ (z_w_at hk)
  have hJ : ∀ i j, i < 51 → j < 51 → ad i = ad j → i = j := fun i j hi hj e => hD.1 i j _ _ (z_w_at hi) (z_w_at hj) e
  have hfr : ∀ q, q < s.heap.size → ¬ z_fr 51 ad s.heap.size q := fun q hq z => by
    rcases z with ⟨k, h1, h2⟩ | z
    · have := hge k h1
      omega
    · omega
  have hI : z_I (dC, dI) cA 51 ad s.heap (z_S0 (z_side (z_cv L xs 0)) (z_side (z_cv L xs 1))) H locs := ⟨hP, hS.1, fun q h1 h2 => hS.2.1 q h1 (Nat.not_le.mpr h1), fun q h => Or.inr (hS.2.2 q h)⟩
  have C1 : z_CT p s m #[Value.ref b] c R_L b_L_law 7 (dC, dI) cA 51 ad := ⟨hx, hb, hml, hown, hts, hK, hJ⟩
  have e0 : q0 = ad 0 := by rw [ead]; rfl
  have e1 : q1 = ad 31 := by rw [ead]; rfl
  have e2 : q2 = ad 50 := by rw [ead]; rfl
  rw [e0, e1, e2] at hl
  refine w_L_law_43 C1 L xs b ⟨hX, hbl, hge⟩ (z_T_of hl0 hts0 hgv hfr) (fun v _ => v = 1) ?_ 513 2 _ _ _ ls _ _ ⟨Nat.le_of_ble_eq_true rfl, Nat.le_of_ble_eq_true rfl⟩ hI (lv_sub hl [4, 3, 2, 1, 0] rfl) (hpure L xs hL)
  intro cells slots hcs v S H locs pc ls _ hp hI hd
  subst hp
  refine W.widen (k := 1082) (n := 23768) hcs.1 hcs.2 ?_
  refine va_forget (fun q hq => ?_) ?_
  · rcases hI.2.2.2 q hq with ⟨k, h1, h2⟩ | h
    · rw [h2]; exact hge k h1
    · exact h
  · exact lw_ret hx hb hr hlocks hd
