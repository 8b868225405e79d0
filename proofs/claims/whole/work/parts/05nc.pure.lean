section ZB2
variable {W H : Nat} {S S1 S2 : zS}
/-- the end of a turn: both answered alike -/
theorem t_law {r q : Int32} {J : zS → Prop} (e1 : S2 31 0 = r) (e50 : S2 50 = S1 50) (e2 : r = 0 → S1 50 0 = q) (hJ : J S2) : P_M_thrown S2 (fun r5 S5 => (r5 = r → (¬ r = 0 → J S5) ∧ (r = 0 → vp_in 0 1 ∧ ((S5 50 (z_ix 0)) = q → J S5) ∧ (¬ (S5 50 (z_ix 0)) = q → (0 : Int32) = 1))) ∧ (¬ r5 = r → (0 : Int32) = 1)) :=
  ⟨fun _ => ⟨fun _ => hJ, fun hr => ⟨v01, fun _ => hJ, fun z => absurd ((congrFun e50 0).trans (e2 hr)) z⟩⟩, fun z => absurd e1 z⟩
theorem t_lawb {r q : Int32} {J : Int32 → Int32 → zS → Prop} {J2 : zS → Prop} (e1 : S2 31 0 = r) (e50 : S2 50 = S1 50) (e2 : r = 0 → S1 50 0 = q) (hb : r = 0 → z_bo (S1 50 0)) (hJ : ∀ t, J t t S2) (hJ2 : J2 S2) : P_M_thrown S2 (fun r5 S5 => (r5 = r → (¬ r = 0 → J2 S5) ∧ (r = 0 → vp_in 0 1 ∧ (q = 0 → J 0 (S5 50 (z_ix 0)) S5) ∧ (¬ q = 0 → J 1 (S5 50 (z_ix 0)) S5))) ∧ (¬ r5 = r → (0 : Int32) = 1)) := by
  refine ⟨fun _ => ⟨fun _ => hJ2, fun hr => ⟨v01, fun z => ?_, fun z => ?_⟩⟩, fun z => absurd e1 z⟩
  · show J 0 (S2 50 0) S2
    rw [(congrFun e50 0).trans (e2 hr), z]
    exact hJ 0
  · show J 1 (S2 50 0) S2
    have hq : q = 1 := by
      have := hb hr
      rw [e2 hr] at this
      exact this.resolve_left z
    rw [(congrFun e50 0).trans (e2 hr), hq]
    exact hJ 1
theorem p_step (L : Nat) (xs : Nat → Int32) (hL : L ≤ 3074) {n p : Nat} (hR : rR W H S) (hp : p ≤ 10000) (hnx : p + 6 ≤ L → ∀ S2, rR W H S2 → L_L_law_43 L xs (fun v _ => v = 1) n (jI ((p + 6 : Nat) : Int)) S2) : L_L_law_43 L xs (fun v _ => v = 1) (n + 1) (jI (p : Nat)) S := by
  rw [L_L_law_43]
  have eL : nI L - 6 = jI ((L : Int) - 6) := by rw [← jI_nat, show (6 : Int32) = jI 6 from rfl, jI_sub]
  rw [eL, jI_lt (jS (by omega)) (jS (by omega))]
  refine ⟨fun _ => rfl, fun hz => ?_⟩
  have hpL : p + 6 ≤ L := by omega
  have nx : ∀ S2, rR W H S2 → ∀ x1054 : Int32, x1054 = jI (p : Nat) + 6 → L_L_law_43 L xs (fun v _ => v = 1) n x1054 S2 := fun S2 hR2 x e => by
    rw [e, jk6, jan]
    exact hnx hpL S2 hR2
  have i0 : vp_in (jI (p : Nat)) L := by rw [jn_in (by omega)]; omega
  have i1 : vp_in (jI (p : Nat) + 1) L := by rw [jk1, jan, jn_in (by omega)]; omega
  have i2 : vp_in (jI (p : Nat) + 2) L := by rw [jk2, jan, jn_in (by omega)]; omega
  have i3 : vp_in (jI (p : Nat) + 3) L := by rw [jk3, jan, jn_in (by omega)]; omega
  have i4 : vp_in (jI (p : Nat) + 4) L := by rw [jk4, jan, jn_in (by omega)]; omega
  have i5 : vp_in (jI (p : Nat) + 5) L := by rw [jk5, jan, jn_in (by omega)]; omega
  have put : ∀ (t0 t1 t2 : Int32), z_bo t0 → (xs (z_ix (jI (p : Nat) + 3)) = 0 → t0 = 0) → (¬ xs (z_ix (jI (p : Nat) + 3)) = 0 → t0 = 1) → t1 = xs (z_ix (jI (p : Nat) + 2)) → t2 = xs (z_ix (jI (p : Nat) + 1)) → J_L_law_159 L xs (fun v _ => v = 1) (L_L_law_43 L xs (fun v _ => v = 1) n) (jI (p : Nat)) t0 t1 t2 S := fun t0 t1 t2 ht h0 h1 e1 e2 => by
    unfold J_L_law_159
    refine q_put ht hR (fun r S1 hM hbo => ⟨i1, i2, i3, ?_⟩)
    have k : J_L_law_192 L xs (fun v _ => v = 1) (L_L_law_43 L xs (fun v _ => v = 1) n) (jI (p : Nat)) r t0 t1 t2 S1 := by
      unfold J_L_law_192
      refine hM _ (fun q S2 d1 d50 d2 hR2 => ?_)
      exact t_lawb (J := fun t u S5 => J_L_law_226 L xs (fun v _ => v = 1) (L_L_law_43 L xs (fun v _ => v = 1) n) (jI (p : Nat)) t u S5) (J2 := fun S5 => J_L_law_232 L xs (fun v _ => v = 1) (L_L_law_43 L xs (fun v _ => v = 1) n) (jI (p : Nat)) S5) d1 d50 d2 hbo (fun t => ⟨fun _ => nx S2 hR2, fun z => absurd rfl z⟩) (nx S2 hR2)
    refine ⟨fun z => ?_, fun z => ?_⟩
    · rw [h0 z] at k; rw [← e1, ← e2]; exact k
    · have hk := h1 z
      clear h1 h0
      subst hk
      rw [← e1, ← e2]; exact k
  have fill : ∀ (t0 t1 t2 t3 t4 : Int32), z_bo t0 → (xs (z_ix (jI (p : Nat) + 5)) = 0 → t0 = 0) → (¬ xs (z_ix (jI (p : Nat) + 5)) = 0 → t0 = 1) → t1 = xs (z_ix (jI (p : Nat) + 4)) → t2 = xs (z_ix (jI (p : Nat) + 3)) → t3 = xs (z_ix (jI (p : Nat) + 2)) → t4 = xs (z_ix (jI (p : Nat) + 1)) → J_L_law_274 L xs (fun v _ => v = 1) (L_L_law_43 L xs (fun v _ => v = 1) n) (jI (p : Nat)) t0 t1 t2 t3 t4 S := fun t0 t1 t2 t3 t4 ht h0 h1 e1 e2 e3 e4 => by
    unfold J_L_law_274
    refine q_fill ht hR (fun r S1 hM => ⟨i1, i2, i3, i4, i5, ?_⟩)
    have k : J_L_law_319 L xs (fun v _ => v = 1) (L_L_law_43 L xs (fun v _ => v = 1) n) (jI (p : Nat)) r t0 t1 t2 t3 t4 S1 := by
      unfold J_L_law_319
      exact hM _ (fun q S2 d1 d50 d2 hR2 => t_law (J := fun S5 => J_L_law_352 L xs (fun v _ => v = 1) (L_L_law_43 L xs (fun v _ => v = 1) n) (jI (p : Nat)) S5) d1 d50 d2 (nx S2 hR2))
    refine ⟨fun z => ?_, fun z => ?_⟩
    · rw [h0 z] at k; rw [← e1, ← e2, ← e3, ← e4]; exact k
    · have hk := h1 z
      clear h1 h0
      subst hk
      rw [← e1, ← e2, ← e3, ← e4]; exact k
  refine ⟨i0, fun _ => ⟨i1, i2, i3, fun z => put 0 _ _ (Or.inl rfl) (fun _ => rfl) (fun w => absurd z w) rfl rfl, fun z => put 1 _ _ (Or.inr rfl) (fun w => absurd w z) (fun _ => rfl) rfl rfl⟩, fun _ => ⟨i1, i2, i3, i4, i5, fun z => fill 0 _ _ _ _ (Or.inl rfl) (fun _ => rfl) (fun w => absurd z w) rfl rfl rfl rfl, fun z => fill 1 _ _ _ _ (Or.inr rfl) (fun w => absurd w z) (fun _ => rfl) rfl rfl rfl rfl⟩, fun _ => ⟨i1, ?_⟩, fun _ => ⟨i1, i2, ?_⟩, fun _ => ⟨i1, i2, ?_⟩, fun _ => ⟨i1, i2, ?_⟩, fun _ => ⟨i1, i2, i3, ?_⟩, fun _ => ⟨i1, ?_⟩, fun _ => ⟨i1, i2, ?_⟩, fun _ => ⟨i1, ?_⟩, fun _ => ⟨i1, i2, ?_⟩, fun _ => ⟨i1, i2, ?_⟩, fun _ => ⟨i1, ?_⟩, fun _ => ?_, fun _ _ _ _ _ _ _ _ _ _ _ _ _ _ => nx S hR⟩
  · exact q_noise hR (fun r S1 hM => ⟨i1, hM _ (fun q S2 d1 d50 d2 hR2 => t_law (J := fun S5 => J_L_law_408 L xs (fun v _ => v = 1) (L_L_law_43 L xs (fun v _ => v = 1) n) (jI (p : Nat)) S5) d1 d50 d2 (nx S2 hR2))⟩)
  · exact q_run hR (fun r S1 hM => ⟨i1, i2, hM _ (fun q S2 d1 d50 d2 hR2 => t_law (J := fun S5 => J_L_law_476 L xs (fun v _ => v = 1) (L_L_law_43 L xs (fun v _ => v = 1) n) (jI (p : Nat)) S5) d1 d50 d2 (nx S2 hR2))⟩)
  · exact q_part hR (fun r S1 hM => ⟨i1, i2, hM _ (fun q S2 d1 d50 d2 hR2 => t_law (J := fun S5 => J_L_law_544 L xs (fun v _ => v = 1) (L_L_law_43 L xs (fun v _ => v = 1) n) (jI (p : Nat)) S5) d1 d50 d2 (nx S2 hR2))⟩)
  · exact q_partOf hR (fun r S1 hM => ⟨i1, i2, hM _ (fun q S2 d1 d50 d2 hR2 => t_law (J := fun S5 => J_L_law_612 L xs (fun v _ => v = 1) (L_L_law_43 L xs (fun v _ => v = 1) n) (jI (p : Nat)) S5) d1 d50 d2 (nx S2 hR2))⟩)
  · exact q_line hR (fun r S1 hM => ⟨i1, i2, i3, hM _ (fun q S2 d1 d50 d2 hR2 => t_law (J := fun S5 => J_L_law_692 L xs (fun v _ => v = 1) (L_L_law_43 L xs (fun v _ => v = 1) n) (jI (p : Nat)) S5) d1 d50 d2 (nx S2 hR2))⟩)
  · exact q_order hR (fun r S1 hM => ⟨i1, hM _ (fun q S2 d1 d50 d2 hR2 => t_law (J := fun S5 => J_L_law_748 L xs (fun v _ => v = 1) (L_L_law_43 L xs (fun v _ => v = 1) n) (jI (p : Nat)) S5) d1 d50 d2 (nx S2 hR2))⟩)
  · exact q_cover hR (fun r S1 hM => ⟨i1, i2, hM _ (fun q S2 d1 d50 d2 hR2 => t_law (J := fun S5 => J_L_law_816 L xs (fun v _ => v = 1) (L_L_law_43 L xs (fun v _ => v = 1) n) (jI (p : Nat)) S5) d1 d50 d2 (nx S2 hR2))⟩)
  · exact q_strip hR (fun r S1 hM => ⟨i1, hM _ (fun q S2 d1 d50 d2 hR2 => t_law (J := fun S5 => J_L_law_872 L xs (fun v _ => v = 1) (L_L_law_43 L xs (fun v _ => v = 1) n) (jI (p : Nat)) S5) d1 d50 d2 (nx S2 hR2))⟩)
  · exact q_cell hR (fun r S1 hM => ⟨i1, i2, hM _ (fun q S2 d1 d50 d2 hR2 => t_law (J := fun S5 => J_L_law_940 L xs (fun v _ => v = 1) (L_L_law_43 L xs (fun v _ => v = 1) n) (jI (p : Nat)) S5) d1 d50 d2 (nx S2 hR2))⟩)
  · exact q_isSpeck hR (fun r S1 hM hbo => ⟨i1, i2, hM _ (fun q S2 d1 d50 d2 hR2 => t_lawb (J := fun t u S5 => J_L_law_1009 L xs (fun v _ => v = 1) (L_L_law_43 L xs (fun v _ => v = 1) n) (jI (p : Nat)) t u S5) (J2 := fun S5 => J_L_law_1015 L xs (fun v _ => v = 1) (L_L_law_43 L xs (fun v _ => v = 1) n) (jI (p : Nat)) S5) d1 d50 d2 hbo (fun t => ⟨fun _ => nx S2 hR2, fun z => absurd rfl z⟩) (nx S2 hR2))⟩)
  · exact q_told hR (fun r S1 hM => ⟨i1, hM _ (fun S2 hR2 => ⟨fun _ => nx S2 hR2, fun z => absurd rfl z⟩)⟩)
  · exact q_clear hR (fun S1 hM => hM _ (fun S2 hR2 => nx S2 hR2))
theorem p_law (L : Nat) (xs : Nat → Int32) (hL : L ≤ 3074) : ∀ (n p : Nat) (S : zS), rR W H S → L + 1 ≤ p + 6 * (n + 1) → p + 6 * (n + 1) ≤ 9000 → L_L_law_43 L xs (fun v _ => v = 1) (n + 1) (jI (p : Nat)) S := by
  intro n
  induction n with
  | zero => exact fun p S hR h1 h2 => p_step L xs hL hR (by omega) (fun z => by omega)
  | succ n ih => exact fun p S hR h1 h2 => p_step L xs hL hR (by omega) (fun z S2 hR2 => ih (p + 6) S2 hR2 (by omega) (by omega))
theorem z_side_n (v : Int32) : ∃ W : Nat, 1 ≤ W ∧ W ≤ 24 ∧ z_side v = jI (W : Nat) := by
  obtain ⟨a, ha, rfl⟩ := jx_ v
  unfold z_side
  have q1 : jI a < 1 ↔ a < 1 := l1_ ha
  have q2 : 24 < jI a ↔ 24 < a := jI_lt (jS (z := 24) (by omega)) ha
  by_cases h1 : a < 1
  · exact ⟨1, by omega, by omega, by rw [if_pos (q1.mpr h1)]; rfl⟩
  · by_cases h2 : 24 < a
    · exact ⟨24, by omega, by omega, by rw [if_neg (fun z => h1 (q1.mp z)), if_pos (q2.mpr h2)]; rfl⟩
    · refine ⟨a.toNat, by omega, by omega, ?_⟩
      rw [if_neg (fun z => h1 (q1.mp z)), if_neg (fun z => h2 (q2.mp z))]; congr 1; omega
theorem rR_0 (hW : 1 ≤ W) (hW2 : W ≤ 24) (hH : 1 ≤ H) (hH2 : H ≤ 24) : rR W H (z_S0 (jI (W : Nat)) (jI (H : Nat))) := by
  refine ⟨3, ⟨⟨hW, hW2, hH, hH2, by omega⟩, ⟨rfl, rfl, rfl, ?_⟩, ⟨rfl, rfl, rfl, rfl, rfl, rfl⟩, ⟨rfl, rfl, rfl⟩, ⟨fun _ => Or.inl rfl, rfl⟩, fun _ => Or.inl rfl, fun _ => Or.inl rfl, fun _ => Or.inl rfl, fun _ => Or.inl rfl, fun _ => Or.inl rfl, fun _ => Or.inl rfl⟩, rfl, Or.inl rfl, fun z => absurd rfl z⟩
  rw [cP_0 (fun u hu hM => ?_)]
  · rfl
  · have : (0 : Int32) = 1 := hM.2.2.2
    exact absurd this (by decide)
/-- THE LAW'S LOOP ends in 1, over every script -/
theorem z_pure_is : z_pure := by
  intro L xs hL
  obtain ⟨W, h1, h2, e1⟩ := z_side_n (z_cv L xs 0)
  obtain ⟨H, h3, h4, e2⟩ := z_side_n (z_cv L xs 1)
  rw [e1, e2]
  exact p_law (W := W) (H := H) L xs hL 512 2 _ (rR_0 h1 h2 h3 h4) (by omega) (by omega)
end ZB2
