section ZS
variable {W H : Nat} {S : zS} {post : Int32 → zS → Prop}
theorem n0_ : ¬ (1 : Int32) = 0 := by decide
theorem q_partOf {v1 v2 : Int32} (hR : rR W H S) (h : ∀ r S1, aL W H (P_M_partOf v1 v2) r S1 → post r S1) : P_L_partOf v1 v2 S post := by
  obtain ⟨x, hx, rfl⟩ := jx_ v1
  obtain ⟨y, hy, rfl⟩ := jx_ v2
  obtain ⟨nz, hB, e5, hbo, hP⟩ := id hR
  obtain ⟨⟨hW0, hW, hH0, hH, hnz⟩, ⟨a1, a2, -, -⟩, -, ⟨b1, b2, b3⟩, -, -⟩ := hB
  unfold P_L_partOf X_P_partOf P_P_partOf
  by_cases hp : S 0 14 = 0
  · refine Or.inl (Or.inl (x_par hp (Or.inl ⟨rfl, h 1 S (fun Q hQ => ?_)⟩)))
    unfold P_M_partOf
    have hz : S 31 5 = 0 := e5.trans hp
    have k : ∀ r8 : Int32, P_M_goes (S 31 5) r8 1 S (fun r12 S12 => (r12 = 0 → Q 0 S12) ∧ (¬ r12 = 0 → vp_in ((24 * jI y) + jI x) 576 ∧ Q (S12 38 (z_ix ((24 * jI y) + jI x))) S12)) := fun r8 => m_goes (fun _ => ⟨fun _ => a_thr hR (by decide) hQ, fun z => absurd rfl z⟩) (fun z => absurd hz z) (fun z => absurd hz z) (fun z => absurd hz z)
    exact m_isSample hx hy hW hH b1 b2 (fun _ => k 1) (fun _ => k 0)
  · have hz : ¬ S 31 5 = 0 := fun z => hp (e5.symm.trans z)
    by_cases hs : 0 ≤ x ∧ x < W ∧ 0 ≤ y ∧ y < H
    · refine Or.inr (p_par hp (p_sam hx hy hW hH a1 a2 hs ?_))
      obtain ⟨m, rfl⟩ := Int.eq_ofNat_of_zero_le hs.1
      obtain ⟨t, rfl⟩ := Int.eq_ofNat_of_zero_le hs.2.2.1
      rw [jat, jn_in (by omega), jn_ix (by omega), jn0, jn_in (by omega)]
      refine ⟨by omega, by omega, fun S9 e9 => h 0 S9 (fun Q hQ => ?_)⟩
      have e9' : S9 = z_su S 50 0 (S 6 (24 * t + m)) := e9
      have f9 : ∀ a, a ≠ 50 → S9 a = S a := fun a ha => by rw [e9', su_ne ha]
      have hR9 : rR W H S9 := by rw [e9']; exact rR_50 hR _
      unfold P_M_partOf
      refine m_isSample hx hy hW hH (by rw [f9 31 (by omega)]; exact b1) (by rw [f9 31 (by omega)]; exact b2) (fun _ => ?_) (fun z => absurd hs z)
      rw [f9 31 (by omega), jat']
      refine m_goes (fun z => absurd z hz) (fun _ z => absurd z n0_) (fun _ _ z => absurd z n0_) (fun _ _ _ => ⟨fun z => absurd z n0_, fun _ => ⟨by rw [jn_in (by omega)]; omega, ?_⟩⟩)
      refine a_ret hR9 ?_ hQ
      rw [jn_ix (by omega), su_ne (by omega), f9 38 (by omega), e9', su_eq, up_eq]
      obtain ⟨-, ⟨c, -, -, -, h38, -⟩, -⟩ := hP hp
      exact (h38 _ (by omega) (by omega) (by omega)).symm
    · refine Or.inl (Or.inr (p_par hp (x_sam hx hy hW hH a1 a2 hs (Or.inr ⟨rfl, h 2 S (fun Q hQ => ?_)⟩))))
      unfold P_M_partOf
      refine m_isSample hx hy hW hH b1 b2 (fun z => absurd z hs) (fun _ => ?_)
      exact m_goes (fun z => absurd z hz) (fun _ _ => ⟨fun _ => a_thr hR (by decide) hQ, fun z => absurd rfl z⟩) (fun _ z => absurd rfl z) (fun _ z => absurd rfl z)
theorem q_isSpeck {v1 v2 : Int32} (hR : rR W H S) (h : ∀ r S1, aL W H (P_M_isSpeck v1 v2) r S1 → (r = 0 → z_bo (S1 50 0)) → post r S1) : P_L_isSpeck v1 v2 S post := by
  obtain ⟨x, hx, rfl⟩ := jx_ v1
  obtain ⟨y, hy, rfl⟩ := jx_ v2
  obtain ⟨nz, hB, e5, hbo, hP⟩ := id hR
  obtain ⟨⟨hW0, hW, hH0, hH, hnz⟩, ⟨a1, a2, -, -⟩, -, ⟨b1, b2, b3⟩, ⟨c1, c2⟩, -⟩ := hB
  unfold P_L_isSpeck X_P_isSpeck P_P_isSpeck J_L_isSpeck_16
  by_cases hp : S 0 14 = 0
  · refine Or.inl (Or.inl (x_par hp (Or.inl ⟨rfl, h 1 S (fun Q hQ => ?_) (fun z => absurd z n0_)⟩)))
    unfold P_M_isSpeck
    have hz : S 31 5 = 0 := e5.trans hp
    have k : ∀ r8 : Int32, P_M_goes (S 31 5) r8 1 S (fun r12 S12 => (r12 = 0 → Q 0 S12) ∧ (¬ r12 = 0 → vp_in ((24 * jI y) + jI x) 576 ∧ ((S12 33 (z_ix ((24 * jI y) + jI x))) = 0 → Q 0 S12) ∧ (¬ (S12 33 (z_ix ((24 * jI y) + jI x))) = 0 → Q 1 S12))) := fun r8 => m_goes (fun _ => ⟨fun _ => a_thr hR (by decide) hQ, fun z => absurd rfl z⟩) (fun z => absurd hz z) (fun z => absurd hz z) (fun z => absurd hz z)
    exact m_isSample hx hy hW hH b1 b2 (fun _ => k 1) (fun _ => k 0)
  · have hz : ¬ S 31 5 = 0 := fun z => hp (e5.symm.trans z)
    by_cases hs : 0 ≤ x ∧ x < W ∧ 0 ≤ y ∧ y < H
    · refine Or.inr (p_par hp (p_sam hx hy hW hH a1 a2 hs ?_))
      obtain ⟨m, rfl⟩ := Int.eq_ofNat_of_zero_le hs.1
      obtain ⟨t, rfl⟩ := Int.eq_ofNat_of_zero_le hs.2.2.1
      rw [jat]
      intro x16 e16
      rw [e16, jn_in (by omega), jn_ix (by omega), jn0, jn_in (by omega)]
      obtain ⟨⟨p1, p2, p3⟩, -⟩ := hP hp
      have hu : 24 * t + m < 576 := by omega
      have q33 := (p3 (24 * t + m) hu (by omega) (by omega)).1
      have q2 := p1 (24 * t + m) hu
      have hM : g_M (S 1) 1 W H (24 * t + m) ↔ ¬ S 1 (24 * t + m) = 0 := by
        constructor
        · rintro ⟨-, -, -, e⟩; rw [e]; decide
        · intro e; exact ⟨hu, by omega, by omega, (c1 _).resolve_left e⟩
      have fin : ∀ (v : Int32), z_bo v → (v = 0 ↔ S 33 (24 * t + m) = 0) → ∀ S9 : zS, S9 = z_su S 50 0 v → post 0 S9 := by
        intro v hv hv2 S9 e9
        have f9 : ∀ a, a ≠ 50 → S9 a = S a := fun a ha => by rw [e9, su_ne ha]
        have hR9 : rR W H S9 := by rw [e9]; exact rR_50 hR _
        refine h 0 S9 (fun Q hQ => ?_) (fun _ => by rw [e9, su_eq, up_eq]; exact hv)
        unfold P_M_isSpeck
        refine m_isSample hx hy hW hH (by rw [f9 31 (by omega)]; exact b1) (by rw [f9 31 (by omega)]; exact b2) (fun _ => ?_) (fun z => absurd hs z)
        rw [f9 31 (by omega), jat']
        refine m_goes (fun z => absurd z hz) (fun _ z => absurd z n0_) (fun _ _ z => absurd z n0_) (fun _ _ _ => ⟨fun z => absurd z n0_, fun _ => ⟨by rw [jn_in (by omega)]; omega, ?_⟩⟩)
        rw [jn_ix (by omega), su_ne (by omega), f9 33 (by omega)]
        refine ⟨fun z => a_ret hR9 ?_ hQ, fun z => a_ret hR9 ?_ hQ⟩
        · rw [e9, su_eq, up_eq]; exact hv2.mpr z
        · rw [e9, su_eq, up_eq]; exact hv.resolve_left (fun w => z (hv2.mp w))
      have z0 : z_ix (jI ((0 : Nat) : Int)) = 0 := rfl
      refine ⟨hu, fun z1 => ⟨fun _ => ⟨by omega, fun S9 e9 => fin 0 (Or.inl rfl) ?_ S9 e9⟩, fun z => absurd rfl z⟩, fun z1 => ⟨hu, fun z2 => ⟨fun _ => ⟨by omega, fun S9 e9 => fin 0 (Or.inl rfl) ?_ S9 e9⟩, fun z => absurd rfl z⟩, fun z2 => ⟨fun z => absurd z n0_, fun _ => ⟨by omega, fun S9 e9 => fin 1 (Or.inr rfl) ?_ S9 e9⟩⟩⟩⟩
      · rw [q33, bI_z]
        exact ⟨fun _ w => (hM.mp w.1) z1, fun _ => rfl⟩
      · rw [q33, bI_z]
        rw [q2, ← jn0, bI_z] at z2
        exact ⟨fun _ w => z2 w.2, fun _ => rfl⟩
      · rw [q33, bI_z]
        rw [q2, ← jn0, bI_z] at z2
        exact ⟨fun z => absurd z n0_, fun w => absurd ⟨hM.mpr z1, z2⟩ w⟩
    · refine Or.inl (Or.inr (p_par hp (x_sam hx hy hW hH a1 a2 hs (Or.inr ⟨rfl, h 2 S (fun Q hQ => ?_) (fun z => absurd z (by decide))⟩))))
      unfold P_M_isSpeck
      refine m_isSample hx hy hW hH b1 b2 (fun z => absurd z hs) (fun _ => ?_)
      exact m_goes (fun z => absurd z hz) (fun _ _ => ⟨fun _ => a_thr hR (by decide) hQ, fun z => absurd rfl z⟩) (fun _ z => absurd rfl z) (fun _ z => absurd rfl z)
/-- a number below a count -/
theorem i_lt {a : Int} {c : Nat} {S : zS} {Q : Int32 → zS → Prop} (ha : jR a) (hc : c ≤ 1000000) (h1 : 0 ≤ a ∧ a < c → Q 1 S) (h0 : ¬ (0 ≤ a ∧ a < c) → Q 0 S) : P_M_in (jI a) 0 (jI (c : Nat) - 1) S Q := by
  rw [jI_0, jI_1, jI_sub]
  exact m_in ha (jS (by omega)) (jS (by omega)) (fun z => h1 (by omega)) (fun z => h0 (by omega))
theorem i_le {a : Int} {c : Nat} {v : Int32} {S : zS} {Q : Int32 → zS → Prop} (ha : jR a) (hc : c ≤ 1000000) (hv : v = jI ((c : Int) - 1)) (h1 : 0 ≤ a ∧ a < c → Q 1 S) (h0 : ¬ (0 ≤ a ∧ a < c) → Q 0 S) : P_M_in (jI a) 0 v S Q := by
  rw [jI_0, hv]
  exact m_in ha (jS (by omega)) (jS (by omega)) (fun z => h1 (by omega)) (fun z => h0 (by omega))
theorem q_order {v1 : Int32} (hR : rR W H S) (h : ∀ r S1, aL W H (P_M_order v1) r S1 → post r S1) : P_L_order v1 S post := by
  obtain ⟨a, ha, rfl⟩ := jx_ v1
  obtain ⟨nz, hB, e5, hbo, hP⟩ := id hR
  unfold P_L_order X_P_order P_P_order
  by_cases hp : S 0 14 = 0
  · refine Or.inl (Or.inl (x_par hp (Or.inl ⟨rfl, h 1 S (fun Q hQ => ?_)⟩)))
    unfold P_M_order
    have hz : S 31 5 = 0 := e5.trans hp
    have k : ∀ r8 : Int32, P_M_goes (S 31 5) r8 1 S (fun r17 S17 => (r17 = 0 → Q 0 S17) ∧ (¬ r17 = 0 → vp_in (jI a) 300 ∧ Q (S17 44 (z_ix (jI a))) S17)) := fun r8 => m_goes (fun _ => ⟨fun _ => a_thr hR (by decide) hQ, fun z => absurd rfl z⟩) (fun z => absurd hz z) (fun z => absurd hz z) (fun z => absurd hz z)
    exact m_inT (fun _ _ => k 1) (fun _ => k 0)
  · have hz : ¬ S 31 5 = 0 := fun z => hp (e5.symm.trans z)
    obtain ⟨-, ⟨c, hc, e56, e12, -, -, -, hord⟩, -⟩ := hP hp
    by_cases hs : 0 ≤ a ∧ a < c
    · refine Or.inr (p_par hp ?_)
      show P_P_mustBeBelow (jI a) (S 5 6) S _
      rw [e56]
      refine p_bel ha (by omega) hs ?_
      obtain ⟨m, rfl⟩ := Int.eq_ofNat_of_zero_le hs.1
      rw [jn_in (by omega), jn_ix (by omega), jn0, jn_in (by omega)]
      refine ⟨by omega, by omega, fun S9 e9 => h 0 S9 (fun Q hQ => ?_)⟩
      have e9' : S9 = z_su S 50 0 (S 28 m) := e9
      have f9 : ∀ a, a ≠ 50 → S9 a = S a := fun a ha => by rw [e9', su_ne ha]
      have hR9 : rR W H S9 := by rw [e9']; exact rR_50 hR _
      unfold P_M_order
      rw [f9 31 (by omega), e12]
      refine i_lt ha (by omega) (fun _ => ?_) (fun z => absurd hs z)
      refine m_goes (fun z => absurd z hz) (fun _ z => absurd z n0_) (fun _ _ z => absurd z n0_) (fun _ _ _ => ⟨fun z => absurd z n0_, fun _ => ⟨by rw [jn_in (by omega)]; omega, ?_⟩⟩)
      refine a_ret hR9 ?_ hQ
      rw [jn_ix (by omega), su_ne (by omega), f9 44 (by omega), e9', su_eq, up_eq]
      exact hord m (by omega)
    · refine Or.inl (Or.inr (p_par hp ?_))
      rw [e56]
      refine x_bel ha (by omega) hs (Or.inr ⟨rfl, h 2 S (fun Q hQ => ?_)⟩)
      unfold P_M_order
      rw [e12]
      refine i_lt ha (by omega) (fun z => absurd z hs) (fun _ => ?_)
      exact m_goes (fun z => absurd z hz) (fun _ _ => ⟨fun _ => a_thr hR (by decide) hQ, fun z => absurd rfl z⟩) (fun _ z => absurd rfl z) (fun _ z => absurd rfl z)
theorem q_strip {v1 : Int32} (hR : rR W H S) (h : ∀ r S1, aL W H (P_M_strip v1) r S1 → post r S1) : P_L_strip v1 S post := by
  obtain ⟨a, ha, rfl⟩ := jx_ v1
  obtain ⟨nz, hB, e5, hbo, hP⟩ := id hR
  obtain ⟨⟨hW0, hW, hH0, hH, hnz⟩, ⟨a1, a2, -, -⟩, -, ⟨b1, b2, b3⟩, -, -⟩ := hB
  unfold P_L_strip X_P_strip P_P_strip
  by_cases hp : S 0 14 = 0
  · refine Or.inl (Or.inl (x_par hp (Or.inl ⟨rfl, h 1 S (fun Q hQ => ?_)⟩)))
    unfold P_M_strip
    have hz : S 31 5 = 0 := e5.trans hp
    have k : ∀ r8 : Int32, P_M_goes (S 31 5) r8 1 S (fun r17 S17 => (r17 = 0 → Q 0 S17) ∧ (¬ r17 = 0 → vp_in (jI a) 24 ∧ Q (S17 46 (z_ix (jI a))) S17)) := fun r8 => m_goes (fun _ => ⟨fun _ => a_thr hR (by decide) hQ, fun z => absurd rfl z⟩) (fun z => absurd hz z) (fun z => absurd hz z) (fun z => absurd hz z)
    exact m_inT (fun _ _ => k 1) (fun _ => k 0)
  · have hz : ¬ S 31 5 = 0 := fun z => hp (e5.symm.trans z)
    obtain ⟨-, -, -, ⟨-, hst⟩, -⟩ := hP hp
    by_cases hs : 0 ≤ a ∧ a < W
    · refine Or.inr (p_par hp ?_)
      show P_P_mustBeBelow (jI a) (S 0 0) S _
      rw [a1]
      refine p_bel ha (by omega) hs ?_
      obtain ⟨m, rfl⟩ := Int.eq_ofNat_of_zero_le hs.1
      rw [jn_in (by omega), jn_ix (by omega), jn0, jn_in (by omega)]
      refine ⟨by omega, by omega, fun S9 e9 => h 0 S9 (fun Q hQ => ?_)⟩
      have e9' : S9 = z_su S 50 0 (S 4 m) := e9
      have f9 : ∀ a, a ≠ 50 → S9 a = S a := fun a ha => by rw [e9', su_ne ha]
      have hR9 : rR W H S9 := by rw [e9']; exact rR_50 hR _
      unfold P_M_strip
      rw [f9 31 (by omega), b1]
      refine i_lt ha (by omega) (fun _ => ?_) (fun z => absurd hs z)
      refine m_goes (fun z => absurd z hz) (fun _ z => absurd z n0_) (fun _ _ z => absurd z n0_) (fun _ _ _ => ⟨fun z => absurd z n0_, fun _ => ⟨by rw [jn_in (by omega)]; omega, ?_⟩⟩)
      refine a_ret hR9 ?_ hQ
      rw [jn_ix (by omega), su_ne (by omega), f9 46 (by omega), e9', su_eq, up_eq]
      exact hst m (by omega)
    · refine Or.inl (Or.inr (p_par hp ?_))
      rw [a1]
      refine x_bel ha (by omega) hs (Or.inr ⟨rfl, h 2 S (fun Q hQ => ?_)⟩)
      unfold P_M_strip
      rw [b1]
      refine i_lt ha (by omega) (fun z => absurd z hs) (fun _ => ?_)
      exact m_goes (fun z => absurd z hz) (fun _ _ => ⟨fun _ => a_thr hR (by decide) hQ, fun z => absurd rfl z⟩) (fun _ z => absurd rfl z) (fun _ z => absurd rfl z)
theorem q_cover {v1 v2 : Int32} (hR : rR W H S) (h : ∀ r S1, aL W H (P_M_cover v1 v2) r S1 → post r S1) : P_L_cover v1 v2 S post := by
  obtain ⟨a, ha, rfl⟩ := jx_ v1
  obtain ⟨b, hb, rfl⟩ := jx_ v2
  obtain ⟨nz, hB, e5, hbo, hP⟩ := id hR
  unfold P_L_cover X_P_cover P_P_cover
  by_cases hp : S 0 14 = 0
  · refine Or.inl (Or.inl (x_par hp (Or.inl ⟨rfl, h 1 S (fun Q hQ => ?_)⟩)))
    unfold P_M_cover
    have hz : S 31 5 = 0 := e5.trans hp
    have k : ∀ r8 r9 : Int32, P_M_goes (S 31 5) r8 r9 S (fun r22 S22 => (r22 = 0 → Q 0 S22) ∧ (¬ r22 = 0 → vp_in ((4 * jI a) + jI b) 24 ∧ Q (S22 45 (z_ix ((4 * jI a) + jI b))) S22)) := fun r8 r9 => m_goes (fun _ => ⟨fun _ => a_thr hR (by decide) hQ, fun z => absurd rfl z⟩) (fun z => absurd hz z) (fun z => absurd hz z) (fun z => absurd hz z)
    exact m_inT (fun _ _ => m_inT (fun _ _ => k 1 1) (fun _ => k 1 0)) (fun _ => m_inT (fun _ _ => k 0 1) (fun _ => k 0 0))
  · have hz : ¬ S 31 5 = 0 := fun z => hp (e5.symm.trans z)
    obtain ⟨-, -, ⟨n, hn, e4, e19, hrow⟩, -⟩ := hP hp
    by_cases hs : 0 ≤ a ∧ a < n
    · by_cases ht : 0 ≤ b ∧ b < (4 : Nat)
      · refine Or.inr (p_par hp ?_)
        show P_P_mustBeBelow (jI a) (S 21 4) S _
        rw [e4]
        refine p_bel ha (by omega) hs ?_
        rw [jk4]
        refine p_tol hb (by omega) ht ?_
        obtain ⟨m, rfl⟩ := Int.eq_ofNat_of_zero_le hs.1
        obtain ⟨t, rfl⟩ := Int.eq_ofNat_of_zero_le ht.1
        have fin : ∀ v : Int32, v = S 45 (4 * m + t) → ∀ S9 : zS, S9 = z_su S 50 0 v → post 0 S9 := by
          intro v hv S9 e9'
          refine h 0 S9 (fun Q hQ => ?_)
          have f9 : ∀ a, a ≠ 50 → S9 a = S a := fun a ha => by rw [e9', su_ne ha]
          have hR9 : rR W H S9 := by rw [e9']; exact rR_50 hR _
          unfold P_M_cover
          rw [f9 31 (by omega), e19]
          refine i_lt ha (by omega) (fun _ => ?_) (fun z => absurd hs z)
          refine i_le (c := 4) hb (by omega) rfl (fun _ => ?_) (fun z => absurd ht z)
          rw [jk4, jmn, jan]
          refine m_goes (fun z => absurd z hz) (fun _ z => absurd z n0_) (fun _ _ z => absurd z n0_) (fun _ _ _ => ⟨fun z => absurd z n0_, fun _ => ⟨by rw [jn_in (by omega)]; omega, ?_⟩⟩)
          refine a_ret hR9 ?_ hQ
          rw [jn_ix (by omega), su_ne (by omega), f9 45 (by omega), e9', su_eq, up_eq]
          exact hv
        obtain ⟨w1, w2, w3, w4⟩ := hrow m (by omega)
        rw [jn_in (by omega), jn_ix (by omega), jk1, jk2, jn0, jn_eq (by omega) (by omega), jn_eq (by omega) (by omega), jn_eq (by omega) (by omega), jn_in (by omega)]
        refine ⟨fun z => ⟨by omega, by omega, fun S9 e9 => fin _ ?_ S9 e9⟩, fun z => ⟨by omega, by omega, fun S9 e9 => fin _ ?_ S9 e9⟩, fun z => ⟨by omega, by omega, fun S9 e9 => fin _ ?_ S9 e9⟩, fun z1 z2 z3 => ⟨by omega, by omega, fun S9 e9 => fin _ ?_ S9 e9⟩⟩
        · rw [z]; exact w1
        · rw [z]; exact w2
        · rw [z]; exact w3
        · rw [show t = 3 by omega]; exact w4
      · refine Or.inl (Or.inr (p_par hp (Or.inr ?_)))
        rw [e4]
        refine p_bel ha (by omega) hs ?_
        rw [jk4]
        refine x_tol hb (by omega) ht (Or.inr (Or.inr ⟨rfl, h 3 S (fun Q hQ => ?_)⟩))
        unfold P_M_cover
        rw [e19]
        refine i_lt ha (by omega) (fun _ => ?_) (fun z => absurd hs z)
        refine i_le (c := 4) hb (by omega) rfl (fun z => absurd z ht) (fun _ => ?_)
        exact m_goes (fun z => absurd z hz) (fun _ z => absurd z n0_) (fun _ _ _ => ⟨fun _ => a_thr hR (by decide) hQ, fun z => absurd rfl z⟩) (fun _ _ z => absurd rfl z)
    · refine Or.inl (Or.inr (p_par hp (Or.inl ?_)))
      rw [e4]
      refine x_bel ha (by omega) hs (Or.inr (Or.inl ⟨rfl, h 2 S (fun Q hQ => ?_)⟩))
      unfold P_M_cover
      rw [e19]
      refine i_lt ha (by omega) (fun z => absurd z hs) (fun _ => ?_)
      have k : ∀ r9 : Int32, P_M_goes (S 31 5) 0 r9 S (fun r22 S22 => (r22 = 0 → Q 0 S22) ∧ (¬ r22 = 0 → vp_in ((4 * jI a) + jI b) 24 ∧ Q (S22 45 (z_ix ((4 * jI a) + jI b))) S22)) := fun r9 => m_goes (fun z => absurd z hz) (fun _ _ => ⟨fun _ => a_thr hR (by decide) hQ, fun z => absurd rfl z⟩) (fun _ z => absurd rfl z) (fun _ z => absurd rfl z)
      exact m_inT (fun _ _ => k 1) (fun _ => k 0)
end ZS
