section ZA2
variable {W H : Nat} {S : zS} {post : Int32 → zS → Prop}
/-- what the other side's cell answers at its end -/
def rCl (v2 : Int32) (post : Int32 → zS → Prop) (v3_49e v4_49e v5_49e v6_49e v7_49e : Int32) (S49e : zS) : Prop :=
    (¬ v2 = 0 →
    (¬ v2 = 1 →
    (¬ v2 = 2 →
    (¬ v2 = 3 →
    post v7_49e S49e) ∧
    (v2 = 3 →
    post ((v6_49e - v5_49e) + 1) S49e)) ∧
    (v2 = 2 →
    post ((v4_49e - v3_49e) + 1) S49e)) ∧
    (v2 = 1 →
    post v5_49e S49e)) ∧
    (v2 = 0 →
    post v3_49e S49e)
theorem q_cell {v1 v2 : Int32} (hR : rR W H S) (h : ∀ r S1, aL W H (P_M_cell v1 v2) r S1 → post r S1) : P_L_cell2 v1 v2 S post := by
  obtain ⟨a, ha, rfl⟩ := jx_ v1
  obtain ⟨b, hb, rfl⟩ := jx_ v2
  obtain ⟨nz, hB, e5, hbo, hP⟩ := id hR
  obtain ⟨⟨hW0, hW, hH0, hH, hnz⟩, ⟨a1, a2, a3, a4⟩, -, ⟨b1, b2, b3⟩, ⟨c1, c2⟩, -⟩ := id hB
  unfold P_L_cell2 X_P_cell P_P_cell
  by_cases hp : S 0 14 = 0
  · refine Or.inl (Or.inl (x_par hp (Or.inl ⟨rfl, h 1 S (fun Q hQ => ?_)⟩)))
    have hz : S 31 5 = 0 := e5.trans hp
    have k : ∀ r8 r9 : Int32, P_M_goes (S 31 5) r8 r9 S (fun r22 S22 => (¬ r22 = 0 → ∃ k49, L_M_cell_49 Q (rCl (jI b) Q) (jI a) (jI b) k49 24 0 24 0 0 0 S22) ∧ (r22 = 0 → Q 0 S22)) := fun r8 r9 => m_goes (fun _ => ⟨fun z => absurd rfl z, fun _ => a_thr hR (by decide) hQ⟩) (fun z => absurd hz z) (fun z => absurd hz z) (fun z => absurd hz z)
    show P_M_in (jI a) 0 ((S 31 23) - 1) S (fun r13 S13 => P_M_in (jI b) 0 4 S13 (fun r19 S19 => P_M_goes (S 31 5) r13 r19 S19 (fun r22 S22 => (¬ r22 = 0 → ∃ k49, L_M_cell_49 Q (rCl (jI b) Q) (jI a) (jI b) k49 24 0 24 0 0 0 S22) ∧ (r22 = 0 → Q 0 S22))))
    exact m_inT (fun _ _ => m_inT (fun _ _ => k 1 1) (fun _ => k 1 0)) (fun _ => m_inT (fun _ _ => k 0 1) (fun _ => k 0 0))
  · have hz : ¬ S 31 5 = 0 := fun z => hp (e5.symm.trans z)
    obtain ⟨-, -, -, -, ⟨n, hn, e6, e23, hcell⟩⟩ := hP hp
    by_cases hs : 0 ≤ a ∧ a < n
    · by_cases ht : 0 ≤ b ∧ b < (5 : Nat)
      · refine Or.inr (p_par hp ?_)
        show P_P_mustBeBelow (jI a) (S 13 6) S _
        rw [e6]
        refine p_bel ha (by omega) hs ?_
        show P_P_mustBeTold (jI b) (jI ((5 : Nat) : Int)) S _
        refine p_tol hb (by omega) ht ?_
        obtain ⟨k, rfl⟩ := Int.eq_ofNat_of_zero_le hs.1
        have hk : k < n := by omega
        obtain ⟨h19, lf, tp, rt, bt, d1, d2, d3, d4, e15, e16, e17, e18, hin, ⟨u1, u11, u12, u13, u14⟩, ⟨u2, u21, u22, u23, u24⟩, ⟨u3, u31, u32, u33, u34⟩, ⟨u4, u41, u42, u43, u44⟩⟩ := hcell k hk
        have hlr : lf ≤ rt ∧ tp ≤ bt := by
          have := hin u1 u11 u12 u13
          omega
        have k0 : jI b = 0 ↔ b = 0 := jI_eq hb (jS (z := 0) (by omega))
        have k1 : jI b = 1 ↔ b = 1 := jI_eq hb (jS (z := 1) (by omega))
        have k2 : jI b = 2 ↔ b = 2 := jI_eq hb (jS (z := 2) (by omega))
        have k3 : jI b = 3 ↔ b = 3 := jI_eq hb (jS (z := 3) (by omega))
        have k4 : jI b = 4 ↔ b = 4 := jI_eq hb (jS (z := 4) (by omega))
        have fin : ∀ v : Int32, (∀ (T : zS) (Q : Int32 → zS → Prop), Q v T → (¬ b = 0 → (¬ b = 1 → (¬ b = 2 → (¬ b = 3 → Q (S 19 k) T) ∧ (b = 3 → Q (jI ((bt + 1 - tp : Nat) : Int)) T)) ∧ (b = 2 → Q (jI ((rt + 1 - lf : Nat) : Int)) T)) ∧ (b = 1 → Q (jI (tp : Nat)) T)) ∧ (b = 0 → Q (jI (lf : Nat)) T)) → vp_in 0 1 ∧ ∀ S9 : zS, S9 = z_su S 50 (z_ix 0) v → post 0 S9 := by
          intro v hv
          refine ⟨v01, fun S9 e9 => h 0 S9 (fun Q hQ => ?_)⟩
          have e9' : S9 = z_su S 50 0 v := e9
          have f9 : ∀ a, a ≠ 50 → S9 a = S a := fun a ha => by rw [e9', su_ne ha]
          have hR9 : rR W H S9 := by rw [e9']; exact rR_50 hR _
          show P_M_in (jI (k : Nat)) 0 ((S9 31 23) - 1) S9 (fun r13 S13 => P_M_in (jI b) 0 4 S13 (fun r19 S19 => P_M_goes (S9 31 5) r13 r19 S19 (fun r22 S22 => (¬ r22 = 0 → ∃ k49, L_M_cell_49 Q (rCl (jI b) Q) (jI (k : Nat)) (jI b) k49 24 0 24 0 0 0 S22) ∧ (r22 = 0 → Q 0 S22))))
          rw [f9 31 (by omega), e23]
          refine i_lt ha (by omega) (fun _ => ?_) (fun z => absurd hs z)
          refine i_le (c := 5) hb (by omega) rfl (fun _ => ?_) (fun z => absurd ht z)
          refine m_goes (fun z => absurd z hz) (fun _ z => absurd z n0_) (fun _ _ z => absurd z n0_) (fun _ _ _ => ⟨fun _ => ?_, fun z => absurd z n0_⟩)
          refine m_McellL (W := W) (H := H) hW hH (by rw [su_eq, up_ne (by omega), f9 31 (by omega)]; exact b1) (by rw [su_eq, up_ne (by omega), f9 31 (by omega)]; exact b2) (fun m1 m2 m3 m4 n2 hcq => ?_)
          rw [su_ne (by omega), f9 47 (by omega)] at hcq
          obtain ⟨⟨g1, g2, g3, g4⟩, g5, g6, g7, g8, g9, g10⟩ := hcq
          have g6 : ∀ u, u < 576 → oP W H u ∧ S 47 u = jI (k : Nat) → m1 ≤ u % 24 ∧ u % 24 ≤ m2 ∧ m3 ≤ u / 24 ∧ u / 24 ≤ m4 := g6
          have g5 : n2 = cP (fun u => oP W H u ∧ S 47 u = jI (k : Nat)) 576 := g5
          have w1 := g6 u1 u11 ⟨u12, u13⟩
          have w2 := g6 u2 u21 ⟨u22, u23⟩
          have w3 := g6 u3 u31 ⟨u32, u33⟩
          have w4 := g6 u4 u41 ⟨u42, u43⟩
          have x1 : m1 = lf := by
            have g7 : m1 = 24 ∨ ∃ u, u < 576 ∧ (oP W H u ∧ S 47 u = jI (k : Nat)) ∧ u % 24 = m1 := g7
            rcases g7 with z | ⟨u, z1, z2, z3⟩
            · omega
            · have := hin u z1 z2.1 z2.2; omega
          have x2 : m2 = rt := by
            have g8 : m2 = 0 ∨ ∃ u, u < 576 ∧ (oP W H u ∧ S 47 u = jI (k : Nat)) ∧ u % 24 = m2 := g8
            rcases g8 with z | ⟨u, z1, z2, z3⟩
            · omega
            · have := hin u z1 z2.1 z2.2; omega
          have x3 : m3 = tp := by
            have g9 : m3 = 24 ∨ ∃ u, u < 576 ∧ (oP W H u ∧ S 47 u = jI (k : Nat)) ∧ u / 24 = m3 := g9
            rcases g9 with z | ⟨u, z1, z2, z3⟩
            · omega
            · have := hin u z1 z2.1 z2.2; omega
          have x4 : m4 = bt := by
            have g10 : m4 = 0 ∨ ∃ u, u < 576 ∧ (oP W H u ∧ S 47 u = jI (k : Nat)) ∧ u / 24 = m4 := g10
            rcases g10 with z | ⟨u, z1, z2, z3⟩
            · omega
            · have := hin u z1 z2.1 z2.2; omega
          rw [x1, x2, x3, x4, g5, ← h19]
          have := hv (z_su S9 31 0 0) Q (a_ret hR9 (by rw [e9', su_eq, up_eq]) hQ)
          unfold rCl
          rw [k0, k1, k2, k3, jsn hlr.1, jsn hlr.2, jn1, jn1, show rt - lf + 1 = rt + 1 - lf by omega, show bt - tp + 1 = bt + 1 - tp by omega]
          exact this
        rw [k4]
        refine ⟨fun n4 => ?_, fun e => ?_⟩
        · unfold P_G_boxOf
          rw [k0, k1, k2, jn_in (by omega), jn_ix (by omega)]
          refine ⟨fun e => ⟨by omega, ?_⟩, fun e => ⟨by omega, ?_⟩, fun e => ?_, fun n0 n1 n2 => ?_⟩
          · refine fin _ (fun T Q hQ => ⟨fun z => by omega, fun _ => ?_⟩)
            rw [← e15]; exact hQ
          · refine fin _ (fun T Q hQ => ⟨fun _ => ⟨fun z => by omega, fun _ => ?_⟩, fun z => by omega⟩)
            rw [← e16]; exact hQ
          · exact m_wideOf (x0 := lf) (x1 := rt + 1) (by omega) (by omega) e15 (by rw [show 13 + 4 = 17 from rfl, e17]; congr 1; omega) (fin _ (fun T Q hQ => ⟨fun _ => ⟨fun _ => ⟨fun z => by omega, fun _ => hQ⟩, fun z => by omega⟩, fun z => by omega⟩))
          · exact m_highOf (y0 := tp) (y1 := bt + 1) (by omega) (by omega) e16 (by rw [show 13 + 5 = 18 from rfl, e18]; congr 1; omega) (fin _ (fun T Q hQ => ⟨fun _ => ⟨fun _ => ⟨fun _ => ⟨fun z => by omega, fun _ => hQ⟩, fun z => by omega⟩, fun z => by omega⟩, fun z => by omega⟩))
        · rw [jn_in (by omega), jn_ix (by omega)]
          exact ⟨by omega, fin _ (fun T Q hQ => ⟨fun _ => ⟨fun _ => ⟨fun _ => ⟨fun _ => hQ, fun z => by omega⟩, fun z => by omega⟩, fun z => by omega⟩, fun z => by omega⟩)⟩
      · refine Or.inl (Or.inr (p_par hp (Or.inr ?_)))
        rw [e6]
        refine p_bel ha (by omega) hs ?_
        show X_P_mustBeTold (jI b) (jI ((5 : Nat) : Int)) S _
        refine x_tol hb (by omega) ht (Or.inr (Or.inr ⟨rfl, h 3 S (fun Q hQ => ?_)⟩))
        show P_M_in (jI a) 0 ((S 31 23) - 1) S (fun r13 S13 => P_M_in (jI b) 0 4 S13 (fun r19 S19 => P_M_goes (S 31 5) r13 r19 S19 (fun r22 S22 => (¬ r22 = 0 → ∃ k49, L_M_cell_49 Q (rCl (jI b) Q) (jI a) (jI b) k49 24 0 24 0 0 0 S22) ∧ (r22 = 0 → Q 0 S22))))
        rw [e23]
        refine i_lt ha (by omega) (fun _ => ?_) (fun z => absurd hs z)
        refine i_le (c := 5) hb (by omega) rfl (fun z => absurd z ht) (fun _ => ?_)
        exact m_goes (fun z => absurd z hz) (fun _ z => absurd z n0_) (fun _ _ _ => ⟨fun z => absurd rfl z, fun _ => a_thr hR (by decide) hQ⟩) (fun _ _ z => absurd rfl z)
    · refine Or.inl (Or.inr (p_par hp (Or.inl ?_)))
      rw [e6]
      refine x_bel ha (by omega) hs (Or.inr (Or.inl ⟨rfl, h 2 S (fun Q hQ => ?_)⟩))
      show P_M_in (jI a) 0 ((S 31 23) - 1) S (fun r13 S13 => P_M_in (jI b) 0 4 S13 (fun r19 S19 => P_M_goes (S 31 5) r13 r19 S19 (fun r22 S22 => (¬ r22 = 0 → ∃ k49, L_M_cell_49 Q (rCl (jI b) Q) (jI a) (jI b) k49 24 0 24 0 0 0 S22) ∧ (r22 = 0 → Q 0 S22))))
      rw [e23]
      refine i_lt ha (by omega) (fun z => absurd z hs) (fun _ => ?_)
      have k : ∀ r9 : Int32, P_M_goes (S 31 5) 0 r9 S (fun r22 S22 => (¬ r22 = 0 → ∃ k49, L_M_cell_49 Q (rCl (jI b) Q) (jI a) (jI b) k49 24 0 24 0 0 0 S22) ∧ (r22 = 0 → Q 0 S22)) := fun r9 => m_goes (fun z => absurd z hz) (fun _ _ => ⟨fun z => absurd rfl z, fun _ => a_thr hR (by decide) hQ⟩) (fun _ z => absurd rfl z) (fun _ z => absurd rfl z)
      exact m_inT (fun _ _ => k 1) (fun _ => k 0)
theorem q_run {v1 v2 : Int32} (hR : rR W H S) (h : ∀ r S1, aL W H (P_M_run v1 v2) r S1 → post r S1) : P_L_run v1 v2 S post := by
  obtain ⟨a, ha, rfl⟩ := jx_ v1
  obtain ⟨b, hb, rfl⟩ := jx_ v2
  obtain ⟨nz, hB, e5, hbo, hP⟩ := id hR
  unfold P_L_run
  by_cases hs : (0 ≤ a ∧ a ≤ 24) ∧ (0 ≤ b ∧ b ≤ 24)
  · obtain ⟨gx, rfl⟩ := Int.eq_ofNat_of_zero_le hs.1.1
    obtain ⟨gy, rfl⟩ := Int.eq_ofNat_of_zero_le hs.2.1
    refine Or.inr (m_Prun hB (by omega) (by omega) (fun S' c f1 f31 f0 f5 f13 f21 e14 bo2 bo3 hC => ⟨v01, fun S9 e9 => h 0 S9 (fun Q hQ => ?_)⟩))
    have e9' : S9 = z_su S' 50 0 (jI (c : Nat)) := e9
    have f9 : ∀ a, a ≠ 50 → S9 a = S' a := fun a ha => by rw [e9', su_ne ha]
    obtain ⟨h0, ⟨a1, a2, a3, a4⟩, ⟨g1, g2, g3, g4, g5, g6⟩, ⟨b1, b2, b3⟩, ⟨c1, c2⟩, ⟨-, -, d3, d4, d5, d6⟩⟩ := hB
    have hB' : rB W H nz S' := by
      refine ⟨h0, ⟨by rw [f0 0 (by omega) (by omega) (by omega)]; exact a1, by rw [f0 1 (by omega) (by omega) (by omega)]; exact a2, by rw [f0 13 (by omega) (by omega) (by omega)]; exact a3, by rw [f0 10 (by omega) (by omega) (by omega), f1]; exact a4⟩, ⟨by rw [f5 8 (by omega)]; exact g1, by rw [f5 9 (by omega)]; exact g2, by rw [f13 8 (by omega)]; exact g3, by rw [f13 9 (by omega)]; exact g4, by rw [f21 6 (by omega) (by omega)]; exact g5, by rw [f21 7 (by omega) (by omega)]; exact g6⟩, ⟨by rw [f31 31 (by omega)]; exact b1, by rw [f31 31 (by omega)]; exact b2, by rw [f31 31 (by omega)]; exact b3⟩, ⟨fun u => by rw [f1]; exact c1 u, by rw [f31 32 (by omega), f1]; exact c2⟩, bo2, bo3, fun u => by rw [f31 33 (by omega)]; exact d3 u, fun u => by rw [f31 34 (by omega)]; exact d4 u, fun u => by rw [f31 35 (by omega)]; exact d5 u, fun u => by rw [f31 36 (by omega)]; exact d6 u⟩
    have hB9 : rB W H nz S9 := rB_f hB' (fun a _ h2 => f9 a h2) (fun j _ => by rw [f9 31 (by omega)])
    have hC9 : cF W H nz gx gy S9 c := by
      unfold cF at hC ⊢
      rw [f9 0 (by omega), f9 1 (by omega), f9 2 (by omega), f9 3 (by omega), f9 4 (by omega), f9 5 (by omega), f9 6 (by omega), f9 7 (by omega), f9 8 (by omega), f9 9 (by omega), f9 10 (by omega), f9 11 (by omega), f9 13 (by omega), f9 15 (by omega), f9 16 (by omega), f9 17 (by omega), f9 18 (by omega), f9 19 (by omega), f9 21 (by omega), f9 22 (by omega), f9 23 (by omega), f9 24 (by omega), f9 25 (by omega), f9 28 (by omega)]
      exact hC
    refine m_Mrun hB9 hC9 (by omega) (by omega) (fun S2 k1 k50 k32 k31 k0 k5 o33 o34 o35 o36 hP2 => hQ _ S2 k0 k50 (fun _ => by rw [e9', su_eq, up_eq]) ?_)
    have x14 : S2 0 14 = 1 := by rw [k1 0 (by omega), f9 0 (by omega), e14]
    refine ⟨nz, ?_, by rw [k5, x14], Or.inr x14, fun _ => hP2⟩
    obtain ⟨h0, q1, q2, ⟨q3, q4, q5⟩, ⟨q6, q7⟩, ⟨q8, q9, -⟩⟩ := hB9
    refine ⟨h0, ?_, ?_, ⟨by rw [k31 1 (by omega) (by omega) (by omega) (by omega) (by omega) (by omega)]; exact q3, by rw [k31 2 (by omega) (by omega) (by omega) (by omega) (by omega) (by omega)]; exact q4, by rw [k31 4 (by omega) (by omega) (by omega) (by omega) (by omega) (by omega)]; exact q5⟩, ⟨by rw [k1 1 (by omega)]; exact q6, by rw [k32, k1 1 (by omega)]; exact q7⟩, by rw [k1 2 (by omega)]; exact q8, by rw [k1 3 (by omega)]; exact q9, o33, o34, o35, o36⟩
    · rw [k1 0 (by omega), k1 1 (by omega)]; exact q1
    · rw [k1 5 (by omega), k1 13 (by omega), k1 21 (by omega)]; exact q2
  · have hx : (2 : Nat) = 2 ∧ post 1 S := ⟨rfl, h 1 S (fun Q hQ => ?_)⟩
    · refine Or.inl ?_
      unfold X_P_run
      rw [show (24 : Int32) = jI 24 from rfl, l0_ ha, l0_ hb, jI_lt (jS (by omega)) ha, jI_le hb (jS (by omega))]
      exact ⟨fun _ => hx, fun z1 => ⟨fun _ => hx, fun z2 => ⟨fun _ => hx, fun z3 => ⟨fun z4 => hs ⟨⟨by omega, by omega⟩, by omega, z4⟩, fun _ => hx⟩⟩⟩⟩
    · have t : J_M_run_26 Q (jI a) (jI b) 0 S := by
        unfold J_M_run_26
        exact m_goes (fun _ => ⟨fun z => absurd rfl z, fun _ => a_thr hR (by decide) hQ⟩) (fun z => absurd rfl z) (fun z => absurd rfl z) (fun z => absurd rfl z)
      unfold P_M_run J_M_run_25
      rw [show (24 : Int32) = jI 24 from rfl, jI_0]
      refine m_in ha (jS (by omega)) (jS (by omega)) (fun z => ⟨fun z2 => absurd z2 (by decide), fun _ => ?_⟩) (fun z => ⟨fun _ => t, fun z2 => absurd rfl z2⟩)
      exact m_in hb (jS (by omega)) (jS (by omega)) (fun z2 => absurd ⟨z, z2⟩ hs) (fun z2 => ⟨fun _ => t, fun z3 => absurd rfl z3⟩)
end ZA2
