section ZZ
variable {W H : Nat} {S : zS} {post : Int32 → zS → Prop}
theorem q_line {v1 v2 v3 : Int32} (hR : rR W H S) (h : ∀ r S1, aL W H (P_M_line v1 v2 v3) r S1 → post r S1) : P_L_line v1 v2 v3 S post := by
  obtain ⟨a, ha, rfl⟩ := jx_ v1
  obtain ⟨j, hj, rfl⟩ := jx_ v2
  obtain ⟨b, hb, rfl⟩ := jx_ v3
  obtain ⟨nz, hB, e5, hbo, hP⟩ := id hR
  obtain ⟨⟨hW0, hW, hH0, hH, hnz⟩, ⟨a1, a2, a3, a4⟩, -, ⟨b1, b2, b3⟩, ⟨c1, c2⟩, -⟩ := id hB
  unfold P_L_line X_P_line P_P_line
  by_cases hp : S 0 14 = 0
  · refine Or.inl (Or.inl (x_par hp (Or.inl ⟨rfl, h 1 S (fun Q hQ => ?_)⟩)))
    have hz : S 31 5 = 0 := e5.trans hp
    unfold P_M_line J_M_line_40 J_M_line_41
    refine ⟨fun _ => ?_, fun z => absurd hz z⟩
    refine m_inT (fun _ _ => ?_) (fun _ => ?_)
    · exact m_goes (fun _ => ⟨fun z => absurd rfl z, fun _ => a_thr hR (by decide) hQ⟩) (fun z => absurd hz z) (fun z => absurd hz z) (fun z => absurd hz z)
    · exact m_goes (fun _ => ⟨fun z => absurd rfl z, fun _ => a_thr hR (by decide) hQ⟩) (fun z => absurd hz z) (fun z => absurd hz z) (fun z => absurd hz z)
  · have hz : ¬ S 31 5 = 0 := fun z => hp (e5.symm.trans z)
    have hP := hP hp
    obtain ⟨-, ⟨c, hc, e56, e12, -⟩, -⟩ := id hP
    -- the other side throws 2
    have thr2 : ∀ Q : Int32 → zS → Prop, (∀ q S2, S2 31 0 = 2 → S2 50 = S 50 → ((2 : Int32) = 0 → S 50 0 = q) → rR W H S2 → Q q S2) → J_M_line_40 Q (jI a) (jI j) (jI b) S := fun Q hQ => by
      unfold J_M_line_40 J_M_line_41
      refine m_inT (fun _ _ => ?_) (fun _ => ?_)
      · exact m_goes (fun z => absurd z hz) (fun _ _ => ⟨fun z => absurd rfl z, fun _ => a_thr hR (by decide) hQ⟩) (fun _ z => absurd rfl z) (fun _ z => absurd rfl z)
      · exact m_goes (fun z => absurd z hz) (fun _ _ => ⟨fun z => absurd rfl z, fun _ => a_thr hR (by decide) hQ⟩) (fun _ z => absurd rfl z) (fun _ z => absurd rfl z)
    by_cases hs : 0 ≤ a ∧ a < c
    · obtain ⟨k, rfl⟩ := Int.eq_ofNat_of_zero_le hs.1
      have hk : k < c := by omega
      obtain ⟨lf, tp, rt, bt, hpL, hrt, h11, h43⟩ := rP_pL hB hP e56 hc hk
      have hpL2 := id hpL
      obtain ⟨-, -, hlr, -, htb, hbt, -, e7, e8, e9, e10, e39, e40, e41, e42, -, -⟩ := hpL2
      have hle := cP_le (lb_ (rw_ S k lf rt) tp) (bt + 1)
      by_cases hl : 0 ≤ j ∧ j < cP (lb_ (rw_ S k lf rt) tp) (bt + 1)
      · by_cases ht : 0 ≤ b ∧ b < (2 : Nat)
        · refine Or.inr (p_par hp ?_)
          show P_P_mustBeBelow (jI (k : Nat)) (S 5 6) S _
          rw [e56]
          refine p_bel ha (by omega) hs (m_countLines hpL (p_bel hj (by omega) hl ?_))
          show P_P_mustBeTold (jI b) (jI ((2 : Nat) : Int)) S _
          refine p_tol hb (by omega) ht ?_
          obtain ⟨m, rfl⟩ := Int.eq_ofNat_of_zero_le hl.1
          have hm : m < cP (lb_ (rw_ S k lf rt) tp) (bt + 1) := by omega
          have k0 : jI b = 0 ↔ b = 0 := jI_eq hb (jS (z := 0) (by omega))
          rw [k0]
          have fin : ∀ v : Int32, (∀ (T : zS) (Q : Int32 → zS → Prop), (∀ a, a ≠ 31 → a ≠ 50 → T a = S a) → Q v T → ∃ n, L_M_line_75 Q (fun v6_75e v7_75e S75e => (¬ jI b = 0 → Q (v7_75e - v6_75e) S75e) ∧ (jI b = 0 → Q v6_75e S75e)) (jI (k : Nat)) (jI b) n (jI (m : Nat)) (jI (tp : Nat)) T) → vp_in 0 1 ∧ ∀ S9 : zS, S9 = z_su S 50 (z_ix 0) v → post 0 S9 := by
            intro v hv
            refine ⟨v01, fun S9 e9 => h 0 S9 (fun Q hQ => ?_)⟩
            have e9' : S9 = z_su S 50 0 v := e9
            have f9 : ∀ a, a ≠ 50 → S9 a = S a := fun a ha => by rw [e9', su_ne ha]
            have hR9 : rR W H S9 := by rw [e9']; exact rR_50 hR _
            unfold P_M_line
            rw [f9 31 (by omega), e12]
            refine ⟨fun z => absurd z hz, fun _ => i_lt ha (by omega) (fun _ => ⟨fun z => absurd z n0_, fun _ => ?_⟩) (fun z => absurd hs z)⟩
            refine m_Mlines hpL (fun a _ h2 => f9 a h2) ?_
            refine i_lt hj (by omega) (fun _ => ⟨fun z => absurd z n0_, fun _ => ?_⟩) (fun z => absurd hl z)
            unfold J_M_line_41
            refine i_le (c := 2) hb (by omega) rfl (fun _ => ?_) (fun z => absurd ht z)
            rw [f9 31 (by omega), jn_in (by omega), jn_ix (by omega)]
            refine m_goes (fun z => absurd z hz) (fun _ z => absurd z n0_) (fun _ _ z => absurd z n0_) (fun _ _ _ => ⟨fun _ => ⟨by omega, fun x73 e73 => ?_⟩, fun z => absurd z n0_⟩)
            rw [su_ne (by omega), f9 40 (by omega), e40] at e73
            rw [e73]
            exact hv _ Q (fun a h1 h2 => by rw [su_ne h1, f9 a h2]) (a_ret hR9 (by rw [e9', su_eq, up_eq]) hQ)
          refine m_firstRow hpL hm (fun y hy hlb hcy => ?_)
          have huy : ∀ y', lb_ (rw_ S k lf rt) tp y' → cP (lb_ (rw_ S k lf rt) tp) y' = m → y' = y := fun y' h1 h2 => by
            rcases Nat.lt_trichotomy y' y with w | w | w
            · have := cP_k h1 w; omega
            · exact w
            · have := cP_k hlb w; omega
          refine ⟨fun hb0 => m_countRows hpL hy (fun z hz1 hz2 hz3 hz4 => fin _ (fun T Q hT hQ => m_MlineL hpL hT hm (fun y' z' w1 w2 w3 w4 w5 w6 w7 => ?_))), fun hb0 => fin _ (fun T Q hT hQ => m_MlineL hpL hT hm (fun y' z' w1 w2 w3 w4 w5 w6 w7 => ?_))⟩
          · have ey := huy y' w2 w3
            subst ey
            have ez : z' = z := by
              rcases Nat.lt_trichotomy z' z with q | q | q
              · rcases w7 with q2 | q2
                · omega
                · exact absurd (hz3 z' w4 q) q2
              · exact q
              · rcases hz4 with q2 | q2
                · omega
                · exact absurd (w6 z hz1 q) q2
            subst ez
            rw [jsn hz1]
            exact ⟨fun _ => hQ, fun q => absurd (k0.mp q) hb0⟩
          · have ey := huy y' w2 w3
            subst ey
            exact ⟨fun q => absurd (k0.mpr hb0) q, fun _ => hQ⟩
        · refine Or.inl (Or.inr (p_par hp (Or.inr ?_)))
          rw [e56]
          refine p_bel ha (by omega) hs (m_countLines hpL (Or.inr (p_bel hj (by omega) hl ?_)))
          show X_P_mustBeTold (jI b) (jI ((2 : Nat) : Int)) S _
          refine x_tol hb (by omega) ht (Or.inr (Or.inr ⟨rfl, h 3 S (fun Q hQ => ?_)⟩))
          unfold P_M_line
          rw [e12]
          refine ⟨fun z => absurd z hz, fun _ => i_lt ha (by omega) (fun _ => ⟨fun z => absurd z n0_, fun _ => ?_⟩) (fun z => absurd hs z)⟩
          refine m_Mlines hpL (fun a _ h2 => rfl) ?_
          refine i_lt hj (by omega) (fun _ => ⟨fun z => absurd z n0_, fun _ => ?_⟩) (fun z => absurd hl z)
          unfold J_M_line_41
          refine i_le (c := 2) hb (by omega) rfl (fun z => absurd z ht) (fun _ => ?_)
          exact m_goes (fun z => absurd z hz) (fun _ z => absurd z n0_) (fun _ _ _ => ⟨fun z => absurd rfl z, fun _ => a_thr hR (by decide) hQ⟩) (fun _ _ z => absurd rfl z)
      · refine Or.inl (Or.inr (p_par hp (Or.inr ?_)))
        rw [e56]
        refine p_bel ha (by omega) hs (m_countLines hpL (Or.inl (x_bel hj (by omega) hl (Or.inr (Or.inl ⟨rfl, h 2 S (fun Q hQ => ?_)⟩)))))
        unfold P_M_line
        rw [e12]
        refine ⟨fun z => absurd z hz, fun _ => i_lt ha (by omega) (fun _ => ⟨fun z => absurd z n0_, fun _ => ?_⟩) (fun z => absurd hs z)⟩
        refine m_Mlines hpL (fun a _ h2 => rfl) ?_
        exact i_lt hj (by omega) (fun z => absurd z hl) (fun _ => ⟨fun _ => thr2 Q hQ, fun z => absurd rfl z⟩)
    · refine Or.inl (Or.inr (p_par hp (Or.inl ?_)))
      rw [e56]
      refine x_bel ha (by omega) hs (Or.inr (Or.inl ⟨rfl, h 2 S (fun Q hQ => ?_)⟩))
      unfold P_M_line
      rw [e12]
      exact ⟨fun z => absurd z hz, fun _ => i_lt ha (by omega) (fun z => absurd z hs) (fun _ => ⟨fun _ => thr2 Q hQ, fun z => absurd rfl z⟩)⟩
/-- the box and the count of the marked ones ahead of p -/
def cq_ (q : Nat → Prop) (p : Nat) (m : Nat × Nat × Nat × Nat × Nat) : Prop :=
  (m.1 ≤ 24 ∧ m.2.1 < 24 ∧ m.2.2.1 ≤ 24 ∧ m.2.2.2.1 < 24) ∧ m.2.2.2.2 = cP q p ∧
  (∀ u, u < p → q u → m.1 ≤ u % 24 ∧ u % 24 ≤ m.2.1 ∧ m.2.2.1 ≤ u / 24 ∧ u / 24 ≤ m.2.2.2.1) ∧
  (m.1 = 24 ∨ ∃ u, u < p ∧ q u ∧ u % 24 = m.1) ∧ (m.2.1 = 0 ∨ ∃ u, u < p ∧ q u ∧ u % 24 = m.2.1) ∧ (m.2.2.1 = 24 ∨ ∃ u, u < p ∧ q u ∧ u / 24 = m.2.2.1) ∧ (m.2.2.2.1 = 0 ∨ ∃ u, u < p ∧ q u ∧ u / 24 = m.2.2.2.1)
theorem cq_k {q : Nat → Prop} {p p' : Nat} {m : Nat × Nat × Nat × Nat × Nat} (h : cq_ q p m) (hp : p ≤ p') (hn : ∀ u, p ≤ u → u < p' → ¬ q u) : cq_ q p' m := by
  obtain ⟨h1, h2, h3, h4, h5, h6, h7⟩ := h
  refine ⟨h1, by rw [h2]; exact (cP_s hp hn).symm, fun u hu hq => h3 u ?_ hq, h4.imp id ?_, h5.imp id ?_, h6.imp id ?_, h7.imp id ?_⟩
  · rcases Nat.lt_or_ge u p with w | w
    · exact w
    · exact absurd hq (hn u w hu)
  all_goals
    rintro ⟨u, u1, u2⟩
    exact ⟨u, by omega, u2⟩
theorem cq_y {q : Nat → Prop} {p m1 m2 m3 m4 n a1 a2 a3 : Nat} (h : cq_ q p (m1, m2, m3, m4, n)) (hq : q p) (hp : p < 576) (e1 : a1 = if m1 ≤ p % 24 then m1 else p % 24) (e2 : a2 = if p % 24 ≤ m2 then m2 else p % 24) (e3 : a3 = if m3 ≤ p / 24 then m3 else p / 24) : cq_ q (p + 1) (a1, a2, a3, p / 24, n + 1) := by
  obtain ⟨⟨b1, b2, b3, b4⟩, h2, h3, h4, h5, h6, h7⟩ := h
  have b1 : m1 ≤ 24 := b1
  have b2 : m2 < 24 := b2
  have b3 : m3 ≤ 24 := b3
  have b4 : m4 < 24 := b4
  have h2 : n = cP q p := h2
  have h3 : ∀ u, u < p → q u → m1 ≤ u % 24 ∧ u % 24 ≤ m2 ∧ m3 ≤ u / 24 ∧ u / 24 ≤ m4 := h3
  have h4 : m1 = 24 ∨ ∃ u, u < p ∧ q u ∧ u % 24 = m1 := h4
  have h5 : m2 = 0 ∨ ∃ u, u < p ∧ q u ∧ u % 24 = m2 := h5
  have h6 : m3 = 24 ∨ ∃ u, u < p ∧ q u ∧ u / 24 = m3 := h6
  have hm : p % 24 < 24 := Nat.mod_lt _ (by omega)
  refine ⟨⟨?_, ?_, ?_, ?_⟩, ?_, ?_, ?_, ?_, ?_, ?_⟩
  · show a1 ≤ 24; rw [e1]; split <;> omega
  · show a2 < 24; rw [e2]; split <;> omega
  · show a3 ≤ 24; rw [e3]; split <;> omega
  · show p / 24 < 24; omega
  · show n + 1 = cP q (p + 1); rw [cP_y hq, h2]
  · intro u hu hqu
    show a1 ≤ u % 24 ∧ u % 24 ≤ a2 ∧ a3 ≤ u / 24 ∧ u / 24 ≤ p / 24
    rcases Nat.lt_or_ge u p with w | w
    · have := h3 u w hqu
      rw [e1, e2, e3]
      refine ⟨?_, ?_, ?_, by omega⟩ <;> split <;> omega
    · have : u = p := by omega
      subst this
      rw [e1, e2, e3]
      refine ⟨?_, ?_, ?_, by omega⟩ <;> split <;> omega
  · show a1 = 24 ∨ ∃ u, u < p + 1 ∧ q u ∧ u % 24 = a1
    rw [e1]
    split
    · exact h4.imp id (fun ⟨u, u1, u2⟩ => ⟨u, by omega, u2⟩)
    · exact Or.inr ⟨p, by omega, hq, rfl⟩
  · show a2 = 0 ∨ ∃ u, u < p + 1 ∧ q u ∧ u % 24 = a2
    rw [e2]
    split
    · exact h5.imp id (fun ⟨u, u1, u2⟩ => ⟨u, by omega, u2⟩)
    · exact Or.inr ⟨p, by omega, hq, rfl⟩
  · show a3 = 24 ∨ ∃ u, u < p + 1 ∧ q u ∧ u / 24 = a3
    rw [e3]
    split
    · exact h6.imp id (fun ⟨u, u1, u2⟩ => ⟨u, by omega, u2⟩)
    · exact Or.inr ⟨p, by omega, hq, rfl⟩
  · exact Or.inr ⟨p, Nat.lt_succ_self p, hq, rfl⟩
theorem m_McellL {T : zS} {K : Int32 → Int32 → Int32 → Int32 → Int32 → zS → Prop} {v1 v2 : Int32} (hW : W ≤ 24) (hH : H ≤ 24) (a1 : T 31 1 = jI (W : Nat)) (a2 : T 31 2 = jI (H : Nat))
    (h : ∀ m1 m2 m3 m4 n : Nat, cq_ (fun u => oP W H u ∧ T 47 u = v1) 576 (m1, m2, m3, m4, n) → K (jI (m1 : Nat)) (jI (m2 : Nat)) (jI (m3 : Nat)) (jI (m4 : Nat)) (jI (n : Nat)) T) : ∃ k, L_M_cell_49 post K v1 v2 k 24 0 24 0 0 0 T := by
  generalize hqd : (fun u => oP W H u ∧ T 47 u = v1) = q at h
  have qd : ∀ u, q u ↔ (u % 24 < W ∧ u / 24 < H) ∧ T 47 u = v1 := fun u => by rw [← hqd]; exact Iff.rfl
  refine lq2 (A := Nat × Nat × Nat × Nat × Nat) (B := Nat) (fun k m y S' => L_M_cell_49 post K v1 v2 k (jI (m.1 : Nat)) (jI (m.2.1 : Nat)) (jI (m.2.2.1 : Nat)) (jI (m.2.2.2.1 : Nat)) (jI (m.2.2.2.2 : Nat)) (jI (y : Nat)) S') (fun m y S' => S' = T ∧ y ≤ H ∧ cq_ q (24 * y) m) (fun _ y _ => H - y) ?_ (24, 0, 24, 0, 0) 0 T ⟨rfl, by omega, ⟨by show 24 ≤ 24; omega, by show 0 < 24; omega, by show 24 ≤ 24; omega, by show 0 < 24; omega⟩, rfl, fun u hu => by omega, Or.inl rfl, Or.inl rfl, Or.inl rfl, Or.inl rfl⟩
  rintro k ⟨m1, m2, m3, m4, n⟩ y S' ⟨rfl, hy, hm⟩ ih
  show L_M_cell_49 post K v1 v2 (k + 1) (jI (m1 : Nat)) (jI (m2 : Nat)) (jI (m3 : Nat)) (jI (m4 : Nat)) (jI (n : Nat)) (jI (y : Nat)) S'
  rw [L_M_cell_49, a2, jn_le (by omega) (by omega)]
  refine ⟨fun hz => ?_, fun hz => ?_⟩
  · exact h m1 m2 m3 m4 n (cq_k hm (by omega) (fun i h1 h2 h3 => by have := ((qd i).mp h3).1.2; omega))
  · refine lq2 (A := Nat × Nat × Nat × Nat × Nat) (B := Nat) (fun k m x S'' => L_M_cell_61 post _ v1 v2 (jI (y : Nat)) k (jI (m.1 : Nat)) (jI (m.2.1 : Nat)) (jI (m.2.2.1 : Nat)) (jI (m.2.2.2.1 : Nat)) (jI (m.2.2.2.2 : Nat)) (jI (x : Nat)) S'') (fun m x S'' => S'' = S' ∧ x ≤ W ∧ cq_ q (24 * y + x) m) (fun _ x _ => W - x) ?_ (m1, m2, m3, m4, n) 0 S' ⟨rfl, by omega, hm⟩
    rintro k2 ⟨l1, l2, l3, l4, n2⟩ x S'' ⟨rfl, hx, hl⟩ ih2
    show L_M_cell_61 post _ v1 v2 (jI (y : Nat)) (k2 + 1) (jI (l1 : Nat)) (jI (l2 : Nat)) (jI (l3 : Nat)) (jI (l4 : Nat)) (jI (n2 : Nat)) (jI (x : Nat)) S''
    have hb := hl.1
    have g1 : l1 ≤ 24 := hb.1
    have g2 : l2 < 24 := hb.2.1
    have g3 : l3 ≤ 24 := hb.2.2.1
    rw [L_M_cell_61, a1, jn_le (by omega) (by omega)]
    refine ⟨fun hz2 x145 e145 => ?_, fun hz2 => ?_⟩
    · rw [e145, jn1 y]
      exact ih (l1, l2, l3, l4, n2) (y + 1) S'' ⟨rfl, by omega, cq_k hl (by omega) (fun i h1 h2 h3 => by have := ((qd i).mp h3).1.1; omega)⟩ (by omega)
    · rw [jat', jn_in (by omega), jn_ix (by omega)]
      refine ⟨by omega, fun a x139 e139 => ?_, fun a => ?_⟩
      · rw [e139, jn1 x]
        refine ih2 (l1, l2, l3, l4, n2) (x + 1) S'' ⟨rfl, by omega, cq_k hl (by omega) (fun i h1 h2 h3 => ?_)⟩ (by omega)
        have : i = 24 * y + x := by omega
        subst this
        exact a ((qd _).mp h3).2
      · have hq : q (24 * y + x) := (qd _).mpr ⟨⟨by omega, by omega⟩, a⟩
        have e1 : (24 * y + x) % 24 = x := by omega
        have e2 : (24 * y + x) / 24 = y := by omega
        have nx : ∀ r1 r2 r3 : Nat, r1 = (if l1 ≤ x then l1 else x) → r2 = (if x ≤ l2 then l2 else x) → r3 = (if l3 ≤ y then l3 else y) → J_M_cell_130 post (L_M_cell_61 post (fun v3_61e v4_61e v5_61e v6_61e v7_61e S61e => ∀ x145 : Int32, x145 = jI (y : Nat) + 1 → L_M_cell_49 post K v1 v2 k v3_61e v4_61e v5_61e v6_61e v7_61e x145 S61e) v1 v2 (jI (y : Nat)) k2) v1 v2 (jI (r1 : Nat)) (jI (r2 : Nat)) (jI (n2 : Nat)) (jI (y : Nat)) (jI (x : Nat)) (jI (r3 : Nat)) S'' := fun r1 r2 r3 h1 h2 h3 => by
          unfold J_M_cell_130
          intro x136 e136 x139 e139
          rw [e136, e139, jn1 n2, jn1 x]
          refine ih2 (r1, r2, r3, y, n2 + 1) (x + 1) S'' ⟨rfl, by omega, ?_⟩ (by omega)
          have := cq_y (a1 := r1) (a2 := r2) (a3 := r3) hl hq (by omega) (by rw [e1]; exact h1) (by rw [e1]; exact h2) (by rw [e2]; exact h3)
          rw [e2] at this
          exact this
        have j114 : ∀ r1 r2 : Nat, r1 = (if l1 ≤ x then l1 else x) → r2 = (if x ≤ l2 then l2 else x) → J_M_cell_114 post (L_M_cell_61 post (fun v3_61e v4_61e v5_61e v6_61e v7_61e S61e => ∀ x145 : Int32, x145 = jI (y : Nat) + 1 → L_M_cell_49 post K v1 v2 k v3_61e v4_61e v5_61e v6_61e v7_61e x145 S61e) v1 v2 (jI (y : Nat)) k2) v1 v2 (jI (r1 : Nat)) (jI (l3 : Nat)) (jI (n2 : Nat)) (jI (y : Nat)) (jI (x : Nat)) (jI (r2 : Nat)) S'' := fun r1 r2 h1 h2 => by
          unfold J_M_cell_114
          rw [jn_le (by omega) (by omega)]
          exact ⟨fun z => nx r1 r2 l3 h1 h2 (if_pos z).symm, fun z => nx r1 r2 y h1 h2 (if_neg z).symm⟩
        have j99 : ∀ r1 : Nat, r1 = (if l1 ≤ x then l1 else x) → J_M_cell_99 post (L_M_cell_61 post (fun v3_61e v4_61e v5_61e v6_61e v7_61e S61e => ∀ x145 : Int32, x145 = jI (y : Nat) + 1 → L_M_cell_49 post K v1 v2 k v3_61e v4_61e v5_61e v6_61e v7_61e x145 S61e) v1 v2 (jI (y : Nat)) k2) v1 v2 (jI (l2 : Nat)) (jI (l3 : Nat)) (jI (n2 : Nat)) (jI (y : Nat)) (jI (x : Nat)) (jI (r1 : Nat)) S'' := fun r1 h1 => by
          unfold J_M_cell_99
          rw [jn_le (by omega) (by omega)]
          exact ⟨fun z => j114 r1 l2 h1 (if_pos z).symm, fun z => j114 r1 x h1 (if_neg z).symm⟩
        rw [jn_le (by omega) (by omega)]
        exact ⟨fun z => j99 l1 (if_pos z).symm, fun z => j99 x (if_neg z).symm⟩
end ZZ
