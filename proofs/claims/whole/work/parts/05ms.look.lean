section ZG
variable {lo hi : Nat → Nat → Nat} {sq : Nat → Nat} {c a b : Nat}
/-- met before place at of direction d -/
def pr_ (d at_ d' b' : Nat) : Prop := d' < d ∨ (d' = d ∧ b' < at_)
/-- the cut, as far as found -/
def cu_ (lo hi : Nat → Nat → Nat) (P : Nat → Prop) (d at_ : Nat) (S : zS) : Prop :=
  (S 27 4 = -1 ∧ ∀ d' p' b', gi_ lo hi P d' p' b' → ¬ pr_ d at_ d' b') ∨
  ∃ d0 p0 b0, gi_ lo hi P d0 p0 b0 ∧ pr_ d at_ d0 b0 ∧ S 27 4 = jI (b0 - p0 - 1 : Nat) ∧ S 27 3 = jI (b0 : Nat) ∧ S 27 5 = jI (d0 : Nat) ∧ ∀ d' p' b', gi_ lo hi P d' p' b' → pr_ d at_ d' b' → (b' + p0 < b0 + p' ∨ (b' + p0 = b0 + p' ∧ (d0 < d' ∨ (d0 = d' ∧ p0 ≤ p'))))
theorem cu_up {P : Nat → Prop} {d at_ d2 at2 : Nat} {S : zS} (h : cu_ lo hi P d at_ S) (hp : ∀ d' b', pr_ d at_ d' b' → pr_ d2 at2 d' b') (hn : ∀ d' p' b', gi_ lo hi P d' p' b' → pr_ d2 at2 d' b' → pr_ d at_ d' b') : cu_ lo hi P d2 at2 S := by
  rcases h with ⟨h1, h2⟩ | ⟨d0, p0, b0, h1, h2, h3, h4, h5, h6⟩
  · exact Or.inl ⟨h1, fun d' p' b' g z => h2 d' p' b' g (hn d' p' b' g z)⟩
  · exact Or.inr ⟨d0, p0, b0, h1, hp d0 b0 h2, h3, h4, h5, fun d' p' b' g z => h6 d' p' b' g (hn d' p' b' g z)⟩
theorem m_lookAlong {T : zS} {post : zS → Prop} {d fa la : Nat} (hd : d < 2) (hb24 : ∀ d k, hi d k < 24) (hlh : ∀ d k, lo d k ≤ hi d k) (hc : c ≤ 288) (hbc : b ≤ c) (hab : a ≤ b) (hfa : fa ≠ 27) (hla : la ≠ 27) (hq : ∀ x, x < c → T 28 x = jI (sq x : Nat) ∧ sq x < c) (hF : ∀ k, k < c → T fa k = jI (lo d k : Nat)) (hL : ∀ k, k < c → T la k = jI (hi d k : Nat))
    (h0 : cu_ lo hi (ps_ a b sq) d 0 T) (h : ∀ S', (∀ i, i ≠ 27 → S' i = T i) → cu_ lo hi (ps_ a b sq) d 24 S' → post S') : P_R_lookAlong fa la (jI a) (jI b) (jI d) T post := by
  unfold P_R_lookAlong
  have hp2 : ∀ e, e ≤ 24 → 2 ^ e ≤ 2 ^ 24 := fun e he => Nat.pow_le_pow_right (by omega) he
  have hp24 : (2 : Nat) ^ 24 < 2 ^ 25 := by decide
  refine lq3 (A := Nat) (B := Nat) (C := Nat) (fun n N M i S => L_R_lookAlong_9 fa la post _ (jI b) (jI d) n (jI N) (jI M) (jI i) S)
    (fun N M i S => S = T ∧ a ≤ i ∧ i ≤ b ∧ N < 2 ^ 25 ∧ M < 2 ^ 25 ∧ (∀ t, N.testBit t = true ↔ ∃ x, a ≤ x ∧ x < i ∧ lo d (sq x) ≤ t ∧ t ≤ hi d (sq x)) ∧ (∀ t, M.testBit t = true ↔ ∃ x, a ≤ x ∧ x < i ∧ lo d (sq x) < t ∧ t ≤ hi d (sq x)))
    (fun _ _ i _ => b - i) ?_ 0 0 a T ⟨rfl, by omega, hab, by decide, by decide, fun t => ?_, fun t => ?_⟩
  · rintro n N M i S ⟨rfl, i1, i2, hN, hM, hN2, hM2⟩ ih
    rw [L_R_lookAlong_9, jn_le (by omega) (by omega)]
    refine ⟨fun hz => ?_, fun hz => ?_⟩
    · have ei : i = b := by omega
      subst ei
      have cov : ∀ t, N.testBit t = true ↔ ∃ k, ps_ a i sq k ∧ lo d k ≤ t ∧ t ≤ hi d k := fun t => by
        rw [hN2]
        exact ⟨fun ⟨x, x1, x2, x3⟩ => ⟨sq x, ⟨x, x1, x2, rfl⟩, x3⟩, fun ⟨k, ⟨x, x1, x2, x4⟩, x3⟩ => ⟨x, x1, x2, by rw [x4]; exact x3⟩⟩
      have cro : ∀ t, M.testBit t = true ↔ ∃ k, ps_ a i sq k ∧ lo d k < t ∧ t ≤ hi d k := fun t => by
        rw [hM2]
        exact ⟨fun ⟨x, x1, x2, x3⟩ => ⟨sq x, ⟨x, x1, x2, rfl⟩, x3⟩, fun ⟨k, ⟨x, x1, x2, x4⟩, x3⟩ => ⟨x, x1, x2, by rw [x4]; exact x3⟩⟩
      generalize hP : ps_ a i sq = P at *
      refine lq2 (A := Int) (B := Nat) (fun n fe at_ S' => L_R_lookAlong_71 fa la post (jI d) (jI N) (jI M) n (jI fe) (jI at_) S')
        (fun fe at_ S' => at_ ≤ 24 ∧ (∀ i, i ≠ 27 → S' i = S i) ∧ cu_ lo hi P d at_ S' ∧ ((fe = -1 ∧ ∀ t, t < at_ → N.testBit t = false) ∨ ∃ f : Nat, fe = f + 1 ∧ f < at_ ∧ N.testBit f = true ∧ ∀ t, f < t → t < at_ → N.testBit t = false))
        (fun _ at_ _ => 24 - at_) ?_ (-1) 0 S ⟨by omega, fun _ _ => rfl, h0, Or.inl ⟨rfl, fun t ht => absurd ht (by omega)⟩⟩
      rintro n2 fe at_ S' ⟨hat, fr, hcu, hfe⟩ ih2
      rw [L_R_lookAlong_71, jI_24, jI_le (jS (by omega)) (jN at_ (by omega))]
      refine ⟨fun hz2 => ?_, fun hz2 => ?_⟩
      · have ea : at_ = 24 := by omega
        subst ea
        exact h S' fr hcu
      · have k140 : ∀ S'' : zS, (∀ i, i ≠ 27 → S'' i = S i) → N.testBit at_ = true → cu_ lo hi P d (at_ + 1) S'' → J_R_lookAlong_140 fa la post (L_R_lookAlong_71 fa la post (jI d) (jI N) (jI M) n2) (jI d) (jI N) (jI M) (jI at_) S'' := fun S'' b1 b2 b3 => by
          unfold J_R_lookAlong_140
          intro x144 e144 x146 e146
          rw [e144, e146, jn1 at_]
          refine ih2 ((at_ + 1 : Nat) : Int) (at_ + 1) S'' ⟨by omega, b1, b3, Or.inr ⟨at_, by omega, by omega, b2, fun t h1 h2 => absurd h1 (by omega)⟩⟩ (by omega)
        have none : (∀ p', ¬ gi_ lo hi P d p' at_) → cu_ lo hi P d (at_ + 1) S' := fun hn => by
          refine cu_up hcu (fun d' b' z => ?_) (fun d' p' b' g z => ?_)
          · unfold pr_ at *; omega
          · unfold pr_ at *
            rcases z with z | ⟨z1, z2⟩
            · exact Or.inl z
            · refine Or.inr ⟨z1, ?_⟩
              rcases Nat.lt_or_ge b' at_ with w | w
              · exact w
              · have : b' = at_ := by omega
                subst this z1
                exact absurd g (hn p')
        refine m_hasBit hN (by omega) (fun hbit => ⟨fun _ => ?_, fun z => absurd z (by decide)⟩) (fun hbit => ⟨fun z => absurd rfl z, fun _ x146 e146 => ?_⟩)
        · rcases hfe with ⟨rfl, hno⟩ | ⟨f, rfl, f1, f2, f3⟩
          · refine ⟨fun _ => k140 S' fr hbit (none (fun p' g => ?_)), fun z => absurd rfl z⟩
            obtain ⟨-, ⟨k, g2, g3⟩, -, g5, -⟩ := g
            have h1 := (cov p').mpr ⟨k, g2, by have := hlh d k; omega, by omega⟩
            rw [hno p' g5] at h1
            exact absurd h1 (by decide)
          · have ef : jI ((f : Int) + 1) = jI ((f + 1 : Nat) : Int) := by congr 1
            rw [ef]
            refine ⟨fun z => absurd z (jn_m1 (by omega)), fun _ => ?_⟩
            refine m_hasBit hM (by omega) (fun hcr => ⟨fun _ => k140 S' fr hbit (none (fun p' g => ?_)), fun z => absurd z (by decide)⟩) (fun hcr => ⟨fun z => absurd rfl z, fun _ => ?_⟩)
            · obtain ⟨k, k1, k2, k3⟩ := (cro at_).mp hcr
              obtain ⟨-, -, -, g5, g6⟩ := g
              have := g6 k k1
              omega
            · have ncr : ∀ k, P k → ¬ (lo d k < at_ ∧ at_ ≤ hi d k) := fun k hk z => by
                have := (cro at_).mpr ⟨k, hk, z⟩
                rw [hcr] at this
                exact absurd this (by decide)
              have hle : ∀ k, P k → lo d k < at_ → hi d k ≤ f := fun k hk z => by
                have h1 : hi d k < at_ := by
                  have := ncr k hk
                  omega
                rcases Nat.lt_or_ge f (hi d k) with w | w
                · have h2 := (cov (hi d k)).mpr ⟨k, hk, hlh d k, Nat.le_refl _⟩
                  rw [f3 _ w h1] at h2
                  exact absurd h2 (by decide)
                · exact w
              have gap : gi_ lo hi P d f at_ := by
                refine ⟨hd, ?_, ?_, f1, fun k hk => ?_⟩
                · obtain ⟨k, k1, k2, k3⟩ := (cov f).mp f2
                  exact ⟨k, k1, by have := hle k k1 (by omega); omega⟩
                · obtain ⟨k, k1, k2, k3⟩ := (cov at_).mp hbit
                  refine ⟨k, k1, ?_⟩
                  have := ncr k k1
                  omega
                · rcases Nat.lt_or_ge (lo d k) at_ with w | w
                  · exact Or.inl (hle k hk w)
                  · exact Or.inr w
              have only : ∀ p', gi_ lo hi P d p' at_ → p' = f := fun p' g => by
                obtain ⟨-, ⟨k, g2, g3⟩, -, g5, g6⟩ := g
                have h1 := hle k g2 (by have := hlh d k; omega)
                obtain ⟨k', k1, k2, k3⟩ := (cov f).mp f2
                have := g6 k' k1
                omega
              have es : jI (at_ : Int) - jI ((f + 1 : Nat) : Int) = jI ((at_ - f - 1 : Nat) : Int) := by rw [jsn (by omega)]; congr 2
              rw [es]
              have upd1 : ∀ S125 : zS, S125 = z_su S' 27 4 (jI (at_ - f - 1 : Nat)) → ∀ S131 : zS, S131 = z_su S125 27 3 (jI at_) → ∀ S137 : zS, S137 = z_su S131 27 5 (jI d) → (∀ d' p' b', gi_ lo hi P d' p' b' → pr_ d at_ d' b' → b' + f < at_ + p') → J_R_lookAlong_140 fa la post (L_R_lookAlong_71 fa la post (jI d) (jI N) (jI M) n2) (jI d) (jI N) (jI M) (jI at_) S137 := fun S125 e125 S131 e131 S137 e137 hbest => by
                refine k140 S137 (fun i hi' => by rw [e137, su_ne hi', e131, su_ne hi', e125, su_ne hi']; exact fr i hi') hbit (Or.inr ⟨d, f, at_, gap, Or.inr ⟨rfl, by omega⟩, ?_, ?_, ?_, fun d' p' b' g z => ?_⟩)
                · rw [e137, su_eq, up_ne (by omega), e131, su_eq, up_ne (by omega), e125, su_eq, up_eq]
                · rw [e137, su_eq, up_ne (by omega), e131, su_eq, up_eq]
                · rw [e137, su_eq, up_eq]
                · by_cases hz3 : pr_ d at_ d' b'
                  · exact Or.inl (hbest d' p' b' g hz3)
                  · unfold pr_ at z hz3
                    have e1 : d' = d := by omega
                    have e2 : b' = at_ := by omega
                    subst e1 e2
                    have := only p' g
                    subst this
                    exact Or.inr ⟨rfl, Or.inr ⟨rfl, Nat.le_refl _⟩⟩
              have hbd : z_bo (jI (d : Int)) := by
                rcases Nat.lt_or_ge d 1 with w | w
                · have : d = 0 := by omega
                  subst this; exact Or.inl rfl
                · have : d = 1 := by omega
                  subst this; exact Or.inr rfl
              rcases id hcu with ⟨c1, c2⟩ | ⟨d0, p0, b0, c1, c2, c3, c4, c5, c6⟩
              · rw [c1]
                have hlt : ¬ jI ((at_ - f - 1 : Nat) : Int) ≤ -1 := by rw [jI_m1, jI_le (jN _ (by omega)) (jS (by omega))]; omega
                exact ⟨fun z => absurd z hlt, fun _ S125 e125 S131 e131 => ⟨hbd, fun S137 e137 => upd1 S125 e125 S131 e131 S137 e137 (fun d' p' b' g z => absurd z (c2 d' p' b' g))⟩⟩
              · obtain ⟨-, ⟨k0, g2, g3⟩, ⟨k1, g4, g5⟩, g6, g7⟩ := id c1
                have hb0 := hb24 d0 k0
                have hb1 := hb24 d0 k1
                have hl1 := hlh d0 k1
                rw [c3, jn_le (by omega) (by omega)]
                refine ⟨fun z => k140 S' fr hbit (Or.inr ⟨d0, p0, b0, c1, ?_, c3, c4, c5, fun d' p' b' g w => ?_⟩), fun z S125 e125 S131 e131 => ⟨hbd, fun S137 e137 => upd1 S125 e125 S131 e131 S137 e137 (fun d' p' b' g w => ?_)⟩⟩
                · unfold pr_ at *; omega
                · by_cases hz3 : pr_ d at_ d' b'
                  · exact c6 d' p' b' g hz3
                  · unfold pr_ at w hz3
                    have e1 : d' = d := by omega
                    have e2 : b' = at_ := by omega
                    subst e1 e2
                    have := only p' g
                    subst this
                    unfold pr_ at c2
                    rcases c2 with c2 | ⟨c2, c2'⟩
                    · omega
                    · subst c2
                      have : p0 ≤ p' := by
                        have := hle k0 g2 (by have := hlh d0 k0; omega)
                        omega
                      omega
                · have := c6 d' p' b' g w
                  omega
        · rw [e146, jn1 at_]
          refine ih2 fe (at_ + 1) S' ⟨by omega, fr, none (fun p' g => ?_), ?_⟩ (by omega)
          · obtain ⟨-, -, ⟨k, g2, g3⟩, -, -⟩ := g
            have := (cov at_).mpr ⟨k, g2, by omega, by have := hlh d k; omega⟩
            rw [hbit] at this
            exact absurd this (by decide)
          · rcases hfe with ⟨e, hno⟩ | ⟨f, e, f1, f2, f3⟩
            · refine Or.inl ⟨e, fun t ht => ?_⟩
              by_cases hta : t = at_
              · subst hta; exact hbit
              · exact hno t (by omega)
            · refine Or.inr ⟨f, e, by omega, f2, fun t h1 h2 => ?_⟩
              by_cases hta : t = at_
              · subst hta; exact hbit
              · exact f3 t h1 (by omega)
    · obtain ⟨q1, q2⟩ := hq i (by omega)
      have hb := hb24 d (sq i)
      have hl := hlh d (sq i)
      rw [jn_in (by omega), jn_ix (by omega)]
      refine ⟨by omega, fun x23 e23 => ?_⟩
      rw [q1] at e23
      subst e23
      rw [jn_in (by omega), jn_ix (by omega), hF _ q2, hL _ q2]
      have pa := hp2 (hi d (sq i) + 1) (by omega)
      have pb : ∀ e, 2 ^ (hi d (sq i) + 1) - 2 ^ e < 2 ^ 25 := fun e => Nat.lt_of_le_of_lt (Nat.le_trans (Nat.sub_le _ _) pa) hp24
      refine ⟨by omega, by omega, m_bits (by omega) hb (fun x39 e39 => ⟨by omega, by omega, ?_⟩)⟩
      rw [b_or hN (pb _)] at e39
      rw [hF _ q2, hL _ q2, jn1]
      refine m_bits (by omega) hb (fun x57 e57 x59 e59 => ?_)
      rw [b_or hM (pb _)] at e57
      rw [e39, e57, e59, jn1 i]
      refine ih _ _ (i + 1) S ⟨rfl, by omega, by omega, b_orl hN (pb _), b_orl hM (pb _), fun t => ?_, fun t => ?_⟩ (by omega)
      · rw [Nat.testBit_or, b_tb (by omega), Bool.or_eq_true, hN2, Bool.and_eq_true, decide_eq_true_iff, decide_eq_true_iff]
        constructor
        · rintro (⟨x, x1, x2, x3⟩ | x3)
          · exact ⟨x, x1, by omega, x3⟩
          · exact ⟨i, i1, by omega, x3⟩
        · rintro ⟨x, x1, x2, x3⟩
          by_cases hx : x = i
          · subst hx; exact Or.inr x3
          · exact Or.inl ⟨x, x1, by omega, x3⟩
      · rw [Nat.testBit_or, b_tb (by omega), Bool.or_eq_true, hM2, Bool.and_eq_true, decide_eq_true_iff, decide_eq_true_iff]
        constructor
        · rintro (⟨x, x1, x2, x3⟩ | x3)
          · exact ⟨x, x1, by omega, x3⟩
          · exact ⟨i, i1, by omega, by omega⟩
        · rintro ⟨x, x1, x2, x3⟩
          by_cases hx : x = i
          · subst hx; exact Or.inr (by omega)
          · exact Or.inl ⟨x, x1, by omega, x3⟩
  · rw [Nat.zero_testBit]
    exact ⟨fun z => absurd z (by decide), fun ⟨x, x1, x2, _⟩ => absurd x1 (by omega)⟩
  · rw [Nat.zero_testBit]
    exact ⟨fun z => absurd z (by decide), fun ⟨x, x1, x2, _⟩ => absurd x1 (by omega)⟩
theorem m_findCut {T : zS} {post : Int32 → zS → Prop} (hb24 : ∀ d k, hi d k < 24) (hlh : ∀ d k, lo d k ≤ hi d k) (hc : c ≤ 288) (hbc : b ≤ c) (hab : a ≤ b) (hq : ∀ x, x < c → T 28 x = jI (sq x : Nat) ∧ sq x < c) (h7 : ∀ k, k < c → T 7 k = jI (lo 0 k : Nat)) (h8 : ∀ k, k < c → T 8 k = jI (lo 1 k : Nat)) (h9 : ∀ k, k < c → T 9 k = jI (hi 0 k : Nat)) (h10 : ∀ k, k < c → T 10 k = jI (hi 1 k : Nat))
    (h0 : ∀ S', (∀ i, i ≠ 27 → S' i = T i) → (∀ d p bb, ¬ gi_ lo hi (ps_ a b sq) d p bb) → post 0 S')
    (h1 : ∀ S' d p bb, (∀ i, i ≠ 27 → S' i = T i) → bs_ lo hi (ps_ a b sq) d p bb → S' 27 3 = jI (bb : Nat) → S' 27 5 = jI (d : Nat) → post 1 S') : P_R_findCut (jI a) (jI b) T post := by
  unfold P_R_findCut
  intro S2 e2
  have f2 : ∀ i, i ≠ 27 → S2 i = T i := fun i hi' => by rw [e2, su_ne hi']
  refine m_lookAlong (d := 0) (lo := lo) (hi := hi) (sq := sq) (c := c) (by omega) hb24 hlh hc hbc hab (by omega) (by omega) (fun x hx => by rw [f2 28 (by omega)]; exact hq x hx) (fun k hk => by rw [f2 7 (by omega)]; exact h7 k hk) (fun k hk => by rw [f2 9 (by omega)]; exact h9 k hk) (Or.inl ⟨by rw [e2, su_eq, up_eq], fun d' p' b' _ z => by unfold pr_ at z; omega⟩) (fun S17 fr17 hcu17 => ?_)
  have f17 : ∀ i, i ≠ 27 → S17 i = T i := fun i hi' => by rw [fr17 i hi', f2 i hi']
  have hbb : ∀ d' p' b', gi_ lo hi (ps_ a b sq) d' p' b' → b' < 24 ∧ d' < 2 := fun d' p' b' g => by
    obtain ⟨g1, -, ⟨k, g2, g3⟩, -, -⟩ := g
    have := hb24 d' k
    have := hlh d' k
    omega
  refine m_lookAlong (d := 1) (lo := lo) (hi := hi) (sq := sq) (c := c) (by omega) hb24 hlh hc hbc hab (by omega) (by omega) (fun x hx => by rw [f17 28 (by omega)]; exact hq x hx) (fun k hk => by rw [f17 8 (by omega)]; exact h8 k hk) (fun k hk => by rw [f17 10 (by omega)]; exact h10 k hk) (cu_up hcu17 (fun d' b' z => by unfold pr_ at *; omega) (fun d' p' b' g z => by have := hbb d' p' b' g; unfold pr_ at *; omega)) (fun S32 fr32 hcu32 => ?_)
  have f32 : ∀ i, i ≠ 27 → S32 i = T i := fun i hi' => by rw [fr32 i hi', f17 i hi']
  rcases hcu32 with ⟨c1, c2⟩ | ⟨d0, p0, b0, c1, c2, c3, c4, c5, c6⟩
  · refine ⟨fun _ => h0 S32 f32 (fun d p bb g => c2 d p bb g ?_), fun z => absurd c1 z⟩
    have := hbb d p bb g
    unfold pr_; omega
  · have hb := hbb d0 p0 b0 c1
    refine ⟨fun z => ?_, fun _ => h1 S32 d0 p0 b0 f32 ⟨c1, fun d' p' b' g => c6 d' p' b' g ?_⟩ c4 c5⟩
    · rw [c3] at z
      exact absurd z (jn_m1 (by omega))
    · have := hbb d' p' b' g
      unfold pr_; omega
end ZG
