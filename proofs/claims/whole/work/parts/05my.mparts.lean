section ZN
variable {lo hi : Nat → Nat → Nat} {c : Nat} {sq : Nat → Nat} {a b d A : Nat}
theorem gi_u {P : Nat → Prop} {p bb p' bb' : Nat} (hlh : ∀ d k, lo d k ≤ hi d k) (h : gi_ lo hi P d p bb) (h' : gi_ lo hi P d p' bb') (h1 : p < A) (h2 : A ≤ bb) (h3 : p' < A) (h4 : A ≤ bb') : p = p' ∧ bb = bb' := by
  obtain ⟨-, ⟨k1, a1, a2⟩, ⟨k2, a3, a4⟩, -, a5⟩ := h
  obtain ⟨-, ⟨k3, b1, b2⟩, ⟨k4, b3, b4⟩, -, b5⟩ := h'
  have c1 := b5 k1 a1
  have c2 := b5 k2 a3
  have c3 := a5 k3 b1
  have c4 := a5 k4 b3
  have d1 := hlh d k1
  have d2 := hlh d k2
  have d3 := hlh d k3
  have d4 := hlh d k4
  omega
/-- the best gap seen before k -/
def be_ (lo hi : Nat → Nat → Nat) (P : Nat → Prop) (k : Nat) (v3 v4 v5 : Int32) : Prop :=
  (v3 = -1 ∧ ∀ d' p' b', gi_ lo hi P d' p' b' → ¬ 24 * d' + p' + 1 < k) ∨ ∃ d p bb A, gi_ lo hi P d p bb ∧ p < A ∧ A ≤ bb ∧ bb < 24 ∧ v3 = jI ((bb - p - 1 : Nat) : Int) ∧ v4 = jI (A : Nat) ∧ v5 = jI (d : Nat) ∧ 24 * d + A < k ∧ ∀ d' p' b', gi_ lo hi P d' p' b' → 24 * d' + p' + 1 < k → (b' + p < bb + p' ∨ (b' + p = bb + p' ∧ (d < d' ∨ (d = d' ∧ p ≤ p'))))
theorem m_Mparts {S : zS} {post : Int32 → zS → Prop} (hc : c ≤ 288) (hb24 : ∀ d k, hi d k < 24) (hlh : ∀ d k, lo d k ≤ hi d k) (hb : rb_ lo hi c S) (hab : a ≤ b) (hbc : b ≤ c) (hq : oq_ c S sq)
    (h0 : (∀ d p bb, ¬ gi_ lo hi (ps_ a b sq) d p bb) → post (jI (b : Nat)) S)
    (h1 : ∀ (S' : zS) (sq' : Nat → Nat) (mid d p bb : Nat), (∀ k, k ≠ 44 → S' k = S k) → oq_ c S' sq' → bs_ lo hi (ps_ a b sq) d p bb → pm_ a b sq sq' → a ≤ mid → mid ≤ b → (∀ x, a ≤ x → x < mid → hi d (sq' x) ≤ p) → (∀ x, mid ≤ x → x < b → ¬ hi d (sq' x) ≤ p) → post (jI (mid : Nat)) S') : P_M_parts (jI (a : Nat)) (jI (b : Nat)) S post := by
  unfold P_M_parts
  have hbnd : ∀ d' p' b', gi_ lo hi (ps_ a b sq) d' p' b' → d' < 2 ∧ p' < b' ∧ b' < 24 := fun d' p' b' g => by
    obtain ⟨g1, -, ⟨k, g2, g3⟩, g4, -⟩ := g
    have := hb24 d' k
    have := hlh d' k
    omega
  have hend : ∀ v3 v4 v5, be_ lo hi (ps_ a b sq) 48 v3 v4 v5 → (¬ v3 = (-1) → ∃ k86, L_M_parts_86 post (jI (b : Nat)) v4 v5 k86 (jI (a : Nat)) (jI (a : Nat)) S) ∧ (v3 = (-1) → post (jI (b : Nat)) S) := by
    rintro v3 v4 v5 (⟨e3, hno⟩ | ⟨d, p, bb, A, hg, hpA, hAb, hb2, e3, e4, e5, hk, hbest⟩)
    · refine ⟨fun z => absurd e3 z, fun _ => h0 (fun d p bb g => hno d p bb g ?_)⟩
      have := hbnd d p bb g
      omega
    · refine ⟨fun _ => ?_, fun z => absurd z (by rw [e3]; exact jn_m1 (by omega))⟩
      have hbs : bs_ lo hi (ps_ a b sq) d p bb := ⟨hg, fun d' p' b' g => hbest d' p' b' g (by have := hbnd d' p' b' g; omega)⟩
      have hd := (hbnd d p bb hg).1
      rw [e4, e5]
      have hside : ∀ v, ps_ a b sq v → (A ≤ hi d v ↔ ¬ hi d v ≤ p) := fun v hv => by
        have := hg.2.2.2.2 v hv
        have := hlh d v
        omega
      refine lq2 (A := Nat) (B := Nat) (fun n s x S' => L_M_parts_86 post (jI (b : Nat)) (jI (A : Nat)) (jI (d : Nat)) n (jI (s : Nat)) (jI (x : Nat)) S') (fun s x S' => a ≤ s ∧ s ≤ x ∧ x ≤ b ∧ (∀ k, k ≠ 44 → S' k = S k) ∧ ∃ sq', oq_ c S' sq' ∧ pm_ a b sq sq' ∧ (∀ y, a ≤ y → y < s → hi d (sq' y) ≤ p) ∧ (∀ y, s ≤ y → y < x → ¬ hi d (sq' y) ≤ p)) (fun s x _ => b - x) ?_ a a S ⟨Nat.le_refl a, Nat.le_refl a, hab, fun _ _ => rfl, sq, hq, pm_r _ _ _, fun y h1 h2 => by omega, fun y h1 h2 => by omega⟩
      rintro n s x S' ⟨has, hsx, hxb, fr, sq', hq', hpm, hlow, hhigh⟩ ih
      rw [L_M_parts_86, jn_le (by omega) (by omega)]
      refine ⟨fun hz => ?_, fun hz => ?_⟩
      · have : x = b := by omega
        subst this
        exact h1 S' sq' s d p bb fr hq' hbs hpm has hsx hlow hhigh
      · obtain ⟨q1, q2⟩ := hq'.1 x (by omega)
        rw [jn_in (by omega), jn_ix (by omega), q1]
        refine ⟨by omega, m_high hc hd q2 (rb_f hb fr) ?_⟩
        have hH := hb24 d (sq' x)
        have hsd := hside (sq' x) ((hpm.2 _).mp ⟨x, by omega, by omega, rfl⟩)
        show (jI (A : Nat) ≤ jI (hi d (sq' x) : Nat) → _) ∧ _
        rw [jn_le (by omega) (by omega)]
        refine ⟨fun hz2 x121 e121 => ?_, fun hz2 => ?_⟩
        · rw [e121, jn1]
          refine ih s (x + 1) S' ⟨has, by omega, by omega, fr, sq', hq', hpm, hlow, fun y h1 h2 => ?_⟩ (by omega)
          rcases Nat.lt_or_ge y x with v | v
          · exact hhigh y h1 v
          · have : y = x := by omega
            subst this; exact hsd.mp hz2
        · refine m_swap hc (by omega) (by omega) hq' (fun S3 f3 hq3 x118 e118 x121 e121 => ?_)
          rw [e118, e121, jn1, jn1]
          refine ih (s + 1) (x + 1) S3 ⟨by omega, by omega, by omega, fun k hk => by rw [f3 k hk, fr k hk], _, hq3, pm_t hpm (sw_pm (by omega) (by omega) (by omega) (by omega)), fun y h1 h2 => ?_, fun y h1 h2 => ?_⟩ (by omega)
          · by_cases w : y = s
            · subst w; rw [sw_2]; omega
            · rw [sw_3 (by omega) w]; exact hlow y h1 (by omega)
          · by_cases w : y = x
            · subst w; rw [sw_1]; exact hhigh s (by omega) (by omega)
            · rw [sw_3 w (by omega)]; exact hhigh y (by omega) (by omega)
  have hS : ∀ (K : Int32 → Int32 → Int32 → zS → Prop), (∀ v3 v4 v5, be_ lo hi (ps_ a b sq) 48 v3 v4 v5 → K v3 v4 v5 S) → ∃ k11, L_M_parts_11 post K (jI (a : Nat)) (jI (b : Nat)) k11 (-1) 0 0 0 S := by
    intro K hK
    refine lq4 (A := Int32) (B := Int32) (C := Int32) (D := Nat) (fun n v3 v4 v5 k S' => L_M_parts_11 post K (jI (a : Nat)) (jI (b : Nat)) n v3 v4 v5 (jI (k : Nat)) S') (fun v3 v4 v5 k S' => S' = S ∧ k ≤ 48 ∧ be_ lo hi (ps_ a b sq) k v3 v4 v5) (fun v3 v4 v5 k _ => 48 - k) ?_ (-1) 0 0 0 S ⟨rfl, by omega, Or.inl ⟨rfl, fun d' p' b' _ => by omega⟩⟩
    rintro n v3 v4 v5 k S' ⟨rfl, hk, hbe⟩ ih
    rw [L_M_parts_11, show (48 : Int32) = jI ((48 : Nat) : Int) from rfl, jn_le (by omega) (by omega), jk24, jn_lt (by omega) (by omega)]
    refine ⟨fun hz => ?_, fun hz => ?_⟩
    · have : k = 48 := by omega
      subst this
      exact hK v3 v4 v5 hbe
    · have h30 : ∀ d0 : Nat, d0 = k / 24 → J_M_parts_30 post (L_M_parts_11 post K (jI (a : Nat)) (jI (b : Nat)) n) (jI (a : Nat)) (jI (b : Nat)) v3 v4 v5 (jI (k : Nat)) (jI (d0 : Nat)) S' := by
        intro d0 hd0
        have hdm : 24 * d0 + k % 24 = k := by omega
        have hA0 : k % 24 < 24 := Nat.mod_lt _ (by omega)
        unfold J_M_parts_30
        rw [jk24, jdm (by omega) (by omega)]
        have e3r : v3 = -1 ∨ ∃ q : Nat, q < 24 ∧ v3 = jI (q : Nat) := by
          rcases hbe with ⟨e3, -⟩ | ⟨d, p, bb, A, -, -, -, g4, e3, -⟩
          · exact Or.inl e3
          · exact Or.inr ⟨_, by omega, e3⟩
        refine m_gap (lo := lo) (hi := hi) (sq := sq) hc (by omega) hA0 hb24 hlh hb hbc hab hq.1 (fun hno => ?_) (fun p0 b0 hp0 hb0 hb02 hg0 => ?_)
        · refine ⟨fun _ x67 e67 => ?_, fun hz2 => absurd ?_ hz2⟩
          · rw [e67, jn1]
            refine ih v3 v4 v5 (k + 1) S' ⟨rfl, by omega, ?_⟩ (by omega)
            have hnew : ∀ d' p' b', gi_ lo hi (ps_ a b sq) d' p' b' → 24 * d' + p' + 1 < k + 1 → 24 * d' + p' + 1 < k := fun d' p' b' g hlt => by
              have h3 := hbnd d' p' b' g
              rcases Nat.lt_or_ge (24 * d' + p' + 1) k with v | v
              · exact v
              · have e1 : d' = d0 := by omega
                have e2 : k % 24 = p' + 1 := by omega
                subst e1
                exact absurd g (hno p' b' (by omega) (by omega))
            rcases hbe with ⟨e3, hb1⟩ | ⟨d, p, bb, A, g1, g2, g3, g4, e3, e4, e5, g5, g6⟩
            · exact Or.inl ⟨e3, fun d' p' b' g hlt => hb1 d' p' b' g (hnew d' p' b' g hlt)⟩
            · exact Or.inr ⟨d, p, bb, A, g1, g2, g3, g4, e3, e4, e5, by omega, fun d' p' b' g hlt => g6 d' p' b' g (hnew d' p' b' g hlt)⟩
          · rcases e3r with e | ⟨q, hq1, e⟩
            · rw [e]; exact Int32.le_refl _
            · rw [e, jI_m1, jI_le (jS (by omega)) (jS (by omega))]; omega
        · have huni : ∀ d' p' b', gi_ lo hi (ps_ a b sq) d' p' b' → ¬ 24 * d' + p' + 1 < k → 24 * d' + p' + 1 < k + 1 → d' = d0 ∧ p' = p0 ∧ b' = b0 := fun d' p' b' g hn hlt => by
            have h3 := hbnd d' p' b' g
            have e1 : d' = d0 := by omega
            have e2 : k % 24 = p' + 1 := by omega
            subst e1
            have := gi_u (A := k % 24) hlh g hg0 (by omega) (by omega) hp0 hb0
            exact ⟨rfl, this⟩
          refine ⟨fun hz2 x67 e67 => ?_, fun hz2 x61 e61 x67 e67 => ?_⟩
          · rw [e67, jn1]
            refine ih v3 v4 v5 (k + 1) S' ⟨rfl, by omega, ?_⟩ (by omega)
            rcases hbe with ⟨e3, hb1⟩ | ⟨d, p, bb, A, g1, g2, g3, g4, e3, e4, e5, g5, g6⟩
            · rw [e3, jI_m1, jI_le (jS (by omega)) (jS (by omega))] at hz2
              omega
            · rw [e3, jn_le (by omega) (by omega)] at hz2
              refine Or.inr ⟨d, p, bb, A, g1, g2, g3, g4, e3, e4, e5, by omega, fun d' p' b' g hlt => ?_⟩
              rcases Nat.lt_or_ge (24 * d' + p' + 1) k with v | v
              · exact g6 d' p' b' g v
              · obtain ⟨z1, z2, z3⟩ := huni d' p' b' g (by omega) hlt
                subst z1 z2 z3
                have := hbnd _ _ _ g
                omega
          · rw [e61, e67, jn1]
            refine ih _ _ _ (k + 1) S' ⟨rfl, by omega, Or.inr ⟨d0, p0, b0, k % 24, hg0, hp0, hb0, hb02, rfl, rfl, rfl, by omega, fun d' p' b' g hlt => ?_⟩⟩ (by omega)
            rcases Nat.lt_or_ge (24 * d' + p' + 1) k with v | v
            · rcases hbe with ⟨e3, hb1⟩ | ⟨d, p, bb, A, g1, g2, g3, g4, e3, e4, e5, g5, g6⟩
              · exact absurd v (hb1 d' p' b' g)
              · rw [e3, jn_le (by omega) (by omega)] at hz2
                have := g6 d' p' b' g v
                omega
            · obtain ⟨z1, z2, z3⟩ := huni d' p' b' g (by omega) hlt
              subst z1 z2 z3
              exact Or.inr ⟨rfl, Or.inr ⟨rfl, Nat.le_refl _⟩⟩
      refine ⟨fun hz2 => h30 0 (by omega), fun hz2 => h30 1 (by omega)⟩
  exact hS _ hend
end ZN
