section YR
variable {W H : Nat} {T : zS}
theorem gp_n {c : Nat → Prop} {n gap t : Nat} (h : ¬ c n) : gp_ c (n + 1) gap t ↔ gp_ c n gap t := by
  constructor
  · rintro ⟨i, j, a1, a2, a3, a4, a5, a6, a7⟩
    by_cases hj : j = n
    · subst hj; exact absurd a5 h
    · exact ⟨i, j, a1, a2, by omega, a4, a5, a6, a7⟩
  · rintro ⟨i, j, a1, a2, a3, a4, a5, a6, a7⟩
    exact ⟨i, j, a1, a2, by omega, a4, a5, a6, a7⟩
theorem m_sm53 {post K78 : zS → Prop} {v1 v2 v3 v4 : Int32} {pos : Nat → Nat} {i l : Nat} (hi : i ≤ 24) (hl : l < i) (hp : ∀ t, t < i → pos t < 576 ∧ v1 + jI (t : Nat) * v2 = jI (pos t : Nat)) (S : zS)
    (h : ∀ S', (∀ a, a ≠ 3 → S' a = S a) → (∀ u, (∃ t, l < t ∧ t < i ∧ u = pos t) → S' 3 u = 1) → (∀ u, (∀ t, l < t → t < i → u ≠ pos t) → S' 3 u = S 3 u) → K78 S') : ∃ k, L_P_smearAlong_53 post K78 v1 v2 v3 v4 (jI i) k (jI (l + 1 : Nat)) S := by
  refine lq1 (A := Nat) (fun k b S' => L_P_smearAlong_53 post K78 v1 v2 v3 v4 (jI i) k (jI b) S') (fun b S' => l < b ∧ b ≤ i ∧ (∀ a, a ≠ 3 → S' a = S a) ∧ (∀ u, (∃ t, l < t ∧ t < b ∧ u = pos t) → S' 3 u = 1) ∧ (∀ u, (∀ t, l < t → t < b → u ≠ pos t) → S' 3 u = S 3 u)) (fun b _ => i - b) ?_ (l + 1) S ⟨by omega, by omega, fun _ _ => rfl, fun u ⟨t, h1, h2, h3⟩ => absurd h1 (by omega), fun u _ => rfl⟩
  rintro k b S' ⟨b1, b2, fr, q1, q2⟩ ih
  rw [L_P_smearAlong_53, jn_le (by omega) (by omega)]
  refine ⟨fun hz => ?_, fun hz => ?_⟩
  · have : b = i := by omega
    subst this
    exact h S' fr q1 q2
  · obtain ⟨p1, p2⟩ := hp b (by omega)
    rw [p2, jn_in (by omega), jn_ix (by omega)]
    refine ⟨p1, fun S71 e71 x72 e72 => ?_⟩
    rw [e72, jn1]
    refine ih (b + 1) S71 ⟨by omega, by omega, fun a ha => by rw [e71, su_ne ha]; exact fr a ha, fun u ⟨t, h1, h2, h3⟩ => ?_, fun u hu => ?_⟩ (by omega)
    · rw [e71, su_eq]
      by_cases hu : u = pos b
      · rw [hu, up_eq]
      · rw [up_ne hu]
        refine q1 u ⟨t, h1, ?_, h3⟩
        by_cases htb : t = b
        · subst htb; exact absurd h3 hu
        · omega
    · rw [e71, su_eq, up_ne (hu b b1 (by omega))]
      exact q2 u (fun t h1 h2 => hu t h1 (by omega))
theorem m_smearAlong {post : zS → Prop} {v1 v2 : Int32} {pos : Nat → Nat} {c : Nat → Prop} {A : Nat → Prop} {n gap : Nat} (hn : n ≤ 24) (hgap : gap ≤ 24) (hp : ∀ t, t < n → pos t < 576 ∧ v1 + jI (t : Nat) * v2 = jI (pos t : Nat)) (hinj : ∀ t t', t < n → t' < n → pos t = pos t' → t = t')
    (hc : ∀ t, t < n → T 2 (pos t) = bI (c t)) (hA : ∀ t, t < n → T 3 (pos t) = bI (A t))
    (h : ∀ S', (∀ a, a ≠ 3 → S' a = T a) → (∀ t, t < n → S' 3 (pos t) = bI (A t ∨ gp_ c n gap t)) → (∀ u, (∀ t, t < n → u ≠ pos t) → S' 3 u = T 3 u) → post S') : P_P_smearAlong v1 v2 (jI n) (jI gap) T post := by
  unfold P_P_smearAlong
  refine lq2 (A := Int) (B := Nat) (fun k la i S => L_P_smearAlong_6 post v1 v2 (jI n) (jI gap) k (jI la) (jI i) S)
    (fun la i S => i ≤ n ∧ (∀ a, a ≠ 3 → S a = T a) ∧ (∀ t, t < n → S 3 (pos t) = bI (A t ∨ gp_ c i gap t)) ∧ (∀ u, (∀ t, t < n → u ≠ pos t) → S 3 u = T 3 u) ∧ ((la = -1 ∧ ∀ s, s < i → ¬ c s) ∨ ∃ l : Nat, la = l ∧ l < i ∧ c l ∧ ∀ s, l < s → s < i → ¬ c s)) (fun _ i _ => n - i) ?_ (-1) 0 T
    ⟨by omega, fun _ _ => rfl, fun t ht => by rw [hA t ht]; exact bI_c ⟨Or.inl, fun z => z.elim id (fun ⟨i, j, a1, a2, a3, _⟩ => absurd a3 (by omega))⟩, fun _ _ => rfl, Or.inl ⟨rfl, fun s hs => absurd hs (by omega)⟩⟩
  rintro k la i S ⟨hi, fr, q1, q2, q3⟩ ih
  rw [L_P_smearAlong_6, jn_le (by omega) (by omega)]
  refine ⟨fun hz => ?_, fun hz => ?_⟩
  · have : i = n := by omega
    subst this
    exact h S fr q1 q2
  · obtain ⟨p1, p2⟩ := hp i (by omega)
    rw [p2, jn_in (by omega), jn_ix (by omega), fr 2 (by omega), hc i (by omega)]
    have same : (∀ t, gp_ c (i + 1) gap t ↔ gp_ c i gap t) → ∀ t, t < n → S 3 (pos t) = bI (A t ∨ gp_ c (i + 1) gap t) := fun hg t ht => by
      rw [q1 t ht]
      exact bI_c ⟨fun z => z.elim Or.inl (fun w => Or.inr ((hg t).mpr w)), fun z => z.elim Or.inl (fun w => Or.inr ((hg t).mp w))⟩
    refine ⟨p1, fun a => ?_, fun a x82 e82 => ?_⟩
    · have ci : c i := Classical.not_not.mp (fun w => a (bI_0 w))
      have new : ∀ S' : zS, (∀ a, a ≠ 3 → S' a = T a) → (∀ t, t < n → S' 3 (pos t) = bI (A t ∨ gp_ c (i + 1) gap t)) → (∀ u, (∀ t, t < n → u ≠ pos t) → S' 3 u = T 3 u) → ∀ x82 : Int32, x82 = jI i + 1 → L_P_smearAlong_6 post v1 v2 (jI n) (jI gap) k (jI i) x82 S' := fun S' a1 a2 a3 x82 e82 => by
        rw [e82, jn1]
        exact ih (i : Int) (i + 1) S' ⟨by omega, a1, a2, a3, Or.inr ⟨i, rfl, by omega, ci, fun s h1 h2 => absurd h1 (by omega)⟩⟩ (by omega)
      rcases q3 with ⟨rfl, q4⟩ | ⟨l, rfl, q4, q5, q6⟩
      · refine ⟨fun _ => new S fr (same (fun t => ⟨fun ⟨i', j', a1, a2, a3, a4, a5, a6, a7⟩ => ?_, fun ⟨i', j', a1, a2, a3, a4, a5, a6, a7⟩ => ⟨i', j', a1, a2, by omega, a4, a5, a6, a7⟩⟩)) q2, fun z => absurd rfl z⟩
        exact absurd a4 (q4 i' (by omega))
      · refine ⟨fun z => absurd z (jn_m1 (by omega)), fun _ => ?_⟩
        have eg : jI (i : Int) - jI (l : Int) - 1 = jI ((i - l - 1 : Nat) : Int) := by rw [jI_1, jI_sub, jI_sub]; congr 1; omega
        have hnew : ∀ t, gp_ c (i + 1) gap t ↔ (gp_ c i gap t ∨ (l < t ∧ t < i ∧ i ≤ l + 1 + gap)) := fun t => by
          constructor
          · rintro ⟨i', j', a1, a2, a3, a4, a5, a6, a7⟩
            by_cases hj : j' = i
            · subst hj
              have : i' = l := by
                rcases Nat.lt_trichotomy i' l with w | w | w
                · exact absurd q5 (a6 l w q4)
                · exact w
                · exact absurd a4 (q6 i' w (by omega))
              subst this
              exact Or.inr ⟨a1, a2, a7⟩
            · exact Or.inl ⟨i', j', a1, a2, by omega, a4, a5, a6, a7⟩
          · rintro (⟨i', j', a1, a2, a3, a4, a5, a6, a7⟩ | ⟨a1, a2, a3⟩)
            · exact ⟨i', j', a1, a2, by omega, a4, a5, a6, a7⟩
            · exact ⟨l, i, a1, a2, by omega, q5, ci, q6, a3⟩
        rw [eg, jn_lt (by omega) (by omega)]
        refine ⟨fun z => new S fr (same (fun t => ?_)) q2, fun z x51 e51 => ?_⟩
        · rw [hnew t]
          exact ⟨fun w => w.elim id (fun w => absurd w.2.2 (by omega)), Or.inl⟩
        · rw [e51, jn1 l]
          refine m_sm53 (pos := pos) (by omega) q4 (fun t ht => hp t (by omega)) S (fun S' a1 a2 a3 => ?_)
          refine new S' (fun a ha => by rw [a1 a ha]; exact fr a ha) (fun t ht => ?_) (fun u hu => by rw [a3 u (fun t h1 h2 => hu t (by omega))]; exact q2 u hu)
          by_cases hz2 : l < t ∧ t < i
          · rw [a2 (pos t) ⟨t, hz2.1, hz2.2, rfl⟩]
            exact (bI_1 (Or.inr ((hnew t).mpr (Or.inr ⟨hz2.1, hz2.2, by omega⟩)))).symm
          · rw [a3 (pos t) (fun t' h1 h2 e => by have := hinj t t' ht (by omega) e; omega), q1 t ht]
            refine bI_c ⟨fun w => w.elim Or.inl (fun w => Or.inr ((hnew t).mpr (Or.inl w))), fun w => w.elim Or.inl (fun w => ((hnew t).mp w).elim Or.inr (fun y => absurd ⟨y.1, y.2.1⟩ hz2))⟩
    · rw [bI_z] at a
      rw [e82, jn1]
      refine ih la (i + 1) S ⟨by omega, fr, same (fun t => gp_n a), q2, ?_⟩ (by omega)
      rcases q3 with ⟨rfl, q4⟩ | ⟨l, rfl, q4, q5, q6⟩
      · refine Or.inl ⟨rfl, fun s hs => ?_⟩
        by_cases hsi : s = i
        · subst hsi; exact a
        · exact q4 s (by omega)
      · refine Or.inr ⟨l, rfl, by omega, q5, fun s h1 h2 => ?_⟩
        by_cases hsi : s = i
        · subst hsi; exact a
        · exact q6 s h1 (by omega)
theorem m_smear {post : zS → Prop} {C : Nat → Prop} {gx gy : Nat} (hW : W ≤ 24) (hH : H ≤ 24) (e0 : T 0 0 = jI W) (e1 : T 0 1 = jI H) (hgx : gx ≤ 24) (hgy : gy ≤ 24) (h2 : ∀ u, u < 576 → T 2 u = bI (C u)) (h3 : ∀ u, u < 576 → T 3 u = bI (C u))
    (h : ∀ S', (∀ a, a ≠ 3 → S' a = T a) → (∀ u, u < 576 → u % 24 < W → u / 24 < H → S' 3 u = bI (ik_ C W H gx gy u)) → (∀ u, u < 576 → ¬ (u % 24 < W ∧ u / 24 < H) → S' 3 u = T 3 u) → (∀ u, 576 ≤ u → S' 3 u = T 3 u) → post S') : P_P_smear (jI gx) (jI gy) T post := by
  unfold P_P_smear
  refine lq1 (A := Nat) (fun k y S => L_P_smear_2 post _ (jI gx) (jI gy) k (jI y) S)
    (fun y S => y ≤ H ∧ (∀ a, a ≠ 3 → S a = T a) ∧ (∀ u, u < 576 → u % 24 < W → u / 24 < y → S 3 u = bI (C u ∨ gp_ (fun t => C (24 * (u / 24) + t)) W gx (u % 24))) ∧ (∀ u, ¬ (u < 576 ∧ u % 24 < W ∧ u / 24 < y) → S 3 u = T 3 u)) (fun y _ => H - y) ?_ 0 T ⟨by omega, fun _ _ => rfl, fun u _ _ hz => absurd hz (by omega), fun _ _ => rfl⟩
  rintro k y S ⟨hy, fr, q1, q2⟩ ih
  rw [L_P_smear_2, fr 0 (by omega), e1, jn_le (by omega) (by omega)]
  refine ⟨fun hz => ?_, fun hz => ?_⟩
  · have hyH : y = H := by omega
    subst hyH
    refine lq1 (A := Nat) (fun k x S => L_P_smear_32 post (jI gy) k (jI x) S)
      (fun x S' => x ≤ W ∧ (∀ a, a ≠ 3 → S' a = T a) ∧ (∀ u, u < 576 → u % 24 < x → u / 24 < y → S' 3 u = bI (ik_ C W y gx gy u)) ∧ (∀ u, ¬ (u < 576 ∧ u % 24 < x ∧ u / 24 < y) → S' 3 u = S 3 u)) (fun x _ => W - x) ?_ 0 S ⟨by omega, fr, fun u _ hz => absurd hz (by omega), fun _ _ => rfl⟩
    rintro k2 x S' ⟨hx, fr', p1, p2⟩ ih2
    rw [L_P_smear_32, fr' 0 (by omega), e0, e1, jn_le (by omega) (by omega)]
    refine ⟨fun hz2 => ?_, fun hz2 => ?_⟩
    · have hxW : x = W := by omega
      subst hxW
      refine h S' fr' p1 (fun u h1 h2' => ?_) (fun u h1 => ?_)
      · rw [p2 u (fun w => h2' w.2), q2 u (fun w => h2' w.2)]
      · rw [p2 u (fun w => by omega), q2 u (fun w => by omega)]
    · refine m_smearAlong (pos := fun t => 24 * t + x) (c := fun t => C (24 * t + x)) (A := fun t => C (24 * t + x) ∨ gp_ (fun s => C (24 * t + s)) W gx x) (n := y) hH hgy (fun t ht => ⟨by omega, ?_⟩) (fun t t' _ _ e => by omega) (fun t ht => ?_) (fun t ht => ?_) (fun S'' b1 b2 b3 x52 e52 => ?_)
      · rw [jI_24, jI_mul, jI_add]; congr 1; omega
      · rw [fr' 2 (by omega)]; exact h2 _ (by omega)
      · rw [p2 _ (fun w => by omega), q1 (24 * t + x) (by omega) (by omega) (by omega)]
        have hm : (24 * t + x) % 24 = x := by omega
        have hd : (24 * t + x) / 24 = t := by omega
        rw [hm, hd]
      · rw [e52, jn1]
        refine ih2 (x + 1) S'' ⟨by omega, fun a ha => by rw [b1 a ha]; exact fr' a ha, fun u h1 h2' h3' => ?_, fun u hu => ?_⟩ (by omega)
        · by_cases hux : u % 24 = x
          · have := b2 (u / 24) h3'
            have eu : 24 * (u / 24) + x = u := by omega
            simp only [eu] at this
            rw [this]
            refine bI_c ?_
            unfold ik_
            rw [hux]
            exact ⟨fun w => w.elim (fun w => w.elim Or.inl (fun w => Or.inr (Or.inl w))) (fun w => Or.inr (Or.inr w)), fun w => w.elim (fun w => Or.inl (Or.inl w)) (fun w => w.elim (fun w => Or.inl (Or.inr w)) Or.inr)⟩
          · rw [b3 u (fun t ht e => by omega)]
            exact p1 u h1 (by omega) h3'
        · rw [b3 u (fun t ht e => hu (by omega))]
          exact p2 u (fun w => hu (by omega))
  · rw [e0]
    have ev : jI (y : Int) * 24 = jI ((24 * y : Nat) : Int) := by rw [jI_24, jI_mul]; congr 1; omega
    rw [ev]
    refine m_smearAlong (pos := fun t => 24 * y + t) (c := fun t => C (24 * y + t)) (A := fun t => C (24 * y + t)) (n := W) hW hgx (fun t ht => ⟨by omega, ?_⟩) (fun t t' _ _ e => by omega) (fun t ht => ?_) (fun t ht => ?_) (fun S'' b1 b2 b3 x24 e24 => ?_)
    · rw [jI_1, jI_mul, jI_add]; congr 1; omega
    · rw [fr 2 (by omega)]; exact h2 _ (by omega)
    · rw [q2 _ (fun w => by omega)]; exact h3 _ (by omega)
    · rw [e24, jn1]
      refine ih (y + 1) S'' ⟨by omega, fun a ha => by rw [b1 a ha]; exact fr a ha, fun u h1 h2' h3' => ?_, fun u hu => ?_⟩ (by omega)
      · by_cases huy : u / 24 = y
        · have := b2 (u % 24) h2'
          have eu : 24 * y + u % 24 = u := by omega
          simp only [eu] at this
          rw [this, huy]
        · rw [b3 u (fun t ht e => by omega)]
          exact q1 u h1 h2' (by omega)
      · rw [b3 u (fun t ht e => hu (by omega))]
        exact q2 u (fun w => hu (by omega))
end YR
