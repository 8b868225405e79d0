section ZL
variable {lo hi : Nat → Nat → Nat} {c : Nat}
/-- the other side's boxes -/
def rb_ (lo hi : Nat → Nat → Nat) (c : Nat) (S : zS) : Prop := (∀ k, k < c → S 39 k = jI (lo 0 k : Nat)) ∧ (∀ k, k < c → S 40 k = jI (lo 1 k : Nat)) ∧ (∀ k, k < c → S 41 k = jI (hi 0 k : Nat)) ∧ (∀ k, k < c → S 42 k = jI (hi 1 k : Nat))
theorem d2_ {d : Nat} (h : d < 2) : (d = 0 ∧ jI (d : Nat) = 0) ∨ (d = 1 ∧ ¬ jI (d : Nat) = 0) := by
  have : d = 0 ∨ d = 1 := by omega
  rcases this with z | z
  · subst z; exact Or.inl ⟨rfl, rfl⟩
  · subst z; exact Or.inr ⟨rfl, by decide⟩
theorem m_low {S : zS} {post : Int32 → zS → Prop} {d k : Nat} (hc : c ≤ 288) (hd : d < 2) (hk : k < c) (hb : rb_ lo hi c S) (h : post (jI (lo d k : Nat)) S) : P_M_low (jI (k : Nat)) (jI (d : Nat)) S post := by
  unfold P_M_low
  rw [jn_in (by omega), jn_ix (by omega)]
  rcases d2_ hd with ⟨z, w⟩ | ⟨z, w⟩
  · subst z
    exact ⟨fun _ => ⟨by omega, by rw [hb.1 k hk]; exact h⟩, fun z => absurd w z⟩
  · subst z
    exact ⟨fun z => absurd z w, fun _ => ⟨by omega, by rw [hb.2.1 k hk]; exact h⟩⟩
theorem m_high {S : zS} {post : Int32 → zS → Prop} {d k : Nat} (hc : c ≤ 288) (hd : d < 2) (hk : k < c) (hb : rb_ lo hi c S) (h : post (jI (hi d k : Nat)) S) : P_M_high (jI (k : Nat)) (jI (d : Nat)) S post := by
  unfold P_M_high
  rw [jn_in (by omega), jn_ix (by omega)]
  rcases d2_ hd with ⟨z, w⟩ | ⟨z, w⟩
  · subst z
    exact ⟨fun _ => ⟨by omega, by rw [hb.2.2.1 k hk]; exact h⟩, fun z => absurd w z⟩
  · subst z
    exact ⟨fun z => absurd z w, fun _ => ⟨by omega, by rw [hb.2.2.2 k hk]; exact h⟩⟩
variable {sq : Nat → Nat} {a b d A : Nat}
def gv_ (lo hi : Nat → Nat → Nat) (sq : Nat → Nat) (a b d A g l : Nat) (w : Int32) (x : Nat) : Prop := a ≤ x ∧ x ≤ b ∧ g ≤ A ∧ l ≤ 24 ∧ w = bI (∀ y, a ≤ y → y < x → A ≤ lo d (sq y) ∨ hi d (sq y) < A) ∧ (g = 0 ∨ ∃ y, a ≤ y ∧ y < x ∧ hi d (sq y) + 1 = g) ∧ (∀ y, a ≤ y → y < x → hi d (sq y) < A → hi d (sq y) < g) ∧ (l = 24 ∨ ∃ y, a ≤ y ∧ y < x ∧ lo d (sq y) = l ∧ A ≤ l) ∧ (∀ y, a ≤ y → y < x → A ≤ lo d (sq y) → l ≤ lo d (sq y))
theorem m_gapL {S : zS} {post : Int32 → zS → Prop} {K : Int32 → Int32 → Int32 → zS → Prop} (hc : c ≤ 288) (hd : d < 2) (hA : A < 24) (hb24 : ∀ d k, hi d k < 24) (hlh : ∀ d k, lo d k ≤ hi d k) (hb : rb_ lo hi c S) (hbc : b ≤ c) (hab : a ≤ b) (hq : ∀ x, x < c → S 44 x = jI (sq x : Nat) ∧ sq x < c)
    (hK : ∀ g l w, gv_ lo hi sq a b d A g l w b → K (jI ((g : Int) - 1)) (jI (l : Nat)) w S) : ∃ k, L_M_gap_13 post K (jI (A : Nat)) (jI (d : Nat)) (jI (b : Nat)) k (-1) 24 1 (jI (a : Nat)) S := by
  refine lq4 (A := Nat) (B := Nat) (C := Int32) (D := Nat) (fun n g l w x S' => L_M_gap_13 post K (jI (A : Nat)) (jI (d : Nat)) (jI (b : Nat)) n (jI ((g : Int) - 1)) (jI (l : Nat)) w (jI (x : Nat)) S') (fun g l w x S' => S' = S ∧ gv_ lo hi sq a b d A g l w x) (fun g l w x _ => b - x) ?_ 0 24 1 a S ⟨rfl, Nat.le_refl a, hab, by omega, by omega, (bI_1 (fun y h1 h2 => by omega)).symm, Or.inl rfl, fun y h1 h2 => by omega, Or.inl rfl, fun y h1 h2 => by omega⟩
  rintro n g l w x S' ⟨rfl, hax, hxb, hgA, hl24, hw, hg1, hg2, hl1, hl2⟩ ih
  rw [L_M_gap_13, jn_le (by omega) (by omega)]
  refine ⟨fun hz => ?_, fun hz => ?_⟩
  · have ex : x = b := by omega
    subst ex
    exact hK g l w ⟨hax, hxb, hgA, hl24, hw, hg1, hg2, hl1, hl2⟩
  · obtain ⟨hqx, hqc⟩ := hq x (by omega)
    rw [jn_in (by omega), jn_ix (by omega), hqx]
    refine ⟨by omega, m_low hc hd hqc hb ?_⟩
    show x < 300 ∧ P_M_high (S' 44 x) _ _ _
    rw [hqx]
    refine ⟨by omega, m_high hc hd hqc hb ?_⟩
    have hH := hb24 d (sq x)
    have hLH := hlh d (sq x)
    -- the next turn
    have h92 : ∀ (g' : Nat) (t : Int32), t = bI (∀ y, a ≤ y → y < x + 1 → A ≤ lo d (sq y) ∨ hi d (sq y) < A) → g' ≤ A → (g' = 0 ∨ ∃ y, a ≤ y ∧ y < x + 1 ∧ hi d (sq y) + 1 = g') → (∀ y, a ≤ y → y < x + 1 → hi d (sq y) < A → hi d (sq y) < g') → J_M_gap_92 post (L_M_gap_13 post K (jI (A : Nat)) (jI (d : Nat)) (jI (b : Nat)) n) (jI (A : Nat)) (jI (d : Nat)) (jI (b : Nat)) (jI (l : Nat)) t (jI (x : Nat)) (jI (lo d (sq x) : Nat)) (jI ((g' : Int) - 1)) S' := by
      intro g' t ht hgA' hg1' hg2'
      have nx : ∀ l' : Nat, l' ≤ 24 → (l' = 24 ∨ ∃ y, a ≤ y ∧ y < x + 1 ∧ lo d (sq y) = l' ∧ A ≤ l') → (∀ y, a ≤ y → y < x + 1 → A ≤ lo d (sq y) → l' ≤ lo d (sq y)) → ∀ x116 : Int32, x116 = jI (x : Nat) + 1 → L_M_gap_13 post K (jI (A : Nat)) (jI (d : Nat)) (jI (b : Nat)) n (jI ((g' : Int) - 1)) (jI (l' : Nat)) t x116 S' := fun l' z1 z2 z3 x116 e => by
        rw [e, jn1]
        exact ih g' l' t (x + 1) S' ⟨rfl, by omega, by omega, hgA', z1, ht, hg1', hg2', z2, z3⟩ (by omega)
      unfold J_M_gap_92
      rw [jn_lt (by omega) (by omega), jn_le (by omega) (by omega)]
      have hl1' : (l = 24 ∨ ∃ y, a ≤ y ∧ y < x + 1 ∧ lo d (sq y) = l ∧ A ≤ l) := hl1.imp id (fun ⟨y, y1, y2, y3⟩ => ⟨y, y1, by omega, y3⟩)
      refine ⟨fun z => nx l hl24 hl1' (fun y y1 y2 y3 => ?_), fun z => ⟨fun z2 => nx l hl24 hl1' (fun y y1 y2 y3 => ?_), fun z2 => nx (lo d (sq x)) (by omega) (Or.inr ⟨x, hax, by omega, rfl, by omega⟩) (fun y y1 y2 y3 => ?_)⟩⟩
      · rcases Nat.lt_or_ge y x with v | v
        · exact hl2 y y1 v y3
        · have : y = x := by omega
          subst this; omega
      · rcases Nat.lt_or_ge y x with v | v
        · exact hl2 y y1 v y3
        · have : y = x := by omega
          subst this; omega
      · rcases Nat.lt_or_ge y x with v | v
        · have := hl2 y y1 v y3; omega
        · have : y = x := by omega
          subst this; omega
    have h70 : ∀ t : Int32, t = bI (∀ y, a ≤ y → y < x + 1 → A ≤ lo d (sq y) ∨ hi d (sq y) < A) → J_M_gap_70 post (L_M_gap_13 post K (jI (A : Nat)) (jI (d : Nat)) (jI (b : Nat)) n) (jI (A : Nat)) (jI (d : Nat)) (jI (b : Nat)) (jI ((g : Int) - 1)) (jI (l : Nat)) (jI (x : Nat)) (jI (lo d (sq x) : Nat)) (jI (hi d (sq x) : Nat)) t S' := by
      intro t ht
      have hg1' : (g = 0 ∨ ∃ y, a ≤ y ∧ y < x + 1 ∧ hi d (sq y) + 1 = g) := hg1.imp id (fun ⟨y, y1, y2, y3⟩ => ⟨y, y1, by omega, y3⟩)
      unfold J_M_gap_70 J_M_gap_90
      rw [jn_le (by omega) (by omega), jI_le (jS (by omega)) (jS (by omega))]
      refine ⟨fun z => h92 g t ht hgA hg1' (fun y y1 y2 y3 => ?_), fun z => ⟨fun z2 => h92 g t ht hgA hg1' (fun y y1 y2 y3 => ?_), fun z2 => ?_⟩⟩
      · rcases Nat.lt_or_ge y x with v | v
        · exact hg2 y y1 v y3
        · have : y = x := by omega
          subst this; omega
      · rcases Nat.lt_or_ge y x with v | v
        · exact hg2 y y1 v y3
        · have : y = x := by omega
          subst this; omega
      · have := h92 (hi d (sq x) + 1) t ht (by omega) (Or.inr ⟨x, hax, by omega, rfl⟩) (fun y y1 y2 y3 => ?_)
        · rw [show jI (hi d (sq x) : Nat) = jI (((hi d (sq x) + 1 : Nat) : Int) - 1) by congr 1; omega]
          exact this
        · rcases Nat.lt_or_ge y x with v | v
          · have := hg2 y y1 v y3; omega
          · have : y = x := by omega
            subst this; omega
    unfold J_M_gap_69 J_M_gap_65
    rw [jn_le (by omega) (by omega), jn_le (by omega) (by omega)]
    refine ⟨fun z => h70 0 (bI_0 (fun hn => ?_)).symm, fun z => ⟨fun z1 => h70 1 (bI_1 (fun y y1 y2 => ?_)).symm, fun z1 => ⟨fun z2 => h70 0 (bI_0 (fun hn => ?_)).symm, fun z2 => h70 1 (bI_1 (fun y y1 y2 => ?_)).symm⟩⟩⟩
    · rw [hw, bI_z] at z
      exact z (fun y y1 y2 => hn y y1 (by omega))
    · rw [hw, bI_z] at z
      rcases Nat.lt_or_ge y x with v | v
      · exact Classical.not_not.mp z y y1 v
      · have : y = x := by omega
        subst this; exact Or.inl z1
    · have := hn x hax (by omega)
      omega
    · rw [hw, bI_z] at z
      rcases Nat.lt_or_ge y x with v | v
      · exact Classical.not_not.mp z y y1 v
      · have : y = x := by omega
        subst this; exact Or.inr (by omega)
theorem m_gap {S : zS} {post : Int32 → zS → Prop} (hc : c ≤ 288) (hd : d < 2) (hA : A < 24) (hb24 : ∀ d k, hi d k < 24) (hlh : ∀ d k, lo d k ≤ hi d k) (hb : rb_ lo hi c S) (hbc : b ≤ c) (hab : a ≤ b) (hq : ∀ x, x < c → S 44 x = jI (sq x : Nat) ∧ sq x < c)
    (h0 : (∀ p bb, p < A → A ≤ bb → ¬ gi_ lo hi (ps_ a b sq) d p bb) → post (-1) S)
    (h1 : ∀ p bb, p < A → A ≤ bb → bb < 24 → gi_ lo hi (ps_ a b sq) d p bb → post (jI ((bb - p - 1 : Nat) : Int)) S) : P_M_gap (jI (A : Nat)) (jI (d : Nat)) (jI (a : Nat)) (jI (b : Nat)) S post := by
  unfold P_M_gap
  refine m_gapL hc hd hA hb24 hlh hb hbc hab hq ?_
  rintro g l w ⟨hax, hxb, hgA, hl24, hw, hg1, hg2, hl1, hl2⟩
  have hno : ∀ p bb, p < A → A ≤ bb → gi_ lo hi (ps_ a b sq) d p bb → (¬ w = 0) ∧ g ≠ 0 ∧ l ≠ 24 := by
    rintro p bb hp hbb ⟨-, ⟨k1, ⟨y1, a1, a2, a3⟩, k1p⟩, ⟨k2, ⟨y2, b1, b2, b3⟩, k2b⟩, hpb, hall⟩
    refine ⟨?_, ?_, ?_⟩
    · rw [hw, bI_z]
      exact fun hn => hn (fun y y1 y2 => by have := hall (sq y) ⟨y, y1, y2, rfl⟩; omega)
    · have := hg2 y1 a1 a2 (by rw [a3, k1p]; exact hp)
      omega
    · have := hl2 y2 b1 b2 (by rw [b3, k2b]; exact hbb)
      rw [b3, k2b] at this
      have := hb24 d k2
      have := hlh d k2
      omega
  refine ⟨fun z => h0 (fun p bb hp hbb hgi => (hno p bb hp hbb hgi).1 z), fun z => ⟨fun z2 => h0 (fun p bb hp hbb hgi => ?_), fun z2 => ⟨fun z3 => h0 (fun p bb hp hbb hgi => ?_), fun z3 => ?_⟩⟩⟩
  · have := (hno p bb hp hbb hgi).2.1
    rw [jI_m1, jI_eq (jS (by omega)) (jS (by omega))] at z2
    omega
  · have := (hno p bb hp hbb hgi).2.2
    rw [jk24, jn_eq (by omega) (by omega)] at z3
    omega
  · have hg0 : g ≠ 0 := fun e => z2 (by subst e; rfl)
    have hl0 : l ≠ 24 := fun e => z3 (by subst e; rfl)
    rw [hw, bI_z] at z
    have hall := Classical.not_not.mp z
    obtain ⟨y1, a1, a2, a3⟩ := hg1.resolve_left hg0
    obtain ⟨y2, b1, b2, b3, b4⟩ := hl1.resolve_left hl0
    have := h1 (g - 1) l (by omega) b4 (by omega) ⟨hd, ⟨_, ⟨y1, a1, a2, rfl⟩, by omega⟩, ⟨_, ⟨y2, b1, b2, rfl⟩, b3⟩, by omega, ?_⟩
    · rw [show (jI (l : Nat) - jI ((g : Int) - 1)) - 1 = jI ((l - (g - 1) - 1 : Nat) : Int) by rw [jI_1, jI_sub, jI_sub]; congr 1; omega]
      exact this
    · rintro k ⟨y, y1, y2, rfl⟩
      rcases hall y y1 y2 with v | v
      · exact Or.inr (hl2 y y1 y2 v)
      · exact Or.inl (by have := hg2 y y1 y2 v; omega)
end ZL
