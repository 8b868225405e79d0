section YZ
/-- the first greatest rectangle of all -/
def fmx (F : Nat → Prop) (W H q : Nat) : Prop := va_ W H q ∧ (∀ q', va_ W H q' → ar_ F W q' ≤ ar_ F W q) ∧ ∀ q', va_ W H q' → q' < q → ar_ F W q' < ar_ F W q
noncomputable def bq_ (F : Nat → Prop) (W H : Nat) : Nat := Classical.epsilon (fun q => fmx F W H q)
theorem bq_u {F : Nat → Prop} {W H q : Nat} (h : fmx F W H q) : bq_ F W H = q := by
  have h2 : fmx F W H (bq_ F W H) := Classical.epsilon_spec (p := fun q => fmx F W H q) ⟨q, h⟩
  rcases Nat.lt_trichotomy (bq_ F W H) q with z | z | z
  · have a1 := h.2.2 _ h2.1 z
    have a2 := h2.2.1 _ h.1
    omega
  · exact z
  · have a1 := h2.2.2 _ h.1 z
    have a2 := h.2.1 _ h2.1
    omega
noncomputable def bx_ (F : Nat → Prop) (W H : Nat) : Nat := bq_ F W H / 32 % 24
noncomputable def by_ (F : Nat → Prop) (W H : Nat) : Nat := bq_ F W H / 32 / 24
noncomputable def bh_ (F : Nat → Prop) (W H : Nat) : Nat := bq_ F W H % 32
noncomputable def bw_ (F : Nat → Prop) (W H : Nat) : Nat := aw_ F W (bx_ F W H) (by_ F W H) (bh_ F W H)
/-- free, when k rectangles have been taken -/
noncomputable def fk_ (F0 : Nat → Prop) (W H : Nat) : Nat → Nat → Prop
  | 0 => F0
  | k + 1 => fx_ (fk_ F0 W H k) (bx_ (fk_ F0 W H k) W H) (by_ (fk_ F0 W H k) W H) (bx_ (fk_ F0 W H k) W H + bw_ (fk_ F0 W H k) W H) (by_ (fk_ F0 W H k) W H + bh_ (fk_ F0 W H k) W H)
/-- n rectangles of at least 4, and no more -/
def cvn (F0 : Nat → Prop) (W H n : Nat) : Prop := n ≤ 6 ∧ (∀ k, k < n → fmx (fk_ F0 W H k) W H (bq_ (fk_ F0 W H k) W H) ∧ 4 ≤ ar_ (fk_ F0 W H k) W (bq_ (fk_ F0 W H k) W H)) ∧ (n = 6 ∨ ∀ q, va_ W H q → ar_ (fk_ F0 W H n) W q ≤ 3)
theorem va_lt {W H q : Nat} (hH : H ≤ 24) (h : va_ W H q) : q < 18432 := by
  obtain ⟨h1, h2, h3⟩ := h
  omega
theorem fm_fin {F : Nat → Prop} {W H b g q : Nat} (hH : H ≤ 24) (h : fm_ F W H b 18432 g q) (hg : b < g) : fmx F W H q ∧ ar_ F W q = g := by
  rcases h with ⟨h1, h2⟩ | ⟨h1, h2, h3, h4, h5, h6⟩
  · omega
  · exact ⟨⟨h2, fun q' hq => by rw [h4]; exact h5 q' hq (va_lt hH hq), fun q' hq hl => by rw [h4]; exact h6 q' hq hl⟩, h4⟩
variable {F0 : Nat → Prop} {W H : Nat}
theorem m_Cfind {T : zS} {post : zS → Prop} (hW : W ≤ 24) (hH : H ≤ 24) (e6 : T 21 6 = jI W) (e7 : T 21 7 = jI H) (hF : ∀ u, F0 u ↔ T 3 u = 0)
    (h : ∀ S' n, (∀ a, a < 21 ∨ 26 < a → S' a = T a) → (∀ j, j ≠ 4 → j ≠ 8 → S' 21 j = T 21 j) → S' 21 4 = jI (n : Nat) → cvn F0 W H n →
      (∀ k, k < n → S' 22 k = jI (bx_ (fk_ F0 W H k) W H : Nat) ∧ S' 23 k = jI (by_ (fk_ F0 W H k) W H : Nat) ∧ S' 24 k = jI (bw_ (fk_ F0 W H k) W H : Nat) ∧ S' 25 k = jI (bh_ (fk_ F0 W H k) W H : Nat)) → post S') : P_C_find T post := by
  unfold P_C_find
  refine m_measure hW hH e6 e7 hF (fun S1 fr1 hR1 S7 e7' => ?_)
  refine lq1 (A := Nat) (fun n k S => L_C_find_12 post n (jI k) S)
    (fun k S => k ≤ 6 ∧ (∀ a, a < 21 ∨ 26 < a → S a = T a) ∧ (∀ j, j ≠ 4 → j ≠ 8 → S 21 j = T 21 j) ∧ S 21 4 = jI (k : Nat) ∧ (∀ y x, y < H → x < W → S 26 (24 * y + x) = jI (rl_ (fk_ F0 W H k) W y x : Nat)) ∧ ∀ i, i < k → (fmx (fk_ F0 W H i) W H (bq_ (fk_ F0 W H i) W H) ∧ 4 ≤ ar_ (fk_ F0 W H i) W (bq_ (fk_ F0 W H i) W H)) ∧ S 22 i = jI (bx_ (fk_ F0 W H i) W H : Nat) ∧ S 23 i = jI (by_ (fk_ F0 W H i) W H : Nat) ∧ S 24 i = jI (bw_ (fk_ F0 W H i) W H : Nat) ∧ S 25 i = jI (bh_ (fk_ F0 W H i) W H : Nat))
    (fun k _ => 6 - k) ?_ 0 S7 ⟨by omega, fun a ha => by rw [e7', su_ne (by omega), fr1 a (by omega)], fun j j4 j8 => by rw [e7', su_eq, up_ne j4, fr1 21 (by omega)], by rw [e7', su_eq, up_eq]; rfl, fun y x a1 a2 => by rw [e7', su_ne (by omega)]; exact hR1 y x a1 a2, fun i hi => absurd hi (by omega)⟩
  rintro n k S ⟨hk, s1, s2, s3, s4, s5⟩ ih
  rw [L_C_find_12, jk6, jn_le (by omega) (by omega)]
  refine ⟨fun hz => ?_, fun hz => ?_⟩
  · have ek : k = 6 := by omega
    subst ek
    exact h S 6 s1 s2 s3 ⟨by omega, fun k hk => (s5 k hk).1, Or.inl rfl⟩ (fun k hk => (s5 k hk).2)
  · refine m_findGreatest (S0 := S) hW hH (by rw [s2 6 (by omega) (by omega)]; exact e6) (by rw [s2 7 (by omega) (by omega)]; exact e7) (by omega) s4 (fun S20 hS => ?_)
    obtain ⟨t1, t2, t3, g, q, t4, t5, t6, t7⟩ := hS
    have oth : ∀ i, i < k → S20 22 i = jI (bx_ (fk_ F0 W H i) W H : Nat) ∧ S20 23 i = jI (by_ (fk_ F0 W H i) W H : Nat) ∧ S20 24 i = jI (bw_ (fk_ F0 W H i) W H : Nat) ∧ S20 25 i = jI (bh_ (fk_ F0 W H i) W H : Nat) := fun i hi => by
      obtain ⟨a1, a2, a3, a4⟩ := t3 i (by omega)
      rw [a1, a2, a3, a4]
      exact (s5 i hi).2
    rw [t5, jk4, jn_le (by omega) (by omega)]
    refine ⟨fun hz2 => ?_, fun hz2 => ?_⟩
    · obtain ⟨hfx, har⟩ := fm_fin hH t6 (by omega)
      have eq := bq_u hfx
      obtain ⟨w1, w2, w3, w4⟩ := t7 (by omega)
      have v := hfx.1
      have hal := aw_le (fk_ F0 W H k) W (q / 32 % 24) (q / 32 / 24) (q % 32)
      have hap : 0 < aw_ (fk_ F0 W H k) W (q / 32 % 24) (q / 32 / 24) (q % 32) := by
        rcases Nat.eq_zero_or_pos (aw_ (fk_ F0 W H k) W (q / 32 % 24) (q / 32 / 24) (q % 32)) with z | z
        · unfold ar_ at har
          rw [z, Nat.zero_mul] at har
          omega
        · exact z
      obtain ⟨v1, v2, v3⟩ := v
      refine m_block (F := fk_ F0 W H k) (W := W) (H := H) (x0 := q / 32 % 24) (y0 := q / 32 / 24) (x1 := q / 32 % 24 + aw_ (fk_ F0 W H k) W (q / 32 % 24) (q / 32 / 24) (q % 32)) (y1 := q / 32 / 24 + q % 32) hW hH (by omega) (by omega) (by omega) (by omega) v3 w1 w2 (by rw [w3]; congr 2; omega) (by rw [w4]; congr 2; omega) (fun y x a1 a2 => by rw [t1 26 (by omega)]; exact s4 y x a1 a2) (fun S34 u1 u2 => ?_)
      intro S44 e44 x47 e47
      rw [e47, jn1]
      have fo : ∀ a, a ≠ 21 → a ≠ 26 → S44 a = S20 a := fun a a1 a2 => by rw [e44, su_ne a1, u1 a a2]
      refine ih (k + 1) S44 ⟨by omega, fun a ha => by rw [fo a (by omega) (by omega), t1 a (by omega)]; exact s1 a ha, fun j j4 j8 => by rw [e44, su_eq, up_ne j4, u1 21 (by omega), t2 j j8]; exact s2 j j4 j8, by rw [e44, su_eq, up_eq, u1 21 (by omega), t2 4 (by omega), s3, jn1], fun y x a1 a2 => ?_, fun i hi => ?_⟩ (by omega)
      · rw [e44, su_ne (by omega), u2 y x a1 a2, fk_]
        unfold bw_ bx_ by_ bh_
        rw [eq]
      · rw [fo 22 (by omega) (by omega), fo 23 (by omega) (by omega), fo 24 (by omega) (by omega), fo 25 (by omega) (by omega)]
        by_cases hik : i = k
        · subst hik
          rw [eq]
          refine ⟨⟨hfx, by omega⟩, ?_⟩
          unfold bw_ bx_ by_ bh_
          rw [eq]
          exact ⟨w1, w2, w3, w4⟩
        · exact ⟨(s5 i (by omega)).1, oth i (by omega)⟩
    · refine h S20 k (fun a ha => by rw [t1 a (by omega)]; exact s1 a ha) (fun j j4 j8 => by rw [t2 j j8]; exact s2 j j4 j8) (by rw [t2 4 (by omega)]; exact s3) ⟨by omega, fun i hi => (s5 i hi).1, Or.inr (fun q' hq' => ?_)⟩ oth
      have := va_lt hH hq'
      rcases t6 with ⟨a1, a2⟩ | ⟨a1, a2, a3, a4, a5, a6⟩
      · have := a2 q' hq' this
        omega
      · have := a5 q' hq' this
        omega
end YZ
