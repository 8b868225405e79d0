section YX
/-- how many from b on have it, of k -/
noncomputable def rlA (F : Nat → Prop) : Nat → Nat → Nat
  | 0, _ => 0
  | k + 1, b => @ite Nat (F b) (Classical.propDecidable (F b)) (rlA F k (b + 1) + 1) 0
theorem rlA_1 {F : Nat → Prop} {k b : Nat} (h : F b) : rlA F (k + 1) b = rlA F k (b + 1) + 1 := by rw [rlA]; exact @if_pos _ (Classical.propDecidable (F b)) h _ _ _
theorem rlA_0 {F : Nat → Prop} {k b : Nat} (h : ¬ F b) : rlA F (k + 1) b = 0 := by rw [rlA]; exact @if_neg _ (Classical.propDecidable (F b)) h _ _ _
theorem rlA_s (F : Nat → Prop) : ∀ k b, rlA F k b ≤ k ∧ (∀ t, t < rlA F k b → F (b + t)) ∧ (rlA F k b = k ∨ ¬ F (b + rlA F k b))
  | 0, b => ⟨Nat.le_refl 0, fun t ht => absurd ht (Nat.not_lt_zero t), Or.inl rfl⟩
  | k + 1, b => by
    by_cases h : F b
    · rw [rlA_1 h]
      obtain ⟨h1, h2, h3⟩ := rlA_s F k (b + 1)
      refine ⟨by omega, fun t ht => ?_, ?_⟩
      · by_cases h0 : t = 0
        · subst h0; exact h
        · have := h2 (t - 1) (by omega)
          rw [show b + 1 + (t - 1) = b + t by omega] at this
          exact this
      · rcases h3 with z | z
        · exact Or.inl (by omega)
        · rw [show b + 1 + rlA F k (b + 1) = b + (rlA F k (b + 1) + 1) by omega] at z
          exact Or.inr z
    · rw [rlA_0 h]
      exact ⟨by omega, fun t ht => absurd ht (Nat.not_lt_zero t), Or.inr h⟩
theorem rlA_u {F : Nat → Prop} {k b n : Nat} (h1 : n ≤ k) (h2 : ∀ t, t < n → F (b + t)) (h3 : n = k ∨ ¬ F (b + n)) : n = rlA F k b := by
  obtain ⟨g1, g2, g3⟩ := rlA_s F k b
  rcases Nat.lt_trichotomy n (rlA F k b) with z | z | z
  · rcases h3 with w | w
    · omega
    · exact absurd (g2 n z) w
  · exact z
  · rcases g3 with w | w
    · omega
    · exact absurd (h2 _ z) w
noncomputable def rl_ (F : Nat → Prop) (W y x : Nat) : Nat := rlA F (W - x) (24 * y + x)
theorem rl_le (F : Nat → Prop) (W y x : Nat) : rl_ F W y x ≤ W - x := (rlA_s F _ _).1
/-- how wide a rectangle from (x, y) on may be, if h high -/
noncomputable def aw_ (F : Nat → Prop) (W x y : Nat) : Nat → Nat
  | 0 => W - x
  | h + 1 => if rl_ F W (y + h) x < aw_ F W x y h then rl_ F W (y + h) x else aw_ F W x y h
theorem aw_dn (F : Nat → Prop) (W x y : Nat) : ∀ {d e : Nat}, d ≤ e → aw_ F W x y e ≤ aw_ F W x y d := by
  intro d e
  induction e with
  | zero => intro h; have : d = 0 := by omega
            rw [this]; exact Nat.le_refl _
  | succ e ih =>
    intro h
    by_cases hd : d = e + 1
    · rw [hd]; exact Nat.le_refl _
    · have := ih (by omega)
      rw [aw_]
      split <;> omega
theorem aw_le (F : Nat → Prop) (W x y h : Nat) : aw_ F W x y h ≤ W - x := aw_dn F W x y (Nat.zero_le h)
/-- candidates by one number: place times 32, and height -/
noncomputable def ar_ (F : Nat → Prop) (W q : Nat) : Nat := aw_ F W (q / 32 % 24) (q / 32 / 24) (q % 32) * (q % 32)
def va_ (W H q : Nat) : Prop := 1 ≤ q % 32 ∧ q / 32 % 24 < W ∧ q / 32 / 24 + q % 32 ≤ H
/-- the first greatest of those ahead of p, if greater than b -/
def fm_ (F : Nat → Prop) (W H b p g q : Nat) : Prop :=
  (g = b ∧ ∀ q', va_ W H q' → q' < p → ar_ F W q' ≤ b) ∨ (b < g ∧ va_ W H q ∧ q < p ∧ ar_ F W q = g ∧ (∀ q', va_ W H q' → q' < p → ar_ F W q' ≤ g) ∧ ∀ q', va_ W H q' → q' < q → ar_ F W q' < g)
variable {F : Nat → Prop} {W H : Nat}
theorem ar_le {q : Nat} (hW : W ≤ 24) (hH : H ≤ 24) (h : va_ W H q) : ar_ F W q ≤ 576 := by
  have h1 := aw_le F W (q / 32 % 24) (q / 32 / 24) (q % 32)
  have h2 := h.2.2
  exact Nat.mul_le_mul (show aw_ F W (q / 32 % 24) (q / 32 / 24) (q % 32) ≤ 24 by omega) (show q % 32 ≤ 24 by omega)
theorem fm_up {b p p' g q : Nat} (h : fm_ F W H b p g q) (hp : p ≤ p') (hn : ∀ q', p ≤ q' → q' < p' → va_ W H q' → ar_ F W q' ≤ g) : fm_ F W H b p' g q := by
  rcases h with ⟨h1, h2⟩ | ⟨h1, h2, h3, h4, h5, h6⟩
  · refine Or.inl ⟨h1, fun q' a1 a2 => ?_⟩
    rcases Nat.lt_or_ge q' p with z | z
    · exact h2 q' a1 z
    · rw [← h1]; exact hn q' z a2 a1
  · refine Or.inr ⟨h1, h2, by omega, h4, fun q' a1 a2 => ?_, h6⟩
    rcases Nat.lt_or_ge q' p with z | z
    · exact h5 q' a1 z
    · exact hn q' z a2 a1
theorem fm_new {b p g q : Nat} (h : fm_ F W H b p g q) (hv : va_ W H p) (hg : g < ar_ F W p) : fm_ F W H b (p + 1) (ar_ F W p) p := by
  have hb : b ≤ g := by
    rcases h with ⟨h1, _⟩ | ⟨h1, _⟩ <;> omega
  have ho : ∀ q', va_ W H q' → q' < p → ar_ F W q' ≤ g := by
    rcases h with ⟨h1, h2⟩ | ⟨h1, h2, h3, h4, h5, h6⟩
    · rw [h1]; exact h2
    · exact h5
  refine Or.inr ⟨by omega, hv, by omega, rfl, fun q' a1 a2 => ?_, fun q' a1 a2 => ?_⟩
  · by_cases hz : q' = p
    · rw [hz]; exact Nat.le_refl _
    · have := ho q' a1 (by omega)
      omega
  · have := ho q' a1 a2
    omega
/-- the state of the search for rectangle k -/
def c_S (F : Nat → Prop) (W H k p : Nat) (T S : zS) : Prop :=
  (∀ a, a < 21 ∨ 25 < a → S a = T a) ∧ (∀ j, j ≠ 8 → S 21 j = T 21 j) ∧ (∀ j, j ≠ k → S 22 j = T 22 j ∧ S 23 j = T 23 j ∧ S 24 j = T 24 j ∧ S 25 j = T 25 j) ∧
  ∃ g q, g ≤ 576 ∧ S 21 8 = jI (g : Nat) ∧ fm_ F W H 0 p g q ∧ (0 < g → S 22 k = jI (q / 32 % 24 : Nat) ∧ S 23 k = jI (q / 32 / 24 : Nat) ∧ S 24 k = jI (aw_ F W (q / 32 % 24) (q / 32 / 24) (q % 32) : Nat) ∧ S 25 k = jI (q % 32 : Nat))
theorem c_S_up {k p p' : Nat} {T S : zS} (h : c_S F W H k p T S) (hp : p ≤ p') (hn : ∀ q', p ≤ q' → q' < p' → ¬ va_ W H q') : c_S F W H k p' T S := by
  obtain ⟨h1, h2, h3, g, q, h4, h5, h6, h7⟩ := h
  exact ⟨h1, h2, h3, g, q, h4, h5, fm_up h6 hp (fun q' a1 a2 a3 => absurd a3 (hn q' a1 a2)), h7⟩
theorem m_growFrom {T S0 : zS} {post : zS → Prop} {k x y : Nat} (hW : W ≤ 24) (hH : H ≤ 24) (e6 : T 21 6 = jI W) (e7 : T 21 7 = jI H) (hk : k < 6) (hx : x < W) (hy : y < H) (hR : ∀ y x, y < H → x < W → T 26 (24 * y + x) = jI (rl_ F W y x : Nat))
    (hS0 : c_S F W H k (32 * (24 * y + x)) T S0) (h : ∀ S', c_S F W H k (32 * (24 * y + x + 1)) T S' → post S') : P_C_growFrom (jI k) (jI x) (jI y) S0 post := by
  unfold P_C_growFrom
  intro x6 e
  rw [hS0.2.1 6 (by omega), e6, jsn (by omega)] at e
  rw [e]
  have hu : ∀ d, d < 32 → (32 * (24 * y + x) + d) / 32 = 24 * y + x ∧ (32 * (24 * y + x) + d) % 32 = d := fun d hd => by omega
  have hm : (24 * y + x) % 24 = x := by omega
  have hd : (24 * y + x) / 24 = y := by omega
  refine lq2 (A := Nat) (B := Nat) (fun n ac dn S => L_C_growFrom_11 post (jI k) (jI x) (jI y) n (jI ac) (jI dn) S)
    (fun ac dn S => 1 ≤ dn ∧ dn ≤ H - y + 1 ∧ ac = aw_ F W x y (dn - 1) ∧ c_S F W H k (32 * (24 * y + x) + dn) T S) (fun _ dn _ => H - y + 1 - dn) ?_ (W - x) 1 S0 ⟨by omega, by omega, rfl, c_S_up hS0 (by omega) (fun q' a1 a2 a3 => by have := a3.1; omega)⟩
  rintro n ac dn S ⟨d1, d2, hac, hS⟩ ih
  have hS' := hS
  obtain ⟨s1, s2, s3, g, q, s4, s5, s6, s7⟩ := hS'
  have hacle := aw_le F W x y (dn - 1)
  rw [L_C_growFrom_11, s2 7 (by omega), e7, jsn (by omega), jn_lt (by omega) (by omega)]
  refine ⟨fun hz => h S (c_S_up hS (by omega) (fun q' a1 a2 a3 => ?_)), fun hz => ?_⟩
  · obtain ⟨v1, v2, v3⟩ := a3
    omega
  · have ei : (jI (y : Int) + jI (dn : Int) - 1) * 24 + jI (x : Int) = jI ((24 * (y + (dn - 1)) + x : Nat) : Int) := by
      rw [jan, jk1, jsn (by omega), jat]; congr 2; omega
    have hRv := hR (y + (dn - 1)) x (by omega) hx
    have hrle := rl_le F W (y + (dn - 1)) x
    rw [ei, jn_in (by omega), jn_ix (by omega), s1 26 (by omega), hRv]
    have ea : (if jI ((rl_ F W (y + (dn - 1)) x : Nat) : Int) < jI (ac : Int) then jI ((rl_ F W (y + (dn - 1)) x : Nat) : Int) else jI (ac : Int)) = jI ((aw_ F W x y dn : Nat) : Int) := by
      have ed : dn = dn - 1 + 1 := by omega
      have : aw_ F W x y dn = if rl_ F W (y + (dn - 1)) x < aw_ F W x y (dn - 1) then rl_ F W (y + (dn - 1)) x else aw_ F W x y (dn - 1) := by
        conv => lhs; rw [ed]
        rw [aw_]
      rw [this, ← hac]
      by_cases hl : rl_ F W (y + (dn - 1)) x < ac
      · rw [if_pos hl, if_pos ((jn_lt (by omega) (by omega)).mpr hl)]
      · rw [if_neg hl, if_neg (fun z => hl ((jn_lt (by omega) (by omega)).mp z))]
    rw [ea]
    refine ⟨by omega, fun x43 e43 => ?_⟩
    rw [e43, s5]
    have hale := aw_le F W x y dn
    have p1 : aw_ F W x y dn * (H - y) ≤ 576 := Nat.mul_le_mul (show aw_ F W x y dn ≤ 24 by omega) (show H - y ≤ 24 by omega)
    have p2 : aw_ F W x y dn * dn ≤ 576 := Nat.mul_le_mul (show aw_ F W x y dn ≤ 24 by omega) (show dn ≤ 24 by omega)
    have har : ar_ F W (32 * (24 * y + x) + dn) = aw_ F W x y dn * dn := by
      unfold ar_
      rw [(hu dn (by omega)).1, (hu dn (by omega)).2, hm, hd]
    have hva : va_ W H (32 * (24 * y + x) + dn) := by
      unfold va_
      rw [(hu dn (by omega)).1, (hu dn (by omega)).2, hm, hd]
      omega
    have e1 : dn + 1 - 1 = dn := by omega
    rw [jmn, jmn, jn_lt (by omega) (by omega), jn_le (by omega) (by omega)]
    refine ⟨fun hz2 => ⟨fun hz3 x113 e113 => ?_, fun hz3 S80 e80 => ?_⟩, fun hz2 => h S ⟨s1, s2, s3, g, q, s4, s5, fm_up s6 (by omega) (fun q' a1 a2 a3 => ?_), s7⟩⟩
    · rw [e113, jn1 dn]
      refine ih _ (dn + 1) S ⟨by omega, by omega, by rw [e1], s1, s2, s3, g, q, s4, s5, fm_up s6 (by omega) (fun q' a1 a2 a3 => ?_), s7⟩ (by omega)
      have : q' = 32 * (24 * y + x) + dn := by omega
      rw [this, har]; omega
    · rw [jn_in (by omega), jn_ix (by omega)]
      refine ⟨hk, fun S89 e89 => ⟨hk, fun S96 e96 => ⟨hk, fun S104 e104 => ⟨hk, fun S112 e112 x113 e113 => ?_⟩⟩⟩⟩
      rw [e113, jn1 dn]
      have o21 : S112 21 = upd (S 21) 8 (jI (aw_ F W x y dn * dn : Nat)) := by rw [e112, su_ne (by omega), e104, su_ne (by omega), e96, su_ne (by omega), e89, su_ne (by omega), e80, su_eq]
      have o22 : S112 22 = upd (S 22) k (jI x) := by rw [e112, su_ne (by omega), e104, su_ne (by omega), e96, su_ne (by omega), e89, su_eq, e80, su_ne (by omega)]
      have o23 : S112 23 = upd (S 23) k (jI y) := by rw [e112, su_ne (by omega), e104, su_ne (by omega), e96, su_eq, e89, su_ne (by omega), e80, su_ne (by omega)]
      have o24 : S112 24 = upd (S 24) k (jI (aw_ F W x y dn : Nat)) := by rw [e112, su_ne (by omega), e104, su_eq, e96, su_ne (by omega), e89, su_ne (by omega), e80, su_ne (by omega)]
      have o25 : S112 25 = upd (S 25) k (jI dn) := by rw [e112, su_eq, e104, su_ne (by omega), e96, su_ne (by omega), e89, su_ne (by omega), e80, su_ne (by omega)]
      refine ih _ (dn + 1) S112 ⟨by omega, by omega, by rw [e1], fun a ha => ?_, fun j hj => by rw [o21, up_ne hj]; exact s2 j hj, fun j hj => ?_, aw_ F W x y dn * dn, 32 * (24 * y + x) + dn, p2, by rw [o21, up_eq], ?_, fun _ => ?_⟩ (by omega)
      · rw [e112, su_ne (by omega), e104, su_ne (by omega), e96, su_ne (by omega), e89, su_ne (by omega), e80, su_ne (by omega)]; exact s1 a ha
      · rw [o22, o23, o24, o25, up_ne hj, up_ne hj, up_ne hj, up_ne hj]; exact s3 j hj
      · rw [← har]
        have hnew := fm_new (p := 32 * (24 * y + x) + dn) s6 hva (by rw [har]; omega)
        exact hnew
      · rw [o22, o23, o24, o25, up_eq, up_eq, up_eq, up_eq, (hu dn (by omega)).1, (hu dn (by omega)).2, hm, hd]
        exact ⟨rfl, rfl, rfl, rfl⟩
    · obtain ⟨v1, v2, v3⟩ := id a3
      have eq1 : q' / 32 = 24 * y + x := by omega
      have : ar_ F W q' ≤ aw_ F W x y dn * (H - y) := by
        unfold ar_
        rw [eq1, hm, hd]
        rw [eq1, hd] at v3
        exact Nat.mul_le_mul (aw_dn F W x y (by omega)) (by omega)
      omega
theorem m_findGreatest {T S0 : zS} {post : zS → Prop} {k : Nat} (hW : W ≤ 24) (hH : H ≤ 24) (e6 : T 21 6 = jI W) (e7 : T 21 7 = jI H) (hk : k < 6) (hR : ∀ y x, y < H → x < W → T 26 (24 * y + x) = jI (rl_ F W y x : Nat))
    (h : ∀ S', c_S F W H k 18432 T S' → post S') : P_C_findGreatest (jI k) T post := by
  unfold P_C_findGreatest
  intro S2 e2
  have h0 : c_S F W H k (32 * (24 * 0)) T S2 := ⟨fun a ha => by rw [e2, su_ne (by omega)], fun j hj => by rw [e2, su_eq, up_ne hj], fun j _ => by rw [e2, su_ne (by omega), su_ne (by omega), su_ne (by omega), su_ne (by omega)]; exact ⟨rfl, rfl, rfl, rfl⟩, 0, 0, by omega, by rw [e2, su_eq, up_eq]; rfl, Or.inl ⟨rfl, fun q' _ a2 => absurd a2 (by omega)⟩, fun z => absurd z (by omega)⟩
  refine lq1 (A := Nat) (fun n y S => L_C_findGreatest_7 post (jI k) n (jI y) S) (fun y S => y ≤ H ∧ c_S F W H k (32 * (24 * y)) T S) (fun y _ => H - y) ?_ 0 S2 ⟨by omega, h0⟩
  rintro n y S ⟨hy, hS⟩ ih
  rw [L_C_findGreatest_7, hS.2.1 7 (by omega), e7, jn_le (by omega) (by omega)]
  refine ⟨fun hz => h S (c_S_up hS (by omega) (fun q' a1 a2 a3 => ?_)), fun hz => ?_⟩
  · have := a3.2.2
    have := a3.1
    omega
  · refine lq1 (A := Nat) (fun n x S => L_C_findGreatest_17 post _ (jI k) (jI y) n (jI x) S) (fun x S => x ≤ W ∧ c_S F W H k (32 * (24 * y + x)) T S) (fun x _ => W - x) ?_ 0 S ⟨by omega, hS⟩
    rintro n2 x S' ⟨hx, hS'⟩ ih2
    rw [L_C_findGreatest_17, hS'.2.1 6 (by omega), e6, jn_le (by omega) (by omega)]
    refine ⟨fun hz2 x38 e38 => ?_, fun hz2 => ?_⟩
    · rw [e38, jn1]
      refine ih (y + 1) S' ⟨by omega, c_S_up hS' (by omega) (fun q' a1 a2 a3 => ?_)⟩ (by omega)
      have := a3.2.1
      omega
    · refine m_growFrom hW hH e6 e7 hk (by omega) (by omega) hR hS' (fun S'' hS'' x32 e32 => ?_)
      rw [e32, jn1 x]
      exact ih2 (x + 1) S'' ⟨by omega, hS''⟩ (by omega)
end YX
