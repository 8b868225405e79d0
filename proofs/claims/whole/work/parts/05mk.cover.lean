section YY
variable {F : Nat → Prop} {W H : Nat}
theorem m_measure {T : zS} {post : zS → Prop} (hW : W ≤ 24) (hH : H ≤ 24) (e6 : T 21 6 = jI W) (e7 : T 21 7 = jI H) (hF : ∀ u, F u ↔ T 3 u = 0)
    (h : ∀ S', (∀ a, a ≠ 26 → S' a = T a) → (∀ y x, y < H → x < W → S' 26 (24 * y + x) = jI (rl_ F W y x : Nat)) → post S') : P_C_measure T post := by
  unfold P_C_measure
  refine lq1 (A := Nat) (fun k y S => L_C_measure_2 post k (jI y) S) (fun y S => y ≤ H ∧ (∀ a, a ≠ 26 → S a = T a) ∧ ∀ y' x, y' < y → x < W → S 26 (24 * y' + x) = jI (rl_ F W y' x : Nat)) (fun y _ => H - y) ?_ 0 T ⟨by omega, fun _ _ => rfl, fun y' x z => absurd z (by omega)⟩
  rintro k y S ⟨hy, fr, hR⟩ ih
  rw [L_C_measure_2, fr 21 (by omega), e6, e7, jn_le (by omega) (by omega)]
  refine ⟨fun hz => h S fr (fun y' x a1 a2 => hR y' x (by omega) a2), fun hz x18 e18 => ?_⟩
  rw [jI_1, jI_sub] at e18
  rw [e18]
  refine lq2 (A := Nat) (B := Nat) (fun k fe j S => L_C_measure_20 post _ (jI y) k (jI fe) (jI ((j : Int) - 1)) S)
    (fun fe j S' => j ≤ W ∧ (∀ a, a ≠ 26 → S' a = T a) ∧ fe = rl_ F W y j ∧ (∀ y' x, y' < y → x < W → S' 26 (24 * y' + x) = jI (rl_ F W y' x : Nat)) ∧ ∀ x, j ≤ x → x < W → S' 26 (24 * y + x) = jI (rl_ F W y x : Nat)) (fun _ j _ => j) ?_ 0 W S ⟨by omega, fr, ?_, hR, fun x a1 a2 => absurd a2 (by omega)⟩
  · rintro k2 fe j S' ⟨hj, fr', hfe, hR', hR2⟩ ih2
    have hfl := rl_le F W y j
    rw [L_C_measure_20, jI_0, jI_lt (jS (by omega)) (jS (by omega))]
    refine ⟨fun hz2 x63 e63 => ?_, fun hz2 x32 e32 => ?_⟩
    · rw [e63, jn1]
      refine ih (y + 1) S' ⟨by omega, fr', fun y' x a1 a2 => ?_⟩ (by omega)
      by_cases hyy : y' = y
      · subst hyy; exact hR2 x (by omega) a2
      · exact hR' y' x (by omega) a2
    · have ei : jI (y : Int) * 24 + jI ((j : Int) - 1) = jI ((24 * y + (j - 1) : Nat) : Int) := by rw [jI_24, jI_mul, jI_add]; congr 1; omega
      rw [ei] at e32
      subst e32
      rw [jn_in (by omega), jn_ix (by omega), fr' 3 (by omega)]
      have go : ∀ v : Int32, v = jI (rl_ F W y (j - 1) : Nat) → J_C_measure_48 post (L_C_measure_20 post (fun S20e => ∀ x63 : Int32, x63 = jI y + 1 → L_C_measure_2 post k x63 S20e) (jI y) k2) (jI y) (jI ((j : Int) - 1)) (jI (24 * y + (j - 1) : Nat)) v S' := fun v hv => by
        unfold J_C_measure_48
        rw [jn_in (by omega), jn_ix (by omega)]
        refine ⟨by omega, fun S56 e56 x57 e57 => ?_⟩
        rw [e57, jI_m1, jI_add, hv]
        have ej : (j : Int) - 1 + -1 = ((j - 1 : Nat) : Int) - 1 := by omega
        rw [ej]
        refine ih2 _ (j - 1) S56 ⟨by omega, fun a ha => by rw [e56, su_ne ha]; exact fr' a ha, rfl, fun y' x a1 a2 => ?_, fun x a1 a2 => ?_⟩ (by omega)
        · rw [e56, su_eq, up_ne (by omega)]; exact hR' y' x a1 a2
        · rw [e56, su_eq]
          by_cases hxj : x = j - 1
          · rw [hxj, up_eq]; exact hv
          · rw [up_ne (by omega)]; exact hR2 x (by omega) a2
      have er : W - (j - 1) = (W - j) + 1 := by omega
      have eb : 24 * y + (j - 1) + 1 = 24 * y + j := by omega
      refine ⟨by omega, fun a => go _ ?_, fun a => go 0 ?_⟩
      · unfold rl_
        rw [er, rlA_1 ((hF _).mpr a), eb]
        rw [hfe, jn1]
        rfl
      · unfold rl_
        rw [er, rlA_0 (fun z => a ((hF _).mp z))]
        rfl
  · unfold rl_
    rw [show W - W = 0 by omega]
    rfl
/-- free of a rectangle too -/
def fx_ (F : Nat → Prop) (x0 y0 x1 y1 : Nat) (u : Nat) : Prop := F u ∧ ¬ inR x0 y0 x1 y1 u
theorem rl_in {x0 y0 x1 y1 y x : Nat} (hW : W ≤ 24) (h1 : x0 < x1) (h2 : x1 ≤ W) (hy : y0 ≤ y) (hy2 : y < y1) (hx : x < W) :
    rl_ (fx_ F x0 y0 x1 y1) W y x = if x < x0 then (if x0 - x < rl_ F W y x then x0 - x else rl_ F W y x) else if x < x1 then 0 else rl_ F W y x := by
  obtain ⟨g1, g2, g3⟩ := rlA_s F (W - x) (24 * y + x)
  have hin : ∀ t, x + t < W → (inR x0 y0 x1 y1 (24 * y + x + t) ↔ x0 ≤ x + t ∧ x + t < x1) := fun t ht => by
    unfold inR
    have e1 : (24 * y + x + t) % 24 = x + t := by omega
    have e2 : (24 * y + x + t) / 24 = y := by omega
    rw [e1, e2]; omega
  symm
  unfold rl_ fx_
  by_cases a1 : x < x0
  · rw [if_pos a1]
    by_cases a2 : x0 - x < rlA F (W - x) (24 * y + x)
    · rw [if_pos a2]
      refine rlA_u (by omega) (fun t ht => ⟨g2 t (by omega), fun z => ?_⟩) (Or.inr (fun z => z.2 ?_))
      · have := (hin t (by omega)).mp z; omega
      · exact (hin (x0 - x) (by omega)).mpr (by omega)
    · rw [if_neg a2]
      refine rlA_u g1 (fun t ht => ⟨g2 t ht, fun z => ?_⟩) ?_
      · have := (hin t (by omega)).mp z; omega
      · rcases g3 with w | w
        · exact Or.inl w
        · exact Or.inr (fun z => w z.1)
  · rw [if_neg a1]
    by_cases a2 : x < x1
    · rw [if_pos a2]
      refine rlA_u (by omega) (fun t ht => absurd ht (by omega)) (Or.inr (fun z => z.2 ?_))
      exact (hin 0 (by omega)).mpr (by omega)
    · rw [if_neg a2]
      refine rlA_u g1 (fun t ht => ⟨g2 t ht, fun z => ?_⟩) ?_
      · have := (hin t (by omega)).mp z; omega
      · rcases g3 with w | w
        · exact Or.inl w
        · exact Or.inr (fun z => w z.1)
theorem rl_out {x0 y0 x1 y1 y x : Nat} (hW : W ≤ 24) (hy : ¬ (y0 ≤ y ∧ y < y1)) : rl_ (fx_ F x0 y0 x1 y1) W y x = rl_ F W y x := by
  obtain ⟨g1, g2, g3⟩ := rlA_s F (W - x) (24 * y + x)
  symm
  unfold rl_ fx_
  refine rlA_u g1 (fun t ht => ⟨g2 t ht, fun z => ?_⟩) ?_
  · have h1 := z.2.2.1
    have h2 := z.2.2.2
    have e2 : (24 * y + x + t) / 24 = y := by omega
    rw [e2] at h1 h2
    omega
  · rcases g3 with w | w
    · exact Or.inl w
    · exact Or.inr (fun z => w z.1)
theorem m_block {T : zS} {post : zS → Prop} {k x0 y0 x1 y1 : Nat} (hW : W ≤ 24) (hH : H ≤ 24) (hk : k < 6) (h1 : x0 < x1) (h2 : x1 ≤ W) (h3 : y0 ≤ y1) (h4 : y1 ≤ H) (e22 : T 22 k = jI x0) (e23 : T 23 k = jI y0) (e24 : T 24 k = jI (x1 - x0 : Nat)) (e25 : T 25 k = jI (y1 - y0 : Nat))
    (hR : ∀ y x, y < H → x < W → T 26 (24 * y + x) = jI (rl_ F W y x : Nat))
    (h : ∀ S', (∀ a, a ≠ 26 → S' a = T a) → (∀ y x, y < H → x < W → S' 26 (24 * y + x) = jI (rl_ (fx_ F x0 y0 x1 y1) W y x : Nat)) → post S') : P_C_block (jI k) T post := by
  have vk : vp_in (jI (k : Int)) 6 := by rw [jn_in (by omega)]; exact hk
  have ik : z_ix (jI (k : Int)) = k := jn_ix (by omega)
  unfold P_C_block
  rw [ik, e22, e23, e24]
  refine ⟨vk, vk, fun x13 e13 => ⟨vk, fun x20 e20 => ?_⟩⟩
  have ex : jI (x0 : Int) + jI ((x1 - x0 : Nat) : Int) = jI (x1 : Int) := by rw [jan]; congr 2; omega
  have ey : jI (y0 : Int) + jI ((y1 - y0 : Nat) : Int) = jI (y1 : Int) := by rw [jan]; congr 2; omega
  rw [ex] at e13
  rw [e13, e20]
  refine lq1 (A := Nat) (fun n y S => L_C_block_21 post (jI k) (jI x1) n (jI y) S) (fun y S => y0 ≤ y ∧ y ≤ y1 ∧ (∀ a, a ≠ 26 → S a = T a) ∧ ∀ y' x, y' < H → x < W → S 26 (24 * y' + x) = jI ((if y0 ≤ y' ∧ y' < y then rl_ (fx_ F x0 y0 x1 y1) W y' x else rl_ F W y' x : Nat))) (fun y _ => y1 - y) ?_ y0 T ⟨by omega, h3, fun _ _ => rfl, fun y' x a1 a2 => by rw [if_neg (by omega)]; exact hR y' x a1 a2⟩
  rintro n y S ⟨hy, hy2, fr, hS⟩ ih
  rw [L_C_block_21, ik, fr 23 (by omega), fr 25 (by omega), fr 22 (by omega), e22, e23, e25, ey, jn_le (by omega) (by omega)]
  refine ⟨vk, vk, fun hz => h S fr (fun y' x a1 a2 => ?_), fun hz => ⟨vk, fun x44 e44 => ?_⟩⟩
  · rw [hS y' x a1 a2]
    by_cases hb : y0 ≤ y' ∧ y' < y
    · rw [if_pos hb]
    · rw [if_neg hb, rl_out hW (by omega)]
  · rw [e44]
    refine lq1 (A := Nat) (fun n x S' => L_C_block_46 post _ (jI k) (jI x1) (jI y) n (jI x) S') (fun x S' => x0 ≤ x ∧ x ≤ x1 ∧ (∀ a, a ≠ 26 → S' a = T a) ∧ (∀ x', x0 ≤ x' → x' < x → S' 26 (24 * y + x') = 0) ∧ ∀ u, (∀ x', x0 ≤ x' → x' < x → u ≠ 24 * y + x') → S' 26 u = S 26 u) (fun x _ => x1 - x) ?_ x0 S ⟨by omega, by omega, fr, fun x' a1 a2 => absurd a1 (by omega), fun _ _ => rfl⟩
    rintro n2 x S' ⟨hx, hx2, fr', q1, q2⟩ ih2
    rw [L_C_block_46, jn_le (by omega) (by omega)]
    refine ⟨fun hz2 => ?_, fun hz2 => ?_⟩
    · have exx : x = x1 := by omega
      subst exx
      rw [fr' 22 (by omega), e22]
      refine ⟨vk, ?_⟩
      unfold P_C_shortenBefore
      intro x3 e3
      rw [jI_1, jI_sub] at e3
      rw [e3]
      refine lq1 (A := Nat) (fun n j S'' => L_C_shortenBefore_4 _ (jI x0) (jI y) n (jI ((j : Int) - 1)) S'') (fun j S'' => j ≤ x0 ∧ (∀ a, a ≠ 26 → S'' a = T a) ∧ (∀ x', j ≤ x' → x' < x0 → S'' 26 (24 * y + x') = jI ((if x0 - x' < rl_ F W y x' then x0 - x' else rl_ F W y x' : Nat))) ∧ ∀ u, (∀ x', j ≤ x' → x' < x0 → u ≠ 24 * y + x') → S'' 26 u = S' 26 u) (fun j _ => j) ?_ x0 S' ⟨by omega, fr', fun x' a1 a2 => absurd a1 (by omega), fun _ _ => rfl⟩
      rintro n3 j S'' ⟨hj, fr'', q3, q4⟩ ih3
      rw [L_C_shortenBefore_4, jI_0, jI_lt (jS (by omega)) (jS (by omega))]
      refine ⟨fun hz3 x82 e82 => ?_, fun hz3 x14 e14 => ?_⟩
      · rw [e82, jn1]
        refine ih (y + 1) S'' ⟨by omega, by omega, fr'', fun y' x' a1 a2 => ?_⟩ (by omega)
        by_cases hyy : y' = y
        · subst hyy
          rw [if_pos (by omega), rl_in hW h1 h2 hy (by omega) a2]
          by_cases b1 : x' < x0
          · rw [if_pos b1]; exact q3 x' (by omega) b1
          · rw [if_neg b1, q4 _ (fun x'' c1 c2 => by omega)]
            by_cases b2 : x' < x
            · rw [if_pos b2, q1 x' (by omega) b2]; rfl
            · rw [if_neg b2, q2 _ (fun x'' c1 c2 => by omega), hS y' x' a1 a2, if_neg (by omega)]
        · rw [q4 _ (fun x'' c1 c2 => by omega), q2 _ (fun x'' c1 c2 => by omega), hS y' x' a1 a2]
          by_cases b : y0 ≤ y' ∧ y' < y
          · rw [if_pos b, if_pos (by omega)]
          · rw [if_neg b, if_neg (by omega)]
      · have ei : jI (y : Int) * 24 + jI ((j : Int) - 1) = jI ((24 * y + (j - 1) : Nat) : Int) := by rw [jI_24, jI_mul, jI_add]; congr 1; omega
        rw [ei] at e14
        subst e14
        rw [jn_in (by omega), jn_ix (by omega)]
        refine ⟨by omega, by omega, fun S35 e35 x36 e36 => ?_⟩
        have hrl := rl_le F W y (j - 1)
        have old : S'' 26 (24 * y + (j - 1)) = jI (rl_ F W y (j - 1) : Nat) := by
          rw [q4 _ (fun x'' c1 c2 => by omega), q2 _ (fun x'' c1 c2 => by omega), hS y (j - 1) (by omega) (by omega), if_neg (by omega)]
        have es : jI (x0 : Int) - jI ((j : Int) - 1) = jI ((x0 - (j - 1) : Nat) : Int) := by rw [jI_sub]; congr 1; omega
        have ev : (if jI (x0 : Int) - jI ((j : Int) - 1) < S'' 26 (24 * y + (j - 1)) then jI (x0 : Int) - jI ((j : Int) - 1) else S'' 26 (24 * y + (j - 1))) = jI ((if x0 - (j - 1) < rl_ F W y (j - 1) then x0 - (j - 1) else rl_ F W y (j - 1) : Nat)) := by
          rw [old, es]
          by_cases hl : x0 - (j - 1) < rl_ F W y (j - 1)
          · rw [if_pos hl, if_pos ((jn_lt (by omega) (by omega)).mpr hl)]
          · rw [if_neg hl, if_neg (fun z => hl ((jn_lt (by omega) (by omega)).mp z))]
        rw [ev] at e35
        have ej : (j : Int) - 1 + -1 = ((j - 1 : Nat) : Int) - 1 := by omega
        rw [e36, jI_m1, jI_add, ej]
        refine ih3 (j - 1) S35 ⟨by omega, fun a ha => by rw [e35, su_ne ha]; exact fr'' a ha, fun x' a1 a2 => ?_, fun u hu => ?_⟩ (by omega)
        · rw [e35, su_eq]
          by_cases hxj : x' = j - 1
          · rw [hxj, up_eq]
          · rw [up_ne (by omega)]; exact q3 x' (by omega) a2
        · rw [e35, su_eq, up_ne (hu (j - 1) (by omega) (by omega))]
          exact q4 u (fun x' c1 c2 => hu x' (by omega) c2)
    · rw [jat, jn_in (by omega), jn_ix (by omega)]
      refine ⟨by omega, fun S64 e64 x65 e65 => ?_⟩
      rw [e65, jn1 x]
      refine ih2 (x + 1) S64 ⟨by omega, by omega, fun a ha => by rw [e64, su_ne ha]; exact fr' a ha, fun x' a1 a2 => ?_, fun u hu => ?_⟩ (by omega)
      · rw [e64, su_eq]
        by_cases hxx : x' = x
        · rw [hxx, up_eq]
        · rw [up_ne (by omega)]; exact q1 x' a1 (by omega)
      · rw [e64, su_eq, up_ne (hu x (by omega) (by omega))]
        exact q2 u (fun x' c1 c2 => hu x' c1 (by omega))
end YY
