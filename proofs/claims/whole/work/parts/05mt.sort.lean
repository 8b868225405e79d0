section ZH
variable {lo hi : Nat → Nat → Nat} {sq : Nat → Nat} {c a b : Nat}
theorem m_RisBefore {S : zS} {post : Int32 → zS → Prop} {i j : Nat} (hc : c ≤ 288) (hi' : i < c) (hj : j < c) (hb : ∀ d k, lo d k < 24) (h7 : ∀ k, k < c → S 7 k = jI (lo 0 k : Nat)) (h8 : ∀ k, k < c → S 8 k = jI (lo 1 k : Nat)) (h1 : bf_ lo i j → post 1 S) (h0 : ¬ bf_ lo i j → post 0 S) : P_R_isBefore (jI i) (jI j) S post := by
  unfold P_R_isBefore
  have b1 := hb 1 i
  have b2 := hb 1 j
  have b3 := hb 0 i
  have b4 := hb 0 j
  rw [jn_in (by omega), jn_in (by omega), jn_ix (by omega), jn_ix (by omega), h7 i hi', h7 j hj, h8 i hi', h8 j hj, jn_eq (by omega) (by omega), jn_eq (by omega) (by omega), jn_le (by omega) (by omega), jn_le (by omega) (by omega), jn_le (by omega) (by omega)]
  unfold bf_ at h1 h0
  exact ⟨by omega, by omega, fun x => ⟨by omega, by omega, fun y => ⟨fun z => h0 (by omega), fun z => h1 (by omega)⟩, fun y => ⟨by omega, by omega, fun z => h0 (by omega), fun z => h1 (by omega)⟩⟩, fun x => ⟨by omega, by omega, fun z => h0 (by omega), fun z => h1 (by omega)⟩⟩
theorem m_sortByBoxes {T : zS} {post : zS → Prop} (hc : c ≤ 288) (hb : ∀ d k, lo d k < 24) (e6 : T 5 6 = jI c) (h7 : ∀ k, k < c → T 7 k = jI (lo 0 k : Nat)) (h8 : ∀ k, k < c → T 8 k = jI (lo 1 k : Nat))
    (h : ∀ S' sq, (∀ i, i ≠ 28 → S' i = T i) → (∀ x, x < c → S' 28 x = jI (sq x : Nat) ∧ sq x < c) → sr_ lo sq 0 c → (∀ v, v < c → ∃ x, x < c ∧ sq x = v) → post S') : P_R_sortByBoxes T post := by
  unfold P_R_sortByBoxes
  refine lq1 (A := Nat) (fun n k S => L_R_sortByBoxes_2 post n (jI k) S) (fun k S => k ≤ c ∧ (∀ i, i ≠ 28 → S i = T i) ∧ ∃ sq : Nat → Nat, (∀ x, x < k → S 28 x = jI (sq x : Nat) ∧ sq x < k) ∧ sr_ lo sq 0 k ∧ ∀ v, v < k → ∃ x, x < k ∧ sq x = v) (fun k _ => c - k) ?_ 0 T ⟨by omega, fun _ _ => rfl, fun _ => 0, fun x hx => absurd hx (by omega), fun x y _ _ hy => absurd hy (by omega), fun v hv => absurd hv (by omega)⟩
  rintro n k S ⟨hk, fr, sq, hq, hsr, hsu⟩ ih
  rw [L_R_sortByBoxes_2, fr 5 (by omega), e6, jn_le (by omega) (by omega)]
  refine ⟨fun hz => ?_, fun hz => ?_⟩
  · have ek : k = c := by omega
    subst ek
    exact h S sq fr hq hsr hsu
  · refine lq1 (A := Nat) (fun n p S' => L_R_sortByBoxes_12 post _ (jI k) n (jI p) S') (fun p S' => p ≤ k ∧ (∀ i, i ≠ 28 → S' i = T i) ∧ (∀ x, x < p → S' 28 x = jI (sq x : Nat)) ∧ (∀ x, p < x → x ≤ k → S' 28 x = jI (sq (x - 1) : Nat)) ∧ ∀ x, p ≤ x → x < k → bf_ lo k (sq x)) (fun p _ => p) ?_ k S ⟨by omega, fr, fun x hx => (hq x hx).1, fun x h1 h2 => absurd h1 (by omega), fun x h1 h2 => absurd h1 (by omega)⟩
    rintro n2 p S' ⟨hp, fr', q1, q2, q3⟩ ih2
    have fin : (p = 0 ∨ ¬ bf_ lo k (sq (p - 1))) → J_R_sortByBoxes_52 post (L_R_sortByBoxes_2 post n) (jI k) (jI p) S' := fun hstop => by
      unfold J_R_sortByBoxes_52
      rw [jn_in (by omega), jn_ix (by omega)]
      refine ⟨by omega, fun S58 e58 x59 e59 => ?_⟩
      rw [e59, jn1]
      have hbk : ∀ x, x < p → bf_ lo (sq x) k := fun x hx => by
        rcases hstop with z | z
        · omega
        · have h1 : bf_ lo (sq (p - 1)) k := bf_to (by have := (hq (p - 1) (by omega)).2; omega) z
          by_cases hxp : x = p - 1
          · rw [hxp]; exact h1
          · exact bf_tr (hsr x (p - 1) (by omega) (by omega) (by omega)) h1
      refine ih (k + 1) S58 ⟨by omega, fun i hi' => by rw [e58, su_ne hi']; exact fr' i hi', fun x => if x < p then sq x else if x = p then k else sq (x - 1), fun x hx => ?_, fun x y _ hxy hy => ?_, fun v hv => ?_⟩ (by omega)
      · rw [e58, su_eq]
        by_cases h1 : x < p
        · simp only [h1, if_true]
          rw [up_ne (by omega), q1 x h1]
          exact ⟨rfl, by have := (hq x (by omega)).2; omega⟩
        · by_cases h2 : x = p
          · simp only [h1, h2, if_false, if_true]
            subst h2
            rw [up_eq]
            simp
          · simp only [h1, h2, if_false]
            rw [up_ne h2, q2 x (by omega) (by omega)]
            exact ⟨rfl, by have := (hq (x - 1) (by omega)).2; omega⟩
      · show bf_ lo (if x < p then sq x else if x = p then k else sq (x - 1)) (if y < p then sq y else if y = p then k else sq (y - 1))
        by_cases h1 : x < p
        · rw [if_pos h1]
          by_cases h2 : y < p
          · rw [if_pos h2]; exact hsr x y (by omega) hxy (by omega)
          · rw [if_neg h2]
            by_cases h3 : y = p
            · rw [if_pos h3]; exact hbk x h1
            · rw [if_neg h3]; exact hsr x (y - 1) (by omega) (by omega) (by omega)
        · rw [if_neg h1]
          have h2 : ¬ y < p := by omega
          have h3 : ¬ y = p := by omega
          rw [if_neg h2, if_neg h3]
          by_cases h4 : x = p
          · rw [if_pos h4]; exact q3 (y - 1) (by omega) (by omega)
          · rw [if_neg h4]; exact hsr (x - 1) (y - 1) (by omega) (by omega) (by omega)
      · by_cases hvk : v = k
        · exact ⟨p, by omega, by simp [hvk]⟩
        · obtain ⟨x, x1, x2⟩ := hsu v (by omega)
          by_cases hxp : x < p
          · exact ⟨x, by omega, by simp only [hxp, if_true]; exact x2⟩
          · refine ⟨x + 1, by omega, ?_⟩
            have h1 : ¬ x + 1 < p := by omega
            have h2 : ¬ x + 1 = p := by omega
            simp only [h1, h2, if_false]
            exact x2
    have jp0 : jI (p : Int) ≤ 0 ↔ p = 0 := by rw [jn0, jn_le (by omega) (by omega)]; omega
    rw [L_R_sortByBoxes_12, jp0]
    refine ⟨fun z => fin (Or.inl z), fun z => ?_⟩
    have ep : jI (p : Int) - 1 = jI ((p - 1 : Nat) : Int) := by rw [jk1, jsn (by omega)]
    have hqp := hq (p - 1) (by omega)
    rw [ep, jn_in (by omega), jn_ix (by omega), q1 (p - 1) (by omega)]
    refine ⟨by omega, m_RisBefore hc (by omega) (by omega) hb (fun k hk => by rw [fr' 7 (by omega)]; exact h7 k hk) (fun k hk => by rw [fr' 8 (by omega)]; exact h8 k hk) (fun hbf => ⟨fun y => absurd y (by decide), fun _ => ?_⟩) (fun hbf => ⟨fun _ => fin (Or.inr hbf), fun y => absurd rfl y⟩)⟩
    rw [jn_in (by omega), jn_ix (by omega), q1 (p - 1) (by omega)]
    refine ⟨by omega, by omega, fun S45 e45 x46 e46 => ?_⟩
    have em : jI (p : Int) + -1 = jI ((p - 1 : Nat) : Int) := by rw [jI_m1, jI_add]; congr 1; omega
    rw [e46, em]
    refine ih2 (p - 1) S45 ⟨by omega, fun i hi' => by rw [e45, su_ne hi']; exact fr' i hi', fun x hx => by rw [e45, su_eq, up_ne (by omega)]; exact q1 x (by omega), fun x h1 h2 => ?_, fun x h1 h2 => ?_⟩ (by omega)
    · rw [e45, su_eq]
      by_cases hxp : x = p
      · rw [hxp, up_eq]
      · rw [up_ne hxp]; exact q2 x (by omega) h2
    · by_cases hxp : x = p - 1
      · rw [hxp]; exact hbf
      · exact q3 x (by omega) h2
end ZH
