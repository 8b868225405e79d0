section ZM
variable {lo hi : Nat → Nat → Nat} {c : Nat} {sq : Nat → Nat} {a b d A : Nat}
/-- the other side's row of parts -/
def oq_ (c : Nat) (S : zS) (sq : Nat → Nat) : Prop := (∀ x, x < c → S 44 x = jI (sq x : Nat) ∧ sq x < c) ∧ ∀ x y, x < y → y < c → sq x ≠ sq y
def sw_ (sq : Nat → Nat) (i j x : Nat) : Nat := if x = i then sq j else if x = j then sq i else sq x
theorem sw_1 (i j : Nat) : sw_ sq i j i = sq j := if_pos rfl
theorem sw_2 (i j : Nat) : sw_ sq i j j = sq i := by
  unfold sw_
  by_cases h : j = i
  · rw [if_pos h, h]
  · rw [if_neg h, if_pos rfl]
theorem sw_3 {i j x : Nat} (h : x ≠ i) (h2 : x ≠ j) : sw_ sq i j x = sq x := by
  unfold sw_
  rw [if_neg h, if_neg h2]
theorem sw_pm {i j : Nat} (h1 : a ≤ i) (h2 : i < b) (h3 : a ≤ j) (h4 : j < b) : pm_ a b sq (sw_ sq i j) := by
  refine ⟨fun x hx => sw_3 (by omega) (by omega), fun v => ⟨?_, ?_⟩⟩
  · rintro ⟨x, x1, x2, x3⟩
    by_cases w : x = i
    · subst w; rw [sw_1] at x3; exact ⟨j, h3, h4, x3⟩
    · by_cases w2 : x = j
      · subst w2; rw [sw_2] at x3; exact ⟨i, h1, h2, x3⟩
      · rw [sw_3 w w2] at x3; exact ⟨x, x1, x2, x3⟩
  · rintro ⟨x, x1, x2, x3⟩
    by_cases w : x = i
    · subst w; exact ⟨j, h3, h4, by rw [sw_2]; exact x3⟩
    · by_cases w2 : x = j
      · subst w2; exact ⟨i, h1, h2, by rw [sw_1]; exact x3⟩
      · exact ⟨x, x1, x2, by rw [sw_3 w w2]; exact x3⟩
theorem sw_in {i j : Nat} (hi : i < c) (hj : j < c) (h : ∀ x y, x < y → y < c → sq x ≠ sq y) : ∀ x y, x < y → y < c → sw_ sq i j x ≠ sw_ sq i j y := by
  have h' : ∀ x y, x < c → y < c → x ≠ y → sq x ≠ sq y := fun x y hx hy hn => by
    rcases Nat.lt_or_gt_of_ne hn with w | w
    · exact h x y w hy
    · exact fun e => h y x w hx e.symm
  intro x y hxy hy
  by_cases w : x = i
  · subst w
    rw [sw_1]
    by_cases w2 : y = j
    · subst w2; rw [sw_2]; exact h' _ _ hy (by omega) (by omega)
    · rw [sw_3 (by omega) w2]; exact h' _ _ hj hy (fun e => w2 e.symm)
  · by_cases w1 : x = j
    · subst w1
      rw [sw_2]
      by_cases w2 : y = i
      · subst w2; rw [sw_1]; exact h' _ _ hy (by omega) (by omega)
      · rw [sw_3 w2 (by omega)]; exact h' _ _ hi hy (fun e => w2 e.symm)
    · rw [sw_3 w w1]
      by_cases w2 : y = i
      · subst w2; rw [sw_1]; exact h' _ _ (by omega) hj w1
      · by_cases w3 : y = j
        · subst w3; rw [sw_2]; exact h' _ _ (by omega) hi w
        · rw [sw_3 w2 w3]; exact h x y hxy hy
theorem m_swap {S : zS} {post : zS → Prop} {i j : Nat} (hc : c ≤ 288) (hi : i < c) (hj : j < c) (hq : oq_ c S sq) (h : ∀ S', (∀ k, k ≠ 44 → S' k = S k) → oq_ c S' (sw_ sq i j) → post S') : P_M_swap (jI (i : Nat)) (jI (j : Nat)) S post := by
  unfold P_M_swap
  rw [jn_in (by omega), jn_in (by omega), jn_ix (by omega), jn_ix (by omega), (hq.1 i hi).1, (hq.1 j hj).1]
  refine ⟨by omega, fun x6 e6 => ⟨by omega, by omega, fun S18 e18 => ⟨by omega, fun S25 e25 => h S25 (fun k hk => by rw [e25, su_ne hk, e18, su_ne hk]) ⟨fun x hx => ?_, sw_in hi hj hq.2⟩⟩⟩⟩
  rw [e25, su_eq, e18, su_eq, e6]
  by_cases w2 : x = j
  · subst w2; rw [up_eq, sw_2]; exact ⟨rfl, (hq.1 i hi).2⟩
  · rw [up_ne w2]
    by_cases w : x = i
    · subst w; rw [up_eq, sw_1]; exact ⟨rfl, (hq.1 j hj).2⟩
    · rw [up_ne w, sw_3 w w2]; exact hq.1 x hx
theorem m_MisBefore {S : zS} {post : Int32 → zS → Prop} {i j : Nat} (hc : c ≤ 288) (hb24 : ∀ d k, lo d k < 24) (hi : i < c) (hj : j < c) {hi' : Nat → Nat → Nat} (hb : rb_ lo hi' c S) (h0 : ¬ bf_ lo i j → post 0 S) (h1 : bf_ lo i j → post 1 S) : P_M_isBefore (jI (i : Nat)) (jI (j : Nat)) S post := by
  have a1 := hb24 1 i
  have a2 := hb24 1 j
  have a3 := hb24 0 i
  have a4 := hb24 0 j
  unfold P_M_isBefore
  unfold bf_ at h0 h1
  rw [jn_in (by omega), jn_in (by omega), jn_ix (by omega), jn_ix (by omega), hb.1 i hi, hb.1 j hj, hb.2.1 i hi, hb.2.1 j hj, jn_eq (by omega) (by omega), jn_eq (by omega) (by omega), jn_le (by omega) (by omega), jn_le (by omega) (by omega), jn_le (by omega) (by omega)]
  refine ⟨by omega, by omega, fun z => ⟨by omega, by omega, fun z2 => ⟨fun z3 => h0 (by omega), fun z3 => h1 (by omega)⟩, fun z2 => ⟨by omega, by omega, fun z3 => h0 (by omega), fun z3 => h1 (by omega)⟩⟩, fun z => ⟨by omega, by omega, fun z3 => h0 (by omega), fun z3 => h1 (by omega)⟩⟩
theorem rb_f {S S' : zS} (h : rb_ lo hi c S) (hf : ∀ k, k ≠ 44 → S' k = S k) : rb_ lo hi c S' := by
  unfold rb_ at *
  rw [hf 39 (by omega), hf 40 (by omega), hf 41 (by omega), hf 42 (by omega)]
  exact h
theorem m_Msort {S : zS} {post : zS → Prop} (hc : c ≤ 288) (hb24 : ∀ d k, lo d k < 24) (hb : rb_ lo hi c S) (hab : a ≤ b) (hbc : b ≤ c) (hq : oq_ c S sq) (h : ∀ (S' : zS) (sq' : Nat → Nat), (∀ k, k ≠ 44 → S' k = S k) → oq_ c S' sq' → pm_ a b sq sq' → sr_ lo sq' a b → post S') : P_M_sort (jI (a : Nat)) (jI (b : Nat)) S post := by
  unfold P_M_sort
  refine lq1 (A := Nat) (fun n x S' => L_M_sort_2 post (jI (a : Nat)) (jI (b : Nat)) n (jI (x : Nat)) S') (fun x S' => a ≤ x ∧ x ≤ b ∧ (∀ k, k ≠ 44 → S' k = S k) ∧ ∃ sq', oq_ c S' sq' ∧ pm_ a b sq sq' ∧ sr_ lo sq' a x) (fun x _ => b - x) ?_ a S ⟨Nat.le_refl a, hab, fun _ _ => rfl, sq, hq, pm_r _ _ _, fun u v h1 h2 h3 => by omega⟩
  rintro n x S' ⟨hax, hxb, fr, sq', hq', hpm, hsr⟩ ih
  rw [L_M_sort_2, jn_le (by omega) (by omega)]
  refine ⟨fun hz => ?_, fun hz => ?_⟩
  · have : x = b := by omega
    subst this
    exact h S' sq' fr hq' hpm hsr
  · refine lq1 (A := Nat) (fun n y S' => L_M_sort_10 post _ (jI (a : Nat)) (jI (b : Nat)) (jI (x : Nat)) n (jI (y : Nat)) S') (fun y S' => a ≤ y ∧ y ≤ x ∧ (∀ k, k ≠ 44 → S' k = S k) ∧ ∃ sq', oq_ c S' sq' ∧ pm_ a b sq sq' ∧ ∀ u v, a ≤ u → u < v → v < x + 1 → v ≠ y → bf_ lo (sq' u) (sq' v)) (fun y _ => y) ?_ x S' ⟨hax, Nat.le_refl x, fr, sq', hq', hpm, fun u v h1 h2 h3 h4 => hsr u v h1 h2 (by omega)⟩
    rintro n2 y S2 ⟨hay, hyx, fr2, sq2, hq2, hpm2, hso⟩ ih2
    rw [L_M_sort_10, jn_le (by omega) (by omega)]
    have out : (∀ u v, a ≤ u → u < v → v < x + 1 → bf_ lo (sq2 u) (sq2 v)) → ∀ x55 : Int32, x55 = jI (x : Nat) + 1 → L_M_sort_2 post (jI (a : Nat)) (jI (b : Nat)) n x55 S2 := fun hs x55 e => by
      rw [e, jn1]
      exact ih (x + 1) S2 ⟨by omega, by omega, fr2, sq2, hq2, hpm2, hs⟩ (by omega)
    refine ⟨fun hz2 => out (fun u v h1 h2 h3 => hso u v h1 h2 h3 (by omega)), fun hz2 => ?_⟩
    obtain ⟨z, rfl⟩ : ∃ z, y = z + 1 := ⟨y - 1, by omega⟩
    have ey : jI ((z + 1 : Nat) : Int) - 1 = jI (z : Nat) := by rw [jI_1, jI_sub]; congr 1; omega
    rw [ey, jn_in (by omega), jn_in (by omega), jn_ix (by omega), jn_ix (by omega), (hq2.1 (z + 1) (by omega)).1, (hq2.1 z (by omega)).1]
    refine ⟨by omega, by omega, m_MisBefore (lo := lo) (c := c) (hi' := hi) hc hb24 (hq2.1 (z + 1) (by omega)).2 (hq2.1 z (by omega)).2 (rb_f hb fr2) (fun hn => ⟨fun _ => out (fun u v h1 h2 h3 => ?_), fun w => absurd rfl w⟩) (fun hy => ⟨fun w => absurd w (by decide), fun _ => ?_⟩)⟩
    · by_cases w : v = z + 1
      · subst w
        have hb1 := bf_to (fun e => hq2.2 z (z + 1) (by omega) (by omega) e.symm) hn
        by_cases w2 : u = z
        · subst w2; exact hb1
        · exact bf_tr (hso u z h1 (by omega) (by omega) (by omega)) hb1
      · exact hso u v h1 h2 h3 w
    · refine m_swap hc (by omega) (by omega) hq2 (fun S3 f3 hq3 x49 e49 => ?_)
      rw [e49, jm1]
      refine ih2 z S3 ⟨by omega, by omega, fun k hk => by rw [f3 k hk, fr2 k hk], _, hq3, pm_t hpm2 (sw_pm (by omega) (by omega) (by omega) (by omega)), fun u v h1 h2 h3 h4 => ?_⟩ (by omega)
      by_cases w : v = z + 1
      · subst w
        rw [sw_1]
        by_cases w2 : u = z
        · subst w2; rw [sw_2]; exact hy
        · rw [sw_3 (by omega) w2]; exact hso u z h1 (by omega) (by omega) (by omega)
      · rw [sw_3 w h4]
        by_cases w2 : u = z
        · subst w2; rw [sw_2]; exact hso (u + 1) v (by omega) (by omega) h3 w
        · by_cases w3 : u = z + 1
          · subst w3; rw [sw_1]; exact hso z v (by omega) (by omega) h3 w
          · rw [sw_3 w3 w2]; exact hso u v h1 h2 h3 w
end ZM
