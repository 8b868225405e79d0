section YP
/-- in a gap of at most gap between two that have it -/
def gp_ (c : Nat → Prop) (n gap b : Nat) : Prop := ∃ i j, i < b ∧ b < j ∧ j < n ∧ c i ∧ c j ∧ (∀ t, i < t → t < j → ¬ c t) ∧ j ≤ i + 1 + gap
/-- ink: clean, or in a gap along its row or its column -/
def ik_ (C : Nat → Prop) (W H gx gy u : Nat) : Prop := C u ∨ gp_ (fun t => C (24 * (u / 24) + t)) W gx (u % 24) ∨ gp_ (fun t => C (24 * t + u % 24)) H gy (u / 24)
variable {W H : Nat}
theorem m_inGap {S : zS} {post : Int32 → zS → Prop} {fx fy : Int → Int} {dx dy : Int} {c : Nat → Prop} {n most b : Nat} (hW : W ≤ 24) (hH : H ≤ 24) (e1 : S 31 1 = jI W) (e2 : S 31 2 = jI H) (hn : n ≤ 24) (hb : b < n) (hmost : most ≤ 24)
    (hx : ∀ t, fx (t + 1) = fx t + dx) (hy : ∀ t, fy (t + 1) = fy t + dy) (hbx : ∀ t, -1 ≤ t → t ≤ 24 → -1 ≤ fx t ∧ fx t ≤ 24) (hby : ∀ t, -1 ≤ t → t ≤ 24 → -1 ≤ fy t ∧ fy t ≤ 24)
    (hs : ∀ t : Int, -1 ≤ t → t ≤ n → ((0 ≤ fx t ∧ fx t < W ∧ 0 ≤ fy t ∧ fy t < H) ↔ (0 ≤ t ∧ t < n))) (hc : ∀ t : Nat, t < n → S 34 (24 * fy t + fx t).toNat = bI (c t)) (hcb : ¬ c b)
    (h1 : gp_ c n most b → post 1 S) (h0 : ¬ gp_ c n most b → post 0 S) : P_M_inGap (jI (fx b)) (jI (fy b)) (jI dx) (jI dy) (jI most) S post := by
  unfold P_M_inGap
  have ev : ∀ t : Int, -1 ≤ t → t ≤ 24 → 24 * jI (fy t) + jI (fx t) = jI (24 * fy t + fx t) := fun t _ _ => by rw [jI_24, jI_mul, jI_add]
  refine lq1 (A := Int) (fun k t S' => L_M_inGap_6 post _ (jI dx) (jI dy) (jI most) k (jI (fx t)) (jI (fy t)) S')
    (fun t S' => S' = S ∧ -1 ≤ t ∧ t ≤ b ∧ ∀ s : Nat, t < s → s ≤ b → ¬ c s) (fun t _ => (t + 1).toNat) ?_ (b : Int) S ⟨rfl, by omega, by omega, fun s h1 h2 => absurd h1 (by omega)⟩
  rintro k t S' ⟨rfl, q1, q2, q3⟩ ih
  obtain ⟨bx1, bx2⟩ := hbx t q1 (by omega)
  obtain ⟨by1, by2⟩ := hby t q1 (by omega)
  have hst := hs t q1 (by omega)
  rw [L_M_inGap_6]
  refine m_isSample (jS (by omega)) (jS (by omega)) hW hH e1 e2 (fun a => ?_) (fun a => ?_)
  · refine ⟨fun z => absurd z (by decide), fun _ => ?_⟩
    have ht := hst.mp a
    obtain ⟨i, rfl⟩ := Int.eq_ofNat_of_zero_le ht.1
    have hi : i < n := by omega
    rw [ev _ (by omega) (by omega), jI_in (jS (by omega)), jI_ix (jS (by omega)), hc i hi]
    refine ⟨by omega, fun hz => ?_, fun hz x37 e37 x44 e44 => ?_⟩
    · have hci : c i := Classical.not_not.mp (fun w => hz (bI_0 w))
      have hib : i < b := by
        rcases Nat.lt_or_ge i b with w | w
        · exact w
        · have : i = b := by omega
          subst this
          exact absurd hci hcb
      unfold J_M_inGap_49
      refine m_isSample (jS (by omega)) (jS (by omega)) hW hH e1 e2 (fun a' => ?_) (fun a' => absurd a a')
      refine ⟨fun _ x69 e69 x76 e76 => ?_, fun z => absurd z (by decide)⟩
      rw [e69, e76, jI_add, jI_add, ← hx, ← hy]
      refine lq2 (A := Nat) (B := Nat) (fun k j cnt S' => L_M_inGap_78 post _ (jI dx) (jI dy) (jI most) k (jI (fx (j : Int))) (jI (fy (j : Int))) (jI (cnt : Nat)) S')
        (fun j cnt S'' => S'' = S' ∧ i < j ∧ j ≤ n ∧ cnt + i + 1 = j ∧ ∀ s : Nat, i < s → s < j → ¬ c s) (fun j _ _ => n - j) ?_ (i + 1) 0 S' ⟨rfl, by omega, by omega, by omega, fun s h1 h2 => absurd h1 (by omega)⟩
      rintro k2 j cnt S'' ⟨rfl, p1, p2, p3, p4⟩ ih2
      obtain ⟨bx1', bx2'⟩ := hbx (j : Int) (by omega) (by omega)
      obtain ⟨by1', by2'⟩ := hby (j : Int) (by omega) (by omega)
      have hsj := hs (j : Int) (by omega) (by omega)
      have uniq : ∀ i' j', i' < b → b < j' → j' < n → c i' → c j' → (∀ t, i' < t → t < j' → ¬ c t) → i' = i := fun i' j' a1 a2 a3 a4 a5 a6 => by
        rcases Nat.lt_trichotomy i' i with w | w | w
        · exact absurd hci (a6 i w (by omega))
        · exact w
        · exact absurd a4 (q3 i' (by omega) (by omega))
      rw [L_M_inGap_78]
      have fin : (c j ∧ j < n) ∨ j = n → J_M_inGap_124 post (jI most) (jI (fx (j : Int))) (jI (fy (j : Int))) (jI (cnt : Nat)) S'' := fun hfin => by
        unfold J_M_inGap_124
        refine m_isSample (jS (by omega)) (jS (by omega)) hW hH e1 e2 (fun d => ?_) (fun d => ?_)
        · have hj := hsj.mp d
          rcases hfin with ⟨w1, w2⟩ | w
          · have hbj : b < j := by
              rcases Nat.lt_or_ge b j with y | y
              · exact y
              · exact absurd w1 (q3 j (by omega) y)
            refine ⟨fun z => absurd z (by decide), fun _ => ?_⟩
            rw [jn_lt (by omega) (by omega)]
            refine ⟨fun z => h0 (fun ⟨i', j', a1, a2, a3, a4, a5, a6, a7⟩ => ?_), fun z => h1 ⟨i, j, hib, hbj, w2, hci, w1, p4, by omega⟩⟩
            have ei := uniq i' j' a1 a2 a3 a4 a5 a6
            subst ei
            rcases Nat.lt_trichotomy j' j with w | w | w
            · exact p4 j' (by omega) w a5
            · omega
            · exact a6 j (by omega) w w1
          · omega
        · refine ⟨fun _ => h0 (fun ⟨i', j', a1, a2, a3, a4, a5, a6, a7⟩ => ?_), fun z => absurd rfl z⟩
          have hjn : j = n := by
            rcases hfin with ⟨w1, w2⟩ | w
            · exact absurd (hsj.mpr ⟨by omega, by omega⟩) d
            · exact w
          have ei := uniq i' j' a1 a2 a3 a4 a5 a6
          subst ei
          exact p4 j' (by omega) (by omega) a5
      refine m_isSample (jS (by omega)) (jS (by omega)) hW hH e1 e2 (fun d => ?_) (fun d => ?_)
      · refine ⟨fun z => absurd z (by decide), fun _ => ?_⟩
        have hj := hsj.mp d
        have hj2 : j < n := by omega
        rw [ev _ (by omega) (by omega), jI_in (jS (by omega)), jI_ix (jS (by omega)), hc j hj2]
        refine ⟨by omega, fun hz => fin (Or.inl ⟨Classical.not_not.mp (fun w => hz (bI_0 w)), hj2⟩), fun hz x105 e105 x112 e112 x119 e119 => ?_⟩
        rw [bI_z] at hz
        rw [e105, e112, e119, jI_add, jI_add, ← hx, ← hy, jn1]
        refine ih2 (j + 1) (cnt + 1) S'' ⟨rfl, by omega, by omega, by omega, fun s h1 h2 => ?_⟩ (by omega)
        by_cases hsj2 : s = j
        · subst hsj2; exact hz
        · exact p4 s h1 (by omega)
      · refine ⟨fun _ => fin (Or.inr ?_), fun z => absurd rfl z⟩
        rcases Nat.lt_or_ge j n with y | y
        · exact absurd (hsj.mpr ⟨by omega, by omega⟩) d
        · omega
    · rw [bI_z] at hz
      have ex : fx (i : Int) - dx = fx ((i : Int) - 1) := by
        have := hx ((i : Int) - 1)
        rw [show (i : Int) - 1 + 1 = i by omega] at this
        omega
      have ey : fy (i : Int) - dy = fy ((i : Int) - 1) := by
        have := hy ((i : Int) - 1)
        rw [show (i : Int) - 1 + 1 = i by omega] at this
        omega
      rw [e37, e44, jI_sub, jI_sub, ex, ey]
      refine ih ((i : Int) - 1) S' ⟨rfl, by omega, by omega, fun s h1 h2 => ?_⟩ (by omega)
      by_cases hsi : s = i
      · subst hsi; exact hz
      · exact q3 s (by omega) h2
  · refine ⟨fun _ => ?_, fun z => absurd rfl z⟩
    have ht : t = -1 := by
      by_cases w : t < 0
      · omega
      · exact absurd (hst.mpr ⟨by omega, by omega⟩) a
    unfold J_M_inGap_49
    refine m_isSample (jS (by omega)) (jS (by omega)) hW hH e1 e2 (fun a' => absurd a' a) (fun a' => ?_)
    refine ⟨fun z => absurd rfl z, fun _ => h0 (fun ⟨i', j', a1, a2, a3, a4, a5, a6, a7⟩ => ?_)⟩
    exact q3 i' (by omega) (by omega) a4
theorem m_sizeOf {S : zS} {post : Int32 → zS → Prop} {v1 : Int32} (hW : W ≤ 24) (hH : H ≤ 24) (e1 : S 31 1 = jI W) (e2 : S 31 2 = jI H)
    (h : post (jI (cP (fun u => (u % 24 < W ∧ u / 24 < H) ∧ S 37 u = v1) 576 : Nat)) S) : P_M_sizeOf v1 S post := by
  unfold P_M_sizeOf
  refine lq2 (A := Nat) (B := Nat) (fun k n y S' => L_M_sizeOf_4 post v1 k (jI n) (jI y) S') (fun n y S' => S' = S ∧ y ≤ H ∧ n = cP (fun u => (u % 24 < W ∧ u / 24 < H) ∧ S 37 u = v1) (24 * y)) (fun _ y _ => H - y) ?_ 0 0 S ⟨rfl, by omega, rfl⟩
  rintro k n y S' ⟨rfl, hy, hn⟩ ih
  rw [L_M_sizeOf_4, e2, jn_le (by omega) (by omega)]
  refine ⟨fun hz => ?_, fun hz => ?_⟩
  · rw [hn, ← cP_s (a := 24 * y) (b := 576) (by omega) (fun i h1 h2 h3 => by have := h3.1.2; omega)]
    exact h
  · refine lq2 (A := Nat) (B := Nat) (fun k n x S'' => L_M_sizeOf_15 post _ v1 (jI y) k (jI n) (jI x) S'') (fun n x S'' => S'' = S' ∧ x ≤ W ∧ n = cP (fun u => (u % 24 < W ∧ u / 24 < H) ∧ S' 37 u = v1) (24 * y + x)) (fun _ x _ => W - x) ?_ n 0 S' ⟨rfl, by omega, hn⟩
    rintro k2 n2 x S'' ⟨rfl, hx, hn2⟩ ih2
    rw [L_M_sizeOf_15, e1, jn_le (by omega) (by omega)]
    refine ⟨fun hz2 x54 e54 => ?_, fun hz2 => ?_⟩
    · rw [e54, jn1 y]
      refine ih n2 (y + 1) S'' ⟨rfl, by omega, ?_⟩ (by omega)
      rw [hn2]
      exact (cP_s (by omega) (fun i h1 h2 h3 => by have := h3.1.1; omega)).symm
    · rw [jat', jn_in (by omega), jn_ix (by omega)]
      refine ⟨by omega, fun a x48 e48 => ?_, fun a x47 e47 x48 e48 => ?_⟩
      · rw [e48, jn1 x]
        exact ih2 n2 (x + 1) S'' ⟨rfl, by omega, by rw [hn2]; exact (cP_n (fun z => a z.2)).symm⟩ (by omega)
      · rw [e48, e47, jn1 x, jn1 n2]
        exact ih2 (n2 + 1) (x + 1) S'' ⟨rfl, by omega, by rw [hn2]; exact (cP_y ⟨⟨by omega, by omega⟩, a⟩).symm⟩ (by omega)
end YP
