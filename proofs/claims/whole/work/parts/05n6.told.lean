section ZV
variable {W H : Nat} {S : zS} {post : Int32 → zS → Prop}
theorem l1_ {a : Int} (ha : jR a) : jI a < 1 ↔ a < 1 := by rw [jI_1, jI_lt ha (jS (by omega))]
theorem g1_ {a : Int} (ha : jR a) : 1 ≤ jI a ↔ 1 ≤ a := by rw [jI_1, jI_le (jS (by omega)) ha]
/-- where a fill ends -/
theorem f_end {a W : Nat} {w : Int} (hW : W ≤ 24) (ha : a < W) (jw : jR w) (hw : 1 ≤ w) : ∃ x1 : Nat, a < x1 ∧ x1 ≤ W ∧ (∀ t : Nat, a ≤ t → (t < x1 ↔ t < W ∧ (t : Int) - a < w)) ∧ jI (a : Nat) + (if (jI (W : Nat) - jI (a : Nat)) < jI w then (jI (W : Nat) - jI (a : Nat)) else jI w) = jI (x1 : Nat) := by
  rw [jI_sub]
  by_cases h : (W : Int) - a < w
  · refine ⟨W, ha, by omega, fun t ht => by omega, ?_⟩
    rw [if_pos ((jI_lt (jS (by omega)) jw).mpr h), jI_add]; congr 1; omega
  · refine ⟨a + w.toNat, by omega, by omega, fun t ht => by omega, ?_⟩
    rw [if_neg (fun z => h ((jI_lt (jS (by omega)) jw).mp z)), jI_add]; congr 1; omega
theorem q_fill {v1 v2 v3 v4 v5 : Int32} (hv : z_bo v5) (hR : rR W H S) (h : ∀ r S1, aL W H (P_M_fill v1 v2 v3 v4 v5) r S1 → post r S1) : P_L_fill v1 v2 v3 v4 v5 S post := by
  obtain ⟨x, hx, rfl⟩ := jx_ v1
  obtain ⟨y, hy, rfl⟩ := jx_ v2
  obtain ⟨w, hw, rfl⟩ := jx_ v3
  obtain ⟨t, ht, rfl⟩ := jx_ v4
  obtain ⟨nz, hB, e5, hbo, hP⟩ := id hR
  obtain ⟨⟨hW0, hW, hH0, hH, hnz⟩, ⟨a1, a2, a3, a4⟩, -, ⟨b1, b2, b3⟩, ⟨c1, c2⟩, -⟩ := id hB
  unfold P_L_fill X_P_fill P_P_fill
  -- the other side's ways
  have hM : ∀ (T : zS) (Q : Int32 → zS → Prop), T 31 1 = jI (W : Nat) → T 31 2 = jI (H : Nat) → (∀ r4 : Int32, (r4 = 1 ∧ (0 ≤ x ∧ x < W ∧ 0 ≤ y ∧ y < H)) ∨ (r4 = 0 ∧ ¬ (0 ≤ x ∧ x < W ∧ 0 ≤ y ∧ y < H)) → (¬ (1 ≤ w ∧ 1 ≤ t) → J_M_fill_23 Q (jI x) (jI y) (jI w) (jI t) v5 0 r4 T) ∧ (1 ≤ w ∧ 1 ≤ t → J_M_fill_23 Q (jI x) (jI y) (jI w) (jI t) v5 1 r4 T)) → P_M_fill (jI x) (jI y) (jI w) (jI t) v5 T Q := fun T Q d1 d2 hk => by
    unfold P_M_fill J_M_fill_22
    rw [l1_ hw, l1_ ht]
    have k : ∀ r4 : Int32, (r4 = 1 ∧ (0 ≤ x ∧ x < W ∧ 0 ≤ y ∧ y < H)) ∨ (r4 = 0 ∧ ¬ (0 ≤ x ∧ x < W ∧ 0 ≤ y ∧ y < H)) → (w < 1 → J_M_fill_23 Q (jI x) (jI y) (jI w) (jI t) v5 0 r4 T) ∧ (¬ w < 1 → (t < 1 → J_M_fill_23 Q (jI x) (jI y) (jI w) (jI t) v5 0 r4 T) ∧ (¬ t < 1 → J_M_fill_23 Q (jI x) (jI y) (jI w) (jI t) v5 1 r4 T)) := fun r4 h4 => ⟨fun z => (hk r4 h4).1 (by omega), fun z => ⟨fun z2 => (hk r4 h4).1 (by omega), fun z2 => (hk r4 h4).2 (by omega)⟩⟩
    exact m_isSample hx hy hW hH d1 d2 (fun z => k 1 (Or.inl ⟨rfl, z⟩)) (fun z => k 0 (Or.inr ⟨rfl, z⟩))
  by_cases hs : 0 ≤ x ∧ x < W ∧ 0 ≤ y ∧ y < H
  · by_cases hwt : 1 ≤ w ∧ 1 ≤ t
    · refine Or.inr (p_sam hx hy hW hH a1 a2 hs ?_)
      rw [l1_ hw, g1_ ht]
      refine ⟨fun z => by omega, fun _ => ⟨fun _ S29 e29 => ?_, fun z => by omega⟩⟩
      have f29 : ∀ a, a ≠ 0 → S29 a = S a := fun a ha => by rw [e29, su_ne ha]
      have f290 : ∀ j, j ≠ 14 → S29 0 j = S 0 j := fun j hj => by rw [e29, su_eq, up_ne hj]
      obtain ⟨m, rfl⟩ := Int.eq_ofNat_of_zero_le hs.1
      obtain ⟨q, rfl⟩ := Int.eq_ofNat_of_zero_le hs.2.2.1
      obtain ⟨x1, x1a, x1b, x1c, x1d⟩ := f_end (a := m) hW (by omega) hw hwt.1
      obtain ⟨y1, y1a, y1b, y1c, y1d⟩ := f_end (a := q) hH (by omega) ht hwt.2
      rw [f290 0 (by omega), f290 1 (by omega), a1, a2, x1d, y1d]
      intro x44 e44 x59 e59
      rw [e44, e59]
      refine m_PfillL (W := W) (H := H) (x0 := m) (y0 := q) hW hH x1a y1a x1b y1b rfl hv (fun u => by rw [f29 1 (by omega)]; exact c1 u) (by rw [f29 1 (by omega), f290 10 (by omega)]; exact a4) (fun S11 f11 f110 e1 e10 => ?_)
      rw [f29 1 (by omega)] at e1 ⊢
      refine ⟨v01, fun S15 e15 => h 0 S15 (fun Q hQ => ?_)⟩
      have e15' : S15 = z_su S11 50 0 (jI (cP (fun u => inR m q x1 y1 u ∧ ¬ S 1 u = v5) 576 : Nat)) := e15
      have f15 : ∀ a, a ≠ 50 → S15 a = S11 a := fun a ha => by rw [e15', su_ne ha]
      have g : ∀ a, a ≠ 0 → a ≠ 1 → a ≠ 50 → S15 a = S a := fun a h0 h1 h2 => by rw [f15 a h2, f11 a h0 h1, f29 a h0]
      refine hM S15 Q (by rw [g 31 (by omega) (by omega) (by omega)]; exact b1) (by rw [g 31 (by omega) (by omega) (by omega)]; exact b2) (fun r4 h4 => ⟨fun z => absurd hwt z, fun _ => ?_⟩)
      have hr4 : r4 = 1 := by
        rcases h4 with z | z
        · exact z.1
        · exact absurd hs z.2
      rw [hr4]
      unfold J_M_fill_23
      refine m_goes (fun z => absurd z n0_) (fun _ z => absurd z n0_) (fun _ _ z => absurd z n0_) (fun _ _ _ => ⟨fun _ => ?_, fun z => absurd z n0_⟩)
      have k32 : (z_su S15 31 0 0) 32 = S 1 := by rw [su_ne (by omega), g 32 (by omega) (by omega) (by omega), c2]
      have k31 : ∀ j, j ≠ 0 → (z_su S15 31 0 0) 31 j = S 31 j := fun j hj => by rw [su_eq, up_ne hj, g 31 (by omega) (by omega) (by omega)]
      refine m_MfillL (W := W) (H := H) (x0 := m) (y0 := q) (x1 := x1) (y1 := y1) (w := w) (h1 := t) hW hH (by rw [k31 1 (by omega)]; exact b1) (by rw [k31 2 (by omega)]; exact b2) x1a y1a x1b y1b hw ht rfl rfl rfl rfl x1c y1c hv (fun S38 f38 e38 S134 e134 => ?_)
      rw [k32] at e38 ⊢
      have z0 : S134 0 = S11 0 := by rw [e134, su_ne (by omega), f38 0 (by omega), su_ne (by omega), f15 0 (by omega)]
      have z1 : S134 1 = fB (S 1) m q x1 y1 v5 576 := by rw [e134, su_ne (by omega), f38 1 (by omega), su_ne (by omega), f15 1 (by omega), e1]
      refine hQ _ S134 ?_ ?_ (fun _ => by rw [e15', su_eq, up_eq]) ?_
      · rw [e134, su_eq, up_ne (by omega), f38 31 (by omega), su_eq, up_eq]
      · rw [e134, su_ne (by omega), f38 50 (by omega), su_ne (by omega)]
      · refine rR_up (nz' := nz) hB (fun a h0 h1 h2 h3 h4 => ?_) (fun j h1 h2 h3 => ?_) (fun j h1 h2 h3 => ?_) hnz ?_ ?_ ?_ (fun u => ?_) ?_ ?_ ?_
        · rw [e134, su_ne h2, f38 a h3, su_ne h2, g a h0 h1 h4]
        · rw [z0, f110 j h1, f290 j h3]
        · rw [e134, su_eq, up_ne h3, f38 31 (by omega), k31 j h1]
        · rw [z0, f110 13 (by omega), f290 13 (by omega)]; exact a3
        · rw [e134, su_eq, up_ne (by omega), f38 31 (by omega), k31 4 (by omega)]; exact b3
        · rw [z1, e134, su_ne (by omega), e38]
        · rw [z1]; exact fB_b c1 hv u
        · rw [z0, z1, ← e1]; exact e10
        · rw [e134, su_eq, up_eq]
        · rw [z0, f110 14 (by omega), e29, su_eq, up_eq]
    · have hx2 : (2 : Nat) = 1 ∧ post 1 S ∨ (2 : Nat) = 2 ∧ post 2 S := Or.inr ⟨rfl, h 2 S (fun Q hQ => hM S Q b1 b2 (fun r4 h4 => ⟨fun _ => ?_, fun z => absurd z hwt⟩))⟩
      · refine Or.inl (Or.inr (p_sam hx hy hW hH a1 a2 hs ?_))
        rw [l1_ hw, g1_ ht]
        exact ⟨fun _ => hx2, fun z => ⟨fun z2 => hwt ⟨by omega, z2⟩, fun _ => hx2⟩⟩
      · have hr4 : r4 = 1 := by
          rcases h4 with z | z
          · exact z.1
          · exact absurd hs z.2
        rw [hr4]
        unfold J_M_fill_23
        exact m_goes (fun z => absurd z n0_) (fun _ _ => ⟨fun z => absurd rfl z, fun _ => a_thr hR (by decide) hQ⟩) (fun _ z => absurd rfl z) (fun _ z => absurd rfl z)
  · refine Or.inl (Or.inl (x_sam hx hy hW hH a1 a2 hs (Or.inl ⟨rfl, h 1 S (fun Q hQ => hM S Q b1 b2 (fun r4 h4 => ?_))⟩)))
    have hr4 : r4 = 0 := by
      rcases h4 with z | z
      · exact absurd z.2 hs
      · exact z.1
    rw [hr4]
    have k : ∀ t0 : Int32, J_M_fill_23 Q (jI x) (jI y) (jI w) (jI t) v5 t0 0 S := fun t0 => by
      unfold J_M_fill_23
      exact m_goes (fun _ => ⟨fun z => absurd rfl z, fun _ => a_thr hR (by decide) hQ⟩) (fun z => absurd rfl z) (fun z => absurd rfl z) (fun z => absurd rfl z)
    exact ⟨fun _ => k 0, fun _ => k 1⟩
theorem cP_0 {p : Nat → Prop} : ∀ {n : Nat}, (∀ i, i < n → ¬ p i) → cP p n = 0
  | 0, _ => rfl
  | n + 1, h => by rw [cP_n (h n (by omega))]; exact cP_0 (fun i hi => h i (by omega))
theorem q_clear {post : zS → Prop} (hR : rR W H S) (h : ∀ S1, (∀ Q : zS → Prop, (∀ S2, rR W H S2 → Q S2) → P_M_clear S1 Q) → post S1) : P_P_clear S post := by
  obtain ⟨nz, hB, e5, hbo, hP⟩ := id hR
  obtain ⟨⟨hW0, hW, hH0, hH, hnz⟩, ⟨a1, a2, a3, a4⟩, -, ⟨b1, b2, b3⟩, ⟨c1, c2⟩, -⟩ := id hB
  unfold P_P_clear
  refine lq1 (A := Nat) (fun n k S' => L_P_clear_2 post _ n (jI (k : Nat)) S') (fun k S' => k ≤ 576 ∧ (∀ a, a ≠ 1 → S' a = S a) ∧ (∀ u, u < k → S' 1 u = 0) ∧ ∀ u, k ≤ u → S' 1 u = S 1 u) (fun k _ => 576 - k) ?_ 0 S ⟨by omega, fun _ _ => rfl, fun u hu => by omega, fun _ _ => rfl⟩
  rintro n k S' ⟨hk, fr, k0, k1⟩ ih
  rw [L_P_clear_2, show (576 : Int32) = jI ((576 : Nat) : Int) from rfl, jn_le (by omega) (by omega), jn_in (by omega), jn_ix (by omega)]
  refine ⟨fun hz S24 e24 S29 e29 S34 e34 => h S34 (fun Q hQ => ?_), fun hz => ⟨by omega, fun S15 e15 x16 e16 => ?_⟩⟩
  · have : k = 576 := by omega
    subst this
    have g : ∀ a, a ≠ 0 → S34 a = S' a := fun a ha => by rw [e34, su_ne ha, e29, su_ne ha, e24, su_ne ha]
    have g0 : S34 0 = upd (upd (upd (S 0) 10 0) 13 3) 14 0 := by rw [e34, su_eq, e29, su_eq, e24, su_eq, fr 0 (by omega)]
    have g1 : S34 1 = S' 1 := g 1 (by omega)
    unfold P_M_clear
    intro S2 e2
    have m : ∀ a, a ≠ 31 → S2 a = S34 a := fun a ha => by rw [e2, su_ne ha]
    refine lq1 (A := Nat) (fun n k T' => L_M_clear_7 Q _ n (jI (k : Nat)) T') (fun k T' => k ≤ 576 ∧ (∀ a, a ≠ 32 → T' a = S2 a) ∧ (∀ u, u < k → T' 32 u = 0) ∧ ∀ u, k ≤ u → T' 32 u = S 1 u) (fun k _ => 576 - k) ?_ 0 S2 ⟨by omega, fun _ _ => rfl, fun u hu => by omega, fun u _ => by rw [m 32 (by omega), g 32 (by omega), fr 32 (by omega), c2]⟩
    rintro n2 k2 T' ⟨hk2, fr2, l0, l1⟩ ih2
    rw [L_M_clear_7, show (576 : Int32) = jI ((576 : Nat) : Int) from rfl, jn_le (by omega) (by omega), jn_in (by omega), jn_ix (by omega)]
    refine ⟨fun hz2 S29' e29' S34' e34' => hQ S34' ?_, fun hz2 => ⟨by omega, fun S20 e20 x21 e21 => ?_⟩⟩
    · have : k2 = 576 := by omega
      subst this
      have z31 : S34' 31 = upd (upd (upd (S 31) 0 0) 4 3) 5 0 := by rw [e34', su_eq, e29', su_eq, fr2 31 (by omega), e2, su_eq, g 31 (by omega), fr 31 (by omega)]
      have zf : ∀ a, a ≠ 31 → S34' a = T' a := fun a ha => by rw [e34', su_ne ha, e29', su_ne ha]
      have z0 : S34' 0 = S34 0 := by rw [zf 0 (by omega), fr2 0 (by omega), m 0 (by omega)]
      have z1 : S34' 1 = S' 1 := by rw [zf 1 (by omega), fr2 1 (by omega), m 1 (by omega), g1]
      refine rR_up (nz' := 3) hB (fun a h0 h1 h2 h3 h4 => by rw [zf a h2, fr2 a h3, m a h2, g a h0, fr a h1]) (fun j h1 h2 h3 => by rw [z0, g0, up_ne h3, up_ne h2, up_ne h1]) (fun j h1 h2 h3 => by rw [z31, up_ne h3, up_ne h2, up_ne h1]) (by omega) ?_ ?_ ?_ (fun u => ?_) ?_ ?_ ?_
      · rw [z0, g0, up_ne (by omega), up_eq]; rfl
      · rw [z31, up_ne (by omega), up_eq]; rfl
      · rw [z1, zf 32 (by omega)]
        funext u
        rcases Nat.lt_or_ge u 576 with w | w
        · rw [k0 u w, l0 u w]
        · rw [k1 u w, l1 u w]
      · rw [z1]
        rcases Nat.lt_or_ge u 576 with w | w
        · rw [k0 u w]; exact Or.inl rfl
        · rw [k1 u w]; exact c1 u
      · rw [z0, z1, g0, up_ne (by omega), up_ne (by omega), up_eq, cP_0 (p := g_M (S' 1) 1 W H) (fun u hu hM => ?_)]
        · rfl
        · have := hM.2.2.2
          rw [k0 u hu] at this
          exact absurd this (by decide)
      · rw [z31, up_eq]
      · rw [z0, g0, up_eq]
    · rw [e21, jn1]
      refine ih2 (k2 + 1) S20 ⟨by omega, fun a ha => by rw [e20, su_ne ha, fr2 a ha], fun u hu => ?_, fun u hu => ?_⟩ (by omega)
      · rw [e20, su_eq]
        by_cases w : u = k2
        · subst w; rw [up_eq]
        · rw [up_ne w]; exact l0 u (by omega)
      · rw [e20, su_eq, up_ne (by omega)]; exact l1 u (by omega)
  · rw [e16, jn1]
    refine ih (k + 1) S15 ⟨by omega, fun a ha => by rw [e15, su_ne ha, fr a ha], fun u hu => ?_, fun u hu => ?_⟩ (by omega)
    · rw [e15, su_eq]
      by_cases w : u = k
      · subst w; rw [up_eq]
      · rw [up_ne w]; exact k0 u (by omega)
    · rw [e15, su_eq, up_ne (by omega)]; exact k1 u (by omega)
end ZV
