section ZT
variable {W H : Nat} {S : zS} {post : Int32 → zS → Prop}
/-- both sides behind a change of the page or of the noise -/
theorem rR_up {S' : zS} {nz nz' : Nat} (h : rB W H nz S) (hf : ∀ a, a ≠ 0 → a ≠ 1 → a ≠ 31 → a ≠ 32 → a ≠ 50 → S' a = S a) (h0 : ∀ j, j ≠ 10 → j ≠ 13 → j ≠ 14 → S' 0 j = S 0 j) (h31 : ∀ j, j ≠ 0 → j ≠ 4 → j ≠ 5 → S' 31 j = S 31 j) (hn : nz' ≤ 100) (e13 : S' 0 13 = jI (nz' : Nat)) (e4 : S' 31 4 = jI (nz' : Nat)) (e32 : S' 32 = S' 1) (hb : ∀ u, z_bo (S' 1 u)) (e10 : S' 0 10 = jI (cP (g_M (S' 1) 1 W H) 576 : Nat)) (e5 : S' 31 5 = 0) (e14 : S' 0 14 = 0) : rR W H S' := by
  obtain ⟨⟨hW0, hW, hH0, hH, hnz⟩, ⟨a1, a2, a3, a4⟩, b, ⟨c1, c2, c3⟩, d, e⟩ := h
  refine ⟨nz', ⟨⟨hW0, hW, hH0, hH, hn⟩, ⟨by rw [h0 0 (by omega) (by omega) (by omega)]; exact a1, by rw [h0 1 (by omega) (by omega) (by omega)]; exact a2, e13, e10⟩, ?_, ⟨by rw [h31 1 (by omega) (by omega) (by omega)]; exact c1, by rw [h31 2 (by omega) (by omega) (by omega)]; exact c2, e4⟩, ⟨hb, e32⟩, ?_⟩, by rw [e5, e14], Or.inl e14, fun z => absurd e14 z⟩
  · rw [hf 5 (by omega) (by omega) (by omega) (by omega) (by omega), hf 13 (by omega) (by omega) (by omega) (by omega) (by omega), hf 21 (by omega) (by omega) (by omega) (by omega) (by omega)]; exact b
  · rw [hf 2 (by omega) (by omega) (by omega) (by omega) (by omega), hf 3 (by omega) (by omega) (by omega) (by omega) (by omega), hf 33 (by omega) (by omega) (by omega) (by omega) (by omega), hf 34 (by omega) (by omega) (by omega) (by omega) (by omega), hf 35 (by omega) (by omega) (by omega) (by omega) (by omega), hf 36 (by omega) (by omega) (by omega) (by omega) (by omega)]; exact e
theorem cnt_up {B : Nat → Int32} {u : Nat} (hu : u < 576) (h1 : u % 24 < W) (h2 : u / 24 < H) (e : B u = 0) : cP (g_M (upd B u 1) 1 W H) 576 = cP (g_M B 1 W H) 576 + 1 := by
  refine ctn_up (i := u) hu ?_ ?_ ?_
  · refine @decide_eq_false _ (Classical.propDecidable _) (fun z => ?_)
    have := z.2.2.2
    rw [e] at this
    exact absurd this (by decide)
  · exact @decide_eq_true _ (Classical.propDecidable _) ⟨hu, h1, h2, up_eq _ _ _⟩
  · intro j hj hj2
    have : g_M (upd B u 1) 1 W H j ↔ g_M B 1 W H j := by
      unfold g_M
      rw [up_ne hj2]
    exact congrArg (fun p => @decide p (Classical.propDecidable p)) (propext this)
theorem cnt_dn {B : Nat → Int32} {u : Nat} (hu : u < 576) (h1 : u % 24 < W) (h2 : u / 24 < H) (e : B u = 1) : cP (g_M (upd B u 0) 1 W H) 576 + 1 = cP (g_M B 1 W H) 576 := by
  have h := cnt_up (W := W) (H := H) (B := upd B u 0) (u := u) hu h1 h2 (up_eq _ _ _)
  have e2 : upd (upd B u 0) u 1 = B := by
    funext j
    by_cases w : j = u
    · subst w; rw [up_eq]; exact e.symm
    · rw [up_ne w, up_ne w]
  rw [e2] at h
  exact h.symm
theorem up_id {B : Nat → Int32} {u : Nat} {v : Int32} (e : B u = v) : upd B u v = B := by
  funext j
  by_cases w : j = u
  · subst w; rw [up_eq]; exact e.symm
  · rw [up_ne w]
theorem m_paint {x y : Nat} {v : Int32} (hW : W ≤ 24) (hH : H ≤ 24) (hx : x < W) (hy : y < H) (hv : z_bo v) (hb : ∀ u, z_bo (S 1 u)) (hc : S 0 10 = jI (cP (g_M (S 1) 1 W H) 576 : Nat))
    (h : ∀ S' r, (∀ a, a ≠ 0 → a ≠ 1 → S' a = S a) → (∀ j, j ≠ 10 → S' 0 j = S 0 j) → S' 1 = upd (S 1) (24 * y + x) v → S' 0 10 = jI (cP (g_M (S' 1) 1 W H) 576 : Nat) → (S 1 (24 * y + x) = v → r = 0) → (¬ S 1 (24 * y + x) = v → r = 1) → post r S') : P_P_paint (jI x) (jI y) v S post := by
  unfold P_P_paint
  intro x6 e6
  rw [jat] at e6
  rw [e6, jn_in (by omega), jn_ix (by omega)]
  have hle := cP_le (g_M (S 1) 1 W H) 576
  refine ⟨by omega, fun hn => ⟨by omega, hv, fun S28 e28 => ?_⟩, fun he => h S 0 (fun _ _ _ => rfl) (fun _ _ => rfl) (up_id he).symm hc (fun _ => rfl) (fun z => absurd he z)⟩
  have f28 : ∀ a, a ≠ 1 → S28 a = S a := fun a ha => by rw [e28, su_ne ha]
  have e1 : S28 1 = upd (S 1) (24 * y + x) v := by rw [e28, su_eq]
  rw [f28 0 (by omega), hc]
  refine ⟨fun z S44 e44 => ?_, fun z S44 e44 => ?_⟩
  · have hold : S 1 (24 * y + x) = 1 := (hb _).resolve_left (fun w => hn (w.trans z.symm))
    refine h S44 1 (fun a h0 h1 => by rw [e44, su_ne h0, f28 a h1]) (fun j hj => by rw [e44, su_eq, up_ne hj, f28 0 (by omega)]) (by rw [e44, su_ne (by omega), e1]) ?_ (fun w => absurd w hn) (fun _ => rfl)
    have := cnt_dn (W := W) (H := H) (B := S 1) (u := 24 * y + x) (by omega) (by omega) (by omega) hold
    rw [show S44 1 = upd (S 1) (24 * y + x) 0 by rw [e44, su_ne (by omega), e1, z], e44, su_eq, up_eq, ← this, jm1]
  · have hv1 : v = 1 := hv.resolve_left z
    have hold : S 1 (24 * y + x) = 0 := (hb _).resolve_right (fun w => hn (w.trans hv1.symm))
    refine h S44 1 (fun a h0 h1 => by rw [e44, su_ne h0, f28 a h1]) (fun j hj => by rw [e44, su_eq, up_ne hj, f28 0 (by omega)]) (by rw [e44, su_ne (by omega), e1]) ?_ (fun w => absurd w hn) (fun _ => rfl)
    have := cnt_up (W := W) (H := H) (B := S 1) (u := 24 * y + x) (by omega) (by omega) (by omega) hold
    rw [show S44 1 = upd (S 1) (24 * y + x) 1 by rw [e44, su_ne (by omega), e1, hv1], e44, su_eq, up_eq, this, jn1]
theorem bo_upd {B : Nat → Int32} {u : Nat} {v : Int32} (h : ∀ t, z_bo (B t)) (hv : z_bo v) : ∀ t, z_bo (upd B u v t) := bo_up h hv
theorem q_put {v1 v2 v3 : Int32} (hv : z_bo v3) (hR : rR W H S) (h : ∀ r S1, aL W H (P_M_put v1 v2 v3) r S1 → (r = 0 → z_bo (S1 50 0)) → post r S1) : P_L_put v1 v2 v3 S post := by
  obtain ⟨x, hx, rfl⟩ := jx_ v1
  obtain ⟨y, hy, rfl⟩ := jx_ v2
  obtain ⟨nz, hB, e5, hbo, hP⟩ := id hR
  obtain ⟨⟨hW0, hW, hH0, hH, hnz⟩, ⟨a1, a2, a3, a4⟩, -, ⟨b1, b2, b3⟩, ⟨c1, c2⟩, -⟩ := id hB
  unfold P_L_put X_P_put P_P_put J_L_put_18
  by_cases hs : 0 ≤ x ∧ x < W ∧ 0 ≤ y ∧ y < H
  · refine Or.inr (p_sam hx hy hW hH a1 a2 hs ?_)
    obtain ⟨m, rfl⟩ := Int.eq_ofNat_of_zero_le hs.1
    obtain ⟨t, rfl⟩ := Int.eq_ofNat_of_zero_le hs.2.2.1
    intro S8 e8
    have f8 : ∀ a, a ≠ 0 → S8 a = S a := fun a ha => by rw [e8, su_ne ha]
    have f80 : ∀ j, j ≠ 14 → S8 0 j = S 0 j := fun j hj => by rw [e8, su_eq, up_ne hj]
    refine m_paint hW hH (by omega) (by omega) hv (fun u => by rw [f8 1 (by omega)]; exact c1 u) (by rw [f8 1 (by omega), f80 10 (by omega)]; exact a4) (fun S15 r15 f15 f150 e1 e10 hr0 hr1 => ?_)
    rw [f8 1 (by omega)] at e1 hr0 hr1
    have hbr : z_bo r15 := by
      by_cases w : S 1 (24 * t + m) = v3
      · exact Or.inl (hr0 w)
      · exact Or.inr (hr1 w)
    have fin : ∀ S18 : zS, S18 = z_su S15 50 0 r15 → post 0 S18 := by
      intro S18 e18
      have f18 : ∀ a, a ≠ 50 → S18 a = S15 a := fun a ha => by rw [e18, su_ne ha]
      refine h 0 S18 (fun Q hQ => ?_) (fun _ => by rw [e18, su_eq, up_eq]; exact hbr)
      have g : ∀ a, a ≠ 0 → a ≠ 1 → a ≠ 50 → S18 a = S a := fun a h0 h1 h2 => by rw [f18 a h2, f15 a h0 h1, f8 a h0]
      unfold P_M_put
      refine m_isSample hx hy hW hH (by rw [g 31 (by omega) (by omega) (by omega)]; exact b1) (by rw [g 31 (by omega) (by omega) (by omega)]; exact b2) (fun _ => ?_) (fun z => absurd hs z)
      rw [jat']
      refine m_goes (fun z => absurd z n0_) (fun _ z => absurd z n0_) (fun _ _ z => absurd z n0_) (fun _ _ _ => ⟨fun _ x23 e23 => ?_, fun z => absurd z n0_⟩)
      rw [e23, jn_in (by omega), jn_ix (by omega), su_ne (by omega), g 32 (by omega) (by omega) (by omega), c2]
      have k : ∀ t0 : Int32, r15 = t0 → J_M_put_41 Q v3 (jI ((24 * t + m : Nat) : Int)) t0 (z_su S18 31 0 0) := by
        intro t0 ht
        unfold J_M_put_41
        rw [jn_in (by omega), jn_ix (by omega)]
        refine ⟨by omega, hv, fun S50 e50 S53 e53 => ⟨ht ▸ hbr, ?_⟩⟩
        have h50 : S53 50 = S18 50 := by rw [e53, su_ne (by omega), e50, su_ne (by omega), su_ne (by omega)]
        refine hQ t0 S53 ?_ h50 (fun _ => by rw [e18, su_eq, up_eq]; exact ht) ?_
        · rw [e53, su_eq, up_ne (by omega), e50, su_ne (by omega), su_eq, up_eq]
        · have x1 : S53 1 = upd (S 1) (24 * t + m) v3 := by rw [e53, su_ne (by omega), e50, su_ne (by omega), su_ne (by omega), f18 1 (by omega), e1]
          have x0 : S53 0 = S15 0 := by rw [e53, su_ne (by omega), e50, su_ne (by omega), su_ne (by omega), f18 0 (by omega)]
          refine rR_up (nz' := nz) hB (fun a h0 h1 h2 h3 h4 => ?_) (fun j h1 h2 h3 => ?_) (fun j h1 h2 h3 => ?_) hnz ?_ ?_ ?_ (fun u => ?_) ?_ ?_ ?_
          · rw [e53, su_ne h2, e50, su_ne h3, su_ne h2, g a h0 h1 h4]
          · rw [x0, f150 j h1, f80 j h3]
          · rw [e53, su_eq, up_ne h3, e50, su_ne (by omega), su_eq, up_ne h1, g 31 (by omega) (by omega) (by omega)]
          · rw [x0, f150 13 (by omega), f80 13 (by omega)]; exact a3
          · rw [e53, su_eq, up_ne (by omega), e50, su_ne (by omega), su_eq, up_ne (by omega), g 31 (by omega) (by omega) (by omega)]; exact b3
          · rw [x1, e53, su_ne (by omega), e50, su_eq, su_ne (by omega), g 32 (by omega) (by omega) (by omega), c2]
          · rw [x1]; exact bo_upd c1 hv u
          · rw [x0, x1, ← e1]; exact e10
          · rw [e53, su_eq, up_eq]
          · rw [x0, f150 14 (by omega), e8, su_eq, up_eq]
      exact ⟨by omega, fun z => k 0 (hr0 z), fun z => k 1 (hr1 z)⟩
    refine ⟨hbr, fun z => ⟨by rw [jn0, jn_in (by omega)]; omega, fun S18 e18 => fin S18 (by rw [z]; exact e18)⟩, fun z => ⟨by rw [jn0, jn_in (by omega)]; omega, fun S18 e18 => fin S18 (by rw [hbr.resolve_left z]; exact e18)⟩⟩
  · refine Or.inl (x_sam hx hy hW hH a1 a2 hs ⟨rfl, h 1 S (fun Q hQ => ?_) (fun z => absurd z n0_)⟩)
    unfold P_M_put
    refine m_isSample hx hy hW hH b1 b2 (fun z => absurd z hs) (fun _ => ?_)
    exact m_goes (fun _ => ⟨fun z => absurd rfl z, fun _ => a_thr hR (by decide) hQ⟩) (fun z => absurd rfl z) (fun z => absurd rfl z) (fun z => absurd rfl z)
theorem l0_ {a : Int} (ha : jR a) : jI a < 0 ↔ a < 0 := by rw [jI_0, jI_lt ha (jS (by omega))]
theorem v01 : vp_in 0 1 := by rw [jn0, jn_in (by omega)]; omega
theorem q_noise {v1 : Int32} (hR : rR W H S) (h : ∀ r S1, aL W H (P_M_noise v1) r S1 → post r S1) : P_L_noise v1 S post := by
  obtain ⟨a, ha, rfl⟩ := jx_ v1
  obtain ⟨nz, hB, e5, hbo, hP⟩ := id hR
  obtain ⟨⟨hW0, hW, hH0, hH, hnz⟩, ⟨a1, a2, a3, a4⟩, -, ⟨b1, b2, b3⟩, ⟨c1, c2⟩, -⟩ := id hB
  unfold P_L_noise X_P_noise P_P_noise
  rw [show (100 : Int32) = jI 100 from rfl, l0_ ha, jI_le ha (jS (by omega))]
  have hM : ∀ (T : zS) (Q : Int32 → zS → Prop), (0 ≤ a ∧ a ≤ 100 → P_M_goes 1 1 1 T (fun r10 S10 => (¬ r10 = 0 → ∀ x22 : Int32, x22 = (S10 31 4) → ∀ S25 : zS, S25 = z_su S10 31 4 (jI a) → ∀ S30 : zS, S30 = z_su S25 31 5 0 → Q x22 S30) ∧ (r10 = 0 → Q 0 S10))) → (¬ (0 ≤ a ∧ a ≤ 100) → P_M_goes 0 1 1 T (fun r10 S10 => (¬ r10 = 0 → ∀ x22 : Int32, x22 = (S10 31 4) → ∀ S25 : zS, S25 = z_su S10 31 4 (jI a) → ∀ S30 : zS, S30 = z_su S25 31 5 0 → Q x22 S30) ∧ (r10 = 0 → Q 0 S10))) → P_M_noise (jI a) T Q := fun T Q h1 h0 => by
    unfold P_M_noise
    rw [show (100 : Int32) = jI 100 from rfl, jI_0]
    exact m_in ha (jS (by omega)) (jS (by omega)) (fun z => h1 z) (fun z => h0 z)
  by_cases hs : 0 ≤ a ∧ a ≤ 100
  · refine Or.inr ⟨fun z => by omega, fun _ => ⟨fun _ x24 e24 S27 e27 S32 e32 => ⟨v01, fun S8 e8 => h 0 S8 (fun Q hQ => ?_)⟩, fun z => by omega⟩⟩
    obtain ⟨m, rfl⟩ := Int.eq_ofNat_of_zero_le hs.1
    have e8' : S8 = z_su S32 50 0 x24 := e8
    have f8 : ∀ a, a ≠ 50 → a ≠ 0 → S8 a = S a := fun a h1 h2 => by rw [e8', su_ne h1, e32, su_ne h2, e27, su_ne h2]
    have f80 : S8 0 = upd (upd (S 0) 13 (jI (m : Nat))) 14 0 := by rw [e8', su_ne (by omega), e32, su_eq, e27, su_eq]
    refine hM S8 Q (fun _ => ?_) (fun z => absurd hs z)
    refine m_goes (fun z => absurd z n0_) (fun _ z => absurd z n0_) (fun _ _ z => absurd z n0_) (fun _ _ _ => ⟨fun _ x22 e22 S25 e25 S30 e30 => ?_, fun z => absurd z n0_⟩)
    have g31 : S30 31 = upd (upd (upd (S 31) 0 0) 4 (jI (m : Nat))) 5 0 := by rw [e30, su_eq, e25, su_eq, su_eq, f8 31 (by omega) (by omega)]
    have gf : ∀ a, a ≠ 31 → S30 a = S8 a := fun a ha => by rw [e30, su_ne ha, e25, su_ne ha, su_ne ha]
    refine hQ x22 S30 ?_ (gf 50 (by omega)) (fun _ => ?_) ?_
    · rw [g31, up_ne (by omega), up_ne (by omega), up_eq]
    · rw [e8', su_eq, up_eq, e24, a3, e22, su_eq, up_ne (by omega), f8 31 (by omega) (by omega), b3]
    · refine rR_up (nz' := m) hB (fun a h0 h1 h2 h3 h4 => by rw [gf a h2, f8 a h4 h0]) (fun j h1 h2 h3 => ?_) (fun j h1 h2 h3 => ?_) (by omega) ?_ ?_ ?_ (fun u => ?_) ?_ ?_ ?_
      · rw [gf 0 (by omega), f80, up_ne h3, up_ne h2]
      · rw [g31, up_ne h3, up_ne h2, up_ne h1]
      · rw [gf 0 (by omega), f80, up_ne (by omega), up_eq]
      · rw [g31, up_ne (by omega), up_eq]
      · rw [gf 32 (by omega), gf 1 (by omega), f8 32 (by omega) (by omega), f8 1 (by omega) (by omega), c2]
      · rw [gf 1 (by omega), f8 1 (by omega) (by omega)]; exact c1 u
      · rw [gf 0 (by omega), gf 1 (by omega), f8 1 (by omega) (by omega), f80, up_ne (by omega), up_ne (by omega)]; exact a4
      · rw [g31, up_eq]
      · rw [gf 0 (by omega), f80, up_eq]
  · have hx : (2 : Nat) = 2 ∧ post 1 S := ⟨rfl, h 1 S (fun Q hQ => hM S Q (fun z => absurd z hs) (fun _ => m_goes (fun _ => ⟨fun z => absurd rfl z, fun _ => a_thr hR (by decide) hQ⟩) (fun z => absurd rfl z) (fun z => absurd rfl z) (fun z => absurd rfl z)))⟩
    exact Or.inl ⟨fun _ => hx, fun z => ⟨fun z2 => by omega, fun _ => hx⟩⟩
end ZT
