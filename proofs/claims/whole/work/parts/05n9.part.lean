section ZY
variable {W H : Nat} {S : zS} {post : Int32 → zS → Prop}
theorem m_weightOf {k : Nat} (h : post (jI (cP (fun u => ¬ S 2 u = 0 ∧ S 6 u = jI (k : Nat)) 576 : Nat)) S) : P_P_weightOf (jI (k : Nat)) S post := by
  unfold P_P_weightOf
  refine lq2 (A := Nat) (B := Nat) (fun n m u S' => L_P_weightOf_4 post (jI (k : Nat)) n (jI (m : Nat)) (jI (u : Nat)) S') (fun m u S' => S' = S ∧ u ≤ 576 ∧ m = cP (fun u => ¬ S 2 u = 0 ∧ S 6 u = jI (k : Nat)) u) (fun _ u _ => 576 - u) ?_ 0 0 S ⟨rfl, by omega, rfl⟩
  rintro n m u S' ⟨rfl, hu, hm⟩ ih
  rw [L_P_weightOf_4, show (576 : Int32) = jI ((576 : Nat) : Int) from rfl, jn_le (by omega) (by omega), jn_in (by omega), jn_ix (by omega)]
  refine ⟨fun z => ?_, fun z => ⟨by omega, fun a x36 e36 => ?_, fun a => ⟨by omega, fun b x36 e36 => ?_, fun b x33 e33 x36 e36 => ?_⟩⟩⟩
  · have : u = 576 := by omega
    subst this
    rw [hm]; exact h
  · rw [e36, jn1]
    exact ih m (u + 1) S' ⟨rfl, by omega, by rw [hm]; exact (cP_n (p := fun u => ¬ S' 2 u = 0 ∧ S' 6 u = jI (k : Nat)) (fun q => q.1 a)).symm⟩ (by omega)
  · rw [e36, jn1]
    exact ih m (u + 1) S' ⟨rfl, by omega, by rw [hm]; exact (cP_n (p := fun u => ¬ S' 2 u = 0 ∧ S' 6 u = jI (k : Nat)) (fun q => b q.2)).symm⟩ (by omega)
  · rw [e33, e36, jn1, jn1]
    exact ih (m + 1) (u + 1) S' ⟨rfl, by omega, by rw [hm]; exact (cP_y (p := fun u => ¬ S' 2 u = 0 ∧ S' 6 u = jI (k : Nat)) ⟨a, b⟩).symm⟩ (by omega)
theorem m_inkOf {v1 : Int32} (hW : W ≤ 24) (hH : H ≤ 24) (e1 : S 31 1 = jI (W : Nat)) (e2 : S 31 2 = jI (H : Nat))
    (h : post (jI (cP (fun u => (u % 24 < W ∧ u / 24 < H) ∧ S 38 u = v1) 576 : Nat)) S) : P_M_inkOf v1 S post := by
  unfold P_M_inkOf
  refine lq2 (A := Nat) (B := Nat) (fun k n y S' => L_M_inkOf_4 post v1 k (jI (n : Nat)) (jI (y : Nat)) S') (fun n y S' => S' = S ∧ y ≤ H ∧ n = cP (fun u => (u % 24 < W ∧ u / 24 < H) ∧ S 38 u = v1) (24 * y)) (fun _ y _ => H - y) ?_ 0 0 S ⟨rfl, by omega, rfl⟩
  rintro k n y S' ⟨rfl, hy, hn⟩ ih
  rw [L_M_inkOf_4, e2, jn_le (by omega) (by omega)]
  refine ⟨fun hz => ?_, fun hz => ?_⟩
  · rw [hn, ← cP_s (a := 24 * y) (b := 576) (by omega) (fun i h1 h2 h3 => by have := h3.1.2; omega)]
    exact h
  · refine lq2 (A := Nat) (B := Nat) (fun k n x S'' => L_M_inkOf_15 post _ v1 (jI (y : Nat)) k (jI (n : Nat)) (jI (x : Nat)) S'') (fun n x S'' => S'' = S' ∧ x ≤ W ∧ n = cP (fun u => (u % 24 < W ∧ u / 24 < H) ∧ S' 38 u = v1) (24 * y + x)) (fun _ x _ => W - x) ?_ n 0 S' ⟨rfl, by omega, hn⟩
    rintro k2 n2 x S'' ⟨rfl, hx, hn2⟩ ih2
    rw [L_M_inkOf_15, e1, jn_le (by omega) (by omega)]
    refine ⟨fun hz2 x54 e54 => ?_, fun hz2 => ?_⟩
    · rw [e54, jn1 y]
      refine ih n2 (y + 1) S'' ⟨rfl, by omega, ?_⟩ (by omega)
      rw [hn2]
      exact (cP_s (by omega) (fun i h1 h2 h3 => by have := h3.1.1; omega)).symm
    · rw [jat', jn_in (by omega), jn_ix (by omega)]
      refine ⟨by omega, fun a x48 e48 => ?_, fun a x47 e47 x48 e48 => ?_⟩
      · rw [e48, jn1 x]
        exact ih2 n2 (x + 1) S'' ⟨rfl, by omega, by rw [hn2]; exact (cP_n (fun z => a z.2)).symm⟩ (by omega)
      · rw [e48, e47, jn1 x, jn1 n2]
        exact ih2 (n2 + 1) (x + 1) S'' ⟨rfl, by omega, by rw [hn2]; exact (cP_y ⟨⟨by omega, by omega⟩, a⟩).symm⟩ (by omega)
theorem ctR_c {C D : Nat → Prop} {X Y x0 y0 x1 y1 : Nat} (h : ∀ u, u < 576 → u % 24 < X → u / 24 < Y → (C u ↔ D u)) (hx : x1 ≤ X) (hy : y1 ≤ Y) : ctR C x0 y0 x1 y1 = ctR D x0 y0 x1 y1 := by
  unfold ctR
  refine cP_c (fun u hu => ⟨fun z => ⟨z.1, (h u hu ?_ ?_).mp z.2⟩, fun z => ⟨z.1, (h u hu ?_ ?_).mpr z.2⟩⟩)
  all_goals
    have h1 := z.1.2.1
    have h2 := z.1.2.2.2
    omega
theorem kd_c {C D : Nat → Prop} {X Y x0 y0 x1 y1 : Nat} (h : ∀ u, u < 576 → u % 24 < X → u / 24 < Y → (C u ↔ D u)) (h0 : x0 < x1) (h1 : y0 < y1) (hx : x1 ≤ X) (hy : y1 ≤ Y) : kd_ C x0 y0 x1 y1 = kd_ D x0 y0 x1 y1 := by
  unfold kd_
  rw [ctR_c (x0 := x0) (y0 := y0) (x1 := x1) (y1 := y0 + 1) h hx (by omega), ctR_c (x0 := x0) (y0 := y1 - 1) (x1 := x1) (y1 := y1) h hx hy, ctR_c (x0 := x0) (y0 := y0) (x1 := x0 + 1) (y1 := y1) h (by omega) hy, ctR_c (x0 := x1 - 1) (y0 := y0) (x1 := x1) (y1 := y1) h hx hy, ctR_c (x0 := x0 + 1) (y0 := y0 + 1) (x1 := x1 - 1) (y1 := y1 - 1) h (by omega) (by omega), ctR_c (x0 := x0) (y0 := y0) (x1 := x1) (y1 := y1) h hx hy]
/-- a part's rows and box, out of what is alike -/
theorem rP_pL {nz k c : Nat} (hB : rB W H nz S) (hP : rP W H nz S) (hc : S 5 6 = jI (c : Nat)) (hc8 : c ≤ 288) (hk : k < c) : ∃ lf tp rt bt : Nat, pL S H k lf tp rt bt ∧ rt < W ∧ S 11 k = jI (cP (fun u => S 6 u = jI (k : Nat)) 576 : Nat) ∧ S 43 k = jI (kd_ (fun u => ¬ S 34 u = 0) lf tp (rt + 1) (bt + 1) : Nat) := by
  obtain ⟨⟨hW0, hW, hH0, hH, hnz⟩, ⟨a1, a2, a3, a4⟩, -⟩ := hB
  obtain ⟨⟨p1, p2, p3⟩, ⟨c', hc', q1, q2, q38, q6, hbox, -⟩, -⟩ := hP
  have ec : c' = c := (jn_eq (by omega) (by omega)).mp (q1.symm.trans hc)
  subst ec
  obtain ⟨h11, lf, tp, rt, bt, b1, b2, b3, b4, b5, b6, b7, b8, b9, b10, b11, b12, b13, b14⟩ := hbox k hk
  refine ⟨lf, tp, rt, bt, ⟨by omega, hH, b3, by omega, b4, b2, a2, b5, b6, b7, b8, b9, b10, b11, b12, ?_, ?_⟩, b1, h11, b13⟩
  · rintro y hy ⟨x, x1, x2, x3, x4⟩
    have := b14.1 (24 * y + x) (by omega) (by omega) x4
    omega
  · intro y hy1 hy2
    unfold rw_
    constructor
    · rintro ⟨x, x1, x2, x3, x4⟩
      refine ⟨x, x1, x2, ?_, ?_⟩
      · rw [(p3 (24 * y + x) (by omega) (by omega) (by omega)).2, ← p1 (24 * y + x) (by omega)]; exact x3
      · rw [q38 (24 * y + x) (by omega) (by omega) (by omega)]; exact x4
    · rintro ⟨x, x1, x2, x3, x4⟩
      refine ⟨x, x1, x2, ?_, ?_⟩
      · rw [p1 (24 * y + x) (by omega), ← (p3 (24 * y + x) (by omega) (by omega) (by omega)).2]; exact x3
      · rw [← q38 (24 * y + x) (by omega) (by omega) (by omega)]; exact x4
/-- what the other side's part answers past its gate -/
def rPt (v1 v2 : Int32) (S23 : zS) (post : Int32 → zS → Prop) : Prop :=
    (v2 = 0 →
    vp_in v1 300 ∧ post (S23 39 (z_ix v1)) S23) ∧
    (v2 = 1 →
    vp_in v1 300 ∧ post (S23 40 (z_ix v1)) S23) ∧
    (v2 = 2 →
    vp_in v1 300 ∧ vp_in v1 300 ∧ post (((S23 41 (z_ix v1)) - (S23 39 (z_ix v1))) + 1) S23) ∧
    (v2 = 3 →
    vp_in v1 300 ∧ vp_in v1 300 ∧ post (((S23 42 (z_ix v1)) - (S23 40 (z_ix v1))) + 1) S23) ∧
    (v2 = 4 →
    P_M_cleanIn 0 0 ((S23 31 1) - 1) ((S23 31 2) - 1) v1 S23 (fun r138 S138 =>
    post r138 S138)) ∧
    (v2 = 5 →
    vp_in v1 300 ∧ post (S23 43 (z_ix v1)) S23) ∧
    (v2 = 6 →
    P_M_lines v1 S23 (fun r151 S151 =>
    post r151 S151)) ∧
    (¬ v2 = 0 → ¬ v2 = 1 → ¬ v2 = 2 → ¬ v2 = 3 → ¬ v2 = 4 → ¬ v2 = 5 → ¬ v2 = 6 → 
    P_M_inkOf v1 S23 (fun r157 S157 =>
    post r157 S157))
theorem q_part {v1 v2 : Int32} (hR : rR W H S) (h : ∀ r S1, aL W H (P_M_part v1 v2) r S1 → post r S1) : P_L_part v1 v2 S post := by
  obtain ⟨a, ha, rfl⟩ := jx_ v1
  obtain ⟨b, hb, rfl⟩ := jx_ v2
  obtain ⟨nz, hB, e5, hbo, hP⟩ := id hR
  obtain ⟨⟨hW0, hW, hH0, hH, hnz⟩, ⟨a1, a2, a3, a4⟩, -, ⟨b1, b2, b3⟩, ⟨c1, c2⟩, -⟩ := id hB
  unfold P_L_part X_P_part P_P_part
  by_cases hp : S 0 14 = 0
  · refine Or.inl (Or.inl (x_par hp (Or.inl ⟨rfl, h 1 S (fun Q hQ => ?_)⟩)))
    have hz : S 31 5 = 0 := e5.trans hp
    have k : ∀ r8 r9 : Int32, P_M_goes (S 31 5) r8 r9 S (fun r23 S23 => (¬ r23 = 0 → rPt (jI a) (jI b) S23 Q) ∧ (r23 = 0 → Q 0 S23)) := fun r8 r9 => m_goes (fun _ => ⟨fun z => absurd rfl z, fun _ => a_thr hR (by decide) hQ⟩) (fun z => absurd hz z) (fun z => absurd hz z) (fun z => absurd hz z)
    show P_M_in (jI a) 0 ((S 31 12) - 1) S (fun r13 S13 => P_M_in (jI b) 0 7 S13 (fun r20 S20 => P_M_goes (S 31 5) r13 r20 S20 (fun r23 S23 => (¬ r23 = 0 → rPt (jI a) (jI b) S23 Q) ∧ (r23 = 0 → Q 0 S23))))
    exact m_inT (fun _ _ => m_inT (fun _ _ => k 1 1) (fun _ => k 1 0)) (fun _ => m_inT (fun _ _ => k 0 1) (fun _ => k 0 0))
  · have hz : ¬ S 31 5 = 0 := fun z => hp (e5.symm.trans z)
    have hP := hP hp
    obtain ⟨⟨p1, p2, p3⟩, ⟨c, hc, e56, e12, q38, q6, -⟩, -⟩ := id hP
    by_cases hs : 0 ≤ a ∧ a < c
    · by_cases ht : 0 ≤ b ∧ b < (8 : Nat)
      · refine Or.inr (p_par hp ?_)
        show P_P_mustBeBelow (jI a) (S 5 6) S _
        rw [e56]
        refine p_bel ha (by omega) hs ?_
        show P_P_mustBeTold (jI b) (jI ((8 : Nat) : Int)) S _
        refine p_tol hb (by omega) ht ?_
        obtain ⟨k, rfl⟩ := Int.eq_ofNat_of_zero_le hs.1
        have hk : k < c := by omega
        obtain ⟨lf, tp, rt, bt, hpL, hrt, h11, h43⟩ := rP_pL hB hP e56 hc hk
        have hpL2 := id hpL
        obtain ⟨-, -, hlr, -, htb, hbt, -, e7, e8, e9, e10, e39, e40, e41, e42, -, -⟩ := hpL2
        have k0 : jI b = 0 ↔ b = 0 := jI_eq hb (jS (z := 0) (by omega))
        have k1 : jI b = 1 ↔ b = 1 := jI_eq hb (jS (z := 1) (by omega))
        have k2 : jI b = 2 ↔ b = 2 := jI_eq hb (jS (z := 2) (by omega))
        have k3 : jI b = 3 ↔ b = 3 := jI_eq hb (jS (z := 3) (by omega))
        have k4 : jI b = 4 ↔ b = 4 := jI_eq hb (jS (z := 4) (by omega))
        have k5 : jI b = 5 ↔ b = 5 := jI_eq hb (jS (z := 5) (by omega))
        have k6 : jI b = 6 ↔ b = 6 := jI_eq hb (jS (z := 6) (by omega))
        have k7 : jI b = 7 ↔ b = 7 := jI_eq hb (jS (z := 7) (by omega))
        have fin : ∀ v : Int32, (∀ (T : zS) (Q : Int32 → zS → Prop), (∀ a, a ≠ 31 → a ≠ 50 → T a = S a) → T 31 1 = jI (W : Nat) → T 31 2 = jI (H : Nat) → Q v T → rPt (jI (k : Nat)) (jI b) T Q) → vp_in 0 1 ∧ ∀ S9 : zS, S9 = z_su S 50 (z_ix 0) v → post 0 S9 := by
          intro v hv
          refine ⟨v01, fun S9 e9 => h 0 S9 (fun Q hQ => ?_)⟩
          have e9' : S9 = z_su S 50 0 v := e9
          have f9 : ∀ a, a ≠ 50 → S9 a = S a := fun a ha => by rw [e9', su_ne ha]
          have hR9 : rR W H S9 := by rw [e9']; exact rR_50 hR _
          show P_M_in (jI (k : Nat)) 0 ((S9 31 12) - 1) S9 (fun r13 S13 => P_M_in (jI b) 0 7 S13 (fun r20 S20 => P_M_goes (S9 31 5) r13 r20 S20 (fun r23 S23 => (¬ r23 = 0 → rPt (jI (k : Nat)) (jI b) S23 Q) ∧ (r23 = 0 → Q 0 S23))))
          rw [f9 31 (by omega), e12]
          refine i_lt ha (by omega) (fun _ => ?_) (fun z => absurd hs z)
          refine i_le (c := 8) hb (by omega) rfl (fun _ => ?_) (fun z => absurd ht z)
          refine m_goes (fun z => absurd z hz) (fun _ z => absurd z n0_) (fun _ _ z => absurd z n0_) (fun _ _ _ => ⟨fun _ => ?_, fun z => absurd z n0_⟩)
          refine hv _ Q (fun a h1 h2 => by rw [su_ne h1, f9 a h2]) (by rw [su_eq, up_ne (by omega), f9 31 (by omega)]; exact b1) (by rw [su_eq, up_ne (by omega), f9 31 (by omega)]; exact b2) ?_
          exact a_ret hR9 (by rw [e9', su_eq, up_eq]) hQ
        have hkk : vp_in (jI (k : Nat)) 300 := by rw [jn_in (by omega)]; omega
        unfold rPt at fin
        rw [k0, k1, k2, k3, k4, k5, k6] at fin
        rw [jn_ix (by omega)] at fin
        rw [k4, k5, k6, k7]
        refine ⟨fun e => ?_, fun e => ?_, fun e => ?_, fun e => ?_, fun n4 n5 n6 n7 => ?_⟩
        · refine m_weightOf (fin _ (fun T Q hT t1 t2 hQ => ⟨fun z => by omega, fun z => by omega, fun z => by omega, fun z => by omega, fun z => ?_, fun z => by omega, fun z => by omega, fun _ _ _ _ z => by omega⟩))
          rw [t1, t2]
          have := m_cleanIn (S := T) (post := fun r138 S138 => Q r138 S138) (x0 := 0) (y0 := 0) (x1 := W) (y1 := H) (v3 := jI (W : Nat) - 1) (v4 := jI (H : Nat) - 1) (pt := jI (k : Nat)) (by rw [jI_1, jI_sub]) (by rw [jI_1, jI_sub]) (by omega) (by omega) hW hH
          refine this ?_
          unfold ctR
          rw [hT 34 (by omega) (by omega), hT 38 (by omega) (by omega), cP_c (p := fun u => inR 0 0 W H u ∧ ¬ S 34 u = 0 ∧ (jI (k : Nat) = -1 ∨ S 38 u = jI (k : Nat))) (q := fun u => ¬ S 2 u = 0 ∧ S 6 u = jI (k : Nat)) (fun u hu => ?_)]
          · exact hQ
          · constructor
            · rintro ⟨⟨-, o1, -, o2⟩, o3, o4⟩
              refine ⟨?_, ?_⟩
              · rw [p1 u hu, ← (p3 u hu o1 o2).2]; exact o3
              · rw [← q38 u hu o1 o2]; exact o4.resolve_left (jn_m1 (by omega))
            · rintro ⟨o3, o4⟩
              have hon : u % 24 < W ∧ u / 24 < H := by
                rw [p1 u hu, bI_z] at o3
                have := Classical.not_not.mp o3
                exact ⟨this.1.2.1, this.1.2.2.1⟩
              refine ⟨⟨by omega, hon.1, by omega, hon.2⟩, ?_, Or.inr ?_⟩
              · rw [(p3 u hu hon.1 hon.2).2, ← p1 u hu]; exact o3
              · rw [q38 u hu hon.1 hon.2]; exact o4
        · refine m_PkindOf (k := k) (x0 := lf) (y0 := tp) (x1 := rt + 1) (y1 := bt + 1) (by omega) (by omega) (by omega) (by omega) (by omega) e7 e8 (by rw [e9]; congr 1; omega) (by rw [e10]; congr 1; omega) (fin _ (fun T Q hT t1 t2 hQ => ⟨fun z => by omega, fun z => by omega, fun z => by omega, fun z => by omega, fun z => by omega, fun z => ⟨hkk, ?_⟩, fun z => by omega, fun _ _ _ _ _ z => by omega⟩))
          rw [hT 43 (by omega) (by omega), h43, kd_c (C := fun u => ¬ S 34 u = 0) (D := fun u => ¬ S 2 u = 0) (X := W) (Y := H) (fun u u1 u2 u3 => by rw [(p3 u u1 u2 u3).2, p1 u u1]) (by omega) (by omega) (by omega) (by omega)]
          exact hQ
        · refine m_countLines hpL (fin _ (fun T Q hT t1 t2 hQ => ⟨fun z => by omega, fun z => by omega, fun z => by omega, fun z => by omega, fun z => by omega, fun z => by omega, fun z => ?_, fun _ _ _ _ _ _ z => by omega⟩))
          exact m_Mlines hpL hT hQ
        · rw [jn_in (by omega), jn_ix (by omega), h11]
          refine ⟨by omega, fin _ (fun T Q hT t1 t2 hQ => ⟨fun z => by omega, fun z => by omega, fun z => by omega, fun z => by omega, fun z => by omega, fun z => by omega, fun z => by omega, fun _ _ _ _ _ _ _ => ?_⟩)⟩
          refine m_inkOf (W := W) (H := H) hW hH t1 t2 ?_
          rw [hT 38 (by omega) (by omega), cP_c (p := fun u => (u % 24 < W ∧ u / 24 < H) ∧ S 38 u = jI (k : Nat)) (q := fun u => S 6 u = jI (k : Nat)) (fun u hu => ?_)]
          · exact hQ
          · constructor
            · rintro ⟨o1, o2⟩; rw [← q38 u hu o1.1 o1.2]; exact o2
            · intro o
              have hon : u % 24 < W ∧ u / 24 < H := Classical.byContradiction (fun z => by
                rw [q6 u hu z] at o
                exact absurd o.symm (jn_m1 (by omega)))
              exact ⟨hon, by rw [q38 u hu hon.1 hon.2]; exact o⟩
        · unfold P_G_boxOf
          rw [k0, k1, k2, jn_in (by omega), jn_ix (by omega)]
          refine ⟨fun e => ⟨by omega, ?_⟩, fun e => ⟨by omega, ?_⟩, fun e => ?_, fun n0 n1 n2 => ?_⟩
          · refine fin _ (fun T Q hT t1 t2 hQ => ⟨fun z => ⟨hkk, ?_⟩, fun z => by omega, fun z => by omega, fun z => by omega, fun z => by omega, fun z => by omega, fun z => by omega, fun z => by omega⟩)
            rw [hT 39 (by omega) (by omega), e39, ← e7]; exact hQ
          · refine fin _ (fun T Q hT t1 t2 hQ => ⟨fun z => by omega, fun z => ⟨hkk, ?_⟩, fun z => by omega, fun z => by omega, fun z => by omega, fun z => by omega, fun z => by omega, fun _ z => by omega⟩)
            rw [hT 40 (by omega) (by omega), e40, ← e8]; exact hQ
          · refine m_wideOf (x0 := lf) (x1 := rt + 1) (by omega) (by omega) e7 (by rw [show 5 + 4 = 9 from rfl, e9]; congr 1; omega) (fin _ (fun T Q hT t1 t2 hQ => ⟨fun z => by omega, fun z => by omega, fun z => ⟨hkk, hkk, ?_⟩, fun z => by omega, fun z => by omega, fun z => by omega, fun z => by omega, fun _ _ z => by omega⟩))
            rw [hT 41 (by omega) (by omega), hT 39 (by omega) (by omega), e41, e39, jsn hlr, jn1, show rt - lf + 1 = rt + 1 - lf by omega]; exact hQ
          · refine m_highOf (y0 := tp) (y1 := bt + 1) (by omega) (by omega) e8 (by rw [show 5 + 5 = 10 from rfl, e10]; congr 1; omega) (fin _ (fun T Q hT t1 t2 hQ => ⟨fun z => by omega, fun z => by omega, fun z => by omega, fun z => ⟨hkk, hkk, ?_⟩, fun z => by omega, fun z => by omega, fun z => by omega, fun _ _ _ z => by omega⟩))
            rw [hT 42 (by omega) (by omega), hT 40 (by omega) (by omega), e42, e40, jsn htb, jn1, show bt - tp + 1 = bt + 1 - tp by omega]; exact hQ
      · refine Or.inl (Or.inr (p_par hp (Or.inr ?_)))
        rw [e56]
        refine p_bel ha (by omega) hs ?_
        show X_P_mustBeTold (jI b) (jI ((8 : Nat) : Int)) S _
        refine x_tol hb (by omega) ht (Or.inr (Or.inr ⟨rfl, h 3 S (fun Q hQ => ?_)⟩))
        show P_M_in (jI a) 0 ((S 31 12) - 1) S (fun r13 S13 => P_M_in (jI b) 0 7 S13 (fun r20 S20 => P_M_goes (S 31 5) r13 r20 S20 (fun r23 S23 => (¬ r23 = 0 → rPt (jI a) (jI b) S23 Q) ∧ (r23 = 0 → Q 0 S23))))
        rw [e12]
        refine i_lt ha (by omega) (fun _ => ?_) (fun z => absurd hs z)
        refine i_le (c := 8) hb (by omega) rfl (fun z => absurd z ht) (fun _ => ?_)
        exact m_goes (fun z => absurd z hz) (fun _ z => absurd z n0_) (fun _ _ _ => ⟨fun z => absurd rfl z, fun _ => a_thr hR (by decide) hQ⟩) (fun _ _ z => absurd rfl z)
    · refine Or.inl (Or.inr (p_par hp (Or.inl ?_)))
      rw [e56]
      refine x_bel ha (by omega) hs (Or.inr (Or.inl ⟨rfl, h 2 S (fun Q hQ => ?_)⟩))
      show P_M_in (jI a) 0 ((S 31 12) - 1) S (fun r13 S13 => P_M_in (jI b) 0 7 S13 (fun r20 S20 => P_M_goes (S 31 5) r13 r20 S20 (fun r23 S23 => (¬ r23 = 0 → rPt (jI a) (jI b) S23 Q) ∧ (r23 = 0 → Q 0 S23))))
      rw [e12]
      refine i_lt ha (by omega) (fun z => absurd z hs) (fun _ => ?_)
      have k : ∀ r9 : Int32, P_M_goes (S 31 5) 0 r9 S (fun r23 S23 => (¬ r23 = 0 → rPt (jI a) (jI b) S23 Q) ∧ (r23 = 0 → Q 0 S23)) := fun r9 => m_goes (fun z => absurd z hz) (fun _ _ => ⟨fun z => absurd rfl z, fun _ => a_thr hR (by decide) hQ⟩) (fun _ z => absurd rfl z) (fun _ z => absurd rfl z)
      exact m_inT (fun _ _ => k 1) (fun _ => k 0)
end ZY
