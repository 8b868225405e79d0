section ZW
variable {W H : Nat} {S : zS} {post : Int32 → zS → Prop}
theorem m_MtoldL {T : zS} {K : Int32 → Int32 → zS → Prop} {v1 : Int32} (hW : W ≤ 24) (hH : H ≤ 24) (a1 : T 31 1 = jI (W : Nat)) (a2 : T 31 2 = jI (H : Nat)) (hb : ∀ u, z_bo (T 32 u)) (h : K (jI (cP (g_M (T 32) 1 W H) 576 : Nat)) (jI (cP (fun u => ¬ T 31 5 = 0 ∧ oP W H u ∧ ¬ T 33 u = 0) 576 : Nat)) T) : ∃ k, L_M_told_12 post K v1 k 0 0 0 T := by
  generalize hp : (g_M (T 32) 1 W H) = p at h
  have pd : ∀ u, p u ↔ u < 576 ∧ u % 24 < W ∧ u / 24 < H ∧ T 32 u = 1 := fun u => by rw [← hp]; exact Iff.rfl
  generalize hq : (fun u => ¬ T 31 5 = 0 ∧ oP W H u ∧ ¬ T 33 u = 0) = q at h
  have qd : ∀ u, q u ↔ ¬ T 31 5 = 0 ∧ (u % 24 < W ∧ u / 24 < H) ∧ ¬ T 33 u = 0 := fun u => by rw [← hq]; exact Iff.rfl
  refine lq3 (A := Nat) (B := Nat) (C := Nat) (fun k n m y S' => L_M_told_12 post K v1 k (jI (n : Nat)) (jI (m : Nat)) (jI (y : Nat)) S') (fun n m y S' => S' = T ∧ y ≤ H ∧ n = cP p (24 * y) ∧ m = cP q (24 * y)) (fun _ _ y _ => H - y) ?_ 0 0 0 T ⟨rfl, by omega, rfl, rfl⟩
  rintro k n m y S' ⟨rfl, hy, hn, hm⟩ ih
  rw [L_M_told_12, a2, jn_le (by omega) (by omega)]
  refine ⟨fun hz => ?_, fun hz => ?_⟩
  · rw [hn, hm, ← cP_s (p := p) (a := 24 * y) (b := 576) (by omega) (fun i h1 h2 h3 => by have := ((pd i).mp h3).2.2.1; omega), ← cP_s (p := q) (a := 24 * y) (b := 576) (by omega) (fun i h1 h2 h3 => by have := ((qd i).mp h3).2.1.2; omega)]
    exact h
  · refine lq3 (A := Nat) (B := Nat) (C := Nat) (fun k n m x S'' => L_M_told_24 post _ v1 (jI (y : Nat)) k (jI (n : Nat)) (jI (m : Nat)) (jI (x : Nat)) S'') (fun n m x S'' => S'' = S' ∧ x ≤ W ∧ n = cP p (24 * y + x) ∧ m = cP q (24 * y + x)) (fun _ _ x _ => W - x) ?_ n m 0 S' ⟨rfl, by omega, hn, hm⟩
    rintro k2 n2 m2 x S'' ⟨rfl, hx, hn2, hm2⟩ ih2
    rw [L_M_told_24, a1, jn_le (by omega) (by omega)]
    refine ⟨fun hz2 x94 e94 => ?_, fun hz2 => ?_⟩
    · rw [e94, jn1 y]
      refine ih n2 m2 (y + 1) S'' ⟨rfl, by omega, ?_, ?_⟩ (by omega)
      · rw [hn2]
        exact (cP_s (by omega) (fun i h1 h2 h3 => by have := ((pd i).mp h3).2.1; omega)).symm
      · rw [hm2]
        exact (cP_s (by omega) (fun i h1 h2 h3 => by have := ((qd i).mp h3).2.1.1; omega)).symm
    · rw [jat', jn_in (by omega), jn_ix (by omega)]
      have k56 : ∀ n3 : Nat, n3 = cP p (24 * y + (x + 1)) → J_M_told_56 post (L_M_told_24 post (fun v2_24e v3_24e S24e => ∀ x94 : Int32, x94 = jI (y : Nat) + 1 → L_M_told_12 post K v1 k v2_24e v3_24e x94 S24e) v1 (jI (y : Nat)) k2) v1 (jI (m2 : Nat)) (jI (y : Nat)) (jI (x : Nat)) (jI (n3 : Nat)) S'' := fun n3 hn3 => by
        unfold J_M_told_56
        rw [jat', jn_in (by omega), jn_ix (by omega)]
        have nx : ∀ m3 : Nat, m3 = cP q (24 * y + (x + 1)) → ∀ x88 : Int32, x88 = jI (x : Nat) + 1 → L_M_told_24 post (fun v2_24e v3_24e S24e => ∀ x94 : Int32, x94 = jI (y : Nat) + 1 → L_M_told_12 post K v1 k v2_24e v3_24e x94 S24e) v1 (jI (y : Nat)) k2 (jI (n3 : Nat)) (jI (m3 : Nat)) x88 S'' := fun m3 hm3 x88 e88 => by
          rw [e88, jn1 x]
          exact ih2 n3 m3 (x + 1) S'' ⟨rfl, by omega, hn3, hm3⟩ (by omega)
        refine ⟨fun a => nx m2 (by rw [hm2]; exact (cP_n (p := q) (n := 24 * y + x) (fun z => ((qd _).mp z).1 a)).symm), fun a => ⟨by omega, fun b => nx m2 (by rw [hm2]; exact (cP_n (p := q) (n := 24 * y + x) (fun z => ((qd _).mp z).2.2 b)).symm), fun b x87 e87 => ?_⟩⟩
        rw [e87, jn1 m2]
        exact nx (m2 + 1) (by rw [hm2]; exact (cP_y (p := q) (n := 24 * y + x) ((qd _).mpr ⟨a, ⟨by omega, by omega⟩, b⟩)).symm)
      refine ⟨by omega, fun a => ?_, fun a => ?_⟩
      · have hno : ¬ p (24 * y + x) := fun z => by
          have := ((pd _).mp z).2.2.2
          rw [a] at this
          exact absurd this (by decide)
        exact k56 n2 (by rw [hn2]; exact (cP_n (p := p) (n := 24 * y + x) hno).symm)
      · rw [jn1 n2]
        exact k56 (n2 + 1) (by rw [hn2]; exact (cP_y (p := p) (n := 24 * y + x) ((pd _).mpr ⟨by omega, by omega, by omega, (hb _).resolve_left a⟩)).symm)
theorem cP_sub {p c : Nat → Prop} : ∀ {n : Nat}, (∀ u, u < n → c u → p u) → cP (fun u => p u ∧ ¬ c u) n + cP c n = cP p n
  | 0, _ => rfl
  | n + 1, h => by
    have ih := cP_sub (n := n) (fun u hu => h u (by omega))
    by_cases hp : p n
    · by_cases hc : c n
      · rw [cP_n (p := fun u => p u ∧ ¬ c u) (fun z => z.2 hc), cP_y hc, cP_y hp]; omega
      · rw [cP_y (p := fun u => p u ∧ ¬ c u) ⟨hp, hc⟩, cP_n hc, cP_y hp]; omega
    · rw [cP_n (p := fun u => p u ∧ ¬ c u) (fun z => hp z.1), cP_n (fun z => hp (h n (by omega) z)), cP_n hp]; exact ih
theorem q_told {v1 : Int32} (hR : rR W H S) (h : ∀ r S1, (∀ Q : Int32 → zS → Prop, (∀ S2, rR W H S2 → Q r S2) → P_M_told v1 S1 Q) → post r S1) : P_P_told v1 S post := by
  obtain ⟨b, hb, rfl⟩ := jx_ v1
  obtain ⟨nz, hB, e5, hbo, hP⟩ := id hR
  obtain ⟨⟨hW0, hW, hH0, hH, hnz⟩, ⟨a1, a2, a3, a4⟩, -, ⟨b1, b2, b3⟩, ⟨c1, c2⟩, -⟩ := id hB
  have k0 : jI b = 0 ↔ b = 0 := jI_eq hb (jS (z := 0) (by omega))
  have k1 : jI b = 1 ↔ b = 1 := jI_eq hb (jS (z := 1) (by omega))
  have k2 : jI b = 2 ↔ b = 2 := jI_eq hb (jS (z := 2) (by omega))
  have k3 : jI b = 3 ↔ b = 3 := jI_eq hb (jS (z := 3) (by omega))
  have k4 : jI b = 4 ↔ b = 4 := jI_eq hb (jS (z := 4) (by omega))
  have k5 : jI b = 5 ↔ b = 5 := jI_eq hb (jS (z := 5) (by omega))
  have k6 : jI b = 6 ↔ b = 6 := jI_eq hb (jS (z := 6) (by omega))
  have k7 : jI b = 7 ↔ b = 7 := jI_eq hb (jS (z := 7) (by omega))
  have l3 : 3 ≤ jI b ↔ 3 ≤ b := jI_le (jS (z := 3) (by omega)) hb
  have hT : ∀ r : Int32, (¬ S 31 5 = 0 → b = 7 → jI (cP (fun u => ¬ S 31 5 = 0 ∧ oP W H u ∧ ¬ S 33 u = 0) 576 : Nat) = r) → (¬ S 31 5 = 0 → b = 6 → S 31 23 = r) → (¬ S 31 5 = 0 → b = 5 → S 31 21 = r) → (¬ S 31 5 = 0 → b = 4 → S 31 19 = r) → (¬ S 31 5 = 0 → b = 3 → S 31 12 = r) → (¬ S 31 5 = 0 → 8 ≤ b → -1 = r) → (S 31 5 = 0 → 3 ≤ b → -1 = r) → (b < 0 → -1 = r) → (b = 2 → S 0 10 = r) → (b = 1 → S 31 2 = r) → (b = 0 → S 31 1 = r) → post r S := fun r p7 p6 p5 p4 p3 p8 pu pn p2 p1 p0 => by
    refine h r S (fun Q hQ => ?_)
    unfold P_M_told
    intro S2 e2
    have f2 : ∀ j, j ≠ 0 → S2 31 j = S 31 j := fun j hj => by rw [e2, su_eq, up_ne hj]
    have g2 : ∀ a, a ≠ 31 → S2 a = S a := fun a ha => by rw [e2, su_ne ha]
    have hQ2 : ∀ q, q = r → Q q S2 := fun q e => by rw [e, e2]; exact hQ _ (rR_31 hR 0)
    refine m_MtoldL (W := W) (H := H) hW hH (by rw [f2 1 (by omega)]; exact b1) (by rw [f2 2 (by omega)]; exact b2) (fun u => by rw [g2 32 (by omega), c2]; exact c1 u) ?_
    rw [k0, k1, k2, k3, k4, k5, k6, k7, l3, f2 5 (by omega), f2 1 (by omega), f2 2 (by omega), f2 12 (by omega), f2 19 (by omega), f2 21 (by omega), f2 23 (by omega), g2 32 (by omega), g2 33 (by omega), c2, ← a4]
    refine ⟨fun d3 => ⟨fun dp => ⟨fun n3 => ⟨fun n4 => ⟨fun n5 => ⟨fun n6 => ⟨fun n7 => hQ2 _ (p8 dp (by omega)), fun e => hQ2 _ (p7 dp e)⟩, fun e => hQ2 _ (p6 dp e)⟩, fun e => hQ2 _ (p5 dp e)⟩, fun e => hQ2 _ (p4 dp e)⟩, fun e => hQ2 _ (p3 dp e)⟩, fun dp => hQ2 _ (pu dp d3)⟩, fun d3 => ⟨fun n0 => ⟨fun n1 => ⟨fun n2 => hQ2 _ (pn (by omega)), fun e => hQ2 _ (p2 e)⟩, fun e => hQ2 _ (p1 e)⟩, fun e => hQ2 _ (p0 e)⟩⟩
  unfold P_P_told P_P_toldOfParted
  rw [k0, k1, k2, k3, k4, k5, k6, k7]
  refine ⟨fun e => ?_, fun e => ?_, fun e => ?_, fun n0 n1 n2 => ⟨fun hp => ?_, fun hp => ?_⟩⟩
  · exact hT _ (fun _ _ => by omega) (fun _ _ => by omega) (fun _ _ => by omega) (fun _ _ => by omega) (fun _ _ => by omega) (fun _ _ => by omega) (fun _ _ => by omega) (fun _ => by omega) (fun _ => by omega) (fun _ => by omega) (fun _ => by rw [b1, a1])
  · exact hT _ (fun _ _ => by omega) (fun _ _ => by omega) (fun _ _ => by omega) (fun _ _ => by omega) (fun _ _ => by omega) (fun _ _ => by omega) (fun _ _ => by omega) (fun _ => by omega) (fun _ => by omega) (fun _ => by rw [b2, a2]) (fun _ => by omega)
  · exact hT _ (fun _ _ => by omega) (fun _ _ => by omega) (fun _ _ => by omega) (fun _ _ => by omega) (fun _ _ => by omega) (fun _ _ => by omega) (fun _ _ => by omega) (fun _ => by omega) (fun _ => rfl) (fun _ => by omega) (fun _ => by omega)
  · have hz : S 31 5 = 0 := e5.trans hp
    exact hT _ (fun z => absurd hz z) (fun z => absurd hz z) (fun z => absurd hz z) (fun z => absurd hz z) (fun z => absurd hz z) (fun z => absurd hz z) (fun _ _ => rfl) (fun _ => rfl) (fun _ => by omega) (fun _ => by omega) (fun _ => by omega)
  · have hz : ¬ S 31 5 = 0 := fun z => hp (e5.symm.trans z)
    obtain ⟨⟨p1, p2, p3⟩, ⟨c, hc, q1, q2, -⟩, ⟨n, hn, q3, q4, -⟩, ⟨q5, -⟩, ⟨n', hn', q6, q7, -⟩⟩ := hP hp
    refine ⟨fun e => ?_, fun e => ?_, fun e => ?_, fun e => ?_, fun e => ?_, fun n3 n4 n5 n6 n7 => ?_⟩
    · exact hT _ (fun _ _ => by omega) (fun _ _ => by omega) (fun _ _ => by omega) (fun _ _ => by omega) (fun _ _ => by rw [q1, q2]) (fun _ _ => by omega) (fun z => absurd z hz) (fun _ => by omega) (fun _ => by omega) (fun _ => by omega) (fun _ => by omega)
    · exact hT _ (fun _ _ => by omega) (fun _ _ => by omega) (fun _ _ => by omega) (fun _ _ => by rw [q3, q4]) (fun _ _ => by omega) (fun _ _ => by omega) (fun z => absurd z hz) (fun _ => by omega) (fun _ => by omega) (fun _ => by omega) (fun _ => by omega)
    · exact hT _ (fun _ _ => by omega) (fun _ _ => by omega) (fun _ _ => q5.symm) (fun _ _ => by omega) (fun _ _ => by omega) (fun _ _ => by omega) (fun z => absurd z hz) (fun _ => by omega) (fun _ => by omega) (fun _ => by omega) (fun _ => by omega)
    · exact hT _ (fun _ _ => by omega) (fun _ _ => by rw [q6, q7]) (fun _ _ => by omega) (fun _ _ => by omega) (fun _ _ => by omega) (fun _ _ => by omega) (fun z => absurd z hz) (fun _ => by omega) (fun _ => by omega) (fun _ => by omega) (fun _ => by omega)
    · refine hT _ (fun _ _ => ?_) (fun _ _ => by omega) (fun _ _ => by omega) (fun _ _ => by omega) (fun _ _ => by omega) (fun _ _ => by omega) (fun z => absurd z hz) (fun _ => by omega) (fun _ => by omega) (fun _ => by omega) (fun _ => by omega)
      have hs := cP_sub (p := g_M (S 1) 1 W H) (c := cl_ (S 1) W H nz) (n := 576) (fun u _ hcl => hcl.1)
      rw [a4, p2, ← hs, jsn (by omega), Nat.add_sub_cancel]
      rw [cP_c (p := fun u => ¬ S 31 5 = 0 ∧ oP W H u ∧ ¬ S 33 u = 0) (q := fun u => g_M (S 1) 1 W H u ∧ ¬ cl_ (S 1) W H nz u) (fun u hu => ?_)]
      constructor
      · rintro ⟨-, o1, o2⟩
        rw [(p3 u hu o1.1 o1.2).1, bI_z] at o2
        exact Classical.not_not.mp o2
      · intro o
        refine ⟨hz, ⟨o.1.2.1, o.1.2.2.1⟩, ?_⟩
        rw [(p3 u hu o.1.2.1 o.1.2.2.1).1, bI_z]
        exact fun z => z o
    · exact hT _ (fun _ _ => by omega) (fun _ _ => by omega) (fun _ _ => by omega) (fun _ _ => by omega) (fun _ _ => by omega) (fun _ _ => rfl) (fun z => absurd z hz) (fun _ => rfl) (fun _ => by omega) (fun _ => by omega) (fun _ => by omega)
end ZW
