section ZQ
def oP (W H u : Nat) : Prop := u % 24 < W ∧ u / 24 < H
/-- both sides alike behind a run -/
def rP (W H nz : Nat) (S : zS) : Prop :=
  ((∀ u, u < 576 → S 2 u = bI (cl_ (S 1) W H nz u)) ∧ S 0 11 = jI (cP (cl_ (S 1) W H nz) 576 : Nat) ∧
    (∀ u, u < 576 → u % 24 < W → u / 24 < H → S 33 u = bI (g_M (S 1) 1 W H u ∧ ¬ cl_ (S 1) W H nz u) ∧ S 34 u = bI (cl_ (S 1) W H nz u))) ∧
  (∃ c : Nat, c ≤ 288 ∧ S 5 6 = jI (c : Nat) ∧ S 31 12 = jI (c : Nat) ∧ (∀ u, u < 576 → u % 24 < W → u / 24 < H → S 38 u = S 6 u) ∧ (∀ u, u < 576 → ¬ (u % 24 < W ∧ u / 24 < H) → S 6 u = -1) ∧
    (∀ k, k < c → S 11 k = jI (cP (fun u => S 6 u = jI k) 576 : Nat) ∧ ∃ lf tp rt bt : Nat, rt < W ∧ bt < H ∧ lf ≤ rt ∧ tp ≤ bt ∧ S 7 k = jI lf ∧ S 8 k = jI tp ∧ S 9 k = jI rt ∧ S 10 k = jI bt ∧ S 39 k = jI lf ∧ S 40 k = jI tp ∧ S 41 k = jI rt ∧ S 42 k = jI bt ∧ S 43 k = jI (kd_ (fun u => ¬ S 34 u = 0) lf tp (rt + 1) (bt + 1) : Nat) ∧ g_BX (S 6) k 576 lf tp rt bt) ∧
    ∀ x, x < c → S 28 x = S 44 x) ∧
  (∃ n : Nat, n ≤ 6 ∧ S 21 4 = jI (n : Nat) ∧ S 31 19 = jI (n : Nat) ∧ ∀ k, k < n → S 22 k = S 45 (4 * k) ∧ S 23 k = S 45 (4 * k + 1) ∧ S 24 k = S 45 (4 * k + 2) ∧ S 25 k = S 45 (4 * k + 3)) ∧
  (S 0 12 = S 31 21 ∧ ∀ x, x < W → S 4 x = S 46 x) ∧
  (∃ n : Nat, n ≤ 288 ∧ S 13 6 = jI (n : Nat) ∧ S 31 23 = jI (n : Nat) ∧ ∀ k, k < n → S 19 k = jI (cP (fun u => oP W H u ∧ S 47 u = jI k) 576 : Nat) ∧ ∃ lf tp rt bt : Nat, lf < 24 ∧ tp < 24 ∧ rt < 24 ∧ bt < 24 ∧ S 15 k = jI lf ∧ S 16 k = jI tp ∧ S 17 k = jI rt ∧ S 18 k = jI bt ∧
    (∀ u, u < 576 → oP W H u → S 47 u = jI k → lf ≤ u % 24 ∧ u % 24 ≤ rt ∧ tp ≤ u / 24 ∧ u / 24 ≤ bt) ∧ (∃ u, u < 576 ∧ oP W H u ∧ S 47 u = jI k ∧ u % 24 = lf) ∧ (∃ u, u < 576 ∧ oP W H u ∧ S 47 u = jI k ∧ u % 24 = rt) ∧ (∃ u, u < 576 ∧ oP W H u ∧ S 47 u = jI k ∧ u / 24 = tp) ∧ (∃ u, u < 576 ∧ oP W H u ∧ S 47 u = jI k ∧ u / 24 = bt))
theorem hs_c {I J : Nat → Prop} {W H x : Nat} (hW : W ≤ 24) (hH : H ≤ 24) (h : ∀ u, u < 576 → u % 24 < W → u / 24 < H → (I u ↔ J u)) (hx : x < W) : hs_ I H x ↔ hs_ J H x := by
  have hh : ∀ y, y < H → (I (24 * y + x) ↔ J (24 * y + x)) := fun y hy => h _ (by omega) (by omega) (by omega)
  exact ⟨fun ⟨y, hy, z⟩ => ⟨y, hy, (hh y hy).mp z⟩, fun ⟨y, hy, z⟩ => ⟨y, hy, (hh y hy).mpr z⟩⟩
theorem st_c {I J : Nat → Prop} {W H x : Nat} (hW : W ≤ 24) (hH : H ≤ 24) (h : ∀ u, u < 576 → u % 24 < W → u / 24 < H → (I u ↔ J u)) (hx : x < W) : st_ I H x ↔ st_ J H x := by
  unfold st_
  rw [hs_c hW hH h hx, hs_c (x := x - 1) hW hH h (by omega)]
theorem sv_c {I J : Nat → Prop} {W H x : Nat} (hW : W ≤ 24) (hH : H ≤ 24) (h : ∀ u, u < 576 → u % 24 < W → u / 24 < H → (I u ↔ J u)) (hx : x < W) : sv_ I H x = sv_ J H x := by
  unfold sv_
  rw [cP_c (p := st_ I H) (q := st_ J H) (fun i hi => st_c hW hH h (by omega))]
  by_cases z : hs_ I H x
  · rw [if_pos z, if_pos ((hs_c hW hH h hx).mp z)]
  · rw [if_neg z, if_neg (fun w => z ((hs_c hW hH h hx).mpr w))]
/-- of the marked k below n, the one that has j marked ahead of it -/
theorem cP_at {p : Nat → Prop} : ∀ {n j : Nat}, j < cP p n → ∃ k, k < n ∧ p k ∧ cP p k = j
  | 0, j, h => absurd h (Nat.not_lt_zero j)
  | n + 1, j, h => by
    by_cases hp : p n
    · rw [cP_y hp] at h
      rcases Nat.lt_or_ge j (cP p n) with w | w
      · obtain ⟨k, k1, k2, k3⟩ := cP_at w
        exact ⟨k, by omega, k2, k3⟩
      · exact ⟨n, by omega, hp, by omega⟩
    · rw [cP_n hp] at h
      obtain ⟨k, k1, k2, k3⟩ := cP_at h
      exact ⟨k, by omega, k2, k3⟩
theorem cl_e {B B' : Nat → Int32} {W H nz : Nat} (h : g_M B 1 W H = g_M B' 1 W H) : cl_ B W H nz = cl_ B' W H nz := by
  funext u
  unfold cl_
  rw [h]
theorem m_Mrun {W H nz gx gy c : Nat} {T : zS} {post : Int32 → zS → Prop} (hB : rB W H nz T) (hC : cF W H nz gx gy T c) (hgx : gx ≤ 24) (hgy : gy ≤ 24)
    (h : ∀ S' : zS, (∀ a, a < 31 → S' a = T a) → S' 50 = T 50 → S' 32 = T 32 → (∀ j, j ≠ 0 → j ≠ 5 → j ≠ 12 → j ≠ 19 → j ≠ 21 → j ≠ 23 → S' 31 j = T 31 j) → S' 31 0 = 0 → S' 31 5 = 1 → (∀ u, z_bo (S' 33 u)) → (∀ u, z_bo (S' 34 u)) → (∀ u, z_bo (S' 35 u)) → (∀ u, z_bo (S' 36 u)) → rP W H nz S' → post (jI (c : Nat)) S') : P_M_run (jI gx) (jI gy) T post := by
  obtain ⟨⟨hW0, hW, hH0, hH, hnz⟩, -, -, ⟨a1, a2, a4⟩, ⟨c1, c2⟩, ⟨-, -, d3, d4, d5, d6⟩⟩ := hB
  obtain ⟨q2, q11, q3, ⟨hc, q56, r, lo, hi, sq, hG, hlh, hb24, hbox, hsq, hord⟩, ⟨n, q4, hcv, hrow⟩, ⟨q12, hstr⟩, L2, n2, r2, hG2, q13, hcell⟩ := hC
  unfold P_M_run
  rw [jI_0, show (24 : Int32) = jI 24 from rfl]
  refine m_in (jS (by omega)) (jS (by omega)) (jS (by omega)) (fun _ => ⟨fun z => absurd z (by decide), fun _ => ?_⟩) (fun z => absurd (by omega) z)
  refine m_in (jS (by omega)) (jS (by omega)) (jS (by omega)) (fun _ => ⟨fun z => absurd z (by decide), fun _ => ?_⟩) (fun z => absurd (by omega) z)
  unfold J_M_run_26 P_M_goes J_M_goes_26
  refine ⟨fun _ => ⟨fun _ => ⟨fun _ S0 e0 => ⟨fun z => absurd ?_ z, fun _ => ⟨fun _ => ?_, fun z => absurd z (by decide)⟩⟩, fun z => absurd z (by decide)⟩, fun z => absurd z (by decide)⟩, fun z => absurd z (by decide)⟩
  · rw [e0, su_eq, up_eq]
  have f0 : ∀ a, a ≠ 31 → S0 a = T a := fun a ha => by rw [e0, su_ne ha]
  have f0a : ∀ j, j ≠ 0 → S0 31 j = T 31 j := fun j hj => by rw [e0, su_eq, up_ne hj]
  have f00 : S0 31 0 = 0 := by rw [e0, su_eq, up_eq]
  refine m_takeInk (W := W) (H := H) (nz := nz) hW0 hW hH (by rw [f0a 1 (by omega)]; exact a1) (by rw [f0a 2 (by omega)]; exact a2) (by rw [f0a 4 (by omega)]; exact a4) hnz hgx hgy (fun u => by rw [f0 32 (by omega), c2]; exact c1 u) (fun u => by rw [f0 33 (by omega)]; exact d3 u) (fun u => by rw [f0 34 (by omega)]; exact d4 u) (fun u => by rw [f0 35 (by omega)]; exact d5 u) (fun S1 f1 bo33 bo34 bo35 hink => ?_)
  rw [f0 32 (by omega), c2] at hink
  have e351 : ∀ u, u < 576 → u % 24 < W → u / 24 < H → S1 35 u = T 3 u := fun u h1 h2 h3 => by rw [(hink u h1 h2 h3).2.2, q3 u h1 h2 h3]
  have e341 : ∀ u, u < 576 → u % 24 < W → u / 24 < H → S1 34 u = T 2 u := fun u h1 h2 h3 => by rw [(hink u h1 h2 h3).2.1, q2 u h1]
  have m35 : g_M (S1 35) 1 W H = g_M (T 3) 1 W H := by
    funext u
    refine propext ⟨fun ⟨h1, h2, h3, h4⟩ => ⟨h1, h2, h3, ?_⟩, fun ⟨h1, h2, h3, h4⟩ => ⟨h1, h2, h3, ?_⟩⟩
    · rw [← e351 u h1 h2 h3]; exact h4
    · rw [e351 u h1 h2 h3]; exact h4
  have m34 : g_M (S1 34) 0 W H = g_M (T 2) 0 W H := by
    funext u
    refine propext ⟨fun ⟨h1, h2, h3, h4⟩ => ⟨h1, h2, h3, ?_⟩, fun ⟨h1, h2, h3, h4⟩ => ⟨h1, h2, h3, ?_⟩⟩
    · rw [← e341 u h1 h2 h3]; exact h4
    · rw [e341 u h1 h2 h3]; exact h4
  have g1 : S1 31 = S0 31 := f1 31 (by omega) (by omega) (by omega) (by omega)
  refine m_takeParts (W := W) (H := H) (L := T 6) (c := c) (r := r) hW0 hW hH (by rw [g1, f0a 1 (by omega)]; exact a1) (by rw [g1, f0a 2 (by omega)]; exact a2) bo35 (by rw [m35]; exact hG) (fun S2 f2 f2a e2 h38 hb2 => ?_)
  have g2 : ∀ j, j ≠ 12 → S2 31 j = S0 31 j := fun j hj => by rw [f2a j hj, g1]
  refine m_takeCovers (W := W) (H := H) (F0 := fun u => T 3 u = 0) (n := n) hW hH (by rw [g2 1 (by omega), f0a 1 (by omega)]; exact a1) (by rw [g2 2 (by omega), f0a 2 (by omega)]; exact a2) (fun u => by rw [f2 36 (by omega), f1 36 (by omega) (by omega) (by omega) (by omega), f0 36 (by omega)]; exact d6 u) (fun u h1 h2 h3 => by rw [f2 35 (by omega), e351 u h1 h2 h3]) hcv (fun S3 f3 f3a e3 bo36 hrow3 => ?_)
  have g3 : ∀ j, j ≠ 12 → j ≠ 19 → S3 31 j = S0 31 j := fun j h1 h2 => by rw [f3a j h2, g2 j h1]
  refine m_takeStrips (W := W) (H := H) hW hH (by rw [g3 1 (by omega) (by omega), f0a 1 (by omega)]; exact a1) (by rw [g3 2 (by omega) (by omega), f0a 2 (by omega)]; exact a2) (fun S4 f4 f4a e4 hst4 => ?_)
  have g4 : ∀ j, j ≠ 12 → j ≠ 19 → j ≠ 21 → S4 31 j = S0 31 j := fun j h1 h2 h3 => by rw [f4a j h3, g3 j h1 h2]
  have x34 : S4 34 = S1 34 := by rw [f4 34 (by omega) (by omega), f3 34 (by omega) (by omega) (by omega), f2 34 (by omega)]
  refine m_takeCells (W := W) (H := H) (L := L2) (c := n2) (r := r2) hW0 hH0 hW hH (by rw [g4 1 (by omega) (by omega) (by omega), f0a 1 (by omega)]; exact a1) (by rw [g4 2 (by omega) (by omega) (by omega), f0a 2 (by omega)]; exact a2) (fun u => by rw [x34]; exact bo34 u) (by rw [x34, m34]; exact hG2) (fun S5 f5 f5a e5 hcl5 => ?_)
  have g5 : ∀ j, j ≠ 12 → j ≠ 19 → j ≠ 21 → j ≠ 23 → S5 31 j = S0 31 j := fun j h1 h2 h3 h4 => by rw [f5a j h4, g4 j h1 h2 h3]
  have k39 : ∀ a, 38 ≤ a → a ≤ 43 → S5 a = S2 a := fun a h1 h2 => by rw [f5 a (by omega) (by omega) (by omega), f4 a (by omega) (by omega), f3 a (by omega) (by omega) (by omega)]
  have hbx : ∀ k, k < c → S2 39 k = jI (lo 0 k : Nat) ∧ S2 40 k = jI (lo 1 k : Nat) ∧ S2 41 k = jI (hi 0 k : Nat) ∧ S2 42 k = jI (hi 1 k : Nat) ∧ S2 43 k = jI (kd_ (fun u => ¬ S1 34 u = 0) (lo 0 k) (lo 1 k) (hi 0 k + 1) (hi 1 k + 1) : Nat) := fun k hk => by
    obtain ⟨lf, tp, rt, bt, p1, p2, p3, p4, p5, p6, p7, p8, p9, p10⟩ := hb2 k hk
    obtain ⟨z1, z2, z3, z4⟩ := g_BX_u p10 (hbox k hk).2.2.2.2.2
    rw [z1] at p5 p9
    rw [z2] at p6 p9
    rw [z3] at p7 p9
    rw [z4] at p8 p9
    exact ⟨p5, p6, p7, p8, p9⟩
  refine m_takeOrder (lo := lo) (hi := hi) hc hb24 hlh (by rw [f5a 12 (by omega), f4a 12 (by omega), f3a 12 (by omega)]; exact e2) ⟨fun k hk => by rw [k39 39 (by omega) (by omega)]; exact (hbx k hk).1, fun k hk => by rw [k39 40 (by omega) (by omega)]; exact (hbx k hk).2.1, fun k hk => by rw [k39 41 (by omega) (by omega)]; exact (hbx k hk).2.2.1, fun k hk => by rw [k39 42 (by omega) (by omega)]; exact (hbx k hk).2.2.2.1⟩ (fun S6 sq2 f6 hsq2 hord2 => ?_)
  intro S7 e7
  have f7 : ∀ a, a ≠ 31 → S7 a = S6 a := fun a ha => by rw [e7, su_ne ha]
  have hsqe := so_u (LT := lt_ lo hi 300 (fun k => k < c)) (s := sq) (t := sq2) (fun x hx => (hsq x hx).2) (fun x hx => (hsq2 x hx).2) (lt_as 300 _) hord hord2
  have w31 : ∀ j, j ≠ 5 → S7 31 j = S5 31 j := fun j hj => by rw [e7, su_eq, up_ne hj, f6 31 (by omega) (by omega) (by omega)]
  have wlow : ∀ a, a < 31 → S7 a = T a := fun a ha => by rw [f7 a (by omega), f6 a (by omega) (by omega) (by omega), f5 a (by omega) (by omega) (by omega), f4 a (by omega) (by omega), f3 a (by omega) (by omega) (by omega), f2 a (by omega), f1 a (by omega) (by omega) (by omega) (by omega), f0 a (by omega)]
  have w2 : ∀ a, 32 ≤ a → a < 36 → S7 a = S1 a := fun a h1 h2 => by rw [f7 a (by omega), f6 a (by omega) (by omega) (by omega), f5 a (by omega) (by omega) (by omega), f4 a (by omega) (by omega), f3 a (by omega) (by omega) (by omega), f2 a (by omega)]
  have w38 : ∀ a, 38 ≤ a → a ≤ 43 → S7 a = S2 a := fun a h1 h2 => by rw [f7 a (by omega), f6 a (by omega) (by omega) (by omega), k39 a h1 h2]
  have w45 : S7 45 = S3 45 := by rw [f7 45 (by omega), f6 45 (by omega) (by omega) (by omega), f5 45 (by omega) (by omega) (by omega), f4 45 (by omega) (by omega)]
  have w46 : S7 46 = S4 46 := by rw [f7 46 (by omega), f6 46 (by omega) (by omega) (by omega), f5 46 (by omega) (by omega) (by omega)]
  have w47 : S7 47 = S5 47 := by rw [f7 47 (by omega), f6 47 (by omega) (by omega) (by omega)]
  have w12 : S7 31 12 = jI (c : Nat) := by rw [w31 12 (by omega), f5a 12 (by omega), f4a 12 (by omega), f3a 12 (by omega)]; exact e2
  rw [w12]
  have x335 : S3 35 = S1 35 := by rw [f3 35 (by omega) (by omega) (by omega), f2 35 (by omega)]
  have hik : ∀ u, u < 576 → u % 24 < W → u / 24 < H → ((¬ T 3 u = 0) ↔ ¬ S3 35 u = 0) := fun u h1 h2 h3 => by rw [x335, e351 u h1 h2 h3]
  -- the cells
  have hcn : ∀ u k, u < 576 → oP W H u → k < n2 → cd_ L2 W H k → (S5 47 u = jI (cP (cd_ L2 W H) k : Nat) ↔ L2 u = jI (k : Nat)) := fun u k hu hp hk hcd => by
    have hcu := hcl5 u hu hp.1 hp.2
    rw [x34, m34] at hcu
    have hbd : cP (cd_ L2 W H) k ≤ k := cP_le _ _
    have hn288 : n2 ≤ 288 := hG2.1
    by_cases hM : g_M (T 2) 0 W H u
    · obtain ⟨k1, k11, k12, -⟩ := hG2.2.2.2.1 u hM
      rw [hcu.1 k1 k11 k12, k12, jn_eq (by omega) (by omega)]
      by_cases hc1 : cd_ L2 W H k1
      · have hbd1 : cP (cd_ L2 W H) k1 ≤ k1 := cP_le _ _
        rw [cn_1 hc1, jn_eq (by omega) (by omega)]
        constructor
        · intro e
          rcases Nat.lt_trichotomy k1 k with w | w | w
          · have := cP_k hc1 w; omega
          · exact w
          · have := cP_k hcd w; omega
        · intro e; rw [e]
      · rw [cn_0 hc1]
        exact ⟨fun e => absurd e.symm (jn_m1 (by omega)), fun e => absurd hcd (e ▸ hc1)⟩
    · rw [hcu.2 hM, hG2.2.2.2.2.1 u hu hM]
      exact ⟨fun e => absurd e.symm (jn_m1 (by omega)), fun e => absurd e.symm (jn_m1 (by omega))⟩
  have hL2 : ∀ u k, u < 576 → k < n2 → L2 u = jI (k : Nat) → oP W H u := fun u k hu hk e => by
    have hn288 : n2 ≤ 288 := hG2.1
    by_cases hM : g_M (T 2) 0 W H u
    · exact ⟨hM.2.1, hM.2.2.1⟩
    · have := hG2.2.2.2.2.1 u hu hM
      rw [e] at this
      exact absurd this (jn_m1 (by omega))
  refine h S7 wlow ?_ ?_ (fun j h1 h2 h3 h4 h5 h6 => ?_) ?_ ?_ (fun u => by rw [w2 33 (by omega) (by omega)]; exact bo33 u) (fun u => by rw [w2 34 (by omega) (by omega)]; exact bo34 u) (fun u => by rw [w2 35 (by omega) (by omega)]; exact bo35 u) (fun u => ?_)
    ⟨⟨fun u hu => ?_, ?_, fun u h1 h2 h3 => ?_⟩, ⟨c, hc, ?_, w12, fun u h1 h2 h3 => ?_, fun u h1 h2 => ?_, fun k hk => ?_, fun x hx => ?_⟩, ⟨n, hcv.1, ?_, ?_, fun k hk => ?_⟩, ⟨?_, fun x hx => ?_⟩, cP (cd_ L2 W H) n2, ?_, ?_, ?_, fun j hj => ?_⟩
  · rw [f7 50 (by omega), f6 50 (by omega) (by omega) (by omega), f5 50 (by omega) (by omega) (by omega), f4 50 (by omega) (by omega), f3 50 (by omega) (by omega) (by omega), f2 50 (by omega), f1 50 (by omega) (by omega) (by omega) (by omega), f0 50 (by omega)]
  · rw [w2 32 (by omega) (by omega), f1 32 (by omega) (by omega) (by omega) (by omega), f0 32 (by omega)]
  · rw [w31 j h2, g5 j h3 h4 h5 h6, f0a j h1]
  · rw [w31 0 (by omega), g5 0 (by omega) (by omega) (by omega) (by omega)]; exact f00
  · rw [e7, su_eq, up_eq]
  · rw [f7 36 (by omega), f6 36 (by omega) (by omega) (by omega), f5 36 (by omega) (by omega) (by omega), f4 36 (by omega) (by omega)]; exact bo36 u
  · rw [wlow 1 (by omega), wlow 2 (by omega)]; exact q2 u hu
  · rw [wlow 1 (by omega), wlow 0 (by omega)]; exact q11
  · rw [wlow 1 (by omega), w2 33 (by omega) (by omega), w2 34 (by omega) (by omega)]; exact ⟨(hink u h1 h2 h3).1, (hink u h1 h2 h3).2.1⟩
  · rw [wlow 5 (by omega)]; exact q56
  · rw [wlow 6 (by omega), w38 38 (by omega) (by omega)]; exact h38 u h1 h2 h3
  · rw [wlow 6 (by omega)]; exact hG.2.2.2.2.1 u h1 (fun hM => h2 ⟨hM.2.1, hM.2.2.1⟩)
  · rw [wlow 6 (by omega), wlow 7 (by omega), wlow 8 (by omega), wlow 9 (by omega), wlow 10 (by omega), wlow 11 (by omega), w38 39 (by omega) (by omega), w38 40 (by omega) (by omega), w38 41 (by omega) (by omega), w38 42 (by omega) (by omega), w38 43 (by omega) (by omega), w2 34 (by omega) (by omega)]
    obtain ⟨p1, p2, p3, p4, p5, p6⟩ := hbox k hk
    obtain ⟨z1, z2, z3, z4, z5⟩ := hbx k hk
    have hin : ∀ u, u < 576 → T 6 u = jI (k : Nat) → u % 24 < W ∧ u / 24 < H := fun u hu e => by
      by_cases hM : g_M (T 3) 1 W H u
      · exact ⟨hM.2.1, hM.2.2.1⟩
      · have := hG.2.2.2.2.1 u hu hM
        rw [e] at this
        exact absurd this (jn_m1 (by omega))
    refine ⟨p1, lo 0 k, lo 1 k, hi 0 k, hi 1 k, ?_, ?_, hlh 0 k, hlh 1 k, p2, p3, p4, p5, z1, z2, z3, z4, z5, p6⟩
    · obtain ⟨u, u1, u2, u3, u4⟩ := p6.2.2.1
      rw [← u4]; exact (hin u u1 u3).1
    · obtain ⟨u, u1, u2, u3, u4⟩ := p6.2.2.2.2
      rw [← u4]; exact (hin u u1 u3).2
  · rw [wlow 28 (by omega), f7 44 (by omega), (hsq x hx).1, (hsq2 x hx).1, hsqe x hx]
  · rw [wlow 21 (by omega)]; exact q4
  · rw [w31 19 (by omega), f5a 19 (by omega), f4a 19 (by omega)]; exact e3
  · obtain ⟨p1, p2, p3, p4⟩ := hrow k hk
    obtain ⟨z1, z2, z3, z4⟩ := hrow3 k hk
    rw [wlow 22 (by omega), wlow 23 (by omega), wlow 24 (by omega), wlow 25 (by omega), w45]
    exact ⟨p1.trans z1.symm, p2.trans z2.symm, p3.trans z3.symm, p4.trans z4.symm⟩
  · rw [wlow 0 (by omega), q12, w31 21 (by omega), f5a 21 (by omega), e4, cP_c (p := st_ (fun u => ¬ T 3 u = 0) H) (q := st_ (fun u => ¬ S3 35 u = 0) H) (fun i hi' => st_c hW hH hik hi')]
  · rw [wlow 4 (by omega), hstr x hx, w46, hst4 x hx]
    exact sv_c hW hH hik hx
  · have := cP_le (cd_ L2 W H) n2
    have := hG2.1
    omega
  · rw [wlow 13 (by omega)]; exact q13
  · rw [w31 23 (by omega)]; exact e5
  · obtain ⟨k, k1, k2, k3⟩ := cP_at hj
    subst k3
    obtain ⟨p1, lf, tp, rt, bt, p2, p3, p4, p5, p6, p7, p8, p9, p10⟩ := hcell k k1 k2
    rw [wlow 15 (by omega), wlow 16 (by omega), wlow 17 (by omega), wlow 18 (by omega), wlow 19 (by omega), w47]
    obtain ⟨z0, ⟨u1, t1, t2, t3, t4⟩, ⟨u2, s1, s2, s3, s4⟩, ⟨u3, v1, v2, v3, v4⟩, ⟨u4, x1, x2, x3, x4⟩⟩ := p10
    have tr : ∀ u, u < 576 → L2 u = jI (k : Nat) → oP W H u ∧ S5 47 u = jI (cP (cd_ L2 W H) k : Nat) := fun u hu e => ⟨hL2 u k hu k1 e, (hcn u k hu (hL2 u k hu k1 e) k1 k2).mpr e⟩
    refine ⟨?_, lf, tp, rt, bt, p2, p3, p4, p5, p6, p7, p8, p9, fun u hu hp e => z0 u hu hu ((hcn u k hu hp k1 k2).mp e), ⟨u1, t1, (tr u1 t1 t3).1, (tr u1 t1 t3).2, t4⟩, ⟨u2, s1, (tr u2 s1 s3).1, (tr u2 s1 s3).2, s4⟩, ⟨u3, v1, (tr u3 v1 v3).1, (tr u3 v1 v3).2, v4⟩, ⟨u4, x1, (tr u4 x1 x3).1, (tr u4 x1 x3).2, x4⟩⟩
    rw [p1, cP_c (p := fun u => L2 u = jI (k : Nat)) (q := fun u => oP W H u ∧ S5 47 u = jI (cP (cd_ L2 W H) k : Nat)) (fun u hu => ⟨fun e => tr u hu e, fun e => (hcn u k hu e.1 k1 k2).mp e.2⟩)]
end ZQ
