section ZP
/-- both sides: one page, one noise -/
def rB (W H nz : Nat) (S : zS) : Prop :=
  (1 ≤ W ∧ W ≤ 24 ∧ 1 ≤ H ∧ H ≤ 24 ∧ nz ≤ 100) ∧
  (S 0 0 = jI (W : Nat) ∧ S 0 1 = jI (H : Nat) ∧ S 0 13 = jI (nz : Nat) ∧ S 0 10 = jI (cP (g_M (S 1) 1 W H) 576 : Nat)) ∧
  (S 5 8 = jI (W : Nat) ∧ S 5 9 = jI (H : Nat) ∧ S 13 8 = jI (W : Nat) ∧ S 13 9 = jI (H : Nat) ∧ S 21 6 = jI (W : Nat) ∧ S 21 7 = jI (H : Nat)) ∧
  (S 31 1 = jI (W : Nat) ∧ S 31 2 = jI (H : Nat) ∧ S 31 4 = jI (nz : Nat)) ∧
  ((∀ u, z_bo (S 1 u)) ∧ S 32 = S 1) ∧
  ((∀ u, z_bo (S 2 u)) ∧ (∀ u, z_bo (S 3 u)) ∧ (∀ u, z_bo (S 33 u)) ∧ (∀ u, z_bo (S 34 u)) ∧ (∀ u, z_bo (S 35 u)) ∧ ∀ u, z_bo (S 36 u))
/-- what the class holds behind a run -/
def cF (W H nz gx gy : Nat) (S : zS) (c : Nat) : Prop :=
  (∀ u, u < 576 → S 2 u = bI (cl_ (S 1) W H nz u)) ∧ S 0 11 = jI (cP (cl_ (S 1) W H nz) 576 : Nat) ∧
  (∀ u, u < 576 → u % 24 < W → u / 24 < H → S 3 u = bI (ik_ (cl_ (S 1) W H nz) W H gx gy u)) ∧
  (c ≤ 288 ∧ S 5 6 = jI (c : Nat) ∧ ∃ (r : Nat → Nat) (lo hi : Nat → Nat → Nat) (sq : Nat → Nat), g_G (S 6) (g_M (S 3) 1 W H) (¬ (0 : Int32) = 0) c r ∧ (∀ d k, lo d k ≤ hi d k) ∧ (∀ d k, hi d k < 24) ∧
    (∀ k, k < c → S 11 k = jI (cP (fun u => S 6 u = jI k) 576 : Nat) ∧ S 7 k = jI (lo 0 k : Nat) ∧ S 8 k = jI (lo 1 k : Nat) ∧ S 9 k = jI (hi 0 k : Nat) ∧ S 10 k = jI (hi 1 k : Nat) ∧ g_BX (S 6) k 576 (lo 0 k) (lo 1 k) (hi 0 k) (hi 1 k)) ∧
    (∀ x, x < c → S 28 x = jI (sq x : Nat) ∧ sq x < c) ∧ ∀ x y, x < y → y < c → lt_ lo hi 300 (fun k => k < c) (sq x) (sq y)) ∧
  (∃ n, S 21 4 = jI (n : Nat) ∧ cvn (fun u => S 3 u = 0) W H n ∧ ∀ k, k < n → S 22 k = jI (bx_ (fk_ (fun u => S 3 u = 0) W H k) W H : Nat) ∧ S 23 k = jI (by_ (fk_ (fun u => S 3 u = 0) W H k) W H : Nat) ∧ S 24 k = jI (bw_ (fk_ (fun u => S 3 u = 0) W H k) W H : Nat) ∧ S 25 k = jI (bh_ (fk_ (fun u => S 3 u = 0) W H k) W H : Nat)) ∧
  (S 0 12 = jI (cP (st_ (fun u => ¬ S 3 u = 0) H) W : Nat) ∧ ∀ x, x < W → S 4 x = sv_ (fun u => ¬ S 3 u = 0) H x) ∧
  (∃ (L : Nat → Int32) (c2 : Nat) (r2 : Nat → Nat), g_G L (g_M (S 2) 0 W H) (¬ (0 : Int32) = 0) c2 r2 ∧ S 13 6 = jI (cP (cd_ L W H) c2 : Nat) ∧ ∀ k, k < c2 → cd_ L W H k → S 19 (cP (cd_ L W H) k) = jI (cP (fun u => L u = jI k) 576 : Nat) ∧
    ∃ lf tp rt bt : Nat, lf < 24 ∧ tp < 24 ∧ rt < 24 ∧ bt < 24 ∧ S 15 (cP (cd_ L W H) k) = jI lf ∧ S 16 (cP (cd_ L W H) k) = jI tp ∧ S 17 (cP (cd_ L W H) k) = jI rt ∧ S 18 (cP (cd_ L W H) k) = jI bt ∧ g_BX L k 576 lf tp rt bt)
/-- boxes as two functions -/
theorem bx_f {c : Nat} {P : Nat → Nat → Nat → Nat → Nat → Prop} (h : ∀ k, k < c → ∃ lf tp rt bt : Nat, rt < 24 ∧ bt < 24 ∧ lf ≤ rt ∧ tp ≤ bt ∧ P k lf tp rt bt) :
    ∃ lo hi : Nat → Nat → Nat, (∀ d k, lo d k ≤ hi d k) ∧ (∀ d k, hi d k < 24) ∧ ∀ k, k < c → P k (lo 0 k) (lo 1 k) (hi 0 k) (hi 1 k) := by
  have h2 : ∀ k, ∃ q : Nat × Nat × Nat × Nat, q.2.2.1 < 24 ∧ q.2.2.2 < 24 ∧ q.1 ≤ q.2.2.1 ∧ q.2.1 ≤ q.2.2.2 ∧ (k < c → P k q.1 q.2.1 q.2.2.1 q.2.2.2) := fun k => by
    by_cases hk : k < c
    · obtain ⟨lf, tp, rt, bt, h1, h2, h3, h4, h5⟩ := h k hk
      exact ⟨(lf, tp, rt, bt), h1, h2, h3, h4, fun _ => h5⟩
    · exact ⟨(0, 0, 0, 0), by show 0 < 24; omega, by show 0 < 24; omega, Nat.le_refl 0, Nat.le_refl 0, fun z => absurd z hk⟩
  have h3 := fun k => Classical.choose_spec (h2 k)
  refine ⟨fun d k => if d = 0 then (Classical.choose (h2 k)).1 else (Classical.choose (h2 k)).2.1, fun d k => if d = 0 then (Classical.choose (h2 k)).2.2.1 else (Classical.choose (h2 k)).2.2.2, fun d k => ?_, fun d k => ?_, fun k hk => (h3 k).2.2.2.2 hk⟩
  · by_cases hd : d = 0
    · simp only [hd, if_true]; exact (h3 k).2.2.1
    · simp only [hd, if_false]; exact (h3 k).2.2.2.1
  · by_cases hd : d = 0
    · simp only [hd, if_true]; exact (h3 k).1
    · simp only [hd, if_false]; exact (h3 k).2.1
theorem g_BX_le {L : Nat → Int32} {k p lf tp rt bt : Nat} (h : g_BX L k p lf tp rt bt) : lf ≤ rt ∧ tp ≤ bt := by
  obtain ⟨h0, ⟨u1, p1, q1, r1, s1⟩, -⟩ := h
  have := h0 u1 p1 q1 r1
  omega
theorem m_Prun {W H nz gx gy : Nat} {T : zS} {post : Int32 → zS → Prop} (hB : rB W H nz T) (hgx : gx ≤ 24) (hgy : gy ≤ 24)
    (h : ∀ (S' : zS) (c : Nat), S' 1 = T 1 → (∀ a, 31 ≤ a → S' a = T a) → (∀ j, j ≠ 11 → j ≠ 12 → j ≠ 14 → S' 0 j = T 0 j) → (∀ j, j ≠ 6 → S' 5 j = T 5 j) → (∀ j, j ≠ 6 → S' 13 j = T 13 j) → (∀ j, j ≠ 4 → j ≠ 8 → S' 21 j = T 21 j) → S' 0 14 = 1 → (∀ u, z_bo (S' 2 u)) → (∀ u, z_bo (S' 3 u)) → cF W H nz gx gy S' c → post (jI (c : Nat)) S') : P_P_run (jI gx) (jI gy) T post := by
  obtain ⟨⟨hW0, hW, hH0, hH, hnz⟩, ⟨a1, a2, a3, a4⟩, ⟨b1, b2, b3, b4, b5, b6⟩, -, ⟨c1, c2⟩, ⟨d1, d2, -⟩⟩ := hB
  unfold P_P_run
  rw [jn0, jk24, jn_lt (by omega) (by omega), jn_lt (by omega) (by omega), jn_lt (by omega) (by omega), jn_le (by omega) (by omega)]
  refine ⟨fun z => by omega, fun _ => ⟨fun z => by omega, fun _ => ⟨fun z => by omega, fun _ => ⟨fun _ => ?_, fun z => by omega⟩⟩⟩⟩
  refine m_findClean (W := W) (H := H) (nz := nz) T b3 b4 hW hH hnz a3 d1 d2 (fun S1 f1 f1a f1b hcn h23 bo2 bo3 => ?_)
  have x0 : S1 0 0 = jI (W : Nat) := by rw [f1a 0 (by omega)]; exact a1
  have x1 : S1 0 1 = jI (H : Nat) := by rw [f1a 1 (by omega)]; exact a2
  refine m_smear (C := cl_ (T 1) W H nz) hW hH x0 x1 hgx hgy (fun u hu => (h23 u hu).1) (fun u hu => (h23 u hu).2) (fun S2 f2 hk1 hk2 hk3 => ?_)
  have y1 : S2 1 = T 1 := by rw [f2 1 (by omega), f1 1 (by omega) (by omega) (by omega) (by omega)]
  have bo3' : ∀ u, z_bo (S2 3 u) := fun u => by
    rcases Nat.lt_or_ge u 576 with w | w
    · by_cases hp : u % 24 < W ∧ u / 24 < H
      · rw [hk1 u w hp.1 hp.2]; exact bI_bo _
      · rw [hk2 u w hp]; exact bo3 u
    · rw [hk3 u w]; exact bo3 u
  refine m_find (W := W) (H := H) (by rw [f2 5 (by omega), f1 5 (by omega) (by omega) (by omega) (by omega)]; exact b1) (by rw [f2 5 (by omega), f1 5 (by omega) (by omega) (by omega) (by omega)]; exact b2) hW hH (by omega) (fun S3 c hc hFI => ?_)
  obtain ⟨r, hG, hbox⟩ := g_FI_G hFI hc
  obtain ⟨f3, f3a, e3, -⟩ := hFI
  refine m_Cfind (F0 := fun u => S3 3 u = 0) hW hH (by rw [f3 21 (by omega), f2 21 (by omega), f1 21 (by omega) (by omega) (by omega) (by omega)]; exact b5) (by rw [f3 21 (by omega), f2 21 (by omega), f1 21 (by omega) (by omega) (by omega) (by omega)]; exact b6) (fun u => Iff.rfl) (fun S4 n f4 f4a e4 hcv hrow => ?_)
  have z0 : S4 0 = S1 0 := by rw [f4 0 (by omega), f3 0 (by omega), f2 0 (by omega)]
  refine m_findStrips hW hH (by rw [z0]; exact x0) (by rw [z0]; exact x1) (fun S5 f5 f5a e5 hstr => ?_)
  have g13 : ∀ j, S5 13 j = S1 13 j := fun j => by rw [f5 13 (by omega) (by omega), f4 13 (by omega), f3 13 (by omega), f2 13 (by omega)]
  refine m_find (W := W) (H := H) (by rw [g13, f1b 8 (by omega)]; exact b3) (by rw [g13, f1b 9 (by omega)]; exact b4) hW hH (by omega) (fun S6 c2 hc2 hFI2 => ?_)
  obtain ⟨r2, hG2, hbox2⟩ := g_FI_G hFI2 hc2
  obtain ⟨f6, f6a, e6, -⟩ := hFI2
  have hpg2 : ∀ u k, k < c2 → u < 576 → S6 14 u = jI (k : Nat) → u % 24 < W ∧ u / 24 < H := fun u k hk hu e => by
    by_cases hM : g_M (S5 2) 0 W H u
    · exact ⟨hM.2.1, hM.2.2.1⟩
    · have := hG2.2.2.2.2.1 u hu hM
      rw [show 13 + 1 = 14 from rfl, e] at this
      exact absurd this (jn_m1 (by omega))
  refine m_dropAtEdge (L := S6 14) hW0 hH0 hW hH e6 (by rw [f6a 8 (by omega), g13, f1b 8 (by omega)]; exact b3) (by rw [f6a 9 (by omega), g13, f1b 9 (by omega)]; exact b4) hc2 hpg2 (fun k hk => (hbox2 k hk).2) (fun S7 f7 f7a e7 hdrop => ?_)
  have k5 : ∀ a, 5 ≤ a → a < 13 → S7 a = S3 a := fun a h1 h2 => by rw [f7 a (by omega), f6 a (by omega), f5 a (by omega) (by omega), f4 a (by omega)]
  obtain ⟨lo, hi, hlh, hb24, hlo⟩ := bx_f (c := c) (P := fun k lf tp rt bt => S3 7 k = jI lf ∧ S3 8 k = jI tp ∧ S3 9 k = jI rt ∧ S3 10 k = jI bt ∧ g_BX (S3 6) k 576 lf tp rt bt) (fun k hk => by
    obtain ⟨-, lf, tp, rt, bt, p1, p2, p3, p4, p5, p6, p7, p8, p9⟩ := hbox k hk
    have := g_BX_le p9
    exact ⟨lf, tp, rt, bt, p3, p4, this.1, this.2, p5, p6, p7, p8, p9⟩)
  refine m_arrange (lo := lo) (hi := hi) hc hb24 hlh (by rw [k5 5 (by omega) (by omega)]; exact e3) (fun k hk => by rw [k5 7 (by omega) (by omega)]; exact (hlo k hk).1) (fun k hk => by rw [k5 8 (by omega) (by omega)]; exact (hlo k hk).2.1) (fun k hk => by rw [k5 9 (by omega) (by omega)]; exact (hlo k hk).2.2.1) (fun k hk => by rw [k5 10 (by omega) (by omega)]; exact (hlo k hk).2.2.2.1) (fun S8 sq f8 hsq hord => ?_)
  intro S9 e9
  have f9 : ∀ a, a ≠ 0 → S9 a = S8 a := fun a ha => by rw [e9, su_ne ha]
  have w27 : ∀ a, a ≠ 0 → a < 27 ∨ 31 ≤ a → S9 a = S7 a := fun a h0 h1 => by rw [f9 a h0, f8 a (by omega) (by omega) (by omega) (by omega)]
  have w0 : ∀ j, j ≠ 14 → S9 0 j = S5 0 j := fun j hj => by rw [e9, su_eq, up_ne hj, f8 0 (by omega) (by omega) (by omega) (by omega), f7 0 (by omega), f6 0 (by omega)]
  have w5 : ∀ a, 5 ≤ a → a < 13 → S9 a = S3 a := fun a h1 h2 => by rw [w27 a (by omega) (by omega), k5 a h1 h2]
  have w1 : S9 1 = T 1 := by rw [w27 1 (by omega) (by omega), f7 1 (by omega), f6 1 (by omega), f5 1 (by omega) (by omega), f4 1 (by omega), f3 1 (by omega), y1]
  have w2 : S9 2 = S1 2 := by rw [w27 2 (by omega) (by omega), f7 2 (by omega), f6 2 (by omega), f5 2 (by omega) (by omega), f4 2 (by omega), f3 2 (by omega), f2 2 (by omega)]
  have w3 : S9 3 = S2 3 := by rw [w27 3 (by omega) (by omega), f7 3 (by omega), f6 3 (by omega), f5 3 (by omega) (by omega), f4 3 (by omega), f3 3 (by omega)]
  have w33 : S3 3 = S2 3 := f3 3 (by omega)
  have w43 : S4 3 = S2 3 := by rw [f4 3 (by omega), w33]
  have w21 : ∀ a, 21 ≤ a → a < 27 → S9 a = S4 a := fun a h1 h2 => by rw [w27 a (by omega) (by omega), f7 a (by omega), f6 a (by omega), f5 a (by omega) (by omega)]
  have w4 : S9 4 = S5 4 := by rw [w27 4 (by omega) (by omega), f7 4 (by omega), f6 4 (by omega)]
  have w52 : S5 2 = S1 2 := by rw [f5 2 (by omega) (by omega), f4 2 (by omega), f3 2 (by omega), f2 2 (by omega)]
  have w56 : S9 5 6 = jI (c : Nat) := by rw [w5 5 (by omega) (by omega)]; exact e3
  rw [w56]
  refine h S9 c w1 (fun a ha => ?_) (fun j h1 h2 h3 => ?_) (fun j hj => ?_) (fun j hj => ?_) (fun j h1 h2 => ?_) ?_ (fun u => by rw [w2]; exact bo2 u) (fun u => by rw [w3]; exact bo3' u) ⟨fun u hu => ?_, ?_, fun u h1 h2 h3 => ?_, ⟨hc, w56, r, lo, hi, sq, ?_, hlh, hb24, fun k hk => ?_, fun x hx => ?_, hord⟩, ⟨n, ?_, ?_, fun k hk => ?_⟩, ⟨?_, fun x hx => ?_⟩, S6 14, c2, r2, ?_, ?_, fun k hk hcd => ?_⟩
  · rw [w27 a (by omega) (by omega), f7 a (by omega), f6 a (by omega), f5 a (by omega) (by omega), f4 a (by omega), f3 a (by omega), f2 a (by omega), f1 a (by omega) (by omega) (by omega) (by omega)]
  · rw [w0 j h3, f5a j h2, z0, f1a j h1]
  · rw [w5 5 (by omega) (by omega), f3a j hj, f2 5 (by omega), f1 5 (by omega) (by omega) (by omega) (by omega)]
  · rw [w27 13 (by omega) (by omega), f7a j hj, f6a j hj, g13, f1b j hj]
  · rw [w21 21 (by omega) (by omega), f4a j h1 h2, f3 21 (by omega), f2 21 (by omega), f1 21 (by omega) (by omega) (by omega) (by omega)]
  · rw [e9, su_eq, up_eq]
  · rw [w1, w2]; exact (h23 u hu).1
  · rw [w0 11 (by omega), f5a 11 (by omega), z0, w1]; exact hcn
  · rw [w1, w3]; exact hk1 u h1 h2 h3
  · rw [w5 6 (by omega) (by omega), w3]; exact hG
  · rw [w5 6 (by omega) (by omega), w5 7 (by omega) (by omega), w5 8 (by omega) (by omega), w5 9 (by omega) (by omega), w5 10 (by omega) (by omega), w5 11 (by omega) (by omega)]
    exact ⟨(hbox k hk).1, hlo k hk⟩
  · rw [f9 28 (by omega)]; exact hsq x hx
  · rw [w21 21 (by omega) (by omega)]; exact e4
  · rw [w3, ← w33]; exact hcv
  · rw [w3, ← w33, w21 22 (by omega) (by omega), w21 23 (by omega) (by omega), w21 24 (by omega) (by omega), w21 25 (by omega) (by omega)]; exact hrow k hk
  · rw [w0 12 (by omega), w3, ← w43]; exact e5
  · rw [w4, w3, ← w43]; exact hstr x hx
  · rw [w2, ← w52]; exact hG2
  · rw [w27 13 (by omega) (by omega)]; exact e7
  · obtain ⟨q1, q2, q3, q4, q5⟩ := hdrop k hk hcd
    obtain ⟨p1, lf, tp, rt, bt, p2, p3, p4, p5, p6, p7, p8, p9, p10⟩ := hbox2 k hk
    rw [w27 15 (by omega) (by omega), w27 16 (by omega) (by omega), w27 17 (by omega) (by omega), w27 18 (by omega) (by omega), w27 19 (by omega) (by omega)]
    exact ⟨q5.trans p1, lf, tp, rt, bt, p2, p3, p4, p5, q1.trans p6, q2.trans p7, q3.trans p8, q4.trans p9, p10⟩
end ZP
