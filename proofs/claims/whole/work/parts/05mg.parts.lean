section YU
/-- groups and their numbers -/
def g_G (L : Nat → Int32) (M : Nat → Prop) (co : Prop) (c : Nat) (r : Nat → Nat) : Prop :=
  c ≤ 288 ∧ (∀ k, k < c → M (r k) ∧ L (r k) = jI k) ∧ (∀ k k', k < k' → k' < c → r k < r k') ∧ (∀ u, M u → ∃ k, k < c ∧ L u = jI k ∧ g_cn M co (r k) u ∧ r k ≤ u) ∧ (∀ u, u < 576 → ¬ M u → L u = -1) ∧ (∀ u v, M u → g_cn M co u v → L u = L v)
/-- the box of the samples ahead of p that have number k -/
def g_BX (L : Nat → Int32) (k p lf tp rt bt : Nat) : Prop :=
  (∀ u, u < p → u < 576 → L u = jI k → lf ≤ u % 24 ∧ u % 24 ≤ rt ∧ tp ≤ u / 24 ∧ u / 24 ≤ bt) ∧ (∃ u, u < p ∧ u < 576 ∧ L u = jI k ∧ u % 24 = lf) ∧ (∃ u, u < p ∧ u < 576 ∧ L u = jI k ∧ u % 24 = rt) ∧ (∃ u, u < p ∧ u < 576 ∧ L u = jI k ∧ u / 24 = tp) ∧ (∃ u, u < p ∧ u < 576 ∧ L u = jI k ∧ u / 24 = bt)
theorem g_BX_u {L : Nat → Int32} {k p a b c d a' b' c' d' : Nat} (h : g_BX L k p a b c d) (h' : g_BX L k p a' b' c' d') : a = a' ∧ b = b' ∧ c = c' ∧ d = d' := by
  obtain ⟨h0, ⟨u1, p1, q1, r1, s1⟩, ⟨u2, p2, q2, r2, s2⟩, ⟨u3, p3, q3, r3, s3⟩, ⟨u4, p4, q4, r4, s4⟩⟩ := h
  obtain ⟨h0', ⟨u1', p1', q1', r1', s1'⟩, ⟨u2', p2', q2', r2', s2'⟩, ⟨u3', p3', q3', r3', s3'⟩, ⟨u4', p4', q4', r4', s4'⟩⟩ := h'
  have x1 := h0 u1' p1' q1' r1'
  have x2 := h0 u2' p2' q2' r2'
  have x3 := h0 u3' p3' q3' r3'
  have x4 := h0 u4' p4' q4' r4'
  have y1 := h0' u1 p1 q1 r1
  have y2 := h0' u2 p2 q2 r2
  have y3 := h0' u3 p3 q3 r3
  have y4 := h0' u4 p4 q4 r4
  omega
theorem g_FI_G {g mk W H c : Nat} {T0 S : zS} {kd v3 : Int32} (hF : g_FI g mk W H T0 kd v3 c 576 S) (hc : c ≤ 288) : ∃ r, g_G (S (g + 1)) (g_M (T0 mk) kd W H) (¬ v3 = 0) c r ∧ ∀ k, k < c → S (g + 6) k = jI (cP (fun u => S (g + 1) u = jI k) 576 : Nat) ∧ ∃ lf tp rt bt : Nat, lf < 24 ∧ tp < 24 ∧ rt < 24 ∧ bt < 24 ∧ S (g + 2) k = jI lf ∧ S (g + 3) k = jI tp ∧ S (g + 4) k = jI rt ∧ S (g + 5) k = jI bt ∧ g_BX (S (g + 1)) k 576 lf tp rt bt := by
  obtain ⟨f1, f2, f3, f4, f5, r, r1, r2, r3, r4⟩ := hF
  refine ⟨r, ⟨hc, fun k hk => ⟨(r1 k hk).1, (r1 k hk).2.2⟩, r2, fun u hu => ?_, fun u hu hM => ?_, fun u v hu hc2 => ?_⟩, fun k hk => ?_⟩
  · rcases r3 u hu.1 with z | ⟨k, z1, z2, z3, z4, z5⟩
    · exact absurd z (f4 u hu hu.1)
    · exact ⟨k, z1, z2, z4, z5⟩
  · rcases r3 u hu with z | ⟨k, z1, z2, z3, z4, z5⟩
    · exact z
    · exact absurd z3 hM
  · exact (hc2 (fun w => g_M (T0 mk) kd W H w ∧ S (g + 1) u = S (g + 1) w) ⟨hu, rfl⟩ (fun a b hq ha hb hab => ⟨hb, hq.2.trans (f5 a b ha hb hab)⟩)).2
  · obtain ⟨s1, s2, lf, rt, bt, c1, c2, c3, c4, c5, c6, c7, ⟨u1, a1, b1, d1⟩, ⟨u2, a2, b2, d2⟩, ⟨u3, a3, b3, d3⟩⟩ := r4 k hk
    have hr := r1 k hk
    refine ⟨?_, lf, r k / 24, rt, bt, c1, by have := hr.1.1; omega, c2, c3, c4, s2, c5, c6, fun u _ hu hl => ?_, ⟨u1, a1, a1, b1, d1⟩, ⟨u2, a2, a2, b2, d2⟩, ⟨r k, hr.1.1, hr.1.1, hr.2.2, rfl⟩, ⟨u3, a3, a3, b3, d3⟩⟩
    · rw [s1]
      exact congrArg (fun q : Nat => jI (q : Int)) (cP_d (p := fun u => S (g + 1) u = jI k) (fun i hi => by rw [decide_eq_true_iff])).symm
    · obtain ⟨e1, e2, e3⟩ := c7 u hu hl
      refine ⟨e1, e2, ?_, e3⟩
      rcases r3 u hu with z | ⟨k', z1, z2, z3, z4, z5⟩
      · exact absurd (hl.symm.trans z) (jn_m1 (by omega))
      · have : k' = k := (jn_eq (by omega) (by omega)).mp (z2.symm.trans hl)
        subst this
        omega
variable {W H c : Nat} {L : Nat → Int32} {M : Nat → Prop} {co : Prop} {r l : Nat → Nat}
/-- the reference's label is the first sample of the group -/
theorem g_G_l (hG : g_G L M co c r) {Lb : Nat → Int32} (hL : r_L Lb M co W H l) (hmin : ∀ u v, M u → g_cn M co u v → l u = l v ∧ l u ≤ v) {u k : Nat} (hu : M u) (hk : k < c) (e : L u = jI k) : l u = r k := by
  obtain ⟨g1, g2, g3, g4, g5, g6⟩ := hG
  obtain ⟨k1, a1, a2, a3, a4⟩ := g4 u hu
  have ek : k1 = k := (jn_eq (by omega) (by omega)).mp (a2.symm.trans e)
  subst ek
  have h1 := (hmin u (r k1) hu (g_cn_s a3)).2
  have h2 := (hL.2 u hu).2.2
  have hMl : M (l u) := g_cn_M hu h2
  have h3 := g6 u (l u) hu h2
  obtain ⟨k2, b1, b2, b3, b4⟩ := g4 (l u) hMl
  have : k2 = k1 := (jn_eq (by omega) (by omega)).mp (b2.symm.trans (h3.symm.trans e))
  subst this
  omega
/-- the reference's parts, as far as p -/
def r_P (L : Nat → Int32) (r : Nat → Nat) (c W H p : Nat) (T S : zS) : Prop :=
  (∀ a, a ≠ 31 → a ≠ 38 → a ≠ 39 → a ≠ 40 → a ≠ 41 → a ≠ 42 → S a = T a) ∧ (∀ j, j ≠ 12 → S 31 j = T 31 j) ∧
  (∀ u, u < p → u < 576 → u % 24 < W → u / 24 < H → S 38 u = L u) ∧
  ∃ n, n ≤ c ∧ S 31 12 = jI n ∧ (∀ k, k < c → (r k < p ↔ k < n)) ∧ ∀ k, k < n → ∃ lf tp rt bt : Nat, lf < 24 ∧ tp < 24 ∧ rt < 24 ∧ bt < 24 ∧ S 39 k = jI lf ∧ S 40 k = jI tp ∧ S 41 k = jI rt ∧ S 42 k = jI bt ∧ g_BX L k p lf tp rt bt
theorem r_P_up {p q : Nat} {T S : zS} (h : r_P L r c W H p T S) (hG : g_G L M co c r) (hpg : ∀ u, M u → u < 576 ∧ u % 24 < W ∧ u / 24 < H) (hpq : p ≤ q) (hno : ∀ u, p ≤ u → u < q → u < 576 → ¬ (u % 24 < W ∧ u / 24 < H)) : r_P L r c W H q T S := by
  obtain ⟨h1, h2, h3, n, h4, h5, h6, h7⟩ := h
  obtain ⟨g1, g2, g3, g4, g5, g6⟩ := hG
  have hnl : ∀ u k, p ≤ u → u < q → u < 576 → k < c → ¬ L u = jI k := fun u k a1 a2 a3 a4 a5 => by
    have : ¬ M u := fun z => hno u a1 a2 a3 (hpg u z).2
    rw [g5 u a3 this] at a5
    exact jn_m1 (by omega) a5.symm
  refine ⟨h1, h2, fun u a1 a2 a3 a4 => ?_, n, h4, h5, fun k hk => ?_, fun k hk => ?_⟩
  · rcases Nat.lt_or_ge u p with z | z
    · exact h3 u z a2 a3 a4
    · exact absurd ⟨a3, a4⟩ (hno u z a1 a2)
  · rw [← h6 k hk]
    have := hpg _ (g2 k hk).1
    constructor
    · intro z
      rcases Nat.lt_or_ge (r k) p with y | y
      · exact y
      · exact absurd this.2 (hno _ y z this.1)
    · intro z; omega
  · obtain ⟨lf, tp, rt, bt, b1, b2, b3, b4, b5, b6, b7, b8, x0, ⟨u1, p1, q1⟩, ⟨u2, p2, q2⟩, ⟨u3, p3, q3⟩, ⟨u4, p4, q4⟩⟩ := h7 k hk
    refine ⟨lf, tp, rt, bt, b1, b2, b3, b4, b5, b6, b7, b8, fun u a1 a2 a3 => ?_, ⟨u1, by omega, q1⟩, ⟨u2, by omega, q2⟩, ⟨u3, by omega, q3⟩, ⟨u4, by omega, q4⟩⟩
    rcases Nat.lt_or_ge u p with z | z
    · exact x0 u z a2 a3
    · exact absurd a3 (hnl u k z a1 a2 (by omega))
theorem m_tP23 {post K221 : zS → Prop} {T : zS} {y : Nat} (hW : W ≤ 24) (hH : H ≤ 24) (e1 : T 31 1 = jI W) (e2 : T 31 2 = jI H) (hy : y < H) (hG : g_G L M co c r) (hpg : ∀ u, M u → u < 576 ∧ u % 24 < W ∧ u / 24 < H) (hL : r_L (T 37) M co W H l) (hmin : ∀ u v, M u → g_cn M co u v → l u = l v ∧ l u ≤ v)
    (S0 : zS) (hP0 : r_P L r c W H (24 * y) T S0) (hK : ∀ S', r_P L r c W H (24 * (y + 1)) T S' → K221 S') : ∃ k, L_M_takeParts_23 post K221 (jI y) k 0 S0 := by
  refine lq1 (A := Nat) (fun k x S => L_M_takeParts_23 post K221 (jI y) k (jI x) S) (fun x S => x ≤ W ∧ r_P L r c W H (24 * y + x) T S) (fun x _ => W - x) ?_ 0 S0 ⟨by omega, hP0⟩
  rintro k x S ⟨hx, hP⟩ ih
  have hP' := hP
  obtain ⟨h1, h2, h3, n, h4, h5, h6, h7⟩ := hP'
  obtain ⟨g1, g2, g3, g4, g5, g6⟩ := id hG
  rw [L_M_takeParts_23, h2 1 (by omega), e1, jn_le (by omega) (by omega)]
  refine ⟨fun hz => hK S (r_P_up hP hG hpg (by omega) (fun u a1 a2 a3 a4 => by omega)), fun hz x37 e37 => ?_⟩
  rw [jat'] at e37
  subst e37
  have hm : (24 * y + x) % 24 = x := by omega
  have hd : (24 * y + x) / 24 = y := by omega
  generalize hu : 24 * y + x = u at *
  have hu5 : u < 576 := by omega
  rw [jn_in (by omega), jn_ix (by omega)]
  refine ⟨hu5, fun S44 e44 => ⟨hu5, ?_⟩⟩
  have f37 : S44 37 = T 37 := by rw [e44, su_ne (by omega), h1 37 (by omega) (by omega) (by omega) (by omega) (by omega) (by omega)]
  have f31 : S44 31 = S 31 := by rw [e44, su_ne (by omega)]
  have f38 : S44 38 = upd (S 38) u (-1) := by rw [e44, su_eq]
  have fo : ∀ a, a ≠ 38 → S44 a = S a := fun a ha => by rw [e44, su_ne ha]
  rw [f37]
  have go : ∀ S' : zS, r_P L r c W H (u + 1) T S' → ∀ x215 : Int32, x215 = jI x + 1 → L_M_takeParts_23 post K221 (jI y) k x215 S' := fun S' hP' x215 e215 => by
    rw [e215, jn1]
    refine ih (x + 1) S' ⟨by omega, ?_⟩ (by omega)
    have : 24 * y + (x + 1) = u + 1 := by omega
    rw [this]; exact hP'
  by_cases hM : M u
  · obtain ⟨kk, q1, q2, q3, q4⟩ := g4 u hM
    have hl := g_G_l hG hL hmin hM q1 q2
    have hlab : T 37 u = jI (r kk : Nat) := by rw [(hL.2 u hM).1, hl]
    have uk : ∀ k', k' < c → (L u = jI k' ↔ k' = kk) := fun k' hk' => by rw [q2, jn_eq (by omega) (by omega)]; omega
    rw [hlab, jn_eq (by omega) (by omega)]
    have hrk := hpg _ (g2 kk q1).1
    refine ⟨fun hne => ⟨hu5, fun z => absurd z (jn_m1 (by omega)), fun _ => ⟨hu5, by rw [jn_in (by omega)]; omega, fun x139 e139 => ?_⟩⟩, fun heq => ?_⟩
    · -- a group that has begun
      have hkn : kk < n := (h6 kk q1).mp (by omega)
      rw [jn_ix (by omega), f38, up_ne (by omega), h3 (r kk) (by omega) hrk.1 hrk.2.1 hrk.2.2, (g2 kk q1).2] at e139
      subst e139
      obtain ⟨lf, tp, rt, bt, b1, b2, b3, b4, b5, b6, b7, b8, x0, ⟨u1, p1, w1, z1, y1⟩, ⟨u2, p2, w2, z2, y2⟩, ⟨u3, p3, w3, z3, y3⟩, ⟨u4, p4, w4, z4, y4⟩⟩ := h7 kk hkn
      refine ⟨hu5, fun S148 e148 => ?_⟩
      rw [jn_in (by omega), jn_ix (by omega)]
      have v38 : S148 38 = upd (S 38) u (jI kk) := by
        rw [e148, su_eq, f38]
        funext j
        by_cases hj : j = u <;> simp [upd, hj]
      have vo : ∀ a, a ≠ 38 → S148 a = S a := fun a ha => by rw [e148, su_ne ha, fo a ha]
      rw [vo 39 (by omega), b5, jn_le (by omega) (by omega)]
      have k206 : ∀ S177 : zS, S177 = z_su S148 39 kk (jI (if x < lf then x else lf : Nat)) → ∀ t0 : Int32, t0 = jI (if rt < x then x else rt : Nat) → J_M_takeParts_206 post (L_M_takeParts_23 post K221 (jI y) k) (jI y) (jI x) (jI kk) t0 (jI kk) S177 := fun S177 e177 t0 et0 => by
        unfold J_M_takeParts_206
        rw [jn_in (by omega), jn_ix (by omega)]
        refine ⟨by omega, fun S206 e206 => ⟨by omega, fun S214 e214 => go S214 ?_⟩⟩
        have o39 : S214 39 = upd (S 39) kk (jI (if x < lf then x else lf : Nat)) := by rw [e214, su_ne (by omega), e206, su_ne (by omega), e177, su_eq, vo 39 (by omega)]
        have o41 : S214 41 = upd (S 41) kk (jI (if rt < x then x else rt : Nat)) := by rw [e214, su_ne (by omega), e206, su_eq, e177, su_ne (by omega), vo 41 (by omega), et0]
        have o42 : S214 42 = upd (S 42) kk (jI y) := by rw [e214, su_eq, e206, su_ne (by omega), e177, su_ne (by omega), vo 42 (by omega)]
        have o38 : S214 38 = upd (S 38) u (jI kk) := by rw [e214, su_ne (by omega), e206, su_ne (by omega), e177, su_ne (by omega), v38]
        have oo : ∀ a, a ≠ 38 → a ≠ 39 → a ≠ 41 → a ≠ 42 → S214 a = S a := fun a a1 a2 a3 a4 => by rw [e214, su_ne a4, e206, su_ne a3, e177, su_ne a2, vo a a1]
        refine ⟨fun a a1 a2 a3 a4 a5 a6 => by rw [oo a a2 a3 a5 a6]; exact h1 a a1 a2 a3 a4 a5 a6, fun j hj => by rw [oo 31 (by omega) (by omega) (by omega) (by omega)]; exact h2 j hj, fun v d1 d2 d3 d4 => ?_, n, h4, by rw [oo 31 (by omega) (by omega) (by omega) (by omega)]; exact h5, fun k' hk' => ?_, fun k' hk' => ?_⟩
        · rw [o38]
          by_cases hv : v = u
          · subst hv; rw [up_eq, q2]
          · rw [up_ne hv]; exact h3 v (by omega) d2 d3 d4
        · rw [← h6 k' hk']
          constructor
          · intro z
            rcases Nat.lt_or_ge (r k') u with w | w
            · exact w
            · have er : r k' = u := by omega
              have := (g2 k' hk').2
              rw [er] at this
              have := (uk k' hk').mp this
              subst this
              omega
          · intro z; omega
        · by_cases hkk : k' = kk
          · subst hkk
            refine ⟨if x < lf then x else lf, tp, if rt < x then x else rt, y, by split <;> omega, b2, by split <;> omega, by omega, by rw [o39, up_eq], by rw [oo 40 (by omega) (by omega) (by omega) (by omega)]; exact b6, by rw [o41, up_eq], by rw [o42, up_eq], fun v d1 d2 d3 => ?_, ?_, ?_, ⟨u3, by omega, w3, z3, y3⟩, ⟨u, by omega, hu5, q2, hd⟩⟩
            · by_cases hv : v = u
              · subst hv
                have hrow := (x0 u3 p3 w3 z3).2.2.1
                rw [hm, hd]
                refine ⟨by split <;> omega, by split <;> omega, by omega, by omega⟩
              · have := x0 v (by omega) d2 d3
                refine ⟨by split <;> omega, by split <;> omega, by omega, by omega⟩
            · by_cases hz2 : x < lf
              · exact ⟨u, by omega, hu5, q2, by rw [hm]; simp [hz2]⟩
              · exact ⟨u1, by omega, w1, z1, by simp [hz2, y1]⟩
            · by_cases hz2 : rt < x
              · exact ⟨u, by omega, hu5, q2, by rw [hm]; simp [hz2]⟩
              · exact ⟨u2, by omega, w2, z2, by simp [hz2, y2]⟩
          · obtain ⟨lf', tp', rt', bt', b1', b2', b3', b4', b5', b6', b7', b8', x0', ⟨u1', p1', q1'⟩, ⟨u2', p2', q2'⟩, ⟨u3', p3', q3'⟩, ⟨u4', p4', q4'⟩⟩ := h7 k' hk'
            refine ⟨lf', tp', rt', bt', b1', b2', b3', b4', by rw [o39, up_ne hkk]; exact b5', by rw [oo 40 (by omega) (by omega) (by omega) (by omega)]; exact b6', by rw [o41, up_ne hkk]; exact b7', by rw [o42, up_ne hkk]; exact b8', fun v d1 d2 d3 => ?_, ⟨u1', by omega, q1'⟩, ⟨u2', by omega, q2'⟩, ⟨u3', by omega, q3'⟩, ⟨u4', by omega, q4'⟩⟩
            by_cases hv : v = u
            · subst hv; exact absurd ((uk k' (by omega)).mp d3) hkk
            · exact x0' v (by omega) d2 d3
      have k177 : ∀ t0 : Int32, t0 = jI (if x < lf then x else lf : Nat) → J_M_takeParts_177 post (L_M_takeParts_23 post K221 (jI y) k) (jI y) (jI x) (jI kk) t0 (jI kk) S148 := fun t0 et0 => by
        unfold J_M_takeParts_177
        rw [jn_in (by omega), jn_ix (by omega)]
        refine ⟨by omega, fun S177 e177 => ⟨by omega, ?_⟩⟩
        have e41 : S177 41 kk = jI rt := by rw [e177, su_ne (by omega), vo 41 (by omega)]; exact b7
        rw [et0] at e177
        rw [e41, jn_le (by omega) (by omega)]
        exact ⟨fun z => ⟨by omega, k206 S177 e177 _ (by rw [if_neg (by omega)])⟩, fun z => k206 S177 e177 _ (by rw [if_pos (by omega)])⟩
      exact ⟨by omega, fun z => ⟨by omega, k177 _ (by rw [if_neg (by omega)])⟩, fun z => k177 _ (by rw [if_pos (by omega)])⟩
    · -- a group begins
      have hkn : kk = n := by
        have a1 : ¬ kk < n := fun z => by have := (h6 kk q1).mpr z; omega
        rcases Nat.lt_or_ge n kk with z | z
        · have a2 := g3 n kk z q1
          have := (h6 n (by omega)).mp (by omega)
          omega
        · omega
      subst hkn
      refine ⟨hu5, fun S64 e64 => ?_⟩
      have c64 : S64 31 = S 31 := by rw [e64, su_ne (by omega), f31]
      rw [c64, h5, jn_in (by omega), jn_ix (by omega)]
      refine ⟨by omega, fun S74 e74 => ?_⟩
      have c74 : S74 31 = S 31 := by rw [e74, su_ne (by omega), c64]
      rw [c74, h5, jn_in (by omega), jn_ix (by omega)]
      refine ⟨by omega, fun S84 e84 => ?_⟩
      have c84 : S84 31 = S 31 := by rw [e84, su_ne (by omega), c74]
      rw [c84, h5, jn_in (by omega), jn_ix (by omega)]
      refine ⟨by omega, fun S94 e94 => ?_⟩
      have c94 : S94 31 = S 31 := by rw [e94, su_ne (by omega), c84]
      rw [c94, h5, jn_in (by omega), jn_ix (by omega)]
      refine ⟨by omega, fun S104 e104 S112 e112 => go S112 ?_⟩
      have c104 : S104 31 = S 31 := by rw [e104, su_ne (by omega), c94]
      have o38 : S112 38 = upd (S 38) u (jI kk) := by
        rw [e112, su_ne (by omega), e104, su_ne (by omega), e94, su_ne (by omega), e84, su_ne (by omega), e74, su_ne (by omega), e64, su_eq, f38, f31, h5]
        funext j
        by_cases hj : j = u <;> simp [upd, hj]
      have o39 : S112 39 = upd (S 39) kk (jI x) := by rw [e112, su_ne (by omega), e104, su_ne (by omega), e94, su_ne (by omega), e84, su_ne (by omega), e74, su_eq, e64, su_ne (by omega), fo 39 (by omega)]
      have o41 : S112 41 = upd (S 41) kk (jI x) := by rw [e112, su_ne (by omega), e104, su_ne (by omega), e94, su_ne (by omega), e84, su_eq, e74, su_ne (by omega), e64, su_ne (by omega), fo 41 (by omega)]
      have o40 : S112 40 = upd (S 40) kk (jI y) := by rw [e112, su_ne (by omega), e104, su_ne (by omega), e94, su_eq, e84, su_ne (by omega), e74, su_ne (by omega), e64, su_ne (by omega), fo 40 (by omega)]
      have o42 : S112 42 = upd (S 42) kk (jI y) := by rw [e112, su_ne (by omega), e104, su_eq, e94, su_ne (by omega), e84, su_ne (by omega), e74, su_ne (by omega), e64, su_ne (by omega), fo 42 (by omega)]
      have o31 : S112 31 = upd (S 31) 12 (jI (kk + 1 : Nat)) := by rw [e112, su_eq, c104, h5, jn1]
      have oo : ∀ a, a ≠ 31 → a ≠ 38 → a ≠ 39 → a ≠ 40 → a ≠ 41 → a ≠ 42 → S112 a = S a := fun a a1 a2 a3 a4 a5 a6 => by rw [e112, su_ne a1, e104, su_ne a6, e94, su_ne a4, e84, su_ne a5, e74, su_ne a3, e64, su_ne a2, fo a a2]
      refine ⟨fun a a1 a2 a3 a4 a5 a6 => by rw [oo a a1 a2 a3 a4 a5 a6]; exact h1 a a1 a2 a3 a4 a5 a6, fun j hj => by rw [o31, up_ne hj]; exact h2 j hj, fun v d1 d2 d3 d4 => ?_, kk + 1, by omega, by rw [o31, up_eq], fun k' hk' => ?_, fun k' hk' => ?_⟩
      · rw [o38]
        by_cases hv : v = u
        · subst hv; rw [up_eq, q2]
        · rw [up_ne hv]; exact h3 v (by omega) d2 d3 d4
      · rcases Nat.lt_trichotomy k' kk with z | z | z
        · have := g3 k' kk z q1
          omega
        · subst z; omega
        · have := g3 kk k' z hk'
          omega
      · by_cases hkk : k' = kk
        · subst hkk
          refine ⟨x, y, x, y, by omega, by omega, by omega, by omega, by rw [o39, up_eq], by rw [o40, up_eq], by rw [o41, up_eq], by rw [o42, up_eq], fun v d1 d2 d3 => ?_, ⟨u, by omega, hu5, q2, hm⟩, ⟨u, by omega, hu5, q2, hm⟩, ⟨u, by omega, hu5, q2, hd⟩, ⟨u, by omega, hu5, q2, hd⟩⟩
          have hvM : M v := Classical.byContradiction (fun z => by
            rw [g5 v d2 z] at d3
            exact jn_m1 (by omega) d3.symm)
          obtain ⟨k2, t1, t2, t3, t4⟩ := g4 v hvM
          have : k2 = k' := (jn_eq (by omega) (by omega)).mp (t2.symm.trans d3)
          subst this
          have : v = u := by omega
          omega
        · obtain ⟨lf', tp', rt', bt', b1', b2', b3', b4', b5', b6', b7', b8', x0', ⟨u1', p1', q1'⟩, ⟨u2', p2', q2'⟩, ⟨u3', p3', q3'⟩, ⟨u4', p4', q4'⟩⟩ := h7 k' (by omega)
          refine ⟨lf', tp', rt', bt', b1', b2', b3', b4', by rw [o39, up_ne hkk]; exact b5', by rw [o40, up_ne hkk]; exact b6', by rw [o41, up_ne hkk]; exact b7', by rw [o42, up_ne hkk]; exact b8', fun v d1 d2 d3 => ?_, ⟨u1', by omega, q1'⟩, ⟨u2', by omega, q2'⟩, ⟨u3', by omega, q3'⟩, ⟨u4', by omega, q4'⟩⟩
          by_cases hv : v = u
          · subst hv; exact absurd ((uk k' (by omega)).mp d3) hkk
          · exact x0' v (by omega) d2 d3
  · have hlab : T 37 u = -1 := hL.1 u hu5 (by omega) (by omega) hM
    rw [hlab]
    refine ⟨fun _ => ⟨hu5, fun _ => go S44 ?_, fun z => absurd rfl z⟩, fun z => absurd z.symm (jn_m1 (by omega))⟩
    have hLu : L u = -1 := g5 u hu5 hM
    refine ⟨fun a a1 a2 a3 a4 a5 a6 => by rw [fo a a2]; exact h1 a a1 a2 a3 a4 a5 a6, fun j hj => by rw [f31]; exact h2 j hj, fun v d1 d2 d3 d4 => ?_, n, h4, by rw [f31]; exact h5, fun k' hk' => ?_, fun k' hk' => ?_⟩
    · rw [f38]
      by_cases hv : v = u
      · subst hv; rw [up_eq, hLu]
      · rw [up_ne hv]; exact h3 v (by omega) d2 d3 d4
    · rw [← h6 k' hk']
      have hne : r k' ≠ u := fun z => hM (by rw [← z]; exact (g2 k' hk').1)
      omega
    · obtain ⟨lf', tp', rt', bt', b1', b2', b3', b4', b5', b6', b7', b8', x0', ⟨u1', p1', q1'⟩, ⟨u2', p2', q2'⟩, ⟨u3', p3', q3'⟩, ⟨u4', p4', q4'⟩⟩ := h7 k' hk'
      refine ⟨lf', tp', rt', bt', b1', b2', b3', b4', by rw [fo 39 (by omega)]; exact b5', by rw [fo 40 (by omega)]; exact b6', by rw [fo 41 (by omega)]; exact b7', by rw [fo 42 (by omega)]; exact b8', fun v d1 d2 d3 => ?_, ⟨u1', by omega, q1'⟩, ⟨u2', by omega, q2'⟩, ⟨u3', by omega, q3'⟩, ⟨u4', by omega, q4'⟩⟩
      by_cases hv : v = u
      · subst hv
        rw [hLu] at d3
        exact absurd d3.symm (jn_m1 (by omega))
      · exact x0' v (by omega) d2 d3
end YU
