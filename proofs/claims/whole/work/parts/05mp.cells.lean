section ZD
/-- the number of group k among the closed ones -/
noncomputable def cn_ (L : Nat → Int32) (W H k : Nat) : Int32 := @ite Int32 (cd_ L W H k) (Classical.propDecidable _) (jI (cP (cd_ L W H) k : Nat)) (-1)
theorem cn_1 {L : Nat → Int32} {W H k : Nat} (h : cd_ L W H k) : cn_ L W H k = jI (cP (cd_ L W H) k : Nat) := by unfold cn_; exact @if_pos _ (Classical.propDecidable _) h _ _ _
theorem cn_0 {L : Nat → Int32} {W H k : Nat} (h : ¬ cd_ L W H k) : cn_ L W H k = -1 := by unfold cn_; exact @if_neg _ (Classical.propDecidable _) h _ _ _
variable {W H c : Nat} {L : Nat → Int32} {M : Nat → Prop} {co : Prop} {r l : Nat → Nat}
def r_D (L : Nat → Int32) (M : Nat → Prop) (r : Nat → Nat) (c W H p : Nat) (T S : zS) : Prop :=
  (∀ a, a ≠ 31 → a ≠ 47 → S a = T a) ∧ (∀ j, j ≠ 23 → S 31 j = T 31 j) ∧
  (∀ u, u < p → u < 576 → u % 24 < W → u / 24 < H → (∀ k, k < c → L u = jI k → S 47 u = cn_ L W H k) ∧ (¬ M u → S 47 u = -1)) ∧
  ∃ n, n ≤ c ∧ S 31 23 = jI (cP (cd_ L W H) n : Nat) ∧ (∀ k, k < c → (r k < p ↔ k < n))
theorem r_D_up {p q : Nat} {T S : zS} (h : r_D L M r c W H p T S) (hG : g_G L M co c r) (hpg : ∀ u, M u → u < 576 ∧ u % 24 < W ∧ u / 24 < H) (hpq : p ≤ q) (hno : ∀ u, p ≤ u → u < q → u < 576 → ¬ (u % 24 < W ∧ u / 24 < H)) : r_D L M r c W H q T S := by
  obtain ⟨h1, h2, h3, n, h4, h5, h6⟩ := h
  refine ⟨h1, h2, fun u a1 a2 a3 a4 => ?_, n, h4, h5, fun k hk => ?_⟩
  · rcases Nat.lt_or_ge u p with z | z
    · exact h3 u z a2 a3 a4
    · exact absurd ⟨a3, a4⟩ (hno u z a1 a2)
  · rw [← h6 k hk]
    have := hpg _ (hG.2.1 k hk).1
    constructor
    · intro z
      rcases Nat.lt_or_ge (r k) p with y | y
      · exact y
      · exact absurd this.2 (hno _ y z this.1)
    · intro z; omega
theorem m_tD23 {post K144 : zS → Prop} {T : zS} {y : Nat} (hW0 : 1 ≤ W) (hH0 : 1 ≤ H) (hW : W ≤ 24) (hH : H ≤ 24) (e1 : T 31 1 = jI W) (e2 : T 31 2 = jI H) (hy : y < H) (hG : g_G L M co c r) (hpg : ∀ u, M u → u < 576 ∧ u % 24 < W ∧ u / 24 < H) (hL : r_L (T 37) M co W H l) (hmin : ∀ u v, M u → g_cn M co u v → l u = l v ∧ l u ≤ v)
    (S0 : zS) (hP0 : r_D L M r c W H (24 * y) T S0) (hK : ∀ S', r_D L M r c W H (24 * (y + 1)) T S' → K144 S') : ∃ k, L_M_takeCells_23 post K144 (jI y) k 0 S0 := by
  refine lq1 (A := Nat) (fun k x S => L_M_takeCells_23 post K144 (jI y) k (jI x) S) (fun x S => x ≤ W ∧ r_D L M r c W H (24 * y + x) T S) (fun x _ => W - x) ?_ 0 S0 ⟨by omega, hP0⟩
  rintro k x S ⟨hx, hP⟩ ih
  have hP' := hP
  obtain ⟨h1, h2, h3, n, h4, h5, h6⟩ := hP'
  obtain ⟨g1, g2, g3, g4, g5, g6⟩ := id hG
  rw [L_M_takeCells_23, h2 1 (by omega), e1, jn_le (by omega) (by omega)]
  refine ⟨fun hz => hK S (r_D_up hP hG hpg (by omega) (fun u a1 a2 a3 a4 => by omega)), fun hz x37 e37 => ?_⟩
  rw [jat'] at e37
  subst e37
  have hm : (24 * y + x) % 24 = x := by omega
  have hd : (24 * y + x) / 24 = y := by omega
  generalize hu : 24 * y + x = u at *
  have hu5 : u < 576 := by omega
  have f37 : S 37 = T 37 := h1 37 (by omega) (by omega)
  have hcn := cP_le (cd_ L W H) n
  rw [jn_in (by omega), jn_ix (by omega), f37]
  refine ⟨hu5, ?_⟩
  have go : ∀ S' : zS, r_D L M r c W H (u + 1) T S' → ∀ x138 : Int32, x138 = jI x + 1 → L_M_takeCells_23 post K144 (jI y) k x138 S' := fun S' hP' x138 e138 => by
    rw [e138, jn1]
    refine ih (x + 1) S' ⟨by omega, ?_⟩ (by omega)
    have : 24 * y + (x + 1) = u + 1 := by omega
    rw [this]; exact hP'
  -- what is written at u
  have wr : ∀ t : Int32, ((∀ k', k' < c → L u = jI k' → t = cn_ L W H k') ∧ (¬ M u → t = -1)) → ∀ v, v < u + 1 → v < 576 → v % 24 < W → v / 24 < H → (∀ k', k' < c → L v = jI k' → upd (S 47) u t v = cn_ L W H k') ∧ (¬ M v → upd (S 47) u t v = -1) := fun t ht v a1 a2 a3 a4 => by
    by_cases hv : v = u
    · subst hv; rw [up_eq]; exact ht
    · rw [up_ne hv]; exact h3 v (by omega) a2 a3 a4
  have f31 : S 31 1 = jI W := by rw [h2 1 (by omega)]; exact e1
  have f32 : S 31 2 = jI H := by rw [h2 2 (by omega)]; exact e2
  by_cases hM : M u
  · obtain ⟨kk, q1, q2, q3, q4⟩ := g4 u hM
    have hl := g_G_l hG hL hmin hM q1 q2
    have hlab : T 37 u = jI (r kk : Nat) := by rw [(hL.2 u hM).1, hl]
    have uk : ∀ k', k' < c → (L u = jI k' ↔ k' = kk) := fun k' hk' => by rw [q2, jn_eq (by omega) (by omega)]; omega
    have hrk := hpg _ (g2 kk q1).1
    rw [hlab, jn_eq (by omega) (by omega)]
    refine ⟨fun hne => ⟨hu5, fun _ => ⟨hu5, by rw [jn_in (by omega)]; omega, ?_⟩, fun z => absurd z (jn_m1 (by omega))⟩, fun heq => ?_⟩
    · rw [jn_ix (by omega), (h3 (r kk) (by omega) hrk.1 hrk.2.1 hrk.2.2).1 kk q1 (g2 kk q1).2]
      unfold J_M_takeCells_97 J_M_takeCells_131
      rw [jn_in (by omega), jn_ix (by omega)]
      refine ⟨hu5, fun S97 e97 => ⟨hu5, ?_⟩⟩
      have c37 : S97 37 u = jI (r kk : Nat) := by rw [e97, su_ne (by omega), f37, hlab]
      rw [c37, jn_eq (by omega) (by omega)]
      refine ⟨fun _ S135 e135 => ?_, fun z => absurd z hne⟩
      rw [su_id _ _ _ _ rfl] at e135
      rw [e135]
      refine go S97 ⟨fun a a1 a2 => by rw [e97, su_ne a2]; exact h1 a a1 a2, fun j hj => by rw [e97, su_ne (by omega)]; exact h2 j hj, by rw [e97, su_eq]; exact wr _ ⟨fun k' hk' e => by rw [(uk k' hk').mp e], fun z => absurd hM z⟩, n, h4, by rw [e97, su_ne (by omega)]; exact h5, fun k' hk' => ?_⟩
      rw [← h6 k' hk']
      constructor
      · intro z
        rcases Nat.lt_or_ge (r k') u with w | w
        · exact w
        · have er : r k' = u := by omega
          have := (g2 k' hk').2
          rw [er] at this
          have := (uk k' hk').mp this
          subst this
          omega
      · intro z; omega
    · have hkn : kk = n := by
        have a1 : ¬ kk < n := fun z => by have := (h6 kk q1).mpr z; omega
        rcases Nat.lt_or_ge n kk with z | z
        · have a2 := g3 n kk z q1
          have := (h6 n (by omega)).mp (by omega)
          omega
        · omega
      subst hkn
      have hroots : ∀ k', k' < c → (r k' < u + 1 ↔ k' < kk + 1) := fun k' hk' => by
        rcases Nat.lt_trichotomy k' kk with z | z | z
        · have := g3 k' kk z q1
          omega
        · subst z; omega
        · have := g3 kk k' z hk'
          omega
      have hclo : (∀ v, v < 576 → v % 24 < W → v / 24 < H → S 37 v = jI (u : Nat) → ¬ (v % 24 = 0 ∨ v / 24 = 0 ∨ v % 24 + 1 = W ∨ v / 24 + 1 = H)) ↔ cd_ L W H kk := by
        unfold cd_
        constructor
        · intro z v a1 a2 a3 a4
          refine z v a1 a2 a3 ?_
          have hMv : M v := Classical.byContradiction (fun w => by
            rw [g5 v a1 w] at a4
            exact jn_m1 (by omega) a4.symm)
          rw [f37, (hL.2 v hMv).1, g_G_l hG hL hmin hMv q1 a4, heq]
        · intro z v a1 a2 a3 a4
          refine z v a1 a2 a3 ?_
          rw [f37] at a4
          have hMv : M v := Classical.byContradiction (fun w => by
            rw [hL.1 v a1 a2 a3 w] at a4
            exact jn_m1 (by omega) a4.symm)
          obtain ⟨k2, t1, t2, t3, t4⟩ := g4 v hMv
          have el := g_G_l hG hL hmin hMv t1 t2
          rw [(hL.2 v hMv).1, el, jn_eq (by have := (hpg _ (g2 k2 t1).1).1; omega) (by omega)] at a4
          have : k2 = kk := by
            rcases Nat.lt_trichotomy k2 kk with w | w | w
            · have := g3 k2 kk w q1; omega
            · exact w
            · have := g3 kk k2 w t1; omega
          rw [t2, this]
      have c37 : ∀ t, z_su S 47 u t 37 u = jI (u : Nat) := fun t => by rw [su_ne (by omega), f37, hlab, heq]
      refine m_isClosed hW0 hH0 hW hH f31 f32 (fun hc => ⟨fun z => absurd z (by decide), fun _ => ?_⟩) (fun hc => ⟨fun _ => ?_, fun z => absurd rfl z⟩)
      · have hcd := hclo.mp hc
        unfold J_M_takeCells_97
        rw [jn_in (by omega), jn_ix (by omega), h5]
        refine ⟨hu5, fun S97 e97 => ⟨hu5, ?_⟩⟩
        have d37 : S97 37 u = jI (u : Nat) := by rw [e97]; exact c37 _
        have d47 : S97 47 u = jI (cP (cd_ L W H) kk : Nat) := by rw [e97, su_eq, up_eq]
        have d31 : S97 31 = S 31 := by rw [e97, su_ne (by omega)]
        rw [d37, d47, d31, h5]
        refine ⟨fun z => absurd rfl z, fun _ => ⟨hu5, fun z => absurd rfl z, fun _ S135 e135 => go S135 ?_⟩⟩
        refine ⟨fun a a1 a2 => by rw [e135, su_ne a1, e97, su_ne a2]; exact h1 a a1 a2, fun j hj => by rw [e135, su_eq, up_ne hj, d31]; exact h2 j hj, by rw [e135, su_ne (by omega), e97, su_eq]; exact wr _ ⟨fun k' hk' e => by rw [(uk k' hk').mp e, cn_1 hcd], fun z => absurd hM z⟩, kk + 1, by omega, by rw [e135, su_eq, up_eq, cP_y hcd, jn1], hroots⟩
      · have hcd : ¬ cd_ L W H kk := fun z => hc (hclo.mpr z)
        unfold J_M_takeCells_97 J_M_takeCells_131
        rw [jn_in (by omega), jn_ix (by omega)]
        refine ⟨hu5, fun S97 e97 => ⟨hu5, ?_⟩⟩
        have d37 : S97 37 u = jI (u : Nat) := by rw [e97]; exact c37 _
        have d47 : S97 47 u = -1 := by rw [e97, su_eq, up_eq]
        have d31 : S97 31 = S 31 := by rw [e97, su_ne (by omega)]
        rw [d37, d47, d31, h5]
        refine ⟨fun z => absurd rfl z, fun _ => ⟨hu5, fun _ S135 e135 => ?_, fun z => absurd z.symm (jn_m1 (by omega))⟩⟩
        have e135' : S135 = S97 := by rw [e135]; exact su_id _ _ _ _ (by rw [d31, h5])
        rw [e135']
        refine go S97 ⟨fun a a1 a2 => by rw [e97, su_ne a2]; exact h1 a a1 a2, fun j hj => by rw [d31]; exact h2 j hj, by rw [e97, su_eq]; exact wr _ ⟨fun k' hk' e => by rw [(uk k' hk').mp e, cn_0 hcd], fun z => absurd hM z⟩, kk + 1, by omega, by rw [d31, h5, cP_n hcd], hroots⟩
  · have hlab : T 37 u = -1 := hL.1 u hu5 (by omega) (by omega) hM
    rw [hlab]
    refine ⟨fun _ => ⟨hu5, fun z => absurd rfl z, fun _ => ?_⟩, fun z => absurd z.symm (jn_m1 (by omega))⟩
    unfold J_M_takeCells_97 J_M_takeCells_131
    rw [jn_in (by omega), jn_ix (by omega)]
    refine ⟨hu5, fun S97 e97 => ⟨hu5, ?_⟩⟩
    have c37 : S97 37 u = -1 := by rw [e97, su_ne (by omega), f37, hlab]
    rw [c37]
    refine ⟨fun _ S135 e135 => ?_, fun z => absurd z.symm (jn_m1 (by omega))⟩
    rw [su_id _ _ _ _ rfl] at e135
    rw [e135]
    have hLu : L u = -1 := g5 u hu5 hM
    refine go S97 ⟨fun a a1 a2 => by rw [e97, su_ne a2]; exact h1 a a1 a2, fun j hj => by rw [e97, su_ne (by omega)]; exact h2 j hj, by rw [e97, su_eq]; exact wr _ ⟨fun k' hk' e => by rw [hLu] at e; exact absurd e.symm (jn_m1 (by omega)), fun _ => rfl⟩, n, h4, by rw [e97, su_ne (by omega)]; exact h5, fun k' hk' => ?_⟩
    rw [← h6 k' hk']
    have hne : r k' ≠ u := fun z => hM (by rw [← z]; exact (g2 k' hk').1)
    omega
theorem m_takeCells {post : zS → Prop} {T : zS} (hW0 : 1 ≤ W) (hH0 : 1 ≤ H) (hW : W ≤ 24) (hH : H ≤ 24) (e1 : T 31 1 = jI W) (e2 : T 31 2 = jI H) (b34 : ∀ u, z_bo (T 34 u)) (hG : g_G L (g_M (T 34) 0 W H) (¬ (0 : Int32) = 0) c r)
    (h : ∀ S', (∀ a, a ≠ 31 → a ≠ 37 → a ≠ 47 → S' a = T a) → (∀ j, j ≠ 23 → S' 31 j = T 31 j) → S' 31 23 = jI (cP (cd_ L W H) c : Nat) → (∀ u, u < 576 → u % 24 < W → u / 24 < H → (∀ k, k < c → L u = jI k → S' 47 u = cn_ L W H k) ∧ (¬ g_M (T 34) 0 W H u → S' 47 u = -1)) → post S') : P_M_takeCells T post := by
  unfold P_M_takeCells
  refine m_group (mk := 34) (kd := 0) (Or.inr (Or.inr ⟨rfl, rfl, rfl⟩)) hW0 hW hH e1 e2 b34 (fun S1 l fr1 hL hmin S8 e8 => ?_)
  have x31 : S8 31 = upd (S1 31) 23 0 := by rw [e8, su_eq]
  have xo : ∀ a, a ≠ 31 → S8 a = S1 a := fun a ha => by rw [e8, su_ne ha]
  have d1 : S8 31 1 = jI W := by rw [x31, up_ne (by omega), fr1 31 (by omega)]; exact e1
  have d2 : S8 31 2 = jI H := by rw [x31, up_ne (by omega), fr1 31 (by omega)]; exact e2
  have hpg : ∀ u, g_M (T 34) 0 W H u → u < 576 ∧ u % 24 < W ∧ u / 24 < H := fun u hu => ⟨hu.1, hu.2.1, hu.2.2.1⟩
  have hP0 : r_D L (g_M (T 34) 0 W H) r c W H (24 * 0) S8 S8 := ⟨fun _ _ _ => rfl, fun _ _ => rfl, fun u hu => absurd hu (by omega), 0, by omega, by rw [x31, up_eq]; rfl, fun k hk => ⟨fun z => absurd z (by omega), fun z => absurd z (by omega)⟩⟩
  have hL8 : r_L (S8 37) (g_M (T 34) 0 W H) (¬ (0 : Int32) = 0) W H l := by rw [xo 37 (by omega)]; exact hL
  refine lq1 (A := Nat) (fun k y S => L_M_takeCells_13 post k (jI y) S) (fun y S => y ≤ H ∧ r_D L (g_M (T 34) 0 W H) r c W H (24 * y) S8 S) (fun y _ => H - y) ?_ 0 S8 ⟨by omega, hP0⟩
  rintro k y S ⟨hy, hP⟩ ih
  rw [L_M_takeCells_13, hP.2.1 2 (by omega), d2, jn_le (by omega) (by omega)]
  refine ⟨fun hz => ?_, fun hz => ?_⟩
  · obtain ⟨h1, h2, h3, n, h4, h5, h6⟩ := r_D_up (q := 576) hP hG hpg (by omega) (fun u a1 a2 a3 a4 => by omega)
    have hn : n = c := by
      rcases Nat.lt_or_ge n c with z | z
      · have := (h6 n z).mp (hG.2.1 n z).1.1
        omega
      · omega
    subst hn
    exact h S (fun a a1 a2 a3 => by rw [h1 a a1 a3, xo a a1, fr1 a a2]) (fun j hj => by rw [h2 j hj, x31, up_ne hj, fr1 31 (by omega)]) h5 (fun u a1 a2 a3 => h3 u a1 a1 a2 a3)
  · refine m_tD23 hW0 hH0 hW hH d1 d2 (by omega) hG hpg hL8 hmin S hP (fun S' hP' x144 e144 => ?_)
    rw [e144, jn1]
    exact ih (y + 1) S' ⟨by omega, hP'⟩ (by omega)
end ZD
