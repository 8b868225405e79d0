section YK
theorem ctn_0 {p : Nat → Bool} : ∀ {n : Nat}, (∀ i, i < n → p i = false) → ctn p n = 0
  | 0, _ => rfl
  | n + 1, h => by
    show ctn p n + (if p n then 1 else 0) = 0
    rw [ctn_0 (fun i hi => h i (by omega)), h n (by omega)]
    rfl
/-- size and box of group k, whose first sample is r -/
def g_GB (g : Nat) (S : zS) (k r : Nat) : Prop :=
  S (g + 6) k = jI (ctn (fun u => decide (S (g + 1) u = jI k)) 576) ∧ S (g + 3) k = jI (r / 24 : Nat) ∧
  ∃ lf rt bt : Nat, lf < 24 ∧ rt < 24 ∧ bt < 24 ∧ S (g + 2) k = jI lf ∧ S (g + 4) k = jI rt ∧ S (g + 5) k = jI bt ∧
    (∀ u, u < 576 → S (g + 1) u = jI k → lf ≤ u % 24 ∧ u % 24 ≤ rt ∧ u / 24 ≤ bt) ∧ (∃ u, u < 576 ∧ S (g + 1) u = jI k ∧ u % 24 = lf) ∧ (∃ u, u < 576 ∧ S (g + 1) u = jI k ∧ u % 24 = rt) ∧ ∃ u, u < 576 ∧ S (g + 1) u = jI k ∧ u / 24 = bt
/-- c groups are done, all that begin ahead of p -/
def g_FI (g mk W H : Nat) (T0 : zS) (kd v3 : Int32) (c p : Nat) (S : zS) : Prop :=
  (∀ a, (a < g ∨ g + 8 ≤ a) → S a = T0 a) ∧ (∀ j, j ≠ 6 → S g j = T0 g j) ∧ S g 6 = jI c ∧
  (∀ u, g_M (T0 mk) kd W H u → u < p → S (g + 1) u ≠ -1) ∧
  (∀ u v, g_M (T0 mk) kd W H u → g_M (T0 mk) kd W H v → g_adj (¬ v3 = 0) u v → S (g + 1) u = S (g + 1) v) ∧
  ∃ r : Nat → Nat, (∀ k, k < c → g_M (T0 mk) kd W H (r k) ∧ r k < p ∧ S (g + 1) (r k) = jI k) ∧ (∀ k k', k < k' → k' < c → r k < r k') ∧
    (∀ u, u < 576 → S (g + 1) u = -1 ∨ ∃ k, k < c ∧ S (g + 1) u = jI k ∧ g_M (T0 mk) kd W H u ∧ g_cn (g_M (T0 mk) kd W H) (¬ v3 = 0) (r k) u ∧ r k ≤ u) ∧
    ∀ k, k < c → g_GB g S k (r k)
variable {g mk W H : Nat} {T0 : zS} {kd v3 : Int32}
/-- two beside each other in a row hang together: so there are at most 288 groups -/
theorem g_dom {co : Prop} {u v : Nat} (h : u < v) (h2 : u / 2 = v / 2) : g_adj co u v := ⟨by omega, by omega, by omega, by omega, Or.inr (Or.inr (by omega))⟩
theorem g_few {c p : Nat} {S : zS} (h : g_FI g mk W H T0 kd v3 c p S) (hc : c ≤ 1000) (hp : g_M (T0 mk) kd W H p) (hop : S (g + 1) p = -1) : c ≤ p / 2 := by
  obtain ⟨-, -, -, -, hcl, r, h1, h2, -, -⟩ := h
  have hk : ∀ k, k < c → k ≤ r k / 2 := by
    intro k
    induction k with
    | zero => intro _; omega
    | succ k ih =>
      intro hk
      have a1 := ih (by omega)
      have a2 := h2 k (k + 1) (by omega) hk
      rcases Nat.lt_or_ge (r k / 2) (r (k + 1) / 2) with q | q
      · omega
      · have e := hcl _ _ (h1 k (by omega)).1 (h1 (k + 1) hk).1 (g_dom a2 (by omega))
        rw [(h1 k (by omega)).2.2, (h1 (k + 1) hk).2.2] at e
        have := (jI_eq (jN k (by omega)) (jN (k + 1) (by omega))).mp e
        omega
  rcases Nat.eq_zero_or_pos c with q | q
  · omega
  · have a1 := hk (c - 1) (by omega)
    have a2 := (h1 (c - 1) (by omega)).2.1
    rcases Nat.lt_or_ge (r (c - 1) / 2) (p / 2) with z | z
    · omega
    · have e := hcl _ _ (h1 (c - 1) (by omega)).1 hp (g_dom a2 (by omega))
      rw [(h1 (c - 1) (by omega)).2.2, hop, jI_m1] at e
      have := (jI_eq (jN (c - 1) (by omega)) (jS (by omega))).mp e
      omega
/-- one more group -/
theorem m_group1 {c x y : Nat} {S : zS} {post : zS → Prop} (hF : g_FI g mk W H T0 kd v3 c (24 * y + x) S) (hTw : T0 g 8 = jI W) (hTh : T0 g 9 = jI H) (hW : W ≤ 24) (hH : H ≤ 24) (hmk : mk < g) (hx : x < W) (hy : y < H) (hc : c ≤ 1000) (hM : g_M (T0 mk) kd W H (24 * y + x)) (hop : S (g + 1) (24 * y + x) = -1)
    (h : ∀ S', g_FI g mk W H T0 kd v3 (c + 1) (24 * y + x + 1) S' → post S') : c < 288 ∧ P_G_begin g (jI x) (jI y) S (fun S65 => P_G_gather g mk kd v3 S65 (fun S72 => ∀ S82 : zS, S82 = z_su S72 g 6 ((S72 g 6) + 1) → post S82)) := by
  have hc2 : c < 288 := by
    have := g_few hF hc hM hop
    omega
  refine ⟨hc2, ?_⟩
  obtain ⟨f1, f2, f3, f4, f5, r, r1, r2, r3, r4⟩ := hF
  have hne := jc_ne hc2
  have jc : jR (c : Int) := jN c (by omega)
  have hm : (24 * y + x) % 24 = x := by omega
  have hd : (24 * y + x) / 24 = y := by omega
  have hfresh : ∀ u, u < 576 → S (g + 1) u ≠ jI c := fun u hu e => by
    rcases r3 u hu with q | ⟨k, q1, q2, -⟩
    · exact hne (e.symm.trans q)
    · have := (jI_eq (jN k (by omega)) jc).mp (q2.symm.trans e)
      omega
  refine m_begin f3 hc2 (by omega) (by omega) (fun T t1 t7 t6 t2 t3 t4 t5 to => ?_)
  have hTg : T g = S g := to g (by omega) (by omega) (by omega) (by omega) (by omega) (by omega) (by omega)
  have hTm : T mk = T0 mk := by rw [to mk (by omega) (by omega) (by omega) (by omega) (by omega) (by omega) (by omega), f1 mk (Or.inl hmk)]
  have hTfree : ∀ a, (a < g ∨ g + 8 ≤ a) → T a = T0 a := fun a ha => by rw [to a (by omega) (by omega) (by omega) (by omega) (by omega) (by omega) (by omega), f1 a ha]
  have hG : g_GI g (g_M (T mk) kd W H) (¬ v3 = 0) T (S (g + 1)) c (24 * y + x) 1 T := by
    rw [hTm]
    refine ⟨fun _ _ _ _ _ _ _ => rfl, fun _ _ => ⟨rfl, rfl, rfl, rfl⟩, by rw [t6, up_eq]; rfl, fun u => ?_, fun t ht => ⟨24 * y + x, by omega, ?_, by rw [t1, up_eq]⟩, fun u hu5 hu => ⟨0, by omega, ?_⟩, ?_, by rw [t1, up_eq], x, x, y, by omega, by omega, by omega, by rw [t2, up_eq], by rw [t4, up_eq], by rw [t5, up_eq], fun u hu5 hu => ?_, ⟨24 * y + x, by omega, by rw [t1, up_eq], hm⟩, ⟨24 * y + x, by omega, by rw [t1, up_eq], hm⟩, ⟨24 * y + x, by omega, by rw [t1, up_eq], hd⟩⟩
    · by_cases hu : u = 24 * y + x
      · subst hu
        exact Or.inr ⟨hop, by rw [t1, up_eq], hM, g_cn_r _⟩
      · exact Or.inl (by rw [t1, up_ne hu])
    · have : t = 0 := by omega
      subst this
      rw [t7, up_eq]
    · by_cases hz : u = 24 * y + x
      · rw [t7, up_eq, hz]
      · rw [t1, up_ne hz] at hu
        exact absurd hu (hfresh u hu5)
    · symm
      rw [ctn_up (p := fun u => decide (S (g + 1) u = jI c)) (i := 24 * y + x) (n := 576) (by omega) (decide_eq_false (fun e => hne (e.symm.trans hop))) (by rw [t1, up_eq]; exact decide_eq_true rfl) (fun j hj hj2 => by rw [t1, up_ne hj2]), ctn_0 (fun i hi => decide_eq_false (hfresh i hi))]
    · by_cases hz : u = 24 * y + x
      · subst hz; omega
      · rw [t1, up_ne hz] at hu
        exact absurd hu (hfresh u hu5)
  refine m_gather (L0 := S (g + 1)) (W := W) (H := H) hc2 (by rw [hTg]; exact f3) (by rw [hTg, f2 8 (by omega)]; exact hTw) (by rw [hTg, f2 9 (by omega)]; exact hTh) hW hH hmk hfresh T hG (fun U n hG' hcl => ?_)
  intro V eV
  rw [hTm] at hG' hcl
  obtain ⟨g1, g2, g3, g4, g5, g6, g7, g8, lf, rt, bt, b1, b2, b3, b4, b5, b6, b7, b8, b9, b10⟩ := hG'
  have hUg : U g = T g := g1 g (by omega) (by omega) (by omega) (by omega) (by omega) (by omega)
  have hV : ∀ a, a ≠ g → V a = U a := fun a ha => by rw [eV, su_ne ha]
  have v1 := hV (g + 1) (by omega)
  have hold : ∀ u, S (g + 1) u ≠ -1 → U (g + 1) u = S (g + 1) u := fun u hu => by
    rcases g4 u with q | q
    · exact q
    · exact absurd q.1 hu
  have hlab : ∀ (k : Nat), k < c → ∀ u, (U (g + 1) u = jI k ↔ S (g + 1) u = jI k) := fun k hk u => by
    rcases g4 u with q | q
    · rw [q]
    · constructor
      · intro e
        have := (jI_eq jc (jN k (by omega))).mp (q.2.1.symm.trans e)
        omega
      · intro e
        rw [q.1] at e
        exact absurd e.symm (jc_ne (by omega))
  refine h V ⟨fun a ha => ?_, fun j hj => ?_, ?_, fun u hu hup => ?_, fun u v hu hv ha => ?_, fun k => if k = c then 24 * y + x else r k, fun k hk => ?_, fun k k' hkk hk' => ?_, fun u hu => ?_, fun k hk => ?_⟩
  · rw [hV a (by omega), g1 a (by omega) (by omega) (by omega) (by omega) (by omega) (by omega), hTfree a ha]
  · rw [eV, su_eq, up_ne hj, hUg, hTg, f2 j hj]
  · rw [eV, su_eq, up_eq, hUg, hTg, f3, jI_1, jI_add]; rfl
  · rw [v1]
    by_cases hz : u = 24 * y + x
    · rw [hz, g8]; exact hne
    · have := f4 u hu (by omega)
      rw [hold u this]; exact this
  · rw [v1]
    have hs := f5 u v hu hv ha
    rcases g4 u with q | q
    · rcases g4 v with q' | q'
      · rw [q, q', hs]
      · have := hcl v u hv.1 q'.2.1 hu (g_adj_s ha)
        rw [q, hs, q'.1] at this
        exact absurd rfl this
    · rcases g4 v with q' | q'
      · have := hcl u v hu.1 q.2.1 hv ha
        rw [q', ← hs, q.1] at this
        exact absurd rfl this
      · rw [q.2.1, q'.2.1]
  · rw [v1]
    by_cases hz : k = c
    · subst hz
      simp only [if_true]
      exact ⟨hM, by omega, g8⟩
    · simp only [hz, if_false]
      obtain ⟨a1, a2, a3⟩ := r1 k (by omega)
      exact ⟨a1, by omega, (hlab k (by omega) _).mpr a3⟩
  · by_cases hz : k' = c
    · have hz2 : ¬ k = c := by omega
      simp only [hz, hz2, if_true, if_false]
      exact (r1 k (by omega)).2.1
    · have hz2 : ¬ k = c := by omega
      simp only [hz, hz2, if_false]
      exact r2 k k' hkk (by omega)
  · rw [v1]
    rcases g4 u with q | q
    · rw [q]
      rcases r3 u hu with z | ⟨k, z1, z2, z3, z4, z5⟩
      · exact Or.inl z
      · have hz : ¬ k = c := by omega
        exact Or.inr ⟨k, by omega, z2, z3, by simp only [hz, if_false]; exact z4, by simp only [hz, if_false]; exact z5⟩
    · refine Or.inr ⟨c, by omega, q.2.1, q.2.2.1, by simp only [if_true]; exact q.2.2.2, ?_⟩
      simp only [if_true]
      rcases Nat.lt_or_ge u (24 * y + x) with z | z
      · exact absurd q.1 (f4 u q.2.2.1 z)
      · exact z
  · by_cases hz : k = c
    · subst hz
      simp only [if_true]
      refine ⟨?_, ?_, lf, rt, bt, b1, b2, b3, ?_, ?_, ?_, ?_, ?_, ?_, ?_⟩
      · rw [hV _ (by omega), v1, g3, g7]
      · rw [hV _ (by omega), g1 (g + 3) (by omega) (by omega) (by omega) (by omega) (by omega) (by omega), t3, up_eq, hd]
      · rw [hV _ (by omega)]; exact b4
      · rw [hV _ (by omega)]; exact b5
      · rw [hV _ (by omega)]; exact b6
      · rw [v1]; exact b7
      · rw [v1]; exact b8
      · rw [v1]; exact b9
      · rw [v1]; exact b10
    · simp only [hz, if_false]
      have hk' : k < c := by omega
      obtain ⟨s1, s2, lf', rt', bt', c1, c2, c3, c4, c5, c6, c7, c8, c9, c10⟩ := r4 k hk'
      obtain ⟨k2, k4, k5, k6⟩ := g2 k hz
      refine ⟨?_, ?_, lf', rt', bt', c1, c2, c3, ?_, ?_, ?_, ?_, ?_, ?_, ?_⟩
      · rw [hV _ (by omega), v1, k6, t6, up_ne hz, s1]
        exact congrArg (fun q : Nat => jI (q : Int)) (ctn_congr (fun i hi => decide_eq_decide.mpr (hlab k hk' i).symm))
      · rw [hV _ (by omega), g1 (g + 3) (by omega) (by omega) (by omega) (by omega) (by omega) (by omega), t3, up_ne hz, s2]
      · rw [hV _ (by omega), k2, t2, up_ne hz, c4]
      · rw [hV _ (by omega), k4, t4, up_ne hz, c5]
      · rw [hV _ (by omega), k5, t5, up_ne hz, c6]
      · rw [v1]; exact fun u hu hu2 => c7 u hu ((hlab k hk' u).mp hu2)
      · rw [v1]; obtain ⟨u, a, b, d⟩ := c8; exact ⟨u, a, (hlab k hk' u).mpr b, d⟩
      · rw [v1]; obtain ⟨u, a, b, d⟩ := c9; exact ⟨u, a, (hlab k hk' u).mpr b, d⟩
      · rw [v1]; obtain ⟨u, a, b, d⟩ := c10; exact ⟨u, a, (hlab k hk' u).mpr b, d⟩
end YK
