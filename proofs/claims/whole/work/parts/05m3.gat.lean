section YH
/-- a sample of the kind, on the page -/
def g_M (B : Nat → Int32) (k : Int32) (W H u : Nat) : Prop := u < 576 ∧ u % 24 < W ∧ u / 24 < H ∧ B u = k
/-- beside it (by corners too, if co), or itself -/
def g_adj (co : Prop) (u v : Nat) : Prop := u % 24 ≤ v % 24 + 1 ∧ v % 24 ≤ u % 24 + 1 ∧ u / 24 ≤ v / 24 + 1 ∧ v / 24 ≤ u / 24 + 1 ∧ (co ∨ u % 24 = v % 24 ∨ u / 24 = v / 24)
theorem g_adj_s {co : Prop} {u v : Nat} (h : g_adj co u v) : g_adj co v u := ⟨h.2.1, h.1, h.2.2.2.1, h.2.2.1, h.2.2.2.2.elim Or.inl (fun z => Or.inr (z.elim (fun a => Or.inl a.symm) (fun a => Or.inr a.symm)))⟩
/-- hangs together -/
def g_cn (M : Nat → Prop) (co : Prop) (u v : Nat) : Prop := ∀ Q : Nat → Prop, Q u → (∀ a b, Q a → M a → M b → g_adj co a b → Q b) → Q v
theorem g_cn_r {M : Nat → Prop} {co : Prop} (u : Nat) : g_cn M co u u := fun _ h _ => h
theorem g_cn_t {M : Nat → Prop} {co : Prop} {u v w : Nat} (h1 : g_cn M co u v) (h2 : g_cn M co v w) : g_cn M co u w := fun Q hu hs => h2 Q (h1 Q hu hs) hs
theorem g_cn_1 {M : Nat → Prop} {co : Prop} {u v : Nat} (h1 : M u) (h2 : M v) (h : g_adj co u v) : g_cn M co u v := fun _ hu hs => hs u v hu h1 h2 h
theorem g_cn_M {M : Nat → Prop} {co : Prop} {u v : Nat} (hu : M u) (h : g_cn M co u v) : M v := h M hu (fun _ _ _ _ hb _ => hb)
theorem g_cn_s {M : Nat → Prop} {co : Prop} {u v : Nat} (h : g_cn M co u v) : g_cn M co v u :=
  h (fun w => g_cn M co w u) (g_cn_r u) (fun _ _ hq ha hb hab => g_cn_t (g_cn_1 hb ha (g_adj_s hab)) hq)
theorem m_begin {g c x y : Nat} {S : zS} {post : zS → Prop} (hc : S g 6 = jI c) (hc2 : c < 288) (hx : x < 24) (hy : y < 24)
    (h : ∀ S', S' (g + 1) = upd (S (g + 1)) (24 * y + x) (jI c) → S' (g + 7) = upd (S (g + 7)) 0 (jI (24 * y + x : Nat)) → S' (g + 6) = upd (S (g + 6)) c (jI 1) → S' (g + 2) = upd (S (g + 2)) c (jI x) → S' (g + 3) = upd (S (g + 3)) c (jI y) → S' (g + 4) = upd (S (g + 4)) c (jI x) → S' (g + 5) = upd (S (g + 5)) c (jI y) →
      (∀ a, a ≠ g + 1 → a ≠ g + 2 → a ≠ g + 3 → a ≠ g + 4 → a ≠ g + 5 → a ≠ g + 6 → a ≠ g + 7 → S' a = S a) → post S') : P_G_begin g (jI x) (jI y) S post := by
  have jc : jR (c : Int) := jN c (by omega)
  have ic : z_ix (jI (c : Int)) = c := by rw [jI_ix jc]; omega
  have vc : vp_in (jI (c : Int)) 288 := by rw [jI_in jc]; omega
  have uu : ∀ (f : Nat → Int32) (v w : Int32), upd (upd f c v) c w = upd f c w := fun f v w => by
    funext j
    by_cases hj : j = c <;> simp [upd, hj]
  unfold P_G_begin
  rw [hc, ic]
  refine ⟨vc, fun S9 e9 => ?_⟩
  have a9 : S9 g 6 = jI c := by rw [e9, su_ne (by omega)]; exact hc
  rw [a9, ic]
  refine ⟨vc, fun S19 e19 => ?_⟩
  have a19 : S19 g 6 = jI c := by rw [e19, su_ne (by omega)]; exact a9
  rw [a19, ic]
  refine ⟨vc, fun S29 e29 => ?_⟩
  have a29 : S29 g 6 = jI c := by rw [e29, su_ne (by omega)]; exact a19
  rw [a29, ic]
  refine ⟨vc, fun S39 e39 => ?_⟩
  have a39 : S39 g 6 = jI c := by rw [e39, su_ne (by omega)]; exact a29
  rw [a39, ic]
  refine ⟨vc, fun S49 e49 => ?_⟩
  have a49 : S49 g 6 = jI c := by rw [e49, su_ne (by omega)]; exact a39
  have f6 : S49 (g + 6) = upd (S (g + 6)) c 0 := by rw [e49, su_eq, e39, su_ne (by omega), e29, su_ne (by omega), e19, su_ne (by omega), e9, su_ne (by omega)]
  have f5 : S49 (g + 5) = upd (S (g + 5)) c (jI y) := by rw [e49, su_ne (by omega), e39, su_eq, e29, su_ne (by omega), e19, su_ne (by omega), e9, su_ne (by omega)]
  have f4 : S49 (g + 4) = upd (S (g + 4)) c (jI x) := by rw [e49, su_ne (by omega), e39, su_ne (by omega), e29, su_eq, e19, su_ne (by omega), e9, su_ne (by omega)]
  have f3 : S49 (g + 3) = upd (S (g + 3)) c (jI y) := by rw [e49, su_ne (by omega), e39, su_ne (by omega), e29, su_ne (by omega), e19, su_eq, e9, su_ne (by omega)]
  have f2 : S49 (g + 2) = upd (S (g + 2)) c (jI x) := by rw [e49, su_ne (by omega), e39, su_ne (by omega), e29, su_ne (by omega), e19, su_ne (by omega), e9, su_eq]
  have fo : ∀ a, a ≠ g + 2 → a ≠ g + 3 → a ≠ g + 4 → a ≠ g + 5 → a ≠ g + 6 → S49 a = S a := fun a q2 q3 q4 q5 q6 => by
    rw [e49, su_ne q6, e39, su_ne q5, e29, su_ne q4, e19, su_ne q3, e9, su_ne q2]
  refine m_take (n := 0) (lf := x) (rt := x) (bt := y) a49 hc2 (by rw [f6, up_eq]; rfl) (by omega) hx hy (by rw [f2, up_eq]) (by rw [f4, up_eq]) (by rw [f5, up_eq]) (by omega) (by omega) (by omega) (fun S' hk => ?_)
  obtain ⟨t1, t7, t6, t2, t4, t5, to⟩ := hk
  refine h S' ?_ ?_ ?_ ?_ ?_ ?_ ?_ ?_
  · rw [t1, fo _ (by omega) (by omega) (by omega) (by omega) (by omega)]
  · rw [t7, fo _ (by omega) (by omega) (by omega) (by omega) (by omega)]
  · rw [t6, f6, uu]; rfl
  · rw [t2, f2, uu]; simp
  · rw [to _ (by omega) (by omega) (by omega) (by omega) (by omega) (by omega), f3]
  · rw [t4, f4, uu]; simp
  · rw [t5, f5, uu]; simp
  · intro a q1 q2 q3 q4 q5 q6 q7
    rw [to a q1 q2 q4 q5 q6 q7, fo a q2 q3 q4 q5 q6]
/-- in the midst of a group: T the state when it began, L0 the labels before it, n how many are in it -/
def g_GI (g : Nat) (M : Nat → Prop) (co : Prop) (T : zS) (L0 : Nat → Int32) (c r0 n : Nat) (S : zS) : Prop :=
  (∀ a, a ≠ g + 1 → a ≠ g + 2 → a ≠ g + 4 → a ≠ g + 5 → a ≠ g + 6 → a ≠ g + 7 → S a = T a) ∧
  (∀ j, j ≠ c → S (g + 2) j = T (g + 2) j ∧ S (g + 4) j = T (g + 4) j ∧ S (g + 5) j = T (g + 5) j ∧ S (g + 6) j = T (g + 6) j) ∧
  S (g + 6) c = jI n ∧
  (∀ u, S (g + 1) u = L0 u ∨ (L0 u = -1 ∧ S (g + 1) u = jI c ∧ M u ∧ g_cn M co r0 u)) ∧
  (∀ t, t < n → ∃ u : Nat, u < 576 ∧ S (g + 7) t = jI u ∧ S (g + 1) u = jI c) ∧
  (∀ u, u < 576 → S (g + 1) u = jI c → ∃ t, t < n ∧ S (g + 7) t = jI u) ∧
  n = ctn (fun u => decide (S (g + 1) u = jI c)) 576 ∧ S (g + 1) r0 = jI c ∧
  ∃ lf rt bt : Nat, lf < 24 ∧ rt < 24 ∧ bt < 24 ∧ S (g + 2) c = jI lf ∧ S (g + 4) c = jI rt ∧ S (g + 5) c = jI bt ∧
    (∀ u, u < 576 → S (g + 1) u = jI c → lf ≤ u % 24 ∧ u % 24 ≤ rt ∧ u / 24 ≤ bt) ∧ (∃ u, u < 576 ∧ S (g + 1) u = jI c ∧ u % 24 = lf) ∧ (∃ u, u < 576 ∧ S (g + 1) u = jI c ∧ u % 24 = rt) ∧ ∃ u, u < 576 ∧ S (g + 1) u = jI c ∧ u / 24 = bt
theorem jc_ne {c : Nat} (h : c < 288) : jI (c : Int) ≠ -1 := by
  rw [jI_m1]
  intro e
  have := (jI_eq (jN c (by omega)) (jS (by omega))).mp e
  omega
/-- one more is taken -/
theorem m_takeG {g c r0 n : Nat} {M : Nat → Prop} {co : Prop} {T S : zS} {L0 : Nat → Int32} {x y : Nat} {post : zS → Prop} (hG : g_GI g M co T L0 c r0 n S) (hTc : T g 6 = jI c) (hc : c < 288) (hx : x < 24) (hy : y < 24) (hM : M (24 * y + x)) (hcn : g_cn M co r0 (24 * y + x)) (hop : S (g + 1) (24 * y + x) = -1)
    (h : ∀ S', g_GI g M co T L0 c r0 (n + 1) S' → S' (g + 1) = upd (S (g + 1)) (24 * y + x) (jI c) → S' (g + 7) = upd (S (g + 7)) n (jI (24 * y + x : Nat)) → post S') : P_G_take g (jI x) (jI y) S post := by
  obtain ⟨g1, g2, g3, g4, g5, g6, g7, g8, lf, rt, bt, b1, b2, b3, b4, b5, b6, b7, b8, b9, b10⟩ := hG
  have hne := jc_ne hc
  have hat : 24 * y + x < 576 := by omega
  have hm : (24 * y + x) % 24 = x := by omega
  have hd : (24 * y + x) / 24 = y := by omega
  have hn : n < 576 := by
    rw [g7]
    refine ctn_lt (i := 24 * y + x) hat ?_
    rw [hop]
    exact decide_eq_false (fun e => hne e.symm)
  have hL0 : L0 (24 * y + x) = -1 := by
    rcases g4 (24 * y + x) with q | q
    · rw [← q]; exact hop
    · exact q.1
  refine m_take (lf := lf) (rt := rt) (bt := bt) (by rw [g1 g (by omega) (by omega) (by omega) (by omega) (by omega) (by omega)]; exact hTc) hc g3 hn hx hy b4 b5 b6 (by omega) (by omega) (by omega) (fun S' hk => ?_)
  obtain ⟨t1, t7, t6, t2, t4, t5, to⟩ := hk
  refine h S' ⟨fun a q1 q2 q4 q5 q6 q7 => (to a q1 q2 q4 q5 q6 q7).trans (g1 a q1 q2 q4 q5 q6 q7), fun j hj => ?_, by rw [t6, up_eq], fun u => ?_, fun t ht => ?_, fun u hu5 hu => ?_, ?_, ?_, ?_⟩ t1 t7
  · rw [t2, t4, t5, t6, up_ne hj, up_ne hj, up_ne hj, up_ne hj]
    exact g2 j hj
  · by_cases hu : u = 24 * y + x
    · subst hu
      exact Or.inr ⟨hL0, by rw [t1, up_eq], hM, hcn⟩
    · rw [t1, up_ne hu]
      exact g4 u
  · by_cases htn : t = n
    · subst htn
      exact ⟨24 * y + x, hat, by rw [t7, up_eq], by rw [t1, up_eq]⟩
    · obtain ⟨u, q1, q2, q3⟩ := g5 t (by omega)
      refine ⟨u, q1, by rw [t7, up_ne htn]; exact q2, ?_⟩
      by_cases hu : u = 24 * y + x
      · rw [t1, hu, up_eq]
      · rw [t1, up_ne hu]; exact q3
  · by_cases hu2 : u = 24 * y + x
    · subst hu2
      exact ⟨n, by omega, by rw [t7, up_eq]⟩
    · rw [t1, up_ne hu2] at hu
      obtain ⟨t, q1, q2⟩ := g6 u hu5 hu
      exact ⟨t, by omega, by rw [t7, up_ne (by omega)]; exact q2⟩
  · rw [g7]
    symm
    refine ctn_up (i := 24 * y + x) hat ?_ ?_ ?_
    · rw [hop]; exact decide_eq_false (fun e => hne e.symm)
    · rw [t1, up_eq]; exact decide_eq_true rfl
    · intro j hj hj2
      rw [t1, up_ne hj2]
  · by_cases hz : r0 = 24 * y + x
    · rw [t1, hz, up_eq]
    · rw [t1, up_ne hz]; exact g8
  · have hall : ∀ u, S' (g + 1) u = jI c → u = 24 * y + x ∨ S (g + 1) u = jI c := fun u hu => by
      by_cases hu2 : u = 24 * y + x
      · exact Or.inl hu2
      · rw [t1, up_ne hu2] at hu
        exact Or.inr hu
    have hold : ∀ u, S (g + 1) u = jI c → S' (g + 1) u = jI c := fun u hu => by
      by_cases hu2 : u = 24 * y + x
      · rw [t1, hu2, up_eq]
      · rw [t1, up_ne hu2]; exact hu
    have hnew : S' (g + 1) (24 * y + x) = jI c := by rw [t1, up_eq]
    refine ⟨if x < lf then x else lf, if rt < x then x else rt, if bt < y then y else bt, by split <;> omega, by split <;> omega, by split <;> omega, ?_, ?_, ?_, fun u hu5 hu => ?_, ?_, ?_, ?_⟩
    · rw [t2, up_eq]; congr 1; split <;> split <;> omega
    · rw [t4, up_eq]; congr 1; split <;> split <;> omega
    · rw [t5, up_eq]; congr 1; split <;> split <;> omega
    · rcases hall u hu with q | q
      · subst q
        rw [hm, hd]
        refine ⟨?_, ?_, ?_⟩ <;> split <;> omega
      · obtain ⟨r1, r2, r3⟩ := b7 u hu5 q
        refine ⟨?_, ?_, ?_⟩ <;> split <;> omega
    · by_cases q : x < lf
      · exact ⟨_, hat, hnew, by rw [hm]; simp [q]⟩
      · obtain ⟨u, r0', r1, r2⟩ := b8
        exact ⟨u, r0', hold u r1, by simp [q, r2]⟩
    · by_cases q : rt < x
      · exact ⟨_, hat, hnew, by rw [hm]; simp [q]⟩
      · obtain ⟨u, r0', r1, r2⟩ := b9
        exact ⟨u, r0', hold u r1, by simp [q, r2]⟩
    · by_cases q : bt < y
      · exact ⟨_, hat, hnew, by rw [hd]; simp [q]⟩
      · obtain ⟨u, r0', r1, r2⟩ := b10
        exact ⟨u, r0', hold u r1, by simp [q, r2]⟩
end YH
