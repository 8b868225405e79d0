section YO
/-- a boolean by what it says -/
noncomputable def bI (p : Prop) : Int32 := @ite Int32 p (Classical.propDecidable p) 1 0
theorem bI_1 {p : Prop} (h : p) : bI p = 1 := by unfold bI; exact @if_pos p (Classical.propDecidable p) h _ _ _
theorem bI_0 {p : Prop} (h : ¬ p) : bI p = 0 := by unfold bI; exact @if_neg p (Classical.propDecidable p) h _ _ _
theorem bI_bo (p : Prop) : z_bo (bI p) := by
  by_cases h : p
  · exact Or.inr (bI_1 h)
  · exact Or.inl (bI_0 h)
theorem bI_z {p : Prop} : bI p = 0 ↔ ¬ p := by
  by_cases h : p
  · rw [bI_1 h]; exact ⟨fun z => absurd z (by decide), fun z => absurd h z⟩
  · rw [bI_0 h]; exact ⟨fun _ => h, fun _ => rfl⟩
theorem bI_e1 {p : Prop} : bI p = 1 ↔ p := by
  by_cases h : p
  · rw [bI_1 h]; exact ⟨fun _ => h, fun _ => rfl⟩
  · rw [bI_0 h]; exact ⟨fun z => absurd z (by decide), fun z => absurd z h⟩
theorem bI_c {p q : Prop} (h : p ↔ q) : bI p = bI q := by rw [propext h]
/-- how many of 0 .. n - 1 have it -/
noncomputable def cP (p : Nat → Prop) (n : Nat) : Nat := ctn (fun u => @decide (p u) (Classical.propDecidable (p u))) n
theorem cP_z (p : Nat → Prop) : cP p 0 = 0 := rfl
theorem cP_y {p : Nat → Prop} {n : Nat} (h : p n) : cP p (n + 1) = cP p n + 1 := by
  show ctn _ n + (if @decide (p n) (Classical.propDecidable (p n)) then 1 else 0) = _
  rw [@decide_eq_true _ (Classical.propDecidable (p n)) h]; rfl
theorem cP_n {p : Nat → Prop} {n : Nat} (h : ¬ p n) : cP p (n + 1) = cP p n := by
  show ctn _ n + (if @decide (p n) (Classical.propDecidable (p n)) then 1 else 0) = _
  rw [@decide_eq_false _ (Classical.propDecidable (p n)) h]; rfl
theorem cP_le (p : Nat → Prop) (n : Nat) : cP p n ≤ n := ctn_le _ n
theorem cP_c {p q : Nat → Prop} {n : Nat} (h : ∀ i, i < n → (p i ↔ q i)) : cP p n = cP q n := by
  refine ctn_congr (fun i hi => ?_)
  by_cases hp : p i
  · rw [@decide_eq_true _ (Classical.propDecidable (p i)) hp, @decide_eq_true _ (Classical.propDecidable (q i)) ((h i hi).mp hp)]
  · rw [@decide_eq_false _ (Classical.propDecidable (p i)) hp, @decide_eq_false _ (Classical.propDecidable (q i)) (fun z => hp ((h i hi).mpr z))]
theorem cP_s {p : Nat → Prop} {a : Nat} : ∀ {b : Nat}, a ≤ b → (∀ i, a ≤ i → i < b → ¬ p i) → cP p b = cP p a
  | 0, h, _ => by
    have : a = 0 := by omega
    rw [this]
  | b + 1, h, hp => by
    by_cases hb : a = b + 1
    · rw [hb]
    · rw [cP_n (hp b (by omega) (by omega)), cP_s (b := b) (by omega) (fun i h1 h2 => hp i h1 (by omega))]
theorem cP_d {p : Nat → Prop} {f : Nat → Bool} {n : Nat} (h : ∀ i, i < n → (p i ↔ f i = true)) : cP p n = ctn f n := by
  refine ctn_congr (fun i hi => ?_)
  by_cases hp : p i
  · rw [@decide_eq_true _ (Classical.propDecidable (p i)) hp, (h i hi).mp hp]
  · rw [@decide_eq_false _ (Classical.propDecidable (p i)) hp]
    by_cases hf : f i = true
    · exact absurd ((h i hi).mpr hf) hp
    · exact (Bool.eq_false_iff.mpr hf).symm
theorem cP_mono {p : Nat → Prop} {a : Nat} : ∀ {b : Nat}, a ≤ b → cP p a ≤ cP p b
  | 0, h => by
    have : a = 0 := by omega
    rw [this]; exact Nat.le_refl _
  | b + 1, h => by
    by_cases hb : a = b + 1
    · rw [hb]; exact Nat.le_refl _
    · have := cP_mono (p := p) (b := b) (show a ≤ b by omega)
      by_cases hp : p b
      · rw [cP_y hp]; omega
      · rw [cP_n hp]; omega
/-- clean: black, and in a group of at least nz -/
def cl_ (B : Nat → Int32) (W H nz u : Nat) : Prop := g_M B 1 W H u ∧ nz ≤ cP (fun v => g_M B 1 W H v ∧ g_cn (g_M B 1 W H) (¬ (1 : Int32) = 0) u v) 576
/-- which samples have the label of a sample -/
theorem g_FI_iff {g mk W H c p k u : Nat} {T0 S : zS} {kd v3 : Int32} (hF : g_FI g mk W H T0 kd v3 c p S) (hc : c ≤ 288) (hk : k < c) (hu : S (g + 1) u = jI k) (hu5 : u < 576) : ∀ v, v < 576 → (S (g + 1) v = jI k ↔ g_M (T0 mk) kd W H v ∧ g_cn (g_M (T0 mk) kd W H) (¬ v3 = 0) u v) := by
  obtain ⟨f1, f2, f3, f4, f5, r, r1, r2, r3, r4⟩ := hF
  have hcl : ∀ w, w < 576 → S (g + 1) w = jI k → g_M (T0 mk) kd W H w ∧ g_cn (g_M (T0 mk) kd W H) (¬ v3 = 0) (r k) w := fun w hw e => by
    rcases r3 w hw with z | ⟨k', z1, z2, z3, z4, z5⟩
    · exact absurd (e.symm.trans z) (jn_m1 (by omega))
    · have : k' = k := (jn_eq (by omega) (by omega)).mp (z2.symm.trans e)
      subst this
      exact ⟨z3, z4⟩
  intro v hv
  refine ⟨fun e => ⟨(hcl v hv e).1, g_cn_t (g_cn_s (hcl u hu5 hu).2) (hcl v hv e).2⟩, fun e => ?_⟩
  exact e.2 (fun w => S (g + 1) w = jI k) hu (fun a b hq ha hb hab => (f5 a b ha hb hab).symm.trans hq)
theorem m_fC20 {post : zS → Prop} {W H c nz : Nat} {T0 : zS} (T : zS) (hF : g_FI 13 1 W H T0 1 1 c 576 T) (hc : c ≤ 288) (hnz : nz ≤ 100) (hn : T 0 13 = jI nz) (h0 : T 0 11 = 0) (b2 : ∀ u, z_bo (T 2 u)) (b3 : ∀ u, z_bo (T 3 u))
    (h : ∀ S', (∀ a, a ≠ 0 → a ≠ 2 → a ≠ 3 → S' a = T a) → (∀ j, j ≠ 11 → S' 0 j = T 0 j) → S' 0 11 = jI (cP (cl_ (T0 1) W H nz) 576 : Nat) → (∀ u, u < 576 → S' 2 u = bI (cl_ (T0 1) W H nz u) ∧ S' 3 u = bI (cl_ (T0 1) W H nz u)) → (∀ u, z_bo (S' 2 u)) → (∀ u, z_bo (S' 3 u)) → post S') : ∃ k, L_P_findClean_20 post k 0 T := by
  refine lq1 (A := Nat) (fun k i S => L_P_findClean_20 post k (jI i) S)
    (fun i S => i ≤ 576 ∧ (∀ a, a ≠ 0 → a ≠ 2 → a ≠ 3 → S a = T a) ∧ (∀ j, j ≠ 11 → S 0 j = T 0 j) ∧ S 0 11 = jI (cP (cl_ (T0 1) W H nz) i : Nat) ∧ (∀ u, u < i → S 2 u = bI (cl_ (T0 1) W H nz u) ∧ S 3 u = bI (cl_ (T0 1) W H nz u)) ∧ (∀ u, z_bo (S 2 u)) ∧ (∀ u, z_bo (S 3 u)))
    (fun i _ => 576 - i) ?_ 0 T ⟨by omega, fun _ _ _ _ => rfl, fun _ _ => rfl, by rw [h0]; rfl, fun u hu => absurd hu (Nat.not_lt_zero u), b2, b3⟩
  rintro k i S ⟨hi, q1, q2, q3, q4, q5, q6⟩ ih
  have hci := cP_le (cl_ (T0 1) W H nz) i
  have fin : i < 576 → ∀ v : Int32, v = bI (cl_ (T0 1) W H nz i) → J_P_findClean_68 post (L_P_findClean_20 post k) (jI i) v (jI i) S := fun hi v hv => by
    unfold J_P_findClean_68
    rw [jn_in (by omega), jn_ix (by omega)]
    have hbo : z_bo v := by rw [hv]; exact bI_bo _
    refine ⟨hi, hbo, fun S68 e68 => ⟨hi, hi, ?_, fun S80 e80 => ?_⟩⟩
    · rw [e68, su_eq, up_eq]; exact hbo
    · have x2 : S80 2 = upd (S 2) i v := by rw [e80, su_ne (by omega), e68, su_eq]
      have x3 : S80 3 = upd (S 3) i v := by rw [e80, su_eq, e68, su_ne (by omega), su_eq, up_eq]
      have xo : ∀ a, a ≠ 2 → a ≠ 3 → S80 a = S a := fun a h2 h3 => by rw [e80, su_ne h3, e68, su_ne h2]
      have hv4 : ∀ u, u < i + 1 → upd (S 2) i v u = bI (cl_ (T0 1) W H nz u) ∧ upd (S 3) i v u = bI (cl_ (T0 1) W H nz u) := fun u hu => by
        by_cases hz : u = i
        · subst hz; rw [up_eq, up_eq]; exact ⟨hv, hv⟩
        · rw [up_ne hz, up_ne hz]; exact q4 u (by omega)
      have hv5 : ∀ f : Nat → Int32, (∀ u, z_bo (f u)) → ∀ u, z_bo (upd f i v u) := fun f hf u => by
        by_cases hz : u = i
        · subst hz; rw [up_eq]; exact hbo
        · rw [up_ne hz]; exact hf u
      refine ⟨hi, fun hz x100 e100 => ?_, fun hz S97 e97 x100 e100 => ?_⟩
      · rw [x2, up_eq, hv, bI_z] at hz
        rw [e100, jn1]
        refine ih (i + 1) S80 ⟨by omega, fun a a0 a2 a3 => by rw [xo a a2 a3]; exact q1 a a0 a2 a3, fun j hj => by rw [xo 0 (by omega) (by omega)]; exact q2 j hj, by rw [xo 0 (by omega) (by omega), cP_n hz]; exact q3, by rw [x2, x3]; exact hv4, by rw [x2]; exact hv5 _ q5, by rw [x3]; exact hv5 _ q6⟩ (by omega)
      · rw [x2, up_eq, hv, bI_z] at hz
        have hz' : cl_ (T0 1) W H nz i := Classical.not_not.mp hz
        rw [e100, jn1]
        refine ih (i + 1) S97 ⟨by omega, fun a a0 a2 a3 => by rw [e97, su_ne a0, xo a a2 a3]; exact q1 a a0 a2 a3, fun j hj => by rw [e97, su_eq, up_ne hj, xo 0 (by omega) (by omega)]; exact q2 j hj, by rw [e97, su_eq, up_eq, xo 0 (by omega) (by omega), cP_y hz', q3, jn1], by rw [e97, su_ne (by omega), su_ne (by omega), x2, x3]; exact hv4, by rw [e97, su_ne (by omega), x2]; exact hv5 _ q5, by rw [e97, su_ne (by omega), x3]; exact hv5 _ q6⟩ (by omega)
  have e14 : S 14 = T 14 := q1 14 (by omega) (by omega) (by omega)
  have e19 : S 19 = T 19 := q1 19 (by omega) (by omega) (by omega)
  have e13 : S 0 13 = jI nz := (q2 13 (by omega)).trans hn
  rw [L_P_findClean_20, jI_576, jI_le (jS (by omega)) (jN i (by omega))]
  refine ⟨fun hz => ?_, fun hz => ?_⟩
  · have : i = 576 := by omega
    subst this
    exact h S q1 q2 q3 q4 q5 q6
  · have hi' : i < 576 := by omega
    rw [jn_in (by omega), jn_ix (by omega), e14]
    refine ⟨hi', fun x36 e36 => ?_⟩
    have hF' := hF
    obtain ⟨f1, f2, f3, f4, f5, r, r1, r2, r3, r4⟩ := hF'
    rcases r3 i hi' with z | ⟨k', z1, z2, z3, z4, z5⟩
    · have z' : T 14 i = -1 := z
      rw [z'] at e36
      refine ⟨fun _ => ?_, fun w => absurd e36 w⟩
      unfold J_P_findClean_67
      refine fin hi' 0 (bI_0 (fun w => ?_)).symm
      exact f4 i w.1 hi' z'
    · have z2' : T 14 i = jI k' := z2
      rw [z2'] at e36
      rw [e36]
      refine ⟨fun w => absurd w (jn_m1 (by omega)), fun _ => ?_⟩
      have sz := (r4 k' z1).1
      have sz' : T 19 k' = jI (ctn (fun u => decide (T 14 u = jI k')) 576 : Nat) := sz
      have hiff := g_FI_iff hF hc z1 z2 hi'
      have hcnt : ctn (fun u => decide (T 14 u = jI k')) 576 = cP (fun v => g_M (T0 1) 1 W H v ∧ g_cn (g_M (T0 1) 1 W H) (¬ (1 : Int32) = 0) i v) 576 := by
        symm
        refine cP_d (fun v hv => ?_)
        rw [decide_eq_true_iff]
        exact (hiff v hv).symm
      have hcle := cP_le (fun v => g_M (T0 1) 1 W H v ∧ g_cn (g_M (T0 1) 1 W H) (¬ (1 : Int32) = 0) i v) 576
      rw [jn_in (by omega), jn_ix (by omega), e19, e13, sz', hcnt, jn_lt (by omega) (by omega)]
      refine ⟨by omega, fun w => ?_, fun w => ?_⟩
      · unfold J_P_findClean_67
        exact fin hi' 0 (bI_0 (fun y => by have := y.2; omega)).symm
      · exact fin hi' 1 (bI_1 ⟨z3, by omega⟩).symm
theorem m_findClean {post : zS → Prop} {W H nz : Nat} (T : zS) (hTw : T 13 8 = jI W) (hTh : T 13 9 = jI H) (hW : W ≤ 24) (hH : H ≤ 24) (hnz : nz ≤ 100) (hn : T 0 13 = jI nz) (b2 : ∀ u, z_bo (T 2 u)) (b3 : ∀ u, z_bo (T 3 u))
    (h : ∀ S', (∀ a, a ≠ 0 → a ≠ 2 → a ≠ 3 → (a < 13 ∨ 21 ≤ a) → S' a = T a) → (∀ j, j ≠ 11 → S' 0 j = T 0 j) → (∀ j, j ≠ 6 → S' 13 j = T 13 j) → S' 0 11 = jI (cP (cl_ (T 1) W H nz) 576 : Nat) → (∀ u, u < 576 → S' 2 u = bI (cl_ (T 1) W H nz u) ∧ S' 3 u = bI (cl_ (T 1) W H nz u)) → (∀ u, z_bo (S' 2 u)) → (∀ u, z_bo (S' 3 u)) → post S') : P_P_findClean T post := by
  unfold P_P_findClean
  refine m_find hTw hTh hW hH (by omega) (fun S1 c hc hF => ?_)
  intro S15 e15
  have hF2 : g_FI 13 1 W H T 1 1 c 576 S1 → ∀ a, a ≠ 0 → S15 a = S1 a := fun _ a ha => by rw [e15, su_ne ha]
  have hx := hF2 hF
  have hF15 : g_FI 13 1 W H (z_su T 0 11 0) 1 1 c 576 S15 := by
    obtain ⟨f1, f2, f3, f4, f5, r, r1, r2, r3, r4⟩ := hF
    have e1 : z_su T 0 11 0 1 = T 1 := su_ne (by omega)
    have e14 : S15 (13 + 1) = S1 (13 + 1) := hx _ (by omega)
    unfold g_FI
    rw [e1, e14]
    refine ⟨fun a ha => ?_, fun j hj => ?_, by rw [hx 13 (by omega)]; exact f3, f4, f5, r, r1, r2, r3, fun k hk => ?_⟩
    · by_cases ha0 : a = 0
      · subst ha0; rw [e15, su_eq, su_eq, f1 0 (by omega)]
      · rw [hx a ha0, su_ne ha0]; exact f1 a ha
    · rw [hx 13 (by omega), su_ne (by omega)]; exact f2 j hj
    · have := r4 k hk
      unfold g_GB at this ⊢
      rw [hx (13 + 6) (by omega), e14, hx (13 + 3) (by omega), hx (13 + 2) (by omega), hx (13 + 4) (by omega), hx (13 + 5) (by omega)]
      exact this
  have o : ∀ a, a ≠ 0 → (a < 13 ∨ 21 ≤ a) → S15 a = T a := fun a ha hb => by rw [hx a ha]; exact hF.1 a hb
  have o0 : ∀ j, j ≠ 11 → S15 0 j = T 0 j := fun j hj => by rw [e15, su_eq, up_ne hj, hF.1 0 (by omega)]
  have e1 : z_su T 0 11 0 1 = T 1 := su_ne (by omega)
  refine m_fC20 (nz := nz) S15 hF15 hc hnz (by rw [o0 13 (by omega)]; exact hn) (by rw [e15, su_eq, up_eq]) (fun u => by rw [o 2 (by omega) (by omega)]; exact b2 u) (fun u => by rw [o 3 (by omega) (by omega)]; exact b3 u) (fun S' k1 k2 k3 k4 k5 k6 => ?_)
  rw [e1] at k3 k4
  refine h S' (fun a a0 a2 a3 ha => by rw [k1 a a0 a2 a3]; exact o a a0 ha) (fun j hj => by rw [k2 j hj]; exact o0 j hj) (fun j hj => ?_) k3 k4 k5 k6
  rw [k1 13 (by omega) (by omega) (by omega), hx 13 (by omega)]
  exact hF.2.1 j hj
end YO
