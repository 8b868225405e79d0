section ZR2
/-- both sides alike -/
def rR (W H : Nat) (S : zS) : Prop := ∃ nz, rB W H nz S ∧ S 31 5 = S 0 14 ∧ z_bo (S 0 14) ∧ (¬ S 0 14 = 0 → rP W H nz S)
variable {W H : Nat} {S S' : zS}
theorem rB_f {nz : Nat} (h : rB W H nz S) (hf : ∀ a, a ≠ 31 → a ≠ 50 → S' a = S a) (hg : ∀ j, j ≠ 0 → S' 31 j = S 31 j) : rB W H nz S' := by
  unfold rB at *
  rw [hf 0 (by omega) (by omega), hf 1 (by omega) (by omega), hf 2 (by omega) (by omega), hf 3 (by omega) (by omega), hf 5 (by omega) (by omega), hf 13 (by omega) (by omega), hf 21 (by omega) (by omega), hf 32 (by omega) (by omega), hf 33 (by omega) (by omega), hf 34 (by omega) (by omega), hf 35 (by omega) (by omega), hf 36 (by omega) (by omega), hg 1 (by omega), hg 2 (by omega), hg 4 (by omega)]
  exact h
theorem rP_f {nz : Nat} (h : rP W H nz S) (hf : ∀ a, a ≠ 31 → a ≠ 50 → S' a = S a) (hg : ∀ j, j ≠ 0 → S' 31 j = S 31 j) : rP W H nz S' := by
  unfold rP at *
  rw [hf 0 (by omega) (by omega), hf 1 (by omega) (by omega), hf 2 (by omega) (by omega), hf 4 (by omega) (by omega), hf 5 (by omega) (by omega), hf 6 (by omega) (by omega), hf 7 (by omega) (by omega), hf 8 (by omega) (by omega), hf 9 (by omega) (by omega), hf 10 (by omega) (by omega), hf 11 (by omega) (by omega), hf 13 (by omega) (by omega), hf 15 (by omega) (by omega), hf 16 (by omega) (by omega), hf 17 (by omega) (by omega), hf 18 (by omega) (by omega), hf 19 (by omega) (by omega), hf 21 (by omega) (by omega), hf 22 (by omega) (by omega), hf 23 (by omega) (by omega), hf 24 (by omega) (by omega), hf 25 (by omega) (by omega), hf 28 (by omega) (by omega), hf 33 (by omega) (by omega), hf 34 (by omega) (by omega), hf 38 (by omega) (by omega), hf 39 (by omega) (by omega), hf 40 (by omega) (by omega), hf 41 (by omega) (by omega), hf 42 (by omega) (by omega), hf 43 (by omega) (by omega), hf 44 (by omega) (by omega), hf 45 (by omega) (by omega), hf 46 (by omega) (by omega), hf 47 (by omega) (by omega), hg 12 (by omega), hg 19 (by omega), hg 21 (by omega), hg 23 (by omega)]
  exact h
theorem rR_f (h : rR W H S) (hf : ∀ a, a ≠ 31 → a ≠ 50 → S' a = S a) (hg : ∀ j, j ≠ 0 → S' 31 j = S 31 j) : rR W H S' := by
  obtain ⟨nz, h1, h2, h3, h4⟩ := h
  refine ⟨nz, rB_f h1 hf hg, ?_, ?_, fun z => rP_f (h4 ?_) hf hg⟩
  · rw [hg 5 (by omega), hf 0 (by omega) (by omega)]; exact h2
  · rw [hf 0 (by omega) (by omega)]; exact h3
  · rw [hf 0 (by omega) (by omega)] at z; exact z
theorem rR_50 (h : rR W H S) (v : Int32) : rR W H (z_su S 50 0 v) := rR_f h (fun a _ h2 => su_ne h2) (fun j _ => by rw [su_ne (by omega)])
theorem rR_31 (h : rR W H S) (v : Int32) : rR W H (z_su S 31 0 v) := rR_f h (fun a h1 _ => su_ne h1) (fun j hj => by rw [su_eq, up_ne hj])
theorem jx_ (v : Int32) : ∃ z : Int, jR z ∧ v = jI z := ⟨v.toInt, ⟨Int32.le_toInt v, by have := Int32.toInt_lt v; omega⟩, jI_of v⟩
/-- the other side's gate -/
theorem m_goes {v1 v2 v3 : Int32} {post : Int32 → zS → Prop} (h1 : v1 = 0 → post 0 (z_su S 31 0 1)) (h2 : ¬ v1 = 0 → v2 = 0 → post 0 (z_su S 31 0 2)) (h3 : ¬ v1 = 0 → ¬ v2 = 0 → v3 = 0 → post 0 (z_su S 31 0 3)) (h0 : ¬ v1 = 0 → ¬ v2 = 0 → ¬ v3 = 0 → post 1 (z_su S 31 0 0)) : P_M_goes v1 v2 v3 S post := by
  unfold P_M_goes J_M_goes_26
  refine ⟨fun a => ⟨fun b => ⟨fun c S' e => ?_, fun c S' e => ?_⟩, fun b S' e => ?_⟩, fun a S' e => ?_⟩
  · subst e; rw [su_eq, up_eq]; exact ⟨fun z => absurd rfl z, fun _ => h0 a b c⟩
  · subst e; rw [su_eq, up_eq]; exact ⟨fun _ => h3 a b c, fun z => absurd z (by decide)⟩
  · subst e; rw [su_eq, up_eq]; exact ⟨fun _ => h2 a b, fun z => absurd z (by decide)⟩
  · subst e; rw [su_eq, up_eq]; exact ⟨fun _ => h1 a, fun z => absurd z (by decide)⟩
theorem m_inT {a b c : Int32} {post : Int32 → zS → Prop} (h1 : ¬ a < b → ¬ c < a → post 1 S) (h0 : a < b ∨ c < a → post 0 S) : P_M_in a b c S post := by
  unfold P_M_in
  exact ⟨fun z => h0 (Or.inl z), fun z => ⟨fun y => h0 (Or.inr y), fun y => h1 z y⟩⟩
theorem b1n {r : Int32} (h : r = 1) : ¬ r = 0 := by rw [h]; decide
-- the class's gates
theorem x_par {px : Nat → zS → Prop} (h : S 0 14 = 0) (hp : px 0 S) : X_P_mustBeParted S px := ⟨fun z => absurd h z, fun _ => hp⟩
theorem p_par {post : zS → Prop} (h : ¬ S 0 14 = 0) (hp : post S) : P_P_mustBeParted S post := ⟨fun _ => hp, fun z => absurd z h⟩
theorem x_bel {a : Int} {c : Nat} {px : Nat → zS → Prop} (ha : jR a) (hc : c ≤ 1000000) (h : ¬ (0 ≤ a ∧ a < c)) (hp : px 1 S) : X_P_mustBeBelow (jI a) (jI (c : Nat)) S px := by
  unfold X_P_mustBeBelow
  rw [jI_0, jI_lt ha (jS (by omega)), jI_lt ha (jN c hc)]
  exact ⟨fun _ => hp, fun z => ⟨fun w => h ⟨by omega, w⟩, fun _ => hp⟩⟩
theorem p_bel {a : Int} {c : Nat} {post : zS → Prop} (ha : jR a) (hc : c ≤ 1000000) (h : 0 ≤ a ∧ a < c) (hp : post S) : P_P_mustBeBelow (jI a) (jI (c : Nat)) S post := by
  unfold P_P_mustBeBelow
  rw [jI_0, jI_lt ha (jS (by omega)), jI_lt ha (jN c hc)]
  exact ⟨fun z => absurd h.1 (by omega), fun _ => ⟨fun _ => hp, fun z => z h.2⟩⟩
theorem x_tol {a : Int} {c : Nat} {px : Nat → zS → Prop} (ha : jR a) (hc : c ≤ 1000000) (h : ¬ (0 ≤ a ∧ a < c)) (hp : px 2 S) : X_P_mustBeTold (jI a) (jI (c : Nat)) S px := by
  unfold X_P_mustBeTold
  rw [jI_0, jI_lt ha (jS (by omega)), jI_lt ha (jN c hc)]
  exact ⟨fun _ => hp, fun z => ⟨fun w => h ⟨by omega, w⟩, fun _ => hp⟩⟩
theorem p_tol {a : Int} {c : Nat} {post : zS → Prop} (ha : jR a) (hc : c ≤ 1000000) (h : 0 ≤ a ∧ a < c) (hp : post S) : P_P_mustBeTold (jI a) (jI (c : Nat)) S post := by
  unfold P_P_mustBeTold
  rw [jI_0, jI_lt ha (jS (by omega)), jI_lt ha (jN c hc)]
  exact ⟨fun z => absurd h.1 (by omega), fun _ => ⟨fun _ => hp, fun z => z h.2⟩⟩
theorem x_sam {x y : Int} {px : Nat → zS → Prop} (hx : jR x) (hy : jR y) (hW : W ≤ 24) (hH : H ≤ 24) (e0 : S 0 0 = jI (W : Nat)) (e1 : S 0 1 = jI (H : Nat)) (h : ¬ (0 ≤ x ∧ x < W ∧ 0 ≤ y ∧ y < H)) (hp : px 1 S) : X_P_mustBeSample (jI x) (jI y) S px := by
  unfold X_P_mustBeSample
  rw [e0, e1, jI_0, jI_lt hx (jS (by omega)), jI_lt hy (jS (by omega)), jI_le (jN W (by omega)) hx, jI_lt hy (jN H (by omega))]
  exact ⟨fun _ => hp, fun z1 => ⟨fun _ => hp, fun z2 => ⟨fun _ => hp, fun z3 => ⟨fun z4 => h ⟨by omega, by omega, by omega, z4⟩, fun _ => hp⟩⟩⟩⟩
theorem p_sam {x y : Int} {post : zS → Prop} (hx : jR x) (hy : jR y) (hW : W ≤ 24) (hH : H ≤ 24) (e0 : S 0 0 = jI (W : Nat)) (e1 : S 0 1 = jI (H : Nat)) (h : 0 ≤ x ∧ x < W ∧ 0 ≤ y ∧ y < H) (hp : post S) : P_P_mustBeSample (jI x) (jI y) S post := by
  unfold P_P_mustBeSample
  rw [e0, e1, jI_0, jI_lt hx (jS (by omega)), jI_lt hy (jS (by omega)), jI_le (jN W (by omega)) hx, jI_lt hy (jN H (by omega))]
  exact ⟨fun z => absurd h.1 (by omega), fun z1 => ⟨fun z => absurd h.2.1 (by omega), fun z2 => ⟨fun z => absurd h.2.2.1 (by omega), fun z3 => ⟨fun z4 => hp, fun z => z h.2.2.2⟩⟩⟩⟩
/-- the other side's step answers as the class's: code r, and the value that lies in the out cell -/
def aL (W H : Nat) (P : zS → (Int32 → zS → Prop) → Prop) (r : Int32) (S1 : zS) : Prop := ∀ Q : Int32 → zS → Prop, (∀ q S2, S2 31 0 = r → S2 50 = S1 50 → (r = 0 → S1 50 0 = q) → rR W H S2 → Q q S2) → P S1 Q
/-- a throw on the other side -/
theorem a_thr {c : Int32} {Q : Int32 → zS → Prop} {q : Int32} (hR : rR W H S) (hc : ¬ c = 0) (hQ : ∀ q S2, S2 31 0 = c → S2 50 = S 50 → (c = 0 → S 50 0 = q) → rR W H S2 → Q q S2) : Q q (z_su S 31 0 c) :=
  hQ q _ (by rw [su_eq, up_eq]) (su_ne (by omega)) (fun z => absurd z hc) (rR_31 hR c)
theorem a_ret {Q : Int32 → zS → Prop} {q : Int32} (hR : rR W H S) (e : S 50 0 = q) (hQ : ∀ q S2, S2 31 0 = 0 → S2 50 = S 50 → ((0 : Int32) = 0 → S 50 0 = q) → rR W H S2 → Q q S2) : Q q (z_su S 31 0 0) :=
  hQ q _ (by rw [su_eq, up_eq]) (su_ne (by omega)) (fun _ => e) (rR_31 hR 0)
end ZR2
