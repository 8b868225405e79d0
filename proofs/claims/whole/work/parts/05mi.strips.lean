section YW
/-- the column has ink; a strip begins there; its number -/
def hs_ (I : Nat → Prop) (H x : Nat) : Prop := ∃ y, y < H ∧ I (24 * y + x)
def st_ (I : Nat → Prop) (H x : Nat) : Prop := hs_ I H x ∧ (x = 0 ∨ ¬ hs_ I H (x - 1))
noncomputable def sv_ (I : Nat → Prop) (H x : Nat) : Int32 := @ite Int32 (hs_ I H x) (Classical.propDecidable _) (jI ((cP (st_ I H) (x + 1) : Nat) - 1)) (-1)
theorem sv_1 {I : Nat → Prop} {H x : Nat} (h : hs_ I H x) : sv_ I H x = jI ((cP (st_ I H) (x + 1) : Nat) - 1) := by unfold sv_; exact @if_pos _ (Classical.propDecidable _) h _ _ _
theorem sv_0 {I : Nat → Prop} {H x : Nat} (h : ¬ hs_ I H x) : sv_ I H x = -1 := by unfold sv_; exact @if_neg _ (Classical.propDecidable _) h _ _ _
theorem st_pos {I : Nat → Prop} {H : Nat} : ∀ x, hs_ I H x → 1 ≤ cP (st_ I H) (x + 1)
  | 0, h => by rw [cP_y (⟨h, Or.inl rfl⟩ : st_ I H 0)]; omega
  | x + 1, h => by
    by_cases h2 : hs_ I H x
    · have := st_pos x h2
      have := cP_mono (p := st_ I H) (a := x + 1) (b := x + 1 + 1) (by omega)
      omega
    · rw [cP_y (⟨h, Or.inr h2⟩ : st_ I H (x + 1))]; omega
theorem sv_m1 {I : Nat → Prop} {H x : Nat} (hx : x ≤ 24) : sv_ I H x = -1 ↔ ¬ hs_ I H x := by
  constructor
  · intro e h
    have h1 := st_pos x h
    have h2 := cP_le (st_ I H) (x + 1)
    rw [sv_1 h, jI_m1, jI_eq (jS (by omega)) (jS (by omega))] at e
    omega
  · exact sv_0
theorem m_hasInk {S : zS} {post : Int32 → zS → Prop} {H x : Nat} (hH : H ≤ 24) (e1 : S 0 1 = jI H) (hx : x < 24) (h1 : hs_ (fun u => ¬ S 3 u = 0) H x → post 1 S) (h0 : ¬ hs_ (fun u => ¬ S 3 u = 0) H x → post 0 S) : P_P_hasInk (jI x) S post := by
  unfold P_P_hasInk
  refine lq1 (A := Nat) (fun k y S' => L_P_hasInk_2 post (jI x) k (jI y) S') (fun y S' => S' = S ∧ y ≤ H ∧ ∀ t, t < y → S 3 (24 * t + x) = 0) (fun y _ => H - y) ?_ 0 S ⟨rfl, by omega, fun t ht => absurd ht (by omega)⟩
  rintro k y S' ⟨rfl, hy, hq⟩ ih
  rw [L_P_hasInk_2, e1, jn_le (by omega) (by omega)]
  refine ⟨fun hz => h0 (fun ⟨t, t1, t2⟩ => t2 (hq t (by omega))), fun hz => ?_⟩
  rw [jat, jn_in (by omega), jn_ix (by omega)]
  refine ⟨by omega, fun a x26 e26 => ?_, fun a => h1 ⟨y, by omega, a⟩⟩
  rw [e26, jn1]
  refine ih (y + 1) S' ⟨rfl, by omega, fun t ht => ?_⟩ (by omega)
  by_cases htz : t = y
  · subst htz; exact a
  · exact hq t (by omega)
theorem m_findStrips {T : zS} {post : zS → Prop} {W H : Nat} (hW : W ≤ 24) (hH : H ≤ 24) (e0 : T 0 0 = jI W) (e1 : T 0 1 = jI H)
    (h : ∀ S', (∀ a, a ≠ 0 → a ≠ 4 → S' a = T a) → (∀ j, j ≠ 12 → S' 0 j = T 0 j) → S' 0 12 = jI (cP (st_ (fun u => ¬ T 3 u = 0) H) W : Nat) → (∀ x, x < W → S' 4 x = sv_ (fun u => ¬ T 3 u = 0) H x) → post S') : P_P_findStrips T post := by
  unfold P_P_findStrips
  intro S2 e2
  refine lq2 (A := Int32) (B := Nat) (fun k wi x S => L_P_findStrips_9 post k wi (jI x) S)
    (fun wi x S => x ≤ W ∧ (∀ a, a ≠ 0 → a ≠ 4 → S a = T a) ∧ (∀ j, j ≠ 12 → S 0 j = T 0 j) ∧ S 0 12 = jI (cP (st_ (fun u => ¬ T 3 u = 0) H) x : Nat) ∧ (∀ x', x' < x → S 4 x' = sv_ (fun u => ¬ T 3 u = 0) H x') ∧ (wi = 0 ↔ (x = 0 ∨ ¬ hs_ (fun u => ¬ T 3 u = 0) H (x - 1))))
    (fun _ x _ => W - x) ?_ 0 0 S2 ⟨by omega, fun a a0 _ => by rw [e2, su_ne a0], fun j hj => by rw [e2, su_eq, up_ne hj], by rw [e2, su_eq, up_eq]; rfl, fun x' hx' => absurd hx' (by omega), ⟨fun _ => Or.inl rfl, fun _ => rfl⟩⟩
  rintro k wi x S ⟨hx, q1, q2, q3, q4, q5⟩ ih
  have f3 : S 3 = T 3 := q1 3 (by omega) (by omega)
  have hcx := cP_le (st_ (fun u => ¬ T 3 u = 0) H) x
  rw [L_P_findStrips_9, q2 0 (by omega), e0, jn_le (by omega) (by omega)]
  refine ⟨fun hz => ?_, fun hz => ?_⟩
  · have : x = W := by omega
    subst this
    exact h S q1 q2 q3 q4
  · have fin : ∀ (v : Int32) (S' : zS), (v = 0 ↔ ¬ hs_ (fun u => ¬ T 3 u = 0) H x) → (∀ a, a ≠ 0 → S' a = S a) → (∀ j, j ≠ 12 → S' 0 j = S 0 j) → S' 0 12 = jI (cP (st_ (fun u => ¬ T 3 u = 0) H) (x + 1) : Nat) → J_P_findStrips_41 post (L_P_findStrips_9 post k) (jI x) v S' := fun v S' hv a1 a2 a3 => by
      have last : ∀ t : Int32, t = sv_ (fun u => ¬ T 3 u = 0) H x → J_P_findStrips_60 post (L_P_findStrips_9 post k) (jI x) v t (jI x) S' := fun t ht => by
        unfold J_P_findStrips_60
        rw [jn_in (by omega), jn_ix (by omega)]
        refine ⟨by omega, fun S60 e60 x63 e63 => ?_⟩
        rw [e63, jn1]
        refine ih v (x + 1) S60 ⟨by omega, fun a b0 b4 => by rw [e60, su_ne b4, a1 a b0]; exact q1 a b0 b4, fun j hj => by rw [e60, su_ne (by omega), a2 j hj]; exact q2 j hj, by rw [e60, su_ne (by omega)]; exact a3, fun x' hx' => ?_, ?_⟩ (by omega)
        · rw [e60, su_eq, a1 4 (by omega)]
          by_cases hxx : x' = x
          · subst hxx; rw [up_eq]; exact ht
          · rw [up_ne hxx]; exact q4 x' (by omega)
        · rw [hv]
          have : x + 1 - 1 = x := by omega
          rw [this]
          exact ⟨Or.inr, fun z => z.elim (fun z => absurd z (by omega)) id⟩
      unfold J_P_findStrips_41
      refine ⟨fun z => last _ (sv_0 (hv.mp z)).symm, fun z => last _ ?_⟩
      rw [a3, jI_1, jI_sub, sv_1 (Classical.not_not.mp (fun w => z (hv.mpr w)))]
    refine m_hasInk hH (by rw [q2 1 (by omega)]; exact e1) (by omega) (fun hh => ?_) (fun hh => ?_)
    · rw [f3] at hh
      refine ⟨fun z => absurd z (by decide), fun _ => ⟨fun a => ?_, fun a S38 e38 => ?_⟩⟩
      · refine fin 1 S ⟨fun z => absurd z (by decide), fun z => absurd hh z⟩ (fun _ _ => rfl) (fun _ _ => rfl) ?_
        rw [q3, cP_n (fun z => a (q5.mpr z.2))]
      · refine fin 1 S38 ⟨fun z => absurd z (by decide), fun z => absurd hh z⟩ (fun a ha => by rw [e38, su_ne ha]) (fun j hj => by rw [e38, su_eq, up_ne hj]) ?_
        rw [e38, su_eq, up_eq, q3, jn1, cP_y (⟨hh, q5.mp a⟩ : st_ _ _ _)]
    · rw [f3] at hh
      refine ⟨fun _ => fin 0 S ⟨fun _ => hh, fun _ => rfl⟩ (fun _ _ => rfl) (fun _ _ => rfl) ?_, fun z => absurd rfl z⟩
      rw [q3, cP_n (fun z => hh z.1)]
theorem m_takeStrips {T : zS} {post : zS → Prop} {W H : Nat} (hW : W ≤ 24) (hH : H ≤ 24) (e1 : T 31 1 = jI W) (e2 : T 31 2 = jI H)
    (h : ∀ S', (∀ a, a ≠ 31 → a ≠ 46 → S' a = T a) → (∀ j, j ≠ 21 → S' 31 j = T 31 j) → S' 31 21 = jI (cP (st_ (fun u => ¬ T 35 u = 0) H) W : Nat) → (∀ x, x < W → S' 46 x = sv_ (fun u => ¬ T 35 u = 0) H x) → post S') : P_M_takeStrips T post := by
  unfold P_M_takeStrips
  intro S2 f2
  refine lq1 (A := Nat) (fun k x S => L_M_takeStrips_7 post k (jI x) S)
    (fun x S => x ≤ W ∧ (∀ a, a ≠ 31 → a ≠ 46 → S a = T a) ∧ (∀ j, j ≠ 21 → S 31 j = T 31 j) ∧ S 31 21 = jI (cP (st_ (fun u => ¬ T 35 u = 0) H) x : Nat) ∧ (∀ x', x' < x → S 46 x' = sv_ (fun u => ¬ T 35 u = 0) H x'))
    (fun x _ => W - x) ?_ 0 S2 ⟨by omega, fun a a0 _ => by rw [f2, su_ne a0], fun j hj => by rw [f2, su_eq, up_ne hj], by rw [f2, su_eq, up_eq]; rfl, fun x' hx' => absurd hx' (by omega)⟩
  rintro k x S ⟨hx, q1, q2, q3, q4⟩ ih
  have f35 : S 35 = T 35 := q1 35 (by omega) (by omega)
  have hcx := cP_le (st_ (fun u => ¬ T 35 u = 0) H) x
  rw [L_M_takeStrips_7, q2 1 (by omega), e1, jn_le (by omega) (by omega)]
  refine ⟨fun hz => ?_, fun hz => ?_⟩
  · have : x = W := by omega
    subst this
    exact h S q1 q2 q3 q4
  · refine lq2 (A := Int32) (B := Nat) (fun k v y S' => L_M_takeStrips_19 post _ (jI x) k v (jI y) S') (fun v y S' => S' = S ∧ y ≤ H ∧ (v = 0 ↔ ∀ t, t < y → T 35 (24 * t + x) = 0)) (fun _ y _ => H - y) ?_ 0 0 S ⟨rfl, by omega, ⟨fun _ t ht => absurd ht (by omega), fun _ => rfl⟩⟩
    rintro k2 v y S' ⟨rfl, hy, hv⟩ ih2
    rw [L_M_takeStrips_19, q2 2 (by omega), e2, jn_le (by omega) (by omega)]
    refine ⟨fun hz2 => ?_, fun hz2 => ?_⟩
    · have hv' : v = 0 ↔ ¬ hs_ (fun u => ¬ T 35 u = 0) H x := by
        rw [hv]
        constructor
        · rintro a ⟨t, t1, t2⟩
          exact t2 (a t (by omega))
        · intro a t ht
          exact Classical.not_not.mp (fun w => a ⟨t, by omega, w⟩)
      have k101 : ∀ t : Int32, t = jI (cP (st_ (fun u => ¬ T 35 u = 0) H) (x + 1) : Nat) → J_M_takeStrips_101 post (L_M_takeStrips_7 post k) (jI x) v t S' := fun t ht => by
        unfold J_M_takeStrips_101
        intro S101 e101
        have last : ∀ w : Int32, w = sv_ (fun u => ¬ T 35 u = 0) H x → ∀ S123 : zS, S123 = z_su S101 46 x w → ∀ x124 : Int32, x124 = jI x + 1 → L_M_takeStrips_7 post k x124 S123 := fun w hw S123 e123 x124 e124 => by
          rw [e124, jn1]
          refine ih (x + 1) S123 ⟨by omega, fun a a1 a2 => by rw [e123, su_ne a2, e101, su_ne a1]; exact q1 a a1 a2, fun j hj => by rw [e123, su_ne (by omega), e101, su_eq, up_ne hj]; exact q2 j hj, by rw [e123, su_ne (by omega), e101, su_eq, up_eq]; exact ht, fun x' hx' => ?_⟩ (by omega)
          rw [e123, su_eq, e101, su_ne (by omega)]
          by_cases hxx : x' = x
          · subst hxx; rw [up_eq]; exact hw
          · rw [up_ne hxx]; exact q4 x' (by omega)
        rw [jn_in (by omega), jn_ix (by omega)]
        refine ⟨fun z => ⟨by omega, last _ (sv_0 (hv'.mp z)).symm⟩, fun z => ⟨by omega, last _ ?_⟩⟩
        rw [e101, su_eq, up_eq, ht, jI_1, jI_sub, sv_1 (Classical.not_not.mp (fun w => z (hv'.mpr w)))]
      have k78 : ∀ t : Int32, (t = 0 ↔ (x = 0 ∨ ¬ hs_ (fun u => ¬ T 35 u = 0) H (x - 1))) → J_M_takeStrips_78 post (L_M_takeStrips_7 post k) (jI x) v t S' := fun t ht => by
        unfold J_M_takeStrips_78 J_M_takeStrips_97
        rw [q3]
        refine ⟨fun z => k101 _ ?_, fun z => ⟨fun z2 => k101 _ ?_, fun z2 => k101 _ ?_⟩⟩
        · rw [cP_n (fun w => hv'.mp z w.1)]
        · rw [cP_n (fun w => z2 (ht.mpr w.2))]
        · rw [jn1, cP_y (⟨Classical.not_not.mp (fun w => z (hv'.mpr w)), ht.mp z2⟩ : st_ _ _ _)]
      have jx0 : jI (x : Int) ≤ 0 ↔ x = 0 := by rw [jn0, jn_le (by omega) (by omega)]; omega
      rw [jx0]
      refine ⟨fun z => ?_, fun z => ?_⟩
      · unfold J_M_takeStrips_77
        exact k78 0 ⟨fun _ => Or.inl z, fun _ => rfl⟩
      · have ex : jI (x : Int) - 1 = jI ((x - 1 : Nat) : Int) := by rw [jk1, jsn (by omega)]
        rw [ex, jn_in (by omega), jn_ix (by omega), q4 (x - 1) (by omega), sv_m1 (by omega)]
        refine ⟨by omega, fun z2 => ?_, fun z2 => k78 1 ⟨fun w => absurd w (by decide), fun w => w.elim (fun w => absurd w z) (fun w => absurd w z2)⟩⟩
        unfold J_M_takeStrips_77
        exact k78 0 ⟨fun _ => Or.inr z2, fun _ => rfl⟩
    · have go : ∀ v' : Int32, (v' = 0 ↔ ∀ t, t < y + 1 → T 35 (24 * t + x) = 0) → ∀ x51 : Int32, x51 = jI y + 1 → L_M_takeStrips_19 post _ (jI x) k2 v' x51 S' := fun v' hv' x51 e51 => by
        rw [e51, jn1 y]
        exact ih2 v' (y + 1) S' ⟨rfl, by omega, hv'⟩ (by omega)
      rw [jat', jn_in (by omega), jn_ix (by omega), f35]
      unfold J_M_takeStrips_45
      refine ⟨fun z => go 1 ⟨fun w => absurd w (by decide), fun w => absurd (hv.mpr (fun t ht => w t (by omega))) z⟩, fun z => ⟨by omega, fun z2 => go 0 ⟨fun _ t ht => ?_, fun _ => rfl⟩, fun z2 => go 1 ⟨fun w => absurd w (by decide), fun w => absurd (w y (by omega)) z2⟩⟩⟩
      by_cases hty : t = y
      · subst hty; exact z2
      · exact hv.mp z t (by omega)
end YW
