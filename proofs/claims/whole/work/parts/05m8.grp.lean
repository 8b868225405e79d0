section YM
theorem jI_neg (a : Int) : - jI a = jI (-a) := (Int32.ofInt_neg a).symm
theorem jI_3 : (3 : Int32) = jI 3 := rfl
theorem m_in {a b c : Int} {S : zS} {post : Int32 → zS → Prop} (ha : jR a) (hb : jR b) (hc : jR c) (h1 : b ≤ a ∧ a ≤ c → post 1 S) (h0 : ¬ (b ≤ a ∧ a ≤ c) → post 0 S) : P_M_in (jI a) (jI b) (jI c) S post := by
  unfold P_M_in
  rw [jI_lt ha hb, jI_lt hc ha]
  exact ⟨fun z => h0 (by omega), fun z => ⟨fun y => h0 (by omega), fun y => h1 (by omega)⟩⟩
theorem m_isSample {x y : Int} {W H : Nat} {S : zS} {post : Int32 → zS → Prop} (hx : jR x) (hy : jR y) (hW : W ≤ 24) (hH : H ≤ 24) (e1 : S 31 1 = jI W) (e2 : S 31 2 = jI H) (h1 : 0 ≤ x ∧ x < W ∧ 0 ≤ y ∧ y < H → post 1 S) (h0 : ¬ (0 ≤ x ∧ x < W ∧ 0 ≤ y ∧ y < H) → post 0 S) : P_M_isSample (jI x) (jI y) S post := by
  unfold P_M_isSample
  rw [e1, jI_0, jI_1, jI_sub]
  refine m_in hx (jS (by omega)) (jS (by omega)) (fun a => ?_) (fun a => ?_)
  · refine ⟨fun z => absurd z (by decide), fun _ => ?_⟩
    rw [e2, jI_sub]
    refine m_in hy (jS (by omega)) (jS (by omega)) (fun b => ?_) (fun b => ?_)
    · exact ⟨fun z => absurd z (by decide), fun _ => h1 (by omega)⟩
    · exact ⟨fun _ => h0 (by omega), fun z => absurd rfl z⟩
  · exact ⟨fun _ => h0 (by omega), fun z => absurd rfl z⟩
theorem su_id (S : zS) (k i : Nat) (v : Int32) (h : S k i = v) : z_su S k i v = S := by
  funext a j
  by_cases ha : a = k
  · subst ha
    rw [su_eq]
    by_cases hj : j = i
    · subst hj; rw [up_eq, h]
    · rw [up_ne hj]
  · rw [su_ne ha]
/-- the reference's labels, while they sink -/
def r_L (Lb : Nat → Int32) (M : Nat → Prop) (co : Prop) (W H : Nat) (l : Nat → Nat) : Prop :=
  (∀ u, u < 576 → u % 24 < W → u / 24 < H → ¬ M u → Lb u = -1) ∧ ∀ u, M u → Lb u = jI (l u : Nat) ∧ l u ≤ u ∧ g_cn M co u (l u)
variable {W H : Nat} {B : Nat → Int32} {kd v3 : Int32} {l : Nat → Nat} {S : zS}
theorem m_s35 {post : Int32 → zS → Prop} {K128 : Int32 → zS → Prop} {x y m0 : Nat} {dy : Int} (hW : W ≤ 24) (hH : H ≤ 24) (e1 : S 31 1 = jI W) (e2 : S 31 2 = jI H) (hx : x < W) (hy : y < H) (hdy : -1 ≤ dy ∧ dy ≤ 1)
    (hL : r_L (S 37) (g_M B kd W H) (¬ v3 = 0) W H l) (hMi : g_M B kd W H (24 * y + x)) (b0 : m0 ≤ l (24 * y + x)) (c0 : g_cn (g_M B kd W H) (¬ v3 = 0) (24 * y + x) m0)
    (d0 : ∀ v, g_M B kd W H v → g_adj (¬ v3 = 0) (24 * y + x) v → ((v / 24 : Nat) : Int) < y + dy → m0 ≤ l v)
    (hK : ∀ m : Nat, m ≤ l (24 * y + x) → g_cn (g_M B kd W H) (¬ v3 = 0) (24 * y + x) m → (∀ v, g_M B kd W H v → g_adj (¬ v3 = 0) (24 * y + x) v → ((v / 24 : Nat) : Int) < y + (dy + 1) → m ≤ l v) → K128 (jI m) S) :
    ∃ k, L_M_settles_35 post K128 (jI x) (jI y) v3 (jI (24 * y + x : Nat)) (jI dy) k (jI m0) (-1) S := by
  have hli : l (24 * y + x) ≤ 575 := by have := (hL.2 _ hMi).2.1; omega
  have hm : (24 * y + x) % 24 = x := by omega
  have hd : (24 * y + x) / 24 = y := by omega
  refine lq2 (A := Nat) (B := Int) (fun k m dx S' => L_M_settles_35 post K128 (jI x) (jI y) v3 (jI (24 * y + x : Nat)) (jI dy) k (jI m) (jI dx) S')
    (fun m dx S' => S' = S ∧ -1 ≤ dx ∧ dx ≤ 2 ∧ m ≤ l (24 * y + x) ∧ g_cn (g_M B kd W H) (¬ v3 = 0) (24 * y + x) m ∧ ∀ v, g_M B kd W H v → g_adj (¬ v3 = 0) (24 * y + x) v → (((v / 24 : Nat) : Int) < y + dy ∨ (((v / 24 : Nat) : Int) = y + dy ∧ ((v % 24 : Nat) : Int) < x + dx)) → m ≤ l v)
    (fun _ dx _ => (2 - dx).toNat) ?_ m0 (-1) S ⟨rfl, by omega, by omega, b0, c0, fun v hv ha hz => ?_⟩
  · rintro k m dx S' ⟨rfl, q1, q2, q3, q4, q5⟩ ih
    have ih' : ∀ m' : Nat, dx ≤ 1 → m' ≤ m → g_cn (g_M B kd W H) (¬ v3 = 0) (24 * y + x) m' → (∀ v, g_M B kd W H v → g_adj (¬ v3 = 0) (24 * y + x) v → ((v / 24 : Nat) : Int) = y + dy → ((v % 24 : Nat) : Int) = x + dx → m' ≤ l v) → L_M_settles_35 post K128 (jI x) (jI y) v3 (jI (24 * y + x : Nat)) (jI dy) k (jI m') (jI dx + 1) S' := fun m' hd1 a1 a2 a3 => by
      rw [jI_1, jI_add]
      refine ih m' (dx + 1) S' ⟨rfl, by omega, by omega, by omega, a2, fun v hv ha hz => ?_⟩ (by omega)
      by_cases hz2 : ((v / 24 : Nat) : Int) = y + dy ∧ ((v % 24 : Nat) : Int) = x + dx
      · exact a3 v hv ha hz2.1 hz2.2
      · exact Nat.le_trans a1 (q5 v hv ha (by omega))
    have hgo : ((¬ v3 = 0) ∨ dx = 0 ∨ dy = 0) → dx ≤ 1 → J_M_settles_55 post (L_M_settles_35 post K128 (jI x) (jI y) v3 (jI (24 * y + x : Nat)) (jI dy) k) (jI x) (jI y) v3 (jI (24 * y + x : Nat)) (jI m) (jI dy) (jI dx) S' := fun hb hd1 => by
      unfold J_M_settles_55 J_M_settles_60
      refine ⟨fun z => absurd z (by decide), fun _ => ?_⟩
      rw [jI_add, jI_add]
      refine m_isSample (jS (by omega)) (jS (by omega)) hW hH e1 e2 (fun hs => ?_) (fun hs => ?_)
      · refine ⟨fun z => absurd z (by decide), fun _ => ?_⟩
        have ea : jI ((24 * y + x : Nat) : Int) + 24 * jI dy + jI dx = jI ((24 * ((y : Int) + dy).toNat + ((x : Int) + dx).toNat : Nat) : Int) := by
          rw [jI_24, jI_mul, jI_add, jI_add]; congr 1; omega
        rw [ea]
        generalize hy' : ((y : Int) + dy).toNat = y'
        generalize hx' : ((x : Int) + dx).toNat = x'
        rw [jn_in (by omega), jn_ix (by omega)]
        refine ⟨by omega, fun x98 e98 => ?_⟩
        have hpos : ∀ v : Nat, v < 576 → ((v / 24 : Nat) : Int) = y + dy → ((v % 24 : Nat) : Int) = x + dx → v = 24 * y' + x' := fun v hv z1 z2 => by omega
        by_cases hMv : g_M B kd W H (24 * y' + x')
        · obtain ⟨p1, p2, p3⟩ := hL.2 _ hMv
          have hadj : g_adj (¬ v3 = 0) (24 * y + x) (24 * y' + x') := ⟨by omega, by omega, by omega, by omega, by
            rcases hb with z | z | z
            · exact Or.inl z
            · exact Or.inr (Or.inl (by omega))
            · exact Or.inr (Or.inr (by omega))⟩
          rw [p1] at e98
          rw [e98]
          refine ⟨fun z => absurd z (jn_m1 (by omega)), fun _ => ?_⟩
          rw [jn_le (by omega) (by omega)]
          refine ⟨fun z x122 e122 => ?_, fun z x122 e122 => ?_⟩
          · rw [e122]
            refine ih' m hd1 (Nat.le_refl m) q4 (fun v hv ha z1 z2 => ?_)
            rw [hpos v hv.1 z1 z2]; exact z
          · rw [e122]
            refine ih' _ hd1 (by omega) (g_cn_t (g_cn_1 hMi hMv hadj) p3) (fun v hv ha z1 z2 => ?_)
            rw [hpos v hv.1 z1 z2]; exact Nat.le_refl _
        · have := hL.1 (24 * y' + x') (by omega) (by omega) (by omega) hMv
          rw [this] at e98
          refine ⟨fun _ x122 e122 => ?_, fun z => absurd e98 z⟩
          rw [e122]
          refine ih' m hd1 (Nat.le_refl m) q4 (fun v hv ha z1 z2 => ?_)
          rw [hpos v hv.1 z1 z2] at hv
          exact absurd hv hMv
      · refine ⟨fun _ x122 e122 => ?_, fun z => absurd rfl z⟩
        rw [e122]
        refine ih' m hd1 (Nat.le_refl m) q4 (fun v hv ha z1 z2 => absurd ?_ hs)
        have h1 := hv.2.1
        have h2 := hv.2.2.1
        omega
    rw [L_M_settles_35]
    have j1 : (1 : Int32) < jI dx ↔ 1 < dx := by rw [jI_1, jI_lt (jS (by omega)) (jS (by omega))]
    have jx0 : jI dx = 0 ↔ dx = 0 := by rw [jI_0, jI_eq (jS (by omega)) (jS (by omega))]
    have jy0 : jI dy = 0 ↔ dy = 0 := by rw [jI_0, jI_eq (jS (by omega)) (jS (by omega))]
    rw [j1, jx0, jy0]
    refine ⟨fun z => hK m q3 q4 (fun v hv ha hz => q5 v hv ha ?_), fun z => ⟨fun a => hgo (Or.inl a) (by omega), fun a => ⟨fun b => hgo (Or.inr (Or.inl b)) (by omega), fun b => ⟨fun d => ?_, fun d => hgo (Or.inr (Or.inr d)) (by omega)⟩⟩⟩⟩
    · have := ha.2.1
      omega
    · unfold J_M_settles_60
      refine ⟨fun _ x122 e122 => ?_, fun z => absurd rfl z⟩
      rw [e122]
      refine ih' m (by omega) (Nat.le_refl m) q4 (fun v hv ha z1 z2 => ?_)
      rcases ha.2.2.2.2 with w | w | w
      · exact absurd a w
      · omega
      · omega
  · refine d0 v hv ha ?_
    have := ha.1
    omega
theorem m_settles {post : Int32 → zS → Prop} {x y : Nat} (hW : W ≤ 24) (hH : H ≤ 24) (e1 : S 31 1 = jI W) (e2 : S 31 2 = jI H) (hx : x < W) (hy : y < H) (hL : r_L (S 37) (g_M B kd W H) (¬ v3 = 0) W H l)
    (h0 : (g_M B kd W H (24 * y + x) → ∀ v, g_M B kd W H v → g_adj (¬ v3 = 0) (24 * y + x) v → l (24 * y + x) ≤ l v) → post 0 S)
    (h1 : ∀ m : Nat, g_M B kd W H (24 * y + x) → m < l (24 * y + x) → g_cn (g_M B kd W H) (¬ v3 = 0) (24 * y + x) m → post 1 (z_su S 37 (24 * y + x) (jI m))) : P_M_settles (jI x) (jI y) v3 S post := by
  have hm : (24 * y + x) % 24 = x := by omega
  have hd : (24 * y + x) / 24 = y := by omega
  unfold P_M_settles
  intro x6 e6
  rw [jat'] at e6
  subst e6
  rw [jn_in (by omega), jn_ix (by omega)]
  refine ⟨by omega, fun x15 e15 => ?_⟩
  by_cases hMi : g_M B kd W H (24 * y + x)
  · obtain ⟨p1, p2, p3⟩ := hL.2 _ hMi
    rw [p1] at e15
    rw [e15]
    refine lq2 (A := Nat) (B := Int) (fun k m dy S' => L_M_settles_20 post _ (jI x) (jI y) v3 (jI (24 * y + x : Nat)) k (jI m) (jI dy) S')
      (fun m dy S' => S' = S ∧ -1 ≤ dy ∧ dy ≤ 2 ∧ m ≤ l (24 * y + x) ∧ g_cn (g_M B kd W H) (¬ v3 = 0) (24 * y + x) m ∧ ∀ v, g_M B kd W H v → g_adj (¬ v3 = 0) (24 * y + x) v → ((v / 24 : Nat) : Int) < y + dy → m ≤ l v)
      (fun _ dy _ => (2 - dy).toNat) ?_ (l (24 * y + x)) (-1) S ⟨rfl, by omega, by omega, Nat.le_refl _, p3, fun v hv ha hz => ?_⟩
    · rintro k m dy S' ⟨rfl, q1, q2, q3, q4, q5⟩ ih
      rw [L_M_settles_20]
      have j1 : (1 : Int32) < jI dy ↔ 1 < dy := by rw [jI_1, jI_lt (jS (by omega)) (jS (by omega))]
      rw [j1]
      refine ⟨fun z => ?_, fun z => ⟨fun w => absurd w (jn_m1 (by omega)), fun _ => ?_⟩⟩
      · unfold J_M_settles_134
        rw [jn_in (by omega), jn_ix (by omega), p1, jn_eq (by omega) (by omega)]
        refine ⟨by omega, fun w => ⟨by omega, fun S161 e161 => ?_⟩, fun w => ⟨by omega, fun S161 e161 => ?_⟩⟩
        · rw [e161, su_id _ _ _ _ (by rw [p1, w])]
          refine h0 (fun _ v hv ha => ?_)
          rw [← w]
          refine q5 v hv ha ?_
          have := ha.2.2.2.1
          omega
        · rw [e161]
          exact h1 m hMi (by omega) q4
      · refine m_s35 hW hH e1 e2 hx hy (by omega) hL hMi q3 q4 q5 (fun m' a1 a2 a3 x128 e128 => ?_)
        rw [e128, jI_1, jI_add]
        exact ih m' (dy + 1) S' ⟨rfl, by omega, by omega, a1, a2, a3⟩ (by omega)
    · have := ha.2.2.1
      omega
  · have hu := hL.1 (24 * y + x) (by omega) (by omega) (by omega) hMi
    rw [hu] at e15
    refine ⟨1, ?_⟩
    rw [L_M_settles_20]
    refine ⟨fun z => absurd z (by decide), fun _ => ⟨fun _ => ?_, fun z => absurd e15 z⟩⟩
    unfold J_M_settles_134
    rw [jn_in (by omega), jn_ix (by omega), hu, e15]
    refine ⟨by omega, fun w => ⟨by omega, fun S161 e161 => ?_⟩, fun w => absurd rfl w⟩
    rw [e161, su_id _ _ _ _ hu]
    exact h0 (fun z => absurd z hMi)
end YM
