section YV
variable {W H c : Nat} {L : Nat → Int32} {r : Nat → Nat} {T : zS}
theorem m_takeParts {post : zS → Prop} (hW0 : 1 ≤ W) (hW : W ≤ 24) (hH : H ≤ 24) (e1 : T 31 1 = jI W) (e2 : T 31 2 = jI H) (b35 : ∀ u, z_bo (T 35 u)) (hG : g_G L (g_M (T 35) 1 W H) (¬ (0 : Int32) = 0) c r)
    (h : ∀ S', (∀ a, a < 31 ∨ 43 < a ∨ (31 < a ∧ a < 37) → S' a = T a) → (∀ j, j ≠ 12 → S' 31 j = T 31 j) → S' 31 12 = jI c → (∀ u, u < 576 → u % 24 < W → u / 24 < H → S' 38 u = L u) →
      (∀ k, k < c → ∃ lf tp rt bt : Nat, lf < 24 ∧ tp < 24 ∧ rt < 24 ∧ bt < 24 ∧ S' 39 k = jI lf ∧ S' 40 k = jI tp ∧ S' 41 k = jI rt ∧ S' 42 k = jI bt ∧ S' 43 k = jI (kd_ (fun u => ¬ T 34 u = 0) lf tp (rt + 1) (bt + 1) : Nat) ∧ g_BX L k 576 lf tp rt bt) → post S') : P_M_takeParts T post := by
  unfold P_M_takeParts
  refine m_group (mk := 35) (kd := 1) (Or.inr (Or.inl ⟨rfl, rfl, rfl⟩)) hW0 hW hH e1 e2 b35 (fun S1 l fr1 hL hmin S8 e8 => ?_)
  have x31 : S8 31 = upd (S1 31) 12 0 := by rw [e8, su_eq]
  have xo : ∀ a, a ≠ 31 → S8 a = S1 a := fun a ha => by rw [e8, su_ne ha]
  have d1 : S8 31 1 = jI W := by rw [x31, up_ne (by omega), fr1 31 (by omega)]; exact e1
  have d2 : S8 31 2 = jI H := by rw [x31, up_ne (by omega), fr1 31 (by omega)]; exact e2
  have hpg : ∀ u, g_M (T 35) 1 W H u → u < 576 ∧ u % 24 < W ∧ u / 24 < H := fun u hu => ⟨hu.1, hu.2.1, hu.2.2.1⟩
  have hc := hG.1
  have hP0 : r_P L r c W H (24 * 0) S8 S8 := ⟨fun _ _ _ _ _ _ _ => rfl, fun _ _ => rfl, fun u hu => absurd hu (by omega), 0, by omega, by rw [x31, up_eq]; rfl, fun k hk => ⟨fun z => absurd z (by omega), fun z => absurd z (by omega)⟩, fun k hk => absurd hk (by omega)⟩
  have hL8 : r_L (S8 37) (g_M (T 35) 1 W H) (¬ (0 : Int32) = 0) W H l := by rw [xo 37 (by omega)]; exact hL
  refine lq1 (A := Nat) (fun k y S => L_M_takeParts_13 post _ k (jI y) S) (fun y S => y ≤ H ∧ r_P L r c W H (24 * y) S8 S) (fun y _ => H - y) ?_ 0 S8 ⟨by omega, hP0⟩
  rintro k y S ⟨hy, hP⟩ ih
  rw [L_M_takeParts_13, hP.2.1 2 (by omega), d2, jn_le (by omega) (by omega)]
  refine ⟨fun hz => ?_, fun hz => ?_⟩
  · have hP5 : r_P L r c W H 576 S8 S := r_P_up hP hG hpg (by omega) (fun u a1 a2 a3 a4 => by omega)
    obtain ⟨h1, h2, h3, n, h4, h5, h6, h7⟩ := hP5
    have hn : n = c := by
      rcases Nat.lt_or_ge n c with z | z
      · have := (h6 n z).mp (hG.2.1 n z).1.1
        omega
      · omega
    subst hn
    have f34 : S 34 = T 34 := by rw [h1 34 (by omega) (by omega) (by omega) (by omega) (by omega) (by omega), xo 34 (by omega), fr1 34 (by omega)]
    refine lq1 (A := Nat) (fun k j S => L_M_takeParts_229 post k (jI j) S) (fun j S' => j ≤ n ∧ (∀ a, a ≠ 43 → S' a = S a) ∧ ∀ k, k < j → ∀ lf tp rt bt, g_BX L k 576 lf tp rt bt → S' 43 k = jI (kd_ (fun u => ¬ T 34 u = 0) lf tp (rt + 1) (bt + 1) : Nat)) (fun j _ => n - j) ?_ 0 S ⟨by omega, fun _ _ => rfl, fun k hk => absurd hk (by omega)⟩
    rintro k2 j S' ⟨hj, fr, hk43⟩ ih2
    rw [L_M_takeParts_229, fr 31 (by omega), h5, jn_le (by omega) (by omega)]
    refine ⟨fun hz2 => ?_, fun hz2 => ?_⟩
    · have ej : j = n := by omega
      subst ej
      refine h S' (fun a ha => ?_) (fun i hi => ?_) (by rw [fr 31 (by omega)]; exact h5) (fun u a1 a2 a3 => by rw [fr 38 (by omega)]; exact h3 u a1 a1 a2 a3) (fun k hk => ?_)
      · rw [fr a (by omega), h1 a (by omega) (by omega) (by omega) (by omega) (by omega) (by omega), xo a (by omega), fr1 a (by omega)]
      · rw [fr 31 (by omega), h2 i hi, x31, up_ne hi, fr1 31 (by omega)]
      · obtain ⟨lf, tp, rt, bt, b1, b2, b3, b4, b5, b6, b7, b8, b9⟩ := h7 k hk
        exact ⟨lf, tp, rt, bt, b1, b2, b3, b4, by rw [fr 39 (by omega)]; exact b5, by rw [fr 40 (by omega)]; exact b6, by rw [fr 41 (by omega)]; exact b7, by rw [fr 42 (by omega)]; exact b8, hk43 k hk lf tp rt bt b9, b9⟩
    · obtain ⟨lf, tp, rt, bt, b1, b2, b3, b4, b5, b6, b7, b8, b9⟩ := h7 j (by omega)
      rw [jn_in (by omega), jn_ix (by omega), fr 39 (by omega), fr 40 (by omega), fr 41 (by omega), fr 42 (by omega), b5, b6, b7, b8]
      have er : jI (rt : Int) = jI (((rt + 1 : Nat) : Int) - 1) := by congr 1; omega
      have eb : jI (bt : Int) = jI (((bt + 1 : Nat) : Int) - 1) := by congr 1; omega
      obtain ⟨w0, ⟨u1, p1, w1, z1, y1⟩, -⟩ := id b9
      have hb := w0 u1 p1 w1 z1
      refine ⟨by omega, by omega, by omega, by omega, ?_⟩
      rw [er, eb]
      refine m_MkindOf (by omega) (by omega) (by omega) (by omega) ⟨by omega, fun S270 e270 x271 e271 => ?_⟩
      rw [e271, jn1]
      refine ih2 (j + 1) S270 ⟨by omega, fun a ha => by rw [e270, su_ne ha]; exact fr a ha, fun k hk lf' tp' rt' bt' hb' => ?_⟩ (by omega)
      rw [e270, su_eq]
      by_cases hkj : k = j
      · subst hkj
        rw [up_eq, fr 34 (by omega), f34]
        obtain ⟨e1', e2', e3', e4'⟩ := g_BX_u b9 hb'
        rw [e1', e2', e3', e4']
      · rw [up_ne hkj]
        exact hk43 k (by omega) lf' tp' rt' bt' hb'
  · refine m_tP23 hW hH d1 d2 (by omega) hG hpg hL8 hmin S hP (fun S' hP' x221 e221 => ?_)
    rw [e221, jn1]
    exact ih (y + 1) S' ⟨by omega, hP'⟩ (by omega)
end YV
