section ZA
theorem jk32 : (32 : Int32) = jI ((32 : Nat) : Int) := rfl
theorem jk24 : (24 : Int32) = jI ((24 : Nat) : Int) := rfl
theorem jk1024 : (1024 : Int32) = jI ((1024 : Nat) : Int) := rfl
theorem jdn {a b : Nat} (ha : a ≤ 1000000) (hb : 0 < b ∧ b ≤ 1000000) : jI (a : Int) / jI (b : Int) = jI ((a / b : Nat) : Int) := by rw [jI_div (by omega) (by omega)]; rfl
theorem jdm {a b : Nat} (ha : a ≤ 1000000) (hb : 0 < b ∧ b ≤ 1000000) : jI (a : Int) - jI (a : Int) / jI (b : Int) * jI (b : Int) = jI ((a % b : Nat) : Int) := by
  rw [jdn ha hb, jmn, jI_sub]
  congr 1
  have h1 := Nat.div_add_mod a b
  rw [Nat.mul_comm] at h1
  omega
variable {F : Nat → Prop} {W H : Nat}
/-- the reference's number of a rectangle -/
noncomputable def en_ (F : Nat → Prop) (W q : Nat) : Nat := (q / 32 * 32 + aw_ F W (q / 32 % 24) (q / 32 / 24) (q % 32)) * 32 + q % 32
def r_C (F : Nat → Prop) (W H p g : Nat) (fd : Int32) : Prop := ∃ q, fm_ F W H 3 p g q ∧ (g = 3 → fd = -1) ∧ (3 < g → fd = jI (en_ F W q : Nat))
theorem r_C_up {p p' g : Nat} {fd : Int32} (h : r_C F W H p g fd) (hp : p ≤ p') (hn : ∀ q', p ≤ q' → q' < p' → va_ W H q' → ar_ F W q' ≤ g) : r_C F W H p' g fd := by
  obtain ⟨q, h1, h2, h3⟩ := h
  exact ⟨q, fm_up h1 hp hn, h2, h3⟩
theorem r_C_g {p g : Nat} {fd : Int32} (hW : W ≤ 24) (hH : H ≤ 24) (h : r_C F W H p g fd) : 3 ≤ g ∧ g ≤ 576 := by
  obtain ⟨q, h1, h2, h3⟩ := h
  rcases h1 with ⟨a1, a2⟩ | ⟨a1, a2, a3, a4, a5, a6⟩
  · omega
  · have := ar_le (F := F) hW hH a2
    omega
theorem m_tC38 {S : zS} {post : Int32 → zS → Prop} {K161 : Int32 → Int32 → zS → Prop} {x y g0 : Nat} {fd0 : Int32} (hW : W ≤ 24) (hH : H ≤ 24) (e1 : S 31 1 = jI W) (e2 : S 31 2 = jI H) (hx : x < W) (hy : y < H)
    (hF : ∀ u, u < 576 → u % 24 < W → u / 24 < H → (F u ↔ S 35 u = 0 ∧ S 36 u = 0)) (h0 : r_C F W H (32 * (24 * y + x)) g0 fd0) (hK : ∀ g fd, r_C F W H (32 * (24 * y + x + 1)) g fd → K161 (jI (g : Nat)) fd S) : ∃ n, L_M_takeCover_38 post K161 (jI y) (jI x) n (jI g0) fd0 (jI (W - x : Nat)) 1 S := by
  have hu : ∀ d, d < 32 → (32 * (24 * y + x) + d) / 32 = 24 * y + x ∧ (32 * (24 * y + x) + d) % 32 = d := fun d hd => by omega
  have hm : (24 * y + x) % 24 = x := by omega
  have hd : (24 * y + x) / 24 = y := by omega
  refine lq4 (A := Nat) (B := Int32) (C := Nat) (D := Nat) (fun n g fd wd hh S' => L_M_takeCover_38 post K161 (jI y) (jI x) n (jI g) fd (jI wd) (jI hh) S')
    (fun g fd wd hh S' => S' = S ∧ 1 ≤ hh ∧ hh ≤ H - y + 1 ∧ wd = aw_ F W x y (hh - 1) ∧ r_C F W H (32 * (24 * y + x) + hh) g fd) (fun _ _ _ hh _ => H - y + 1 - hh) ?_ g0 fd0 (W - x) 1 S ⟨rfl, by omega, by omega, rfl, r_C_up h0 (by omega) (fun q' a1 a2 a3 => by have := a3.1; omega)⟩
  rintro n g fd wd hh S' ⟨rfl, d1, d2, hwd, hC⟩ ih
  obtain ⟨g3, g576⟩ := r_C_g hW hH hC
  have hwle := aw_le F W x y (hh - 1)
  rw [L_M_takeCover_38, e2, jan, jn_lt (by omega) (by omega)]
  refine ⟨fun hz => hK g fd (r_C_up hC (by omega) (fun q' a1 a2 a3 => ?_)), fun hz => ?_⟩
  · obtain ⟨v1, v2, v3⟩ := a3
    omega
  · have jw0 : jI (wd : Int) ≤ 0 ↔ wd = 0 := by rw [jn0, jn_le (by omega) (by omega)]; omega
    rw [jw0]
    refine ⟨fun hz2 => hK g fd (r_C_up hC (by omega) (fun q' a1 a2 a3 => ?_)), fun hz2 => ?_⟩
    · have v3 := a3.2.2
      have eq1 : q' / 32 = 24 * y + x := by omega
      have hle : aw_ F W x y (q' % 32) ≤ aw_ F W x y (hh - 1) := aw_dn F W x y (by omega)
      have ez : aw_ F W x y (q' % 32) = 0 := by omega
      unfold ar_
      rw [eq1, hm, hd, ez, Nat.zero_mul]
      omega
    · have hale := aw_le F W x y hh
      have p2 : aw_ F W x y hh * hh ≤ 576 := Nat.mul_le_mul (show aw_ F W x y hh ≤ 24 by omega) (show hh ≤ 24 by omega)
      have har : ar_ F W (32 * (24 * y + x) + hh) = aw_ F W x y hh * hh := by
        unfold ar_
        rw [(hu hh (by omega)).1, (hu hh (by omega)).2, hm, hd]
      have hva : va_ W H (32 * (24 * y + x) + hh) := by
        unfold va_
        rw [(hu hh (by omega)).1, (hu hh (by omega)).2, hm, hd]
        omega
      have e1' : hh + 1 - 1 = hh := by omega
      have haw : aw_ F W x y hh = if rl_ F W (y + (hh - 1)) x < wd then rl_ F W (y + (hh - 1)) x else wd := by
        have ed : hh = hh - 1 + 1 := by omega
        conv => lhs; rw [ed]
        rw [aw_, ← hwd]
      obtain ⟨rl1, rl2, rl3⟩ := rlA_s F (W - x) (24 * (y + (hh - 1)) + x)
      have after : ∀ w : Nat, w = aw_ F W x y hh → J_M_takeCover_116 post (L_M_takeCover_38 post K161 (jI y) (jI x) n) (jI g) fd (jI y) (jI x) (jI hh) (jI w) S' := fun w hw => by
        unfold J_M_takeCover_116
        rw [hw, jmn, jn_le (by omega) (by omega)]
        refine ⟨fun a x155 e155 => ?_, fun a x134 e134 x154 e154 x155 e155 => ?_⟩
        · rw [e155, jn1 hh]
          refine ih g fd _ (hh + 1) S' ⟨rfl, by omega, by omega, by rw [e1'], r_C_up hC (by omega) (fun q' a1 a2 a3 => ?_)⟩ (by omega)
          have : q' = 32 * (24 * y + x) + hh := by omega
          rw [this, har]; omega
        · rw [e155, jn1 hh, e134]
          refine ih (aw_ F W x y hh * hh) x154 _ (hh + 1) S' ⟨rfl, by omega, by omega, by rw [e1'], 32 * (24 * y + x) + hh, ?_, fun z => absurd z (by omega), fun _ => ?_⟩ (by omega)
          · obtain ⟨q, c1, c2, c3⟩ := hC
            rw [← har]
            have hnew := fm_new (p := 32 * (24 * y + x) + hh) c1 hva (by rw [har]; omega)
            exact hnew
          · rw [e154, jat', jk32, jmn, jan, jmn, jan]
            unfold en_
            rw [(hu hh (by omega)).1, (hu hh (by omega)).2, hm, hd]
      refine lq1 (A := Nat) (fun n w S'' => L_M_takeCover_57 post _ (jI g) fd (jI y) (jI x) (jI wd) (jI hh) n (jI w) S'') (fun w S'' => S'' = S' ∧ w ≤ wd ∧ ∀ t, t < w → F (24 * (y + (hh - 1)) + x + t)) (fun w _ => wd - w) ?_ 0 S' ⟨rfl, by omega, fun t ht => absurd ht (by omega)⟩
      rintro n2 w S'' ⟨rfl, hw, hwF⟩ ih2
      have hwr : w ≤ rl_ F W (y + (hh - 1)) x := by
        unfold rl_
        rcases Nat.lt_or_ge (rlA F (W - x) (24 * (y + (hh - 1)) + x)) w with z | z
        · rcases rl3 with z2 | z2
          · omega
          · exact absurd (hwF _ z) z2
        · exact z
      rw [L_M_takeCover_57, jn_le (by omega) (by omega)]
      refine ⟨fun a => after w ?_, fun a => ?_⟩
      · rw [haw]
        have : w = wd := by omega
        split <;> omega
      · have ei : 24 * (jI (y : Int) + jI (hh : Int) - 1) + jI (x : Int) + jI (w : Int) = jI ((24 * (y + (hh - 1)) + x + w : Nat) : Int) := by
          rw [jan, jk1, jsn (by omega), jat', jan]; congr 2; omega
        rw [ei, jn_in (by omega), jn_ix (by omega)]
        have hFw := hF (24 * (y + (hh - 1)) + x + w) (by omega) (by omega) (by omega)
        have stop : ¬ F (24 * (y + (hh - 1)) + x + w) → J_M_takeCover_116 post (L_M_takeCover_38 post K161 (jI y) (jI x) n) (jI g) fd (jI y) (jI x) (jI hh) (jI w) S'' := fun hn => after w (by
          have : w = rl_ F W (y + (hh - 1)) x := by
            unfold rl_ at hwr ⊢
            rcases Nat.lt_or_ge w (rlA F (W - x) (24 * (y + (hh - 1)) + x)) with z | z
            · exact absurd (rl2 w z) hn
            · omega
          rw [haw, if_pos (by omega)]; exact this)
        refine ⟨by omega, fun b => stop (fun z => b (hFw.mp z).1), fun b => ⟨by omega, fun d => stop (fun z => d (hFw.mp z).2), fun d x110 e110 => ?_⟩⟩
        rw [e110, jn1 w]
        refine ih2 (w + 1) S'' ⟨rfl, by omega, fun t ht => ?_⟩ (by omega)
        by_cases htw : t = w
        · subst htw; exact hFw.mpr ⟨b, d⟩
        · exact hwF t (by omega)
theorem m_tC6 {S : zS} {post : Int32 → zS → Prop} {K173 : Int32 → zS → Prop} (hW : W ≤ 24) (hH : H ≤ 24) (e1 : S 31 1 = jI W) (e2 : S 31 2 = jI H)
    (hF : ∀ u, u < 576 → u % 24 < W → u / 24 < H → (F u ↔ S 35 u = 0 ∧ S 36 u = 0)) (hK : ∀ g fd, r_C F W H 18432 g fd → K173 fd S) : ∃ n, L_M_takeCover_6 post K173 n 3 (-1) 0 S := by
  refine lq3 (A := Nat) (B := Int32) (C := Nat) (fun n g fd y S' => L_M_takeCover_6 post K173 n (jI g) fd (jI y) S') (fun g fd y S' => S' = S ∧ y ≤ H ∧ r_C F W H (32 * (24 * y)) g fd) (fun _ _ y _ => H - y) ?_ 3 (-1) 0 S ⟨rfl, by omega, 0, Or.inl ⟨rfl, fun q' _ a2 => absurd a2 (by omega)⟩, fun _ => rfl, fun z => absurd z (by omega)⟩
  rintro n g fd y S' ⟨rfl, hy, hC⟩ ih
  rw [L_M_takeCover_6, e2, jn_le (by omega) (by omega)]
  refine ⟨fun hz => hK g fd (r_C_up hC (by omega) (fun q' a1 a2 a3 => ?_)), fun hz => ?_⟩
  · have := a3.2.2
    have := a3.1
    omega
  · refine lq3 (A := Nat) (B := Int32) (C := Nat) (fun n g fd x S'' => L_M_takeCover_17 post _ (jI y) n (jI g) fd (jI x) S'') (fun g fd x S'' => S'' = S' ∧ x ≤ W ∧ r_C F W H (32 * (24 * y + x)) g fd) (fun _ _ x _ => W - x) ?_ g fd 0 S' ⟨rfl, by omega, hC⟩
    rintro n2 g2 fd2 x S'' ⟨rfl, hx, hC2⟩ ih2
    rw [L_M_takeCover_17, e1, jn_le (by omega) (by omega)]
    refine ⟨fun hz2 x167 e167 => ?_, fun hz2 x33 e33 => ?_⟩
    · rw [e167, jn1]
      refine ih g2 fd2 (y + 1) S'' ⟨rfl, by omega, r_C_up hC2 (by omega) (fun q' a1 a2 a3 => ?_)⟩ (by omega)
      have := a3.2.1
      omega
    · rw [e33, jsn (by omega)]
      refine m_tC38 hW hH e1 e2 (by omega) (by omega) hF hC2 (fun g3 fd3 hC3 x161 e161 => ?_)
      rw [e161, jn1 x]
      exact ih2 g3 fd3 (x + 1) S'' ⟨rfl, by omega, hC3⟩ (by omega)
end ZA
