section ZB
variable {F0 : Nat → Prop} {W H : Nat}
/-- one rectangle is taken, or none -/
theorem m_takeCover {T : zS} {post : Int32 → zS → Prop} {k : Nat} (hW : W ≤ 24) (hH : H ≤ 24) (e1 : T 31 1 = jI W) (e2 : T 31 2 = jI H) (hk : k < 6) (e19 : T 31 19 = jI k) (b36 : ∀ u, z_bo (T 36 u))
    (hF : ∀ u, u < 576 → u % 24 < W → u / 24 < H → (fk_ F0 W H k u ↔ T 35 u = 0 ∧ T 36 u = 0))
    (h0 : (∀ q, va_ W H q → ar_ (fk_ F0 W H k) W q ≤ 3) → post 0 T)
    (h1 : ∀ S', (∀ a, a ≠ 31 → a ≠ 36 → a ≠ 45 → S' a = T a) → (∀ j, j ≠ 19 → S' 31 j = T 31 j) → S' 31 19 = jI (k + 1 : Nat) → (∀ u, z_bo (S' 36 u)) → (∀ u, u < 576 → u % 24 < W → u / 24 < H → (fk_ F0 W H (k + 1) u ↔ S' 35 u = 0 ∧ S' 36 u = 0)) →
      (∀ i, i < 4 * k → S' 45 i = T 45 i) → S' 45 (4 * k) = jI (bx_ (fk_ F0 W H k) W H : Nat) → S' 45 (4 * k + 1) = jI (by_ (fk_ F0 W H k) W H : Nat) → S' 45 (4 * k + 2) = jI (bw_ (fk_ F0 W H k) W H : Nat) → S' 45 (4 * k + 3) = jI (bh_ (fk_ F0 W H k) W H : Nat) → ¬ (∀ q, va_ W H q → ar_ (fk_ F0 W H k) W q ≤ 3) → post 1 S') : P_M_takeCover T post := by
  unfold P_M_takeCover
  refine m_tC6 (F := fk_ F0 W H k) hW hH e1 e2 hF (fun g fd hC => ?_)
  obtain ⟨q, c1, c2, c3⟩ := hC
  rcases id c1 with ⟨a1, a2⟩ | ⟨a1, a2, a3, a4, a5, a6⟩
  · refine ⟨fun z => absurd (c2 a1) z, fun _ => h0 (fun q' hq' => a2 q' hq' (va_lt hH hq'))⟩
  · obtain ⟨hfx, har⟩ := fm_fin hH c1 a1
    have eq := bq_u hfx
    obtain ⟨v1, v2, v3⟩ := id a2
    have hal := aw_le (fk_ F0 W H k) W (q / 32 % 24) (q / 32 / 24) (q % 32)
    have hal2 : aw_ (fk_ F0 W H k) W (q / 32 % 24) (q / 32 / 24) (q % 32) ≤ 24 := by omega
    have hq3 : q % 32 < 32 := Nat.mod_lt q (by omega)
    have efd := c3 a1
    have h1' := h1
    unfold bw_ bx_ by_ bh_ at h1'
    rw [eq] at h1'
    have hfk : ∀ u, fk_ F0 W H (k + 1) u ↔ fk_ F0 W H k u ∧ ¬ inR (q / 32 % 24) (q / 32 / 24) (q / 32 % 24 + aw_ (fk_ F0 W H k) W (q / 32 % 24) (q / 32 / 24) (q % 32)) (q / 32 / 24 + q % 32) u := fun u => by
      rw [fk_]
      unfold bw_ bx_ by_ bh_ fx_
      rw [eq]
    have hen : en_ (fk_ F0 W H k) W q = (q / 32 * 32 + aw_ (fk_ F0 W H k) W (q / 32 % 24) (q / 32 / 24) (q % 32)) * 32 + q % 32 := rfl
    generalize hw : aw_ (fk_ F0 W H k) W (q / 32 % 24) (q / 32 / 24) (q % 32) = w at *
    generalize hen2 : en_ (fk_ F0 W H k) W q = e at *
    have eb : e ≤ 1000000 := by omega
    have ed0 : e / 1024 = q / 32 := by rw [hen]; omega
    have ed1 : e / 1024 % 24 = q / 32 % 24 := by rw [ed0]
    have ed2 : e / 1024 / 24 = q / 32 / 24 := by rw [ed0]
    have ed3 : e / 32 % 32 = w := by omega
    have ed4 : e % 32 = q % 32 := by omega
    generalize hx0 : q / 32 % 24 = x0 at *
    generalize hy0 : q / 32 / 24 = y0 at *
    generalize hh0 : q % 32 = hh at *
    rw [efd]
    refine ⟨fun _ x188 e188 x197 e197 x205 e205 => ?_, fun z => absurd z (jn_m1 eb)⟩
    rw [jk1024, jdn eb (by omega), jk24, jdm (by omega) (by omega), ed1] at e188
    rw [jk1024, jdn eb (by omega), jk24, jdn (by omega) (by omega), ed2] at e197
    rw [e19, jk4, jmn] at e205
    subst e188 e197 e205
    rw [jk32, jdn eb (by omega), jdm (by omega) (by omega), ed3]
    have e4' : jI (e : Int) - jI ((e / 32 : Nat) : Int) * jI ((32 : Nat) : Int) = jI (hh : Int) := by
      have := jdm (a := e) (b := 32) eb (by omega)
      rw [jdn eb (by omega), ed4] at this
      exact this
    rw [e4', jk1, jk2, jk3, jan, jan, jan, jn_in (by omega), jn_in (by omega), jn_in (by omega), jn_in (by omega), jn_ix (by omega), jn_ix (by omega), jn_ix (by omega), jn_ix (by omega)]
    refine ⟨by omega, fun S214 e214 => ⟨by omega, fun S225 e225 => ⟨by omega, fun S241 e241 => ⟨by omega, fun S254 e254 => ?_⟩⟩⟩⟩
    have x45 : S254 45 = upd (upd (upd (upd (T 45) (4 * k) (jI x0)) (4 * k + 1) (jI y0)) (4 * k + 2) (jI w)) (4 * k + 3) (jI hh) := by rw [e254, su_eq, e241, su_eq, e225, su_eq, e214, su_eq]
    have xo : ∀ a, a ≠ 45 → S254 a = T a := fun a ha => by rw [e254, su_ne ha, e241, su_ne ha, e225, su_ne ha, e214, su_ne ha]
    have y2 : S254 45 (4 * k + 2) = jI w := by rw [x45, up_ne (by omega), up_eq]
    have y3 : S254 45 (4 * k + 3) = jI hh := by rw [x45, up_eq]
    refine lq1 (A := Nat) (fun n y S => L_M_takeCover_259 post _ (jI x0) (jI y0) (jI (4 * k : Nat)) n (jI y) S) (fun y S => y0 ≤ y ∧ y ≤ y0 + hh ∧ (∀ a, a ≠ 36 → S a = S254 a) ∧ (∀ u, z_bo (S 36 u)) ∧ ∀ u, u < 576 → (S 36 u = 0 ↔ T 36 u = 0 ∧ ¬ inR x0 y0 (x0 + w) y u)) (fun y _ => y0 + hh - y) ?_ y0 S254 ⟨by omega, by omega, fun _ _ => rfl, by rw [xo 36 (by omega)]; exact b36, fun u hu => by rw [xo 36 (by omega)]; exact ⟨fun z => ⟨z, fun z2 => by have := z2.2.2.1; have := z2.2.2.2; omega⟩, fun z => z.1⟩⟩
    rintro n y S ⟨hy, hy2, fr, bS, hS⟩ ih
    rw [L_M_takeCover_259, jk3, jan, jn_in (by omega), jn_ix (by omega), fr 45 (by omega), y3, jan, jn_le (by omega) (by omega)]
    refine ⟨by omega, fun hz S328 e328 => ?_, fun hz => ?_⟩
    · have eyy : y = y0 + hh := by omega
      subst eyy
      have f31 : S 31 = T 31 := by rw [fr 31 (by omega), xo 31 (by omega)]
      have z45 : S328 45 = S254 45 := by rw [e328, su_ne (by omega), fr 45 (by omega)]
      refine h1' S328 (fun a b1 b2 b3 => by rw [e328, su_ne b1, fr a b2, xo a b3]) (fun j hj => by rw [e328, su_eq, up_ne hj, f31]) (by rw [e328, su_eq, up_eq, f31, e19]; exact jan k 1) (by rw [e328, su_ne (by omega)]; exact bS) (fun u d1 d2 d3 => ?_) (fun i hi => ?_) ?_ ?_ ?_ ?_ (fun z => ?_)
      · rw [e328, su_ne (by omega), su_ne (by omega), fr 35 (by omega), xo 35 (by omega), hS u d1, hfk u, hF u d1 d2 d3]
        exact ⟨fun z => ⟨z.1.1, z.1.2, z.2⟩, fun z => ⟨⟨z.1, z.2.1⟩, z.2.2⟩⟩
      · rw [z45, x45, up_ne (by omega), up_ne (by omega), up_ne (by omega), up_ne (by omega)]
      · rw [z45, x45, up_ne (by omega), up_ne (by omega), up_ne (by omega), up_eq]
      · rw [z45, x45, up_ne (by omega), up_ne (by omega), up_eq]
      · rw [z45]; exact y2
      · rw [z45]; exact y3
      · have := z q a2
        omega
    · refine lq1 (A := Nat) (fun n x S' => L_M_takeCover_279 post _ (jI x0) (jI y0) (jI (4 * k : Nat)) (jI y) n (jI x) S') (fun x S' => x0 ≤ x ∧ x ≤ x0 + w ∧ (∀ a, a ≠ 36 → S' a = S254 a) ∧ (∀ u, z_bo (S' 36 u)) ∧ ∀ u, u < 576 → (S' 36 u = 0 ↔ S 36 u = 0 ∧ ¬ inR x0 y x (y + 1) u)) (fun x _ => x0 + w - x) ?_ x0 S ⟨by omega, by omega, fr, bS, fun u hu => ⟨fun z => ⟨z, fun z2 => by have := z2.1; have := z2.2.1; omega⟩, fun z => z.1⟩⟩
      rintro n2 x S' ⟨hx, hx2, fr', bS', hS'⟩ ih2
      rw [L_M_takeCover_279, jk2, jan, jn_in (by omega), jn_ix (by omega), fr' 45 (by omega), y2, jan, jn_le (by omega) (by omega)]
      refine ⟨by omega, fun hz2 x315 e315 => ?_, fun hz2 => ?_⟩
      · have exx : x = x0 + w := by omega
        subst exx
        rw [e315, jn1]
        refine ih (y + 1) S' ⟨by omega, by omega, fr', bS', fun u hu => ?_⟩ (by omega)
        rw [hS' u hu, hS u hu]
        unfold inR
        constructor
        · rintro ⟨⟨z1, z2⟩, z3⟩
          exact ⟨z1, fun z4 => by omega⟩
        · rintro ⟨z1, z2⟩
          exact ⟨⟨z1, fun z3 => by omega⟩, fun z3 => by omega⟩
      · rw [jat', jn_in (by omega), jn_ix (by omega)]
        refine ⟨by omega, fun S308 e308 x309 e309 => ?_⟩
        rw [e309, jn1 x]
        refine ih2 (x + 1) S308 ⟨by omega, by omega, fun a ha => by rw [e308, su_ne ha]; exact fr' a ha, by rw [e308, su_eq]; exact bo_up bS' (Or.inr rfl), fun u hu => ?_⟩ (by omega)
        rw [e308, su_eq]
        by_cases hux : u = 24 * y + x
        · subst hux
          rw [up_eq]
          refine ⟨fun z => absurd z (by decide), fun z => absurd ?_ z.2⟩
          unfold inR; omega
        · rw [up_ne hux, hS' u hu]
          unfold inR
          constructor
          · rintro ⟨z1, z2⟩
            exact ⟨z1, fun z4 => by omega⟩
          · rintro ⟨z1, z2⟩
            exact ⟨z1, fun z4 => by omega⟩
theorem m_takeCovers {T : zS} {post : zS → Prop} {n : Nat} (hW : W ≤ 24) (hH : H ≤ 24) (e1 : T 31 1 = jI W) (e2 : T 31 2 = jI H) (b36 : ∀ u, z_bo (T 36 u)) (hF : ∀ u, u < 576 → u % 24 < W → u / 24 < H → (F0 u ↔ T 35 u = 0)) (hn : cvn F0 W H n)
    (h : ∀ S', (∀ a, a ≠ 31 → a ≠ 36 → a ≠ 45 → S' a = T a) → (∀ j, j ≠ 19 → S' 31 j = T 31 j) → S' 31 19 = jI (n : Nat) → (∀ u, z_bo (S' 36 u)) →
      (∀ k, k < n → S' 45 (4 * k) = jI (bx_ (fk_ F0 W H k) W H : Nat) ∧ S' 45 (4 * k + 1) = jI (by_ (fk_ F0 W H k) W H : Nat) ∧ S' 45 (4 * k + 2) = jI (bw_ (fk_ F0 W H k) W H : Nat) ∧ S' 45 (4 * k + 3) = jI (bh_ (fk_ F0 W H k) W H : Nat)) → post S') : P_M_takeCovers T post := by
  unfold P_M_takeCovers
  refine lq1 (A := Nat) (fun k i S => L_M_takeCovers_2 post _ k (jI i) S) (fun i S => i ≤ 576 ∧ (∀ a, a ≠ 36 → S a = T a) ∧ (∀ u, z_bo (S 36 u)) ∧ ∀ u, u < i → S 36 u = 0) (fun i _ => 576 - i) ?_ 0 T ⟨by omega, fun _ _ => rfl, b36, fun u hu => absurd hu (by omega)⟩
  rintro k i S ⟨hi, fr, bS, hS⟩ ih
  rw [L_M_takeCovers_2, jI_576, jI_le (jS (by omega)) (jN i (by omega))]
  refine ⟨fun hz S24 e24 => ?_, fun hz => ?_⟩
  · have xo : ∀ a, a ≠ 31 → S24 a = S a := fun a ha => by rw [e24, su_ne ha]
    obtain ⟨n1, n2, n3⟩ := hn
    refine lq1 (A := Int32) (fun f v S => L_M_takeCovers_29 post f v S) (fun v S' => ∃ c, c ≤ n ∧ (v = 0 → c = n) ∧ (v = 0 ∨ v = 1) ∧ (∀ a, a ≠ 31 → a ≠ 36 → a ≠ 45 → S' a = T a) ∧ (∀ j, j ≠ 19 → S' 31 j = T 31 j) ∧ S' 31 19 = jI (c : Nat) ∧ (∀ u, z_bo (S' 36 u)) ∧ (∀ u, u < 576 → u % 24 < W → u / 24 < H → (fk_ F0 W H c u ↔ S' 35 u = 0 ∧ S' 36 u = 0)) ∧
      (∀ k, k < c → S' 45 (4 * k) = jI (bx_ (fk_ F0 W H k) W H : Nat) ∧ S' 45 (4 * k + 1) = jI (by_ (fk_ F0 W H k) W H : Nat) ∧ S' 45 (4 * k + 2) = jI (bw_ (fk_ F0 W H k) W H : Nat) ∧ S' 45 (4 * k + 3) = jI (bh_ (fk_ F0 W H k) W H : Nat))) (fun v S' => (if v = 0 then 0 else 1) + 2 * (6 - (S' 31 19).toInt.toNat)) ?_ 1 S24 ⟨0, by omega, fun z => absurd z (by decide), Or.inr rfl, fun a a1 a2 a3 => by rw [xo a a1, fr a a2], fun j hj => by rw [e24, su_eq, up_ne hj, fr 31 (by omega)], by rw [e24, su_eq, up_eq]; rfl, by rw [xo 36 (by omega)]; exact bS, fun u d1 d2 d3 => ?_, fun k hk => absurd hk (by omega)⟩
    · rintro f v S' ⟨c, c1, c2, c3, c4, c5, c6, c7, c8, c9⟩ ih2
      rw [L_M_takeCovers_29]
      refine ⟨fun z => ?_, fun z => ?_⟩
      · have ec := c2 z
        subst ec
        exact h S' c4 c5 c6 c7 c9
      · rw [c6, jk6, jn_le (by omega) (by omega)]
        have tn : (jI (c : Int)).toInt.toNat = c := by rw [jI_toInt (jN c (by omega))]; omega
        refine ⟨fun z2 => ?_, fun z2 => ?_⟩
        · have ec : c = n := by omega
          subst ec
          exact h S' c4 c5 c6 c7 c9
        · refine m_takeCover hW hH (by rw [c5 1 (by omega)]; exact e1) (by rw [c5 2 (by omega)]; exact e2) (by omega) c6 c7 c8 (fun hno => ?_) (fun S'' d1 d2 d3 d4 d5 d6 d7 d8 d9 d10 hyes => ?_)
          · have ec : c = n := by
              rcases Nat.lt_or_ge c n with w | w
              · have h4 := (n2 c w).2
                have := hno _ (n2 c w).1.1
                omega
              · omega
            refine ih2 0 S' ⟨c, c1, fun _ => ec, Or.inl rfl, c4, c5, c6, c7, c8, c9⟩ ?_
            rw [c6, tn]
            simp [z]
          · have ec : c < n := by
              rcases Nat.lt_or_ge c n with w | w
              · exact w
              · have : c = n := by omega
                subst this
                rcases n3 with w | w
                · omega
                · exact absurd w hyes
            refine ih2 1 S'' ⟨c + 1, by omega, fun w => absurd w (by decide), Or.inr rfl, fun a a1 a2 a3 => by rw [d1 a a1 a2 a3]; exact c4 a a1 a2 a3, fun j hj => by rw [d2 j hj]; exact c5 j hj, d3, d4, d5, fun k hk => ?_⟩ ?_
            · by_cases hkc : k = c
              · subst hkc; exact ⟨d7, d8, d9, d10⟩
              · rw [d6 _ (by omega), d6 _ (by omega), d6 _ (by omega), d6 _ (by omega)]
                exact c9 k (by omega)
            · have tn' : (jI ((c + 1 : Nat) : Int)).toInt.toNat = c + 1 := by rw [jI_toInt (jN (c + 1) (by omega))]; omega
              rw [c6, d3, tn, tn']
              simp [z]
              omega
    · rw [fk_, hF u d1 d2 d3, xo 35 (by omega), xo 36 (by omega), fr 35 (by omega), hS u (by omega)]
      exact ⟨fun z => ⟨z, rfl⟩, fun z => z.1⟩
  · rw [jn_in (by omega), jn_ix (by omega)]
    refine ⟨by omega, fun S15 e15 x16 e16 => ?_⟩
    rw [e16, jn1]
    refine ih (i + 1) S15 ⟨by omega, fun a ha => by rw [e15, su_ne ha]; exact fr a ha, by rw [e15, su_eq]; exact bo_up bS (Or.inl rfl), fun u hu => ?_⟩ (by omega)
    rw [e15, su_eq]
    by_cases hui : u = i
    · rw [hui, up_eq]
    · rw [up_ne hui]; exact hS u (by omega)
end ZB
