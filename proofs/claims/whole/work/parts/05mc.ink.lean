section YQ
variable {W H nz : Nat} {T : zS}
theorem g_adj_r {co : Prop} (u : Nat) : g_adj co u u := ⟨by omega, by omega, by omega, by omega, Or.inr (Or.inl rfl)⟩
/-- specks and clean, as far as p -/
def r_K (B : Nat → Int32) (W H nz p : Nat) (S : zS) : Prop := ∀ u, u < p → u < 576 → u % 24 < W → u / 24 < H → S 33 u = bI (g_M B 1 W H u ∧ ¬ cl_ B W H nz u) ∧ S 34 u = bI (cl_ B W H nz u)
theorem bo_up {f : Nat → Int32} {i : Nat} {v : Int32} (hf : ∀ u, z_bo (f u)) (hv : z_bo v) : ∀ u, z_bo (upd f i v u) := fun u => by
  by_cases hz : u = i
  · subst hz; rw [up_eq]; exact hv
  · rw [up_ne hz]; exact hf u
theorem m_tI19 {post K115 : zS → Prop} {v1 v2 : Int32} {y : Nat} (hW : W ≤ 24) (hH : H ≤ 24) (e1 : T 31 1 = jI W) (e2 : T 31 2 = jI H) (e4 : T 31 4 = jI nz) (hnz : nz ≤ 100) (hy : y < H) (b32 : ∀ u, z_bo (T 32 u))
    (hsz : ∀ u, g_M (T 32) 1 W H u → cP (fun v => (v % 24 < W ∧ v / 24 < H) ∧ T 37 v = T 37 u) 576 = cP (fun v => g_M (T 32) 1 W H v ∧ g_cn (g_M (T 32) 1 W H) (¬ (1 : Int32) = 0) u v) 576)
    (S0 : zS) (fr0 : ∀ a, a ≠ 33 → a ≠ 34 → S0 a = T a) (b33 : ∀ u, z_bo (S0 33 u)) (b34 : ∀ u, z_bo (S0 34 u)) (hK0 : r_K (T 32) W H nz (24 * y) S0)
    (h : ∀ S', (∀ a, a ≠ 33 → a ≠ 34 → S' a = T a) → (∀ u, z_bo (S' 33 u)) → (∀ u, z_bo (S' 34 u)) → r_K (T 32) W H nz (24 * (y + 1)) S' → K115 S') : ∃ k, L_M_takeInk_19 post K115 v1 v2 (jI y) k 0 S0 := by
  refine lq1 (A := Nat) (fun k x S => L_M_takeInk_19 post K115 v1 v2 (jI y) k (jI x) S) (fun x S => x ≤ W ∧ (∀ a, a ≠ 33 → a ≠ 34 → S a = T a) ∧ (∀ u, z_bo (S 33 u)) ∧ (∀ u, z_bo (S 34 u)) ∧ r_K (T 32) W H nz (24 * y + x) S) (fun x _ => W - x) ?_ 0 S0 ⟨by omega, fr0, b33, b34, hK0⟩
  rintro k x S ⟨hx, fr, c33, c34, hK⟩ ih
  have f32 : S 32 = T 32 := fr 32 (by omega) (by omega)
  have f37 : S 37 = T 37 := fr 37 (by omega) (by omega)
  have f31 : S 31 = T 31 := fr 31 (by omega) (by omega)
  rw [L_M_takeInk_19, f31, e1, jn_le (by omega) (by omega)]
  refine ⟨fun hz => h S fr c33 c34 (fun u h1 h2 h3 h4 => hK u (by omega) h2 h3 h4), fun hz x35 e35 => ?_⟩
  rw [jat'] at e35
  subst e35
  rw [jn_in (by omega), jn_ix (by omega), f32]
  have fin : ∀ v : Int32, v = bI (g_M (T 32) 1 W H (24 * y + x) ∧ ¬ cl_ (T 32) W H nz (24 * y + x)) → J_M_takeInk_76 post (L_M_takeInk_19 post K115 v1 v2 (jI y) k) v1 v2 (jI y) (jI x) (jI (24 * y + x : Nat)) v (jI (24 * y + x : Nat)) S := fun v hv => by
    have hbo : z_bo v := by rw [hv]; exact bI_bo _
    have last : ∀ S76 : zS, S76 = z_su S 33 (24 * y + x) v → ∀ w : Int32, w = bI (cl_ (T 32) W H nz (24 * y + x)) → ∀ S108 : zS, S108 = z_su S76 34 (24 * y + x) w → ∀ x109 : Int32, x109 = jI x + 1 → L_M_takeInk_19 post K115 v1 v2 (jI y) k x109 S108 := fun S76 e76 w hw S108 e108 x109 e109 => by
      rw [e109, jn1 x]
      have x33 : S108 33 = upd (S 33) (24 * y + x) v := by rw [e108, su_ne (by omega), e76, su_eq]
      have x34 : S108 34 = upd (S 34) (24 * y + x) w := by rw [e108, su_eq, e76, su_ne (by omega)]
      refine ih (x + 1) S108 ⟨by omega, fun a a1 a2 => by rw [e108, su_ne a2, e76, su_ne a1]; exact fr a a1 a2, by rw [x33]; exact bo_up c33 hbo, by rw [x34]; exact bo_up c34 (by rw [hw]; exact bI_bo _), fun u h1 h2 h3 h4 => ?_⟩ (by omega)
      rw [x33, x34]
      by_cases hu : u = 24 * y + x
      · subst hu; rw [up_eq, up_eq]; exact ⟨hv, hw⟩
      · rw [up_ne hu, up_ne hu]; exact hK u (by omega) h2 h3 h4
    unfold J_M_takeInk_76
    rw [jn_in (by omega), jn_ix (by omega)]
    refine ⟨by omega, hbo, fun S76 e76 => ?_⟩
    have y32 : S76 32 = T 32 := by rw [e76, su_ne (by omega)]; exact f32
    have y33 : S76 33 (24 * y + x) = v := by rw [e76, su_eq, up_eq]
    rw [y32, y33]
    refine ⟨by omega, fun a => ⟨by omega, last S76 e76 0 (bI_0 (fun z => ?_)).symm⟩, fun a => ⟨by omega, fun d => ⟨by omega, last S76 e76 0 (bI_0 (fun z => ?_)).symm⟩, fun d => ⟨by omega, last S76 e76 1 (bI_1 ?_).symm⟩⟩⟩
    · have := z.1.2.2.2
      rw [a] at this
      exact absurd this (by decide)
    · rw [hv, bI_z] at d
      exact d (fun w => w.2 z)
    · rw [hv, bI_z] at d
      refine Classical.not_not.mp (fun w => d ⟨⟨by omega, by omega, by omega, ?_⟩, w⟩)
      rcases b32 (24 * y + x) with z | z
      · exact absurd z a
      · exact z
  refine ⟨by omega, fun a => ?_, fun a => ⟨by omega, ?_⟩⟩
  · unfold J_M_takeInk_75
    refine fin 0 (bI_0 (fun z => ?_)).symm
    have := z.1.2.2.2
    rw [a] at this
    exact absurd this (by decide)
  · have hM : g_M (T 32) 1 W H (24 * y + x) := ⟨by omega, by omega, by omega, by
      rcases b32 (24 * y + x) with z | z
      · exact absurd z a
      · exact z⟩
    refine m_sizeOf hW hH (by rw [f31]; exact e1) (by rw [f31]; exact e2) ?_
    rw [f31, e4, f37, hsz _ hM]
    have hle := cP_le (fun v => g_M (T 32) 1 W H v ∧ g_cn (g_M (T 32) 1 W H) (¬ (1 : Int32) = 0) (24 * y + x) v) 576
    rw [jn_le (by omega) (by omega)]
    refine ⟨fun d => ?_, fun d => ?_⟩
    · unfold J_M_takeInk_75
      exact fin 0 (bI_0 (fun z => z.2 ⟨hM, d⟩)).symm
    · exact fin 1 (bI_1 ⟨hM, fun z => d z.2⟩).symm
theorem m_tI134 {post K207 : zS → Prop} {C : Nat → Prop} {gx gy y : Nat} (hW : W ≤ 24) (hH : H ≤ 24) (e1 : T 31 1 = jI W) (e2 : T 31 2 = jI H) (hgx : gx ≤ 24) (hgy : gy ≤ 24) (hy : y < H) (hC : ∀ u, u < 576 → u % 24 < W → u / 24 < H → T 34 u = bI (C u))
    (S0 : zS) (fr0 : ∀ a, a ≠ 35 → S0 a = T a) (b35 : ∀ u, z_bo (S0 35 u)) (hK0 : ∀ u, u < 24 * y → u < 576 → u % 24 < W → u / 24 < H → S0 35 u = bI (ik_ C W H gx gy u))
    (h : ∀ S', (∀ a, a ≠ 35 → S' a = T a) → (∀ u, z_bo (S' 35 u)) → (∀ u, u < 24 * (y + 1) → u < 576 → u % 24 < W → u / 24 < H → S' 35 u = bI (ik_ C W H gx gy u)) → K207 S') : ∃ k, L_M_takeInk_134 post K207 (jI gx) (jI gy) (jI y) k 0 S0 := by
  refine lq1 (A := Nat) (fun k x S => L_M_takeInk_134 post K207 (jI gx) (jI gy) (jI y) k (jI x) S) (fun x S => x ≤ W ∧ (∀ a, a ≠ 35 → S a = T a) ∧ (∀ u, z_bo (S 35 u)) ∧ (∀ u, u < 24 * y + x → u < 576 → u % 24 < W → u / 24 < H → S 35 u = bI (ik_ C W H gx gy u))) (fun x _ => W - x) ?_ 0 S0 ⟨by omega, fr0, b35, hK0⟩
  rintro k x S ⟨hx, fr, c35, hK⟩ ih
  have f34 : S 34 = T 34 := fr 34 (by omega)
  have f31 : S 31 = T 31 := fr 31 (by omega)
  rw [L_M_takeInk_134, f31, e1, jn_le (by omega) (by omega)]
  refine ⟨fun hz => h S fr c35 (fun u h1 h2 h3 h4 => hK u (by omega) h2 h3 h4), fun hz => ?_⟩
  have hm : (24 * y + x) % 24 = x := by omega
  have hd : (24 * y + x) / 24 = y := by omega
  have fin : ∀ v : Int32, v = bI (ik_ C W H gx gy (24 * y + x)) → ∀ S200 : zS, S200 = z_su S 35 (24 * y + x) v → ∀ x201 : Int32, x201 = jI x + 1 → L_M_takeInk_134 post K207 (jI gx) (jI gy) (jI y) k x201 S200 := fun v hv S200 e200 x201 e201 => by
    rw [e201, jn1 x]
    refine ih (x + 1) S200 ⟨by omega, fun a a1 => by rw [e200, su_ne a1]; exact fr a a1, by rw [e200, su_eq]; exact bo_up c35 (by rw [hv]; exact bI_bo _), fun u h1 h2 h3 h4 => ?_⟩ (by omega)
    rw [e200, su_eq]
    by_cases hu : u = 24 * y + x
    · subst hu; rw [up_eq]; exact hv
    · rw [up_ne hu]; exact hK u (by omega) h2 h3 h4
  have fin1 : ik_ C W H gx gy (24 * y + x) → J_M_takeInk_195 post (L_M_takeInk_134 post K207 (jI gx) (jI gy) (jI y) k) (jI gx) (jI gy) (jI y) (jI x) (jI (24 * y + x : Nat)) S := fun hi => by
    unfold J_M_takeInk_195
    rw [jn_in (by omega), jn_ix (by omega)]
    exact ⟨by omega, fin 1 (bI_1 hi).symm⟩
  rw [jat', jn_in (by omega), jn_ix (by omega), f34, hC (24 * y + x) (by omega) (by omega) (by omega)]
  refine ⟨by omega, fun a => fin1 (Or.inl (Classical.not_not.mp (fun z => a (bI_0 z)))), fun a => ?_⟩
  rw [bI_z] at a
  have e1' : S 31 1 = jI W := by rw [f31]; exact e1
  have e2' : S 31 2 = jI H := by rw [f31]; exact e2
  refine m_inGap (W := W) (H := H) (fx := fun t => t) (fy := fun _ => (y : Int)) (dx := 1) (dy := 0) (c := fun t => C (24 * y + t)) (n := W) (b := x) hW hH e1' e2' hW (by omega) hgx (fun t => rfl) (fun t => by omega) (fun t h1 h2 => by omega) (fun t h1 h2 => by omega) (fun t h1 h2 => by omega) (fun t ht => ?_) a (fun hg => ?_) (fun hg => ?_)
  · have et : (24 * (y : Int) + (t : Int)).toNat = 24 * y + t := by omega
    show S 34 (24 * (y : Int) + (t : Int)).toNat = _
    rw [et, f34]
    exact hC (24 * y + t) (by omega) (by omega) (by omega)
  · refine ⟨fun _ => fin1 (Or.inr (Or.inl ?_)), fun z => absurd z (by decide)⟩
    rw [hm, hd]; exact hg
  · refine ⟨fun z => absurd rfl z, fun _ => ?_⟩
    refine m_inGap (W := W) (H := H) (fx := fun _ => (x : Int)) (fy := fun t => t) (dx := 0) (dy := 1) (c := fun t => C (24 * t + x)) (n := H) (b := y) hW hH e1' e2' hH hy hgy (fun t => by omega) (fun t => rfl) (fun t h1 h2 => by omega) (fun t h1 h2 => by omega) (fun t h1 h2 => by omega) (fun t ht => ?_) a (fun hg2 => ?_) (fun hg2 => ?_)
    · have et : (24 * (t : Int) + (x : Int)).toNat = 24 * t + x := by omega
      show S 34 (24 * (t : Int) + (x : Int)).toNat = _
      rw [et, f34]
      exact hC (24 * t + x) (by omega) (by omega) (by omega)
    · refine ⟨fun z => absurd z (by decide), fun _ => fin1 (Or.inr (Or.inr ?_))⟩
      rw [hm, hd]; exact hg2
    · refine ⟨fun _ => ⟨by omega, fin 0 (bI_0 (fun z => ?_)).symm⟩, fun z => absurd rfl z⟩
      rcases z with z | z | z
      · exact a z
      · rw [hm, hd] at z; exact hg z
      · rw [hm, hd] at z; exact hg2 z
theorem m_takeInk {post : zS → Prop} {gx gy : Nat} (hW0 : 1 ≤ W) (hW : W ≤ 24) (hH : H ≤ 24) (e1 : T 31 1 = jI W) (e2 : T 31 2 = jI H) (e4 : T 31 4 = jI nz) (hnz : nz ≤ 100) (hgx : gx ≤ 24) (hgy : gy ≤ 24) (b32 : ∀ u, z_bo (T 32 u)) (b33 : ∀ u, z_bo (T 33 u)) (b34 : ∀ u, z_bo (T 34 u)) (b35 : ∀ u, z_bo (T 35 u))
    (h : ∀ S', (∀ a, a ≠ 33 → a ≠ 34 → a ≠ 35 → a ≠ 37 → S' a = T a) → (∀ u, z_bo (S' 33 u)) → (∀ u, z_bo (S' 34 u)) → (∀ u, z_bo (S' 35 u)) →
      (∀ u, u < 576 → u % 24 < W → u / 24 < H → S' 33 u = bI (g_M (T 32) 1 W H u ∧ ¬ cl_ (T 32) W H nz u) ∧ S' 34 u = bI (cl_ (T 32) W H nz u) ∧ S' 35 u = bI (ik_ (cl_ (T 32) W H nz) W H gx gy u)) → post S') : P_M_takeInk (jI gx) (jI gy) T post := by
  unfold P_M_takeInk
  refine m_group (mk := 32) (kd := 1) (Or.inl ⟨rfl, rfl, rfl⟩) hW0 hW hH e1 e2 b32 (fun S1 l fr1 hL hmin => ?_)
  have x32 : S1 32 = T 32 := fr1 32 (by omega)
  have hsz : ∀ u, g_M (S1 32) 1 W H u → cP (fun v => (v % 24 < W ∧ v / 24 < H) ∧ S1 37 v = S1 37 u) 576 = cP (fun v => g_M (S1 32) 1 W H v ∧ g_cn (g_M (S1 32) 1 W H) (¬ (1 : Int32) = 0) u v) 576 := fun u hu => by
    rw [x32] at hu ⊢
    refine cP_c (fun v hv => ?_)
    have hlu := hL.2 u hu
    have hu5 := hu.1
    constructor
    · intro ⟨⟨z1, z2⟩, z3⟩
      by_cases hMv : g_M (T 32) 1 W H v
      · have hlv := hL.2 v hMv
        rw [hlu.1, hlv.1] at z3
        have e := (jn_eq (by omega) (by omega)).mp z3
        refine ⟨hMv, g_cn_t hlu.2.2 ?_⟩
        rw [← e]
        exact g_cn_s hlv.2.2
      · rw [hL.1 v hv z1 z2 hMv, hlu.1] at z3
        exact absurd z3.symm (jn_m1 (by omega))
    · intro ⟨z1, z2⟩
      refine ⟨⟨z1.2.1, z1.2.2.1⟩, ?_⟩
      rw [hlu.1, (hL.2 v z1).1, (hmin u v hu z2).1]
  have y31 : S1 31 = T 31 := fr1 31 (by omega)
  have d1 : S1 31 1 = jI W := by rw [y31]; exact e1
  have d2 : S1 31 2 = jI H := by rw [y31]; exact e2
  have d4 : S1 31 4 = jI nz := by rw [y31]; exact e4
  refine lq1 (A := Nat) (fun k y S => L_M_takeInk_8 post _ (jI gx) (jI gy) k (jI y) S) (fun y S => y ≤ H ∧ (∀ a, a ≠ 33 → a ≠ 34 → S a = S1 a) ∧ (∀ u, z_bo (S 33 u)) ∧ (∀ u, z_bo (S 34 u)) ∧ r_K (S1 32) W H nz (24 * y) S) (fun y _ => H - y) ?_ 0 S1 ⟨by omega, fun _ _ _ => rfl, by rw [fr1 33 (by omega)]; exact b33, by rw [fr1 34 (by omega)]; exact b34, fun u hu => absurd hu (by omega)⟩
  rintro k y S ⟨hy, fr, c33, c34, hK⟩ ih
  have f31 : S 31 = S1 31 := fr 31 (by omega) (by omega)
  rw [L_M_takeInk_8, f31, d2, jn_le (by omega) (by omega)]
  refine ⟨fun hz => ?_, fun hz => ?_⟩
  · have hall : ∀ u, u < 576 → u % 24 < W → u / 24 < H → S 33 u = bI (g_M (T 32) 1 W H u ∧ ¬ cl_ (T 32) W H nz u) ∧ S 34 u = bI (cl_ (T 32) W H nz u) := fun u h1 h2 h3 => by
      have := hK u (by omega) h1 h2 h3
      rw [x32] at this
      exact this
    refine lq1 (A := Nat) (fun k y S => L_M_takeInk_123 post (jI gx) (jI gy) k (jI y) S) (fun y S' => y ≤ H ∧ (∀ a, a ≠ 35 → S' a = S a) ∧ (∀ u, z_bo (S' 35 u)) ∧ (∀ u, u < 24 * y → u < 576 → u % 24 < W → u / 24 < H → S' 35 u = bI (ik_ (cl_ (T 32) W H nz) W H gx gy u))) (fun y _ => H - y) ?_ 0 S ⟨by omega, fun _ _ => rfl, by rw [fr 35 (by omega) (by omega), fr1 35 (by omega)]; exact b35, fun u hu => absurd hu (by omega)⟩
    rintro k2 y2 S' ⟨hy2, fr2, c35, hK2⟩ ih2
    rw [L_M_takeInk_123, fr2 31 (by omega), f31, d2, jn_le (by omega) (by omega)]
    refine ⟨fun hz2 => h S' (fun a a1 a2 a3 a4 => by rw [fr2 a a3, fr a a1 a2, fr1 a a4]) (by rw [fr2 33 (by omega)]; exact c33) (by rw [fr2 34 (by omega)]; exact c34) c35 (fun u h1 h2 h3 => ?_), fun hz2 => ?_⟩
    · rw [fr2 33 (by omega), fr2 34 (by omega)]
      exact ⟨(hall u h1 h2 h3).1, (hall u h1 h2 h3).2, hK2 u (by omega) h1 h2 h3⟩
    · refine m_tI134 (T := S) (C := cl_ (T 32) W H nz) hW hH (by rw [f31]; exact d1) (by rw [f31]; exact d2) hgx hgy (by omega) (fun u h1 h2 h3 => (hall u h1 h2 h3).2) S' fr2 c35 hK2 (fun S'' a1 a2 a3 x207 e207 => ?_)
      rw [e207, jn1]
      exact ih2 (y2 + 1) S'' ⟨by omega, a1, a2, a3⟩ (by omega)
  · refine m_tI19 (T := S1) hW hH d1 d2 d4 hnz (by omega) (by rw [x32]; exact b32) hsz S fr c33 c34 hK (fun S' a1 a2 a3 a4 x115 e115 => ?_)
    rw [e115, jn1]
    exact ih (y + 1) S' ⟨by omega, a1, a2, a3, a4⟩ (by omega)
end YQ
