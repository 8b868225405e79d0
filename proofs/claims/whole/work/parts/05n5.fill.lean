section ZU
variable {W H : Nat} {S : zS} {post : Int32 → zS → Prop}
/-- the page, filled as far as p -/
noncomputable def fB (B : Nat → Int32) (x0 y0 x1 y1 : Nat) (v : Int32) (p : Nat) : Nat → Int32 := fun u => @ite Int32 (inR x0 y0 x1 y1 u ∧ u < p) (Classical.propDecidable _) v (B u)
variable {B : Nat → Int32} {x0 y0 x1 y1 : Nat} {v : Int32}
theorem fB_1 {p u : Nat} (h : inR x0 y0 x1 y1 u) (h2 : u < p) : fB B x0 y0 x1 y1 v p u = v := by unfold fB; exact @if_pos _ (Classical.propDecidable _) ⟨h, h2⟩ _ _ _
theorem fB_0 {p u : Nat} (h : ¬ (inR x0 y0 x1 y1 u ∧ u < p)) : fB B x0 y0 x1 y1 v p u = B u := by unfold fB; exact @if_neg _ (Classical.propDecidable _) h _ _ _
theorem fB_c {p q : Nat} (hpq : p ≤ q) (h : ∀ u, p ≤ u → u < q → ¬ inR x0 y0 x1 y1 u) : fB B x0 y0 x1 y1 v q = fB B x0 y0 x1 y1 v p := by
  funext u
  by_cases hu : inR x0 y0 x1 y1 u ∧ u < p
  · rw [fB_1 hu.1 hu.2, fB_1 hu.1 (by omega)]
  · rw [fB_0 hu, fB_0 (fun z => hu ⟨z.1, ?_⟩)]
    rcases Nat.lt_or_ge u p with w | w
    · exact w
    · exact absurd z.1 (h u w z.2)
theorem fB_s {p : Nat} (h : inR x0 y0 x1 y1 p) : upd (fB B x0 y0 x1 y1 v p) p v = fB B x0 y0 x1 y1 v (p + 1) := by
  funext u
  by_cases w : u = p
  · subst w; rw [up_eq, fB_1 h (by omega)]
  · rw [up_ne w]
    by_cases hu : inR x0 y0 x1 y1 u ∧ u < p
    · rw [fB_1 hu.1 hu.2, fB_1 hu.1 (by omega)]
    · rw [fB_0 hu, fB_0 (fun z => hu ⟨z.1, by omega⟩)]
theorem fB_z : fB B x0 y0 x1 y1 v 0 = B := by
  funext u
  exact fB_0 (fun z => by omega)
theorem fB_b {p : Nat} (h : ∀ u, z_bo (B u)) (hv : z_bo v) : ∀ u, z_bo (fB B x0 y0 x1 y1 v p u) := fun u => by
  by_cases hu : inR x0 y0 x1 y1 u ∧ u < p
  · rw [fB_1 hu.1 hu.2]; exact hv
  · rw [fB_0 hu]; exact h u
theorem m_PfillL {T : zS} {v1 : Int32} (hW : W ≤ 24) (hH : H ≤ 24) (hx : x0 < x1) (hy : y0 < y1) (hx1 : x1 ≤ W) (hy1 : y1 ≤ H) (ev : v1 = jI (x0 : Nat)) (hv : z_bo v) (hb : ∀ u, z_bo (T 1 u)) (hc : T 0 10 = jI (cP (g_M (T 1) 1 W H) 576 : Nat))
    (h : ∀ S', (∀ a, a ≠ 0 → a ≠ 1 → S' a = T a) → (∀ j, j ≠ 10 → S' 0 j = T 0 j) → S' 1 = fB (T 1) x0 y0 x1 y1 v 576 → S' 0 10 = jI (cP (g_M (S' 1) 1 W H) 576 : Nat) → post (jI (cP (fun u => inR x0 y0 x1 y1 u ∧ ¬ T 1 u = v) 576 : Nat)) S') : ∃ k, L_P_fill_67 post v1 v (jI (x1 : Nat)) (jI (y1 : Nat)) k 0 (jI (y0 : Nat)) T := by
  subst ev
  generalize hp : (fun u => inR x0 y0 x1 y1 u ∧ ¬ T 1 u = v) = p at h
  have pd : ∀ u, p u ↔ inR x0 y0 x1 y1 u ∧ ¬ T 1 u = v := fun u => by rw [← hp]
  refine lq2 (A := Nat) (B := Nat) (fun k n y S' => L_P_fill_67 post (jI (x0 : Nat)) v (jI (x1 : Nat)) (jI (y1 : Nat)) k (jI (n : Nat)) (jI (y : Nat)) S') (fun n y S' => y0 ≤ y ∧ y ≤ y1 ∧ n = cP p (24 * y) ∧ (∀ a, a ≠ 0 → a ≠ 1 → S' a = T a) ∧ (∀ j, j ≠ 10 → S' 0 j = T 0 j) ∧ S' 1 = fB (T 1) x0 y0 x1 y1 v (24 * y) ∧ S' 0 10 = jI (cP (g_M (S' 1) 1 W H) 576 : Nat)) (fun _ y _ => y1 - y) ?_ 0 y0 T ⟨by omega, by omega, (cP_s (a := 0) (by omega) (fun i h1 h2 h3 => by have := ((pd i).mp h3).1.2.2.1; omega)).symm, fun _ _ _ => rfl, fun _ _ => rfl, ?_, hc⟩
  · rintro k n y S' ⟨hy', hy2, hn, fr, fr0, e1, e10⟩ ih
    rw [L_P_fill_67, jn_le (by omega) (by omega)]
    refine ⟨fun hz => ?_, fun hz => ?_⟩
    · rw [hn, ← cP_s (a := 24 * y) (b := 576) (by omega) (fun i h1 h2 h3 => by have := ((pd i).mp h3).1.2.2.2; omega)]
      refine h S' fr fr0 ?_ e10
      rw [e1]
      exact (fB_c (by omega) (fun u h1 h2 h3 => by have := h3.2.2.2; omega)).symm
    · refine lq2 (A := Nat) (B := Nat) (fun k n x S'' => L_P_fill_77 post _ (jI (x0 : Nat)) v (jI (x1 : Nat)) (jI (y1 : Nat)) (jI (y : Nat)) k (jI (n : Nat)) (jI (x : Nat)) S'') (fun n x S'' => x0 ≤ x ∧ x ≤ x1 ∧ n = cP p (24 * y + x) ∧ (∀ a, a ≠ 0 → a ≠ 1 → S'' a = T a) ∧ (∀ j, j ≠ 10 → S'' 0 j = T 0 j) ∧ S'' 1 = fB (T 1) x0 y0 x1 y1 v (24 * y + x) ∧ S'' 0 10 = jI (cP (g_M (S'' 1) 1 W H) 576 : Nat)) (fun _ x _ => x1 - x) ?_ n x0 S' ⟨by omega, by omega, by rw [hn]; exact (cP_s (by omega) (fun i h1 h2 h3 => by have := ((pd i).mp h3).1.1; omega)).symm, fr, fr0, by rw [e1]; exact (fB_c (by omega) (fun u h1 h2 h3 => by have := h3.1; omega)).symm, e10⟩
      rintro k2 n2 x S'' ⟨hx', hx2, hn2, gr, gr0, g1, g10⟩ ih2
      rw [L_P_fill_77, jn_le (by omega) (by omega)]
      refine ⟨fun hz2 x106 e106 => ?_, fun hz2 => ?_⟩
      · rw [e106, jn1 y]
        refine ih n2 (y + 1) S'' ⟨by omega, by omega, ?_, gr, gr0, ?_, g10⟩ (by omega)
        · rw [hn2]
          exact (cP_s (by omega) (fun i h1 h2 h3 => by have := ((pd i).mp h3).1.2.1; omega)).symm
        · rw [g1]
          exact (fB_c (by omega) (fun u h1 h2 h3 => by have := h3.2.1; omega)).symm
      · have hin : inR x0 y0 x1 y1 (24 * y + x) := ⟨by omega, by omega, by omega, by omega⟩
        refine m_paint hW hH (by omega) (by omega) hv (fun u => by rw [g1]; exact fB_b hb hv u) g10 (fun S3 r f3 f30 e31 e310 hr0 hr1 => ?_)
        have ho : S'' 1 (24 * y + x) = T 1 (24 * y + x) := by rw [g1]; exact fB_0 (fun z => by omega)
        rw [ho] at hr0 hr1
        have nx : ∀ n3 : Nat, n3 = cP p (24 * y + (x + 1)) → ∀ x100 : Int32, x100 = jI (x : Nat) + 1 → L_P_fill_77 post (fun v8_77e S77e => ∀ x106 : Int32, x106 = jI (y : Nat) + 1 → L_P_fill_67 post (jI (x0 : Nat)) v (jI (x1 : Nat)) (jI (y1 : Nat)) k v8_77e x106 S77e) (jI (x0 : Nat)) v (jI (x1 : Nat)) (jI (y1 : Nat)) (jI (y : Nat)) k2 (jI (n3 : Nat)) x100 S3 := fun n3 hn3 x100 e100 => by
          rw [e100, jn1 x]
          refine ih2 n3 (x + 1) S3 ⟨by omega, by omega, hn3, fun a h0 h1 => by rw [f3 a h0 h1, gr a h0 h1], fun j hj => by rw [f30 j hj, gr0 j hj], ?_, e310⟩ (by omega)
          rw [e31, g1, fB_s hin]; rfl
        by_cases w : T 1 (24 * y + x) = v
        · refine ⟨fun _ => nx n2 (by rw [hn2]; exact (cP_n (p := p) (n := 24 * y + x) (fun z => ((pd _).mp z).2 w)).symm), fun z => absurd (hr0 w) z⟩
        · refine ⟨fun z => absurd ((hr1 w).symm.trans z) (by decide), fun _ x97 e97 => ?_⟩
          rw [e97, jn1 n2]
          exact nx (n2 + 1) (by rw [hn2]; exact (cP_y (p := p) (n := 24 * y + x) ((pd _).mpr ⟨hin, w⟩)).symm)
  · exact ((fB_c (p := 0) (q := 24 * y0) (by omega) (fun u h1 h2 h3 => by have := h3.2.2.1; omega)).trans fB_z).symm
theorem m_MfillL {T : zS} {K : Int32 → zS → Prop} {w h1 : Int} {v1 v2 v3 v4 : Int32} (hW : W ≤ 24) (hH : H ≤ 24) (a1 : T 31 1 = jI (W : Nat)) (a2 : T 31 2 = jI (H : Nat)) (hx : x0 < x1) (hy : y0 < y1) (hx1 : x1 ≤ W) (hy1 : y1 ≤ H) (jw : jR w) (jh : jR h1) (ev1 : v1 = jI (x0 : Nat)) (ev2 : v2 = jI (y0 : Nat)) (ev3 : v3 = jI w) (ev4 : v4 = jI h1) (hX : ∀ t : Nat, x0 ≤ t → (t < x1 ↔ t < W ∧ (t : Int) - x0 < w)) (hY : ∀ t : Nat, y0 ≤ t → (t < y1 ↔ t < H ∧ (t : Int) - y0 < h1)) (hv : z_bo v)
    (h : ∀ S', (∀ a, a ≠ 32 → S' a = T a) → S' 32 = fB (T 32) x0 y0 x1 y1 v 576 → K (jI (cP (fun u => inR x0 y0 x1 y1 u ∧ ¬ T 32 u = v) 576 : Nat)) S') : ∃ k, L_M_fill_38 post K v1 v2 v3 v4 v k 0 (jI (y0 : Nat)) T := by
  subst ev1 ev2 ev3 ev4
  generalize hp : (fun u => inR x0 y0 x1 y1 u ∧ ¬ T 32 u = v) = p at h
  have pd : ∀ u, p u ↔ inR x0 y0 x1 y1 u ∧ ¬ T 32 u = v := fun u => by rw [← hp]
  refine lq2 (A := Nat) (B := Nat) (fun k n y S' => L_M_fill_38 post K (jI (x0 : Nat)) (jI (y0 : Nat)) (jI w) (jI h1) v k (jI (n : Nat)) (jI (y : Nat)) S') (fun n y S' => y0 ≤ y ∧ y ≤ y1 ∧ n = cP p (24 * y) ∧ (∀ a, a ≠ 32 → S' a = T a) ∧ S' 32 = fB (T 32) x0 y0 x1 y1 v (24 * y)) (fun _ y _ => y1 - y) ?_ 0 y0 T ⟨by omega, by omega, (cP_s (a := 0) (by omega) (fun i h1 h2 h3 => by have := ((pd i).mp h3).1.2.2.1; omega)).symm, fun _ _ => rfl, ?_⟩
  · rintro k n y S' ⟨hy', hy2, hn, fr, e1⟩ ih
    have hYy := hY y hy'
    rw [L_M_fill_38, fr 31 (by omega), a2, jI_sub, jn_le (by omega) (by omega), jI_le jh (jS (by omega))]
    have out : ¬ y < y1 → K (jI (n : Nat)) S' := fun hz => by
      rw [hn, ← cP_s (a := 24 * y) (b := 576) (by omega) (fun i h1 h2 h3 => by have := ((pd i).mp h3).1.2.2.2; omega)]
      refine h S' fr ?_
      rw [e1]
      exact (fB_c (by omega) (fun u h1 h2 h3 => by have := h3.2.2.2; omega)).symm
    refine ⟨fun hz => out (by omega), fun hz => ⟨fun hz2 => out (by omega), fun hz2 => ?_⟩⟩
    have hyy : y < y1 := hYy.mpr ⟨by omega, by omega⟩
    refine lq2 (A := Nat) (B := Nat) (fun k n x S'' => L_M_fill_59 post _ (jI (x0 : Nat)) (jI (y0 : Nat)) (jI w) (jI h1) v (jI (y : Nat)) k (jI (n : Nat)) (jI (x : Nat)) S'') (fun n x S'' => x0 ≤ x ∧ x ≤ x1 ∧ n = cP p (24 * y + x) ∧ (∀ a, a ≠ 32 → S'' a = T a) ∧ S'' 32 = fB (T 32) x0 y0 x1 y1 v (24 * y + x)) (fun _ x _ => x1 - x) ?_ n x0 S' ⟨by omega, by omega, by rw [hn]; exact (cP_s (by omega) (fun i h1 h2 h3 => by have := ((pd i).mp h3).1.1; omega)).symm, fr, by rw [e1]; exact (fB_c (by omega) (fun u h1 h2 h3 => by have := h3.1; omega)).symm⟩
    rintro k2 n2 x S'' ⟨hx', hx2, hn2, gr, g1⟩ ih2
    have hXx := hX x hx'
    rw [L_M_fill_59, gr 31 (by omega), a1, jI_sub, jn_le (by omega) (by omega), jI_le jw (jS (by omega))]
    have out2 : ¬ x < x1 → ∀ x126 : Int32, x126 = jI (y : Nat) + 1 → L_M_fill_38 post K (jI (x0 : Nat)) (jI (y0 : Nat)) (jI w) (jI h1) v k (jI (n2 : Nat)) x126 S'' := fun hz x126 e126 => by
      rw [e126, jn1 y]
      refine ih n2 (y + 1) S'' ⟨by omega, by omega, ?_, gr, ?_⟩ (by omega)
      · rw [hn2]
        exact (cP_s (by omega) (fun i h1 h2 h3 => by have := ((pd i).mp h3).1.2.1; omega)).symm
      · rw [g1]
        exact (fB_c (by omega) (fun u h1 h2 h3 => by have := h3.2.1; omega)).symm
    refine ⟨fun hz2 => out2 (by omega), fun hz3 => ⟨fun hz4 => out2 (by omega), fun hz4 => ?_⟩⟩
    have hxx : x < x1 := hXx.mpr ⟨by omega, by omega⟩
    have hin : inR x0 y0 x1 y1 (24 * y + x) := ⟨by omega, by omega, by omega, by omega⟩
    have ho : S'' 32 (24 * y + x) = T 32 (24 * y + x) := by rw [g1]; exact fB_0 (fun z => by omega)
    rw [jat', jn_in (by omega), jn_ix (by omega), ho]
    have nx : ∀ n3 : Nat, n3 = cP p (24 * y + (x + 1)) → J_M_fill_103 post (L_M_fill_59 post (fun v6_59e S59e => ∀ x126 : Int32, x126 = jI (y : Nat) + 1 → L_M_fill_38 post K (jI (x0 : Nat)) (jI (y0 : Nat)) (jI w) (jI h1) v k v6_59e x126 S59e) (jI (x0 : Nat)) (jI (y0 : Nat)) (jI w) (jI h1) v (jI (y : Nat)) k2) (jI (x0 : Nat)) (jI (y0 : Nat)) (jI w) (jI h1) v (jI (y : Nat)) (jI (x : Nat)) (jI (n3 : Nat)) S'' := fun n3 hn3 => by
      unfold J_M_fill_103
      rw [jat', jn_in (by omega), jn_ix (by omega)]
      refine ⟨by omega, hv, fun S3 e3 x120 e120 => ?_⟩
      rw [e120, jn1 x]
      refine ih2 n3 (x + 1) S3 ⟨by omega, by omega, hn3, fun a h0 => by rw [e3, su_ne h0, gr a h0], ?_⟩ (by omega)
      rw [e3, su_eq, g1, fB_s hin]; rfl
    refine ⟨by omega, fun z => nx n2 (by rw [hn2]; exact (cP_n (p := p) (n := 24 * y + x) (fun z2 => ((pd _).mp z2).2 z)).symm), fun z => ?_⟩
    rw [jn1 n2]
    exact nx (n2 + 1) (by rw [hn2]; exact (cP_y (p := p) (n := 24 * y + x) ((pd _).mpr ⟨hin, z⟩)).symm)
  · exact ((fB_c (p := 0) (q := 24 * y0) (by omega) (fun u h1 h2 h3 => by have := h3.2.2.1; omega)).trans fB_z).symm
end ZU
