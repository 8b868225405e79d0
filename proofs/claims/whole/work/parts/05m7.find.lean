section YL
/-- loops: the fuel is found by a measure -/
theorem lq0 (P : Nat → zS → Prop) (I : zS → Prop) (m : zS → Nat) (h : ∀ k S, I S → (∀ S', I S' → m S' < m S → P k S') → P (k + 1) S) (S : zS) (hI : I S) : ∃ k, P k S := by
  have key : ∀ n S, I S → m S < n → P n S := by
    intro n
    induction n with
    | zero => intro S _ hm; omega
    | succ n ih => exact fun S hI hm => h n S hI (fun S' hI' hm' => ih S' hI' (by omega))
  exact ⟨m S + 1, key _ S hI (by omega)⟩
theorem lq1 {A : Type} (P : Nat → A → zS → Prop) (I : A → zS → Prop) (m : A → zS → Nat) (h : ∀ k a S, I a S → (∀ a' S', I a' S' → m a' S' < m a S → P k a' S') → P (k + 1) a S) (a : A) (S : zS) (hI : I a S) : ∃ k, P k a S := by
  have key : ∀ n a S, I a S → m a S < n → P n a S := by
    intro n
    induction n with
    | zero => intro a S _ hm; omega
    | succ n ih => exact fun a S hI hm => h n a S hI (fun a' S' hI' hm' => ih a' S' hI' (by omega))
  exact ⟨m a S + 1, key _ a S hI (by omega)⟩
theorem lq2 {A B : Type} (P : Nat → A → B → zS → Prop) (I : A → B → zS → Prop) (m : A → B → zS → Nat) (h : ∀ k a b S, I a b S → (∀ a' b' S', I a' b' S' → m a' b' S' < m a b S → P k a' b' S') → P (k + 1) a b S) (a : A) (b : B) (S : zS) (hI : I a b S) : ∃ k, P k a b S := by
  obtain ⟨k, hk⟩ := lq1 (A := A × B) (fun k p S => P k p.1 p.2 S) (fun p S => I p.1 p.2 S) (fun p S => m p.1 p.2 S) (fun k p S hI ih => h k p.1 p.2 S hI (fun a' b' S' hI' hm => ih (a', b') S' hI' hm)) (a, b) S hI
  exact ⟨k, hk⟩
theorem lq3 {A B C : Type} (P : Nat → A → B → C → zS → Prop) (I : A → B → C → zS → Prop) (m : A → B → C → zS → Nat) (h : ∀ k a b c S, I a b c S → (∀ a' b' c' S', I a' b' c' S' → m a' b' c' S' < m a b c S → P k a' b' c' S') → P (k + 1) a b c S) (a : A) (b : B) (c : C) (S : zS) (hI : I a b c S) : ∃ k, P k a b c S := by
  obtain ⟨k, hk⟩ := lq2 (A := A × B) (B := C) (fun k p c S => P k p.1 p.2 c S) (fun p c S => I p.1 p.2 c S) (fun p c S => m p.1 p.2 c S) (fun k p c S hI ih => h k p.1 p.2 c S hI (fun a' b' c' S' hI' hm => ih (a', b') c' S' hI' hm)) (a, b) c S hI
  exact ⟨k, hk⟩
theorem lq4 {A B C D : Type} (P : Nat → A → B → C → D → zS → Prop) (I : A → B → C → D → zS → Prop) (m : A → B → C → D → zS → Nat) (h : ∀ k a b c d S, I a b c d S → (∀ a' b' c' d' S', I a' b' c' d' S' → m a' b' c' d' S' < m a b c d S → P k a' b' c' d' S') → P (k + 1) a b c d S) (a : A) (b : B) (c : C) (d : D) (S : zS) (hI : I a b c d S) : ∃ k, P k a b c d S := by
  obtain ⟨k, hk⟩ := lq3 (A := A × B) (B := C) (C := D) (fun k p c d S => P k p.1 p.2 c d S) (fun p c d S => I p.1 p.2 c d S) (fun p c d S => m p.1 p.2 c d S) (fun k p c d S hI ih => h k p.1 p.2 c d S hI (fun a' b' c' d' S' hI' hm => ih (a', b') c' d' S' hI' hm)) (a, b) c d S hI
  exact ⟨k, hk⟩
theorem jn1 (x : Nat) : jI (x : Int) + 1 = jI ((x + 1 : Nat) : Int) := by rw [jI_1, jI_add]; rfl
theorem jn0 : (0 : Int32) = jI ((0 : Nat) : Int) := rfl
theorem jat (x y : Nat) : jI (y : Int) * 24 + jI (x : Int) = jI ((24 * y + x : Nat) : Int) := by
  rw [jI_24, jI_mul, jI_add]; congr 1; omega
theorem jat' (x y : Nat) : 24 * jI (y : Int) + jI (x : Int) = jI ((24 * y + x : Nat) : Int) := by
  rw [jI_24, jI_mul, jI_add]; congr 1
theorem jn_ix {n : Nat} (h : n ≤ 1000000) : z_ix (jI (n : Int)) = n := by rw [jI_ix (jN n h)]; omega
theorem jn_in {n N : Nat} (h : n ≤ 1000000) : vp_in (jI (n : Int)) N ↔ n < N := by rw [jI_in (jN n h)]; omega
theorem jn_lt {a b : Nat} (ha : a ≤ 1000000) (hb : b ≤ 1000000) : jI (a : Int) < jI (b : Int) ↔ a < b := by rw [jI_lt (jN a ha) (jN b hb)]; omega
theorem jn_le {a b : Nat} (ha : a ≤ 1000000) (hb : b ≤ 1000000) : jI (a : Int) ≤ jI (b : Int) ↔ a ≤ b := by rw [jI_le (jN a ha) (jN b hb)]; omega
theorem jn_eq {a b : Nat} (ha : a ≤ 1000000) (hb : b ≤ 1000000) : jI (a : Int) = jI (b : Int) ↔ a = b := by rw [jI_eq (jN a ha) (jN b hb)]; omega
theorem jn_m1 {a : Nat} (ha : a ≤ 1000000) : jI (a : Int) ≠ -1 := by
  rw [jI_m1]
  intro e
  have := (jI_eq (jN a ha) (jS (by omega))).mp e
  omega
variable {g mk W H : Nat} {T0 : zS} {kd v3 : Int32}
theorem g_FI_up {c p q : Nat} {S : zS} (hF : g_FI g mk W H T0 kd v3 c p S) (hpq : p ≤ q) (h : ∀ u, p ≤ u → u < q → g_M (T0 mk) kd W H u → S (g + 1) u ≠ -1) : g_FI g mk W H T0 kd v3 c q S := by
  obtain ⟨f1, f2, f3, f4, f5, r, r1, r2, r3, r4⟩ := hF
  refine ⟨f1, f2, f3, fun u hu hq => ?_, f5, r, fun k hk => ?_, r2, r3, r4⟩
  · rcases Nat.lt_or_ge u p with z | z
    · exact f4 u hu z
    · exact h u z hq hu
  · obtain ⟨a, b, c⟩ := r1 k hk
    exact ⟨a, by omega, c⟩
theorem m_find28 {post K91 : zS → Prop} {y : Nat} (hTw : T0 g 8 = jI W) (hTh : T0 g 9 = jI H) (hW : W ≤ 24) (hH : H ≤ 24) (hmk : mk < g) (hy : y < H) (S : zS) (c0 : Nat) (hc0 : c0 ≤ 288) (hF : g_FI g mk W H T0 kd v3 c0 (24 * y) S)
    (hK : ∀ S' c, c ≤ 288 → g_FI g mk W H T0 kd v3 c (24 * (y + 1)) S' → K91 S') : ∃ k, L_G_find_28 g mk post K91 kd v3 (jI y) k 0 S := by
  refine lq1 (A := Nat) (fun k x S => L_G_find_28 g mk post K91 kd v3 (jI y) k (jI x) S) (fun x S => x ≤ W ∧ ∃ c, c ≤ 288 ∧ g_FI g mk W H T0 kd v3 c (24 * y + x) S) (fun x _ => W - x) ?_ 0 S ⟨by omega, c0, hc0, hF⟩
  rintro k x S' ⟨hx, c, hc, hF'⟩ ih
  have e8 : S' g 8 = jI W := by rw [hF'.2.1 8 (by omega)]; exact hTw
  have e9 : S' g 9 = jI H := by rw [hF'.2.1 9 (by omega)]; exact hTh
  have e6 : S' g 6 = jI c := hF'.2.2.1
  have ih' : ∀ S'' c', x < W → c' ≤ 288 → g_FI g mk W H T0 kd v3 c' (24 * y + x + 1) S'' → L_G_find_28 g mk post K91 kd v3 (jI y) k (jI x + 1) S'' := fun S'' c' hx hc' hF'' => by
    rw [jn1]
    exact ih (x + 1) S'' ⟨by omega, c', hc', hF''⟩ (by omega)
  rw [L_G_find_28]
  rw [e8, jn_le (by omega) (by omega)]
  refine ⟨fun hz => ?_, fun hz => ?_⟩
  · have : x = W := by omega
    subst this
    refine hK S' c hc (g_FI_up hF' (by omega) (fun u h1 h2 hM => ?_))
    have := hM.2.1
    omega
  · refine m_isOpen e8 e9 hW hH (by omega) (by omega) (fun ho => ?_) (fun ho => ?_)
    · refine ⟨fun z => absurd z (by decide), fun _ => ?_⟩
      obtain ⟨-, -, -, -, o5, o6⟩ := ho
      have et : (24 * (y : Int) + (x : Int)).toNat = 24 * y + x := by omega
      rw [et] at o5 o6
      have hM : g_M (T0 mk) kd W H (24 * y + x) := ⟨by omega, by omega, by omega, by rw [← hF'.1 mk (Or.inl hmk)]; exact o5⟩
      have hg := m_group1 (post := fun S82 => ∀ x85 : Int32, x85 = jI (x : Int) + 1 → L_G_find_28 g mk post K91 kd v3 (jI y) k x85 S82) hF' hTw hTh hW hH hmk (by omega) hy (by omega) hM o6 (fun S'' hF'' x85 e85 => by
        rw [e85]
        have := g_few hF' (by omega) hM o6
        exact ih' S'' (c + 1) (by omega) (by omega) hF'')
      rw [e6, jI_288]
      refine ⟨fun z => absurd ((jI_le (jS (by omega)) (jN c (by omega))).mp z) (by have := hg.1; omega), fun _ => hg.2⟩
    · refine ⟨fun _ x85 e85 => ?_, fun z => absurd rfl z⟩
      rw [e85]
      refine ih' S' c (by omega) hc (g_FI_up hF' (by omega) (fun u h1 h2 hM hl => ho ?_))
      have eu : u = 24 * y + x := by omega
      subst eu
      have et : (24 * (y : Int) + (x : Int)).toNat = 24 * y + x := by omega
      refine ⟨by omega, by omega, by omega, by omega, ?_, ?_⟩
      · rw [et, hF'.1 mk (Or.inl hmk)]; exact hM.2.2.2
      · rw [et]; exact hl
theorem m_find {post : zS → Prop} (hTw : T0 g 8 = jI W) (hTh : T0 g 9 = jI H) (hW : W ≤ 24) (hH : H ≤ 24) (hmk : mk < g) (h : ∀ S' c, c ≤ 288 → g_FI g mk W H T0 kd v3 c 576 S' → post S') : P_G_find g mk kd v3 T0 post := by
  unfold P_G_find
  refine m_fill (fun S10 e10 => ?_)
  have d0 : ∀ a, a ≠ g + 1 → z_sf T0 (g + 1) 576 (-1) a = T0 a := fun a ha => by funext j; simp [z_sf, ha]
  have dl : ∀ u, u < 576 → S10 (g + 1) u = -1 := fun u hu => by rw [e10, su_ne (by omega)]; simp [z_sf, hu]
  have hF0 : g_FI g mk W H T0 kd v3 0 (24 * 0) S10 := by
    refine ⟨fun a ha => ?_, fun j hj => ?_, ?_, fun u hu hp => by omega, fun u v hu hv _ => ?_, fun _ => 0, fun k hk => absurd hk (Nat.not_lt_zero k), fun k k' _ hk => absurd hk (Nat.not_lt_zero k'), fun u hu => Or.inl (dl u hu), fun k hk => absurd hk (Nat.not_lt_zero k)⟩
    · rw [e10, su_ne (by omega), d0 a (by omega)]
    · rw [e10, su_eq, up_ne hj, d0 g (by omega)]
    · rw [e10, su_eq, up_eq]; rfl
    · rw [dl u hu.1, dl v hv.1]
  refine lq1 (A := Nat) (fun k y S => L_G_find_16 g mk post kd v3 k (jI y) S) (fun y S => y ≤ H ∧ ∃ c, c ≤ 288 ∧ g_FI g mk W H T0 kd v3 c (24 * y) S) (fun y _ => H - y) ?_ 0 S10 ⟨by omega, 0, by omega, hF0⟩
  rintro k y S' ⟨hy, c, hc, hF'⟩ ih
  have e9 : S' g 9 = jI H := by rw [hF'.2.1 9 (by omega)]; exact hTh
  rw [L_G_find_16, e9, jn_le (by omega) (by omega)]
  refine ⟨fun hz => ?_, fun hz => ?_⟩
  · have : y = H := by omega
    subst this
    refine h S' c hc (g_FI_up hF' (by omega) (fun u h1 h2 hM => ?_))
    have := hM.2.2.1
    omega
  · refine m_find28 hTw hTh hW hH hmk (by omega) S' c hc hF' (fun S'' c' hc' hF'' x91 e91 => ?_)
    rw [e91, jn1]
    exact ih (y + 1) S'' ⟨by omega, c', hc', hF''⟩ (by omega)
end YL
