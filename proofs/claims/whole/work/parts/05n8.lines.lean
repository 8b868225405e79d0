section ZX
variable {S : zS} {post : Int32 → zS → Prop} {k lf tp rt bt H : Nat}
/-- row y has a clean sample of part k -/
def rw_ (S : zS) (k lf rt y : Nat) : Prop := ∃ x, lf ≤ x ∧ x ≤ rt ∧ ¬ S 2 (24 * y + x) = 0 ∧ S 6 (24 * y + x) = jI (k : Nat)
/-- what is known of part k: its box, its rows by either side -/
def pL (S : zS) (H k lf tp rt bt : Nat) : Prop :=
  k < 288 ∧ H ≤ 24 ∧ lf ≤ rt ∧ rt < 24 ∧ tp ≤ bt ∧ bt < H ∧ S 0 1 = jI (H : Nat) ∧ S 7 k = jI (lf : Nat) ∧ S 8 k = jI (tp : Nat) ∧ S 9 k = jI (rt : Nat) ∧ S 10 k = jI (bt : Nat) ∧ S 39 k = jI (lf : Nat) ∧ S 40 k = jI (tp : Nat) ∧ S 41 k = jI (rt : Nat) ∧ S 42 k = jI (bt : Nat) ∧
  (∀ y, y < H → rw_ S k lf rt y → tp ≤ y ∧ y ≤ bt) ∧
  ∀ y, tp ≤ y → y ≤ bt → (rw_ S k lf rt y ↔ ∃ x, lf ≤ x ∧ x ≤ rt ∧ ¬ S 34 (24 * y + x) = 0 ∧ S 38 (24 * y + x) = jI (k : Nat))
/-- row y begins a line -/
def lb_ (R : Nat → Prop) (tp y : Nat) : Prop := tp ≤ y ∧ R y ∧ (y = tp ∨ ¬ R (y - 1))
theorem m_hasCleanOf {y : Int} (hp : pL S H k lf tp rt bt) (hy1 : -1 ≤ y) (hy2 : y ≤ 24) (h1 : 0 ≤ y → y < H → rw_ S k lf rt y.toNat → post 1 S) (h0 : ¬ (0 ≤ y ∧ y < H ∧ rw_ S k lf rt y.toNat) → post 0 S) : P_P_hasCleanOf (jI (k : Nat)) (jI y) S post := by
  obtain ⟨hk, hH, hlr, hrt, htb, hbt, e01, e7, e8, e9, e10, -⟩ := hp
  unfold P_P_hasCleanOf
  rw [jI_0, jI_lt (jS (by omega)) (jS (by omega)), e01, jI_lt (jS (by omega)) (jS (by omega)), jn_in (by omega), jn_ix (by omega), e7]
  refine ⟨fun z => h0 (by omega), fun z => ⟨fun z2 => ⟨hk, fun x23 e23 => ?_⟩, fun z2 => h0 (by omega)⟩⟩
  rw [e23]
  obtain ⟨t, rfl⟩ := Int.eq_ofNat_of_zero_le (show 0 ≤ y by omega)
  have h1 := h1 (by omega) z2
  rw [Int.toNat_natCast] at h0 h1
  refine lq1 (A := Nat) (fun n x S' => L_P_hasCleanOf_24 post (jI (k : Nat)) (jI (t : Nat)) n (jI (x : Nat)) S') (fun x S' => S' = S ∧ lf ≤ x ∧ x ≤ rt + 1 ∧ ∀ x', lf ≤ x' → x' < x → ¬ (¬ S 2 (24 * t + x') = 0 ∧ S 6 (24 * t + x') = jI (k : Nat))) (fun x _ => rt + 1 - x) ?_ lf S ⟨rfl, by omega, by omega, fun x' h1 h2 => by omega⟩
  rintro n x S' ⟨rfl, hx1, hx2, hno⟩ ih
  rw [L_P_hasCleanOf_24, jn_in (by omega), jn_ix (by omega), e9, jn_lt (by omega) (by omega)]
  refine ⟨hk, fun z3 => h0 (fun ⟨_, _, x', w1, w2, w3, w4⟩ => hno x' w1 (by omega) ⟨w3, w4⟩), fun z3 x43 e43 => ?_⟩
  rw [jat] at e43
  rw [e43, jn_in (by omega), jn_ix (by omega)]
  have nx : ¬ (¬ S' 2 (24 * t + x) = 0 ∧ S' 6 (24 * t + x) = jI (k : Nat)) → ∀ x71 : Int32, x71 = jI (x : Nat) + 1 → L_P_hasCleanOf_24 post (jI (k : Nat)) (jI (t : Nat)) n x71 S' := fun hn x71 e71 => by
    rw [e71, jn1]
    refine ih (x + 1) S' ⟨rfl, by omega, by omega, fun x' w1 w2 => ?_⟩ (by omega)
    by_cases w : x' = x
    · subst w; exact hn
    · exact hno x' w1 (by omega)
  exact ⟨by omega, fun a => nx (fun w => w.1 a), fun a => ⟨by omega, fun b => nx (fun w => b w.2), fun b => h1 ⟨x, hx1, by omega, a, b⟩⟩⟩
theorem m_beginsLine {y : Nat} (hp : pL S H k lf tp rt bt) (hy1 : tp ≤ y) (hy2 : y ≤ bt) (h1 : lb_ (rw_ S k lf rt) tp y → post 1 S) (h0 : ¬ lb_ (rw_ S k lf rt) tp y → post 0 S) : P_P_beginsLine (jI (k : Nat)) (jI (y : Nat)) S post := by
  have hp2 := id hp
  obtain ⟨hk, hH, hlr, hrt, htb, hbt, e01, e7, e8, e9, e10, -, -, -, -, hbx, -⟩ := hp2
  unfold P_P_beginsLine
  refine m_hasCleanOf hp (by omega) (by omega) (fun z1 z2 z3 => ⟨fun z => absurd z (by decide), fun _ => ?_⟩) (fun z => ⟨fun _ => h0 (fun w => z ⟨by omega, by omega, by rw [Int.toNat_natCast]; exact w.2.1⟩), fun z => absurd rfl z⟩)
  rw [Int.toNat_natCast] at z3
  rw [jI_1, jI_sub]
  refine m_hasCleanOf hp (by omega) (by omega) (fun w1 w2 w3 => ⟨fun _ => h0 (fun w => ?_), fun z => absurd z (by decide)⟩) (fun w => ⟨fun z => absurd rfl z, fun _ => h1 ⟨hy1, z3, ?_⟩⟩)
  · rw [show ((y : Int) - 1).toNat = y - 1 by omega] at w3
    rcases w.2.2 with q | q
    · have := hbx (y - 1) (by omega) w3
      omega
    · exact q w3
  · by_cases q : y = tp
    · exact Or.inl q
    · refine Or.inr (fun q2 => w ⟨by omega, by omega, ?_⟩)
      rw [show ((y : Int) - 1).toNat = y - 1 by omega]
      exact q2
theorem m_countLines (hp : pL S H k lf tp rt bt) (h : post (jI (cP (lb_ (rw_ S k lf rt) tp) (bt + 1) : Nat)) S) : P_P_countLines (jI (k : Nat)) S post := by
  have hp2 := id hp
  obtain ⟨hk, hH, hlr, hrt, htb, hbt, e01, e7, e8, e9, e10, -⟩ := hp2
  unfold P_P_countLines
  rw [jn_in (by omega), jn_ix (by omega), e8]
  refine ⟨hk, fun x11 e11 => ?_⟩
  rw [e11]
  refine lq2 (A := Nat) (B := Nat) (fun n m y S' => L_P_countLines_12 post (jI (k : Nat)) n (jI (m : Nat)) (jI (y : Nat)) S') (fun m y S' => S' = S ∧ tp ≤ y ∧ y ≤ bt + 1 ∧ m = cP (lb_ (rw_ S k lf rt) tp) y) (fun _ y _ => bt + 1 - y) ?_ 0 tp S ⟨rfl, by omega, by omega, (cP_0 (fun i hi hl => by have := hl.1; omega)).symm⟩
  rintro n m y S' ⟨rfl, hy1, hy2, hm⟩ ih
  rw [L_P_countLines_12, jn_in (by omega), jn_ix (by omega), e10, jn_lt (by omega) (by omega)]
  refine ⟨hk, fun z => ?_, fun z => ?_⟩
  · have : y = bt + 1 := by omega
    subst this
    rw [hm]; exact h
  · refine m_beginsLine hp hy1 (by omega) (fun hl => ⟨fun z => absurd z (by decide), fun _ x34 e34 x37 e37 => ?_⟩) (fun hl => ⟨fun _ x37 e37 => ?_, fun z => absurd rfl z⟩)
    · rw [e34, e37, jn1, jn1]
      exact ih (m + 1) (y + 1) S' ⟨rfl, by omega, by omega, by rw [hm]; exact (cP_y hl).symm⟩ (by omega)
    · rw [e37, jn1]
      exact ih m (y + 1) S' ⟨rfl, by omega, by omega, by rw [hm]; exact (cP_n hl).symm⟩ (by omega)
theorem m_firstRow {j : Nat} (hp : pL S H k lf tp rt bt) (hj : j < cP (lb_ (rw_ S k lf rt) tp) (bt + 1)) (h : ∀ y : Nat, y ≤ bt → lb_ (rw_ S k lf rt) tp y → cP (lb_ (rw_ S k lf rt) tp) y = j → post (jI (y : Nat)) S) : P_P_firstRowOfLine (jI (k : Nat)) (jI (j : Nat)) S post := by
  have hp2 := id hp
  obtain ⟨hk, hH, hlr, hrt, htb, hbt, e01, e7, e8, e9, e10, -⟩ := hp2
  have hle := cP_le (lb_ (rw_ S k lf rt) tp) (bt + 1)
  unfold P_P_firstRowOfLine
  rw [jn_in (by omega), jn_ix (by omega), e8]
  refine ⟨hk, fun x11 e11 => ?_⟩
  rw [e11]
  refine lq2 (A := Nat) (B := Nat) (fun n m y S' => L_P_firstRowOfLine_13 post (jI (k : Nat)) (jI (j : Nat)) n (jI (m : Nat)) (jI (y : Nat)) S') (fun m y S' => S' = S ∧ tp ≤ y ∧ y ≤ bt + 1 ∧ m = cP (lb_ (rw_ S k lf rt) tp) y ∧ m ≤ j) (fun _ y _ => bt + 1 - y) ?_ 0 tp S ⟨rfl, by omega, by omega, (cP_0 (fun i hi hl => by have := hl.1; omega)).symm, by omega⟩
  rintro n m y S' ⟨rfl, hy1, hy2, hm, hmj⟩ ih
  rw [L_P_firstRowOfLine_13, jn_in (by omega), jn_ix (by omega), e10, jn_lt (by omega) (by omega)]
  refine ⟨hk, fun z => ?_, fun z => ?_⟩
  · have : y = bt + 1 := by omega
    subst this
    omega
  · refine m_beginsLine hp hy1 (by omega) (fun hl => ⟨fun z => absurd z (by decide), fun _ => ?_⟩) (fun hl => ⟨fun _ x48 e48 => ?_, fun z => absurd rfl z⟩)
    · rw [jn_eq (by omega) (by omega)]
      refine ⟨fun z2 x45 e45 x48 e48 => ?_, fun z2 => h y (by omega) hl (by omega)⟩
      rw [e45, e48, jn1, jn1]
      exact ih (m + 1) (y + 1) S' ⟨rfl, by omega, by omega, by rw [hm]; exact (cP_y hl).symm, by omega⟩ (by omega)
    · rw [e48, jn1]
      exact ih m (y + 1) S' ⟨rfl, by omega, by omega, by rw [hm]; exact (cP_n hl).symm, hmj⟩ (by omega)
theorem m_countRows {y : Nat} (hp : pL S H k lf tp rt bt) (hy : y ≤ bt) (h : ∀ z : Nat, y ≤ z → z ≤ bt + 1 → (∀ t, y ≤ t → t < z → rw_ S k lf rt t) → (z = bt + 1 ∨ ¬ rw_ S k lf rt z) → post (jI ((z - y : Nat) : Int)) S) : P_P_countRowsOfLine (jI (k : Nat)) (jI (y : Nat)) S post := by
  have hp2 := id hp
  obtain ⟨hk, hH, hlr, hrt, htb, hbt, e01, e7, e8, e9, e10, -⟩ := hp2
  unfold P_P_countRowsOfLine
  refine lq1 (A := Nat) (fun n z S' => L_P_countRowsOfLine_2 post _ (jI (k : Nat)) (jI (y : Nat)) n (jI (z : Nat)) S') (fun z S' => S' = S ∧ y ≤ z ∧ z ≤ bt + 1 ∧ ∀ t, y ≤ t → t < z → rw_ S k lf rt t) (fun z _ => bt + 1 - z) ?_ y S ⟨rfl, by omega, by omega, fun t h1 h2 => by omega⟩
  rintro n z S' ⟨rfl, hz1, hz2, hz3⟩ ih
  rw [L_P_countRowsOfLine_2, jn_in (by omega), jn_ix (by omega), e10, jn_lt (by omega) (by omega)]
  refine ⟨hk, fun w => ?_, fun w => ?_⟩
  · rw [jsn hz1]
    exact h z hz1 hz2 hz3 (Or.inl (by omega))
  · refine m_hasCleanOf hp (by omega) (by omega) (fun _ _ r => ⟨fun q => absurd q (by decide), fun _ x24 e24 => ?_⟩) (fun r => ⟨fun _ => ?_, fun q => absurd rfl q⟩)
    · rw [Int.toNat_natCast] at r
      rw [e24, jn1]
      refine ih (z + 1) S' ⟨rfl, by omega, by omega, fun t t1 t2 => ?_⟩ (by omega)
      by_cases q : t = z
      · subst q; exact r
      · exact hz3 t t1 (by omega)
    · rw [jsn hz1]
      refine h z hz1 hz2 hz3 (Or.inr (fun q => r ⟨by omega, by omega, by rw [Int.toNat_natCast]; exact q⟩))
theorem cP_pos {p : Nat → Prop} : ∀ {n : Nat}, 0 < cP p n ↔ ∃ i, i < n ∧ p i
  | 0 => ⟨fun h => absurd h (Nat.not_lt_zero 0), fun ⟨i, h, _⟩ => absurd h (Nat.not_lt_zero i)⟩
  | n + 1 => by
    by_cases hp : p n
    · rw [cP_y hp]; exact ⟨fun _ => ⟨n, by omega, hp⟩, fun _ => by omega⟩
    · rw [cP_n hp, cP_pos (n := n)]
      refine ⟨fun ⟨i, h1, h2⟩ => ⟨i, by omega, h2⟩, fun ⟨i, h1, h2⟩ => ⟨i, ?_, h2⟩⟩
      rcases Nat.lt_or_ge i n with w | w
      · exact w
      · have : i = n := by omega
        subst this; exact absurd h2 hp
/-- the other side's look at a row -/
theorem m_Mrow {y : Nat} {T : zS} (hp : pL S H k lf tp rt bt) (hT : ∀ a, a ≠ 31 → a ≠ 50 → T a = S a) (hy1 : tp ≤ y) (hy2 : y ≤ bt) (h : ∀ n : Nat, n ≤ 576 → (0 < n ↔ rw_ S k lf rt y) → post (jI (n : Nat)) T) : P_M_cleanIn (jI (lf : Nat)) (jI (y : Nat)) (jI (rt : Nat)) (jI (y : Nat)) (jI (k : Nat)) T post := by
  obtain ⟨hk, hH, hlr, hrt, htb, hbt, e01, e7, e8, e9, e10, -, -, -, -, -, hrow⟩ := hp
  refine m_cleanIn (x1 := rt + 1) (y1 := y + 1) (by congr 1; omega) (by congr 1; omega) (by omega) (by omega) (by omega) (by omega) ?_
  refine h _ (ctR_le _ _ _ _ _) ?_
  rw [hT 34 (by omega) (by omega), hT 38 (by omega) (by omega)]
  unfold ctR
  rw [cP_pos, hrow y hy1 hy2]
  constructor
  · rintro ⟨u, hu, ⟨u1, u2, u3, u4⟩, u5, u6⟩
    have e : 24 * y + u % 24 = u := by omega
    refine ⟨u % 24, by omega, by omega, by rw [e]; exact u5, by rw [e]; exact u6.resolve_left (jn_m1 (by omega))⟩
  · rintro ⟨x, x1, x2, x3, x4⟩
    exact ⟨24 * y + x, by omega, ⟨by omega, by omega, by omega, by omega⟩, x3, Or.inr x4⟩
theorem m_Mlines {T : zS} (hp : pL S H k lf tp rt bt) (hT : ∀ a, a ≠ 31 → a ≠ 50 → T a = S a) (h : post (jI (cP (lb_ (rw_ S k lf rt) tp) (bt + 1) : Nat)) T) : P_M_lines (jI (k : Nat)) T post := by
  have hp2 := id hp
  obtain ⟨hk, hH, hlr, hrt, htb, hbt, e01, e7, e8, e9, e10, e39, e40, e41, e42, -⟩ := hp2
  unfold P_M_lines
  rw [jn_in (by omega), jn_ix (by omega), hT 40 (by omega) (by omega), e40]
  refine ⟨by omega, fun x10 e => ?_⟩
  rw [e]
  refine lq3 (A := Nat) (B := Int32) (C := Nat) (fun n m w y S' => L_M_lines_12 post (jI (k : Nat)) n (jI (m : Nat)) w (jI (y : Nat)) S') (fun m w y S' => S' = T ∧ tp ≤ y ∧ y ≤ bt + 1 ∧ m = cP (lb_ (rw_ S k lf rt) tp) y ∧ (w = 0 ↔ (y = tp ∨ ¬ rw_ S k lf rt (y - 1)))) (fun _ _ y _ => bt + 1 - y) ?_ 0 0 tp T ⟨rfl, by omega, by omega, (cP_0 (fun i hi hl => by have := hl.1; omega)).symm, fun _ => Or.inl rfl, fun _ => rfl⟩
  rintro n m w y S' ⟨rfl, hy1, hy2, hm, hw⟩ ih
  rw [L_M_lines_12, jn_in (by omega), jn_ix (by omega), hT 42 (by omega) (by omega), hT 39 (by omega) (by omega), hT 41 (by omega) (by omega), e42, e39, e41, jn_lt (by omega) (by omega)]
  refine ⟨by omega, fun z => ?_, fun z => ⟨by omega, by omega, ?_⟩⟩
  · have : y = bt + 1 := by omega
    subst this
    rw [hm]; exact h
  · refine m_Mrow hp hT hy1 (by omega) (fun c hc hr => ?_)
    have nx : ∀ (m2 : Nat) (t0 : Int32), m2 = cP (lb_ (rw_ S k lf rt) tp) (y + 1) → (t0 = 0 ↔ ¬ rw_ S k lf rt y) → ∀ x74 : Int32, x74 = jI (y : Nat) + 1 → L_M_lines_12 post (jI (k : Nat)) n (jI (m2 : Nat)) t0 x74 S' := fun m2 t0 hm2 ht x74 e74 => by
      rw [e74, jn1]
      refine ih m2 t0 (y + 1) S' ⟨rfl, by omega, by omega, hm2, ?_⟩ (by omega)
      rw [Nat.add_sub_cancel, ht]
      exact ⟨Or.inr, fun q => q.resolve_left (by omega)⟩
    unfold J_M_lines_52 J_M_lines_69 J_M_lines_70
    rw [jn0, jn_le (by omega) (by omega), ← jn0]
    refine ⟨fun z1 => ⟨fun _ => nx m 0 ?_ ⟨fun _ => fun q => by have := hr.mpr q; omega, fun _ => rfl⟩, fun z => absurd rfl z⟩, fun z1 => ⟨fun z => absurd z (by decide), fun _ => ⟨fun z2 => nx m 1 ?_ ⟨fun z => absurd z (by decide), fun z => absurd (hr.mp (by omega)) z⟩, fun z2 => ?_⟩⟩⟩
    · rw [hm]
      exact (cP_n (fun q => by have := hr.mpr q.2.1; omega)).symm
    · rw [hm]
      exact (cP_n (fun q => z2 (hw.mpr q.2.2))).symm
    · rw [jn1 m]
      refine nx (m + 1) 1 ?_ ⟨fun z => absurd z (by decide), fun z => absurd (hr.mp (by omega)) z⟩
      rw [hm]
      exact (cP_y ⟨hy1, hr.mp (by omega), hw.mp z2⟩).symm
theorem m_MlineL {T : zS} {K : Int32 → Int32 → zS → Prop} {v3 : Int32} {j : Nat} (hp : pL S H k lf tp rt bt) (hT : ∀ a, a ≠ 31 → a ≠ 50 → T a = S a) (hj : j < cP (lb_ (rw_ S k lf rt) tp) (bt + 1))
    (h : ∀ y z : Nat, y ≤ bt → lb_ (rw_ S k lf rt) tp y → cP (lb_ (rw_ S k lf rt) tp) y = j → y ≤ z → z ≤ bt + 1 → (∀ t, y ≤ t → t < z → rw_ S k lf rt t) → (z = bt + 1 ∨ ¬ rw_ S k lf rt z) → K (jI (y : Nat)) (jI (z : Nat)) T) : ∃ n, L_M_line_75 post K (jI (k : Nat)) v3 n (jI (j : Nat)) (jI (tp : Nat)) T := by
  have hp2 := id hp
  obtain ⟨hk, hH, hlr, hrt, htb, hbt, e01, e7, e8, e9, e10, e39, e40, e41, e42, -⟩ := hp2
  have hle := cP_le (lb_ (rw_ S k lf rt) tp) (bt + 1)
  refine lq2 (A := Nat) (B := Nat) (fun n m y S' => L_M_line_75 post K (jI (k : Nat)) v3 n (jI (m : Nat)) (jI (y : Nat)) S') (fun m y S' => S' = T ∧ tp ≤ y ∧ y ≤ bt + 1 ∧ m + cP (lb_ (rw_ S k lf rt) tp) y = j ∧ (y = tp ∨ ¬ rw_ S k lf rt (y - 1) ∨ ¬ rw_ S k lf rt y)) (fun _ y _ => bt + 1 - y) ?_ j tp T ⟨rfl, by omega, by omega, by rw [cP_0 (fun i hi hl => by have := hl.1; omega)]; rfl, Or.inl rfl⟩
  rintro n m y S' ⟨rfl, hy1, hy2, hm, hw⟩ ih
  have hyb : y ≤ bt := by
    rcases Nat.lt_or_ge bt y with q | q
    · have : y = bt + 1 := by omega
      subst this; omega
    · exact q
  rw [L_M_line_75, jn_in (by omega), jn_ix (by omega), hT 39 (by omega) (by omega), hT 41 (by omega) (by omega), e39, e41]
  refine ⟨by omega, by omega, m_Mrow hp hT hy1 hyb (fun c hc hr => ?_)⟩
  rw [jn0, jn_eq (by omega) (by omega)]
  refine ⟨fun z1 => ?_, fun z1 x99 e99 => ?_⟩
  · have hR : rw_ S k lf rt y := hr.mp (by omega)
    have hlb : lb_ (rw_ S k lf rt) tp y := ⟨hy1, hR, hw.imp id (fun q => q.resolve_right (fun q2 => q2 hR))⟩
    refine lq1 (A := Nat) (fun n z S'' => L_M_line_109 post _ (jI (k : Nat)) v3 (jI (m : Nat)) (jI (y : Nat)) n (jI (z : Nat)) S'') (fun z S'' => S'' = S' ∧ y ≤ z ∧ z ≤ bt + 1 ∧ ∀ t, y ≤ t → t < z → rw_ S k lf rt t) (fun z _ => bt + 1 - z) ?_ y S' ⟨rfl, by omega, by omega, fun t h1 h2 => by omega⟩
    rintro n2 z S'' ⟨rfl, hz1, hz2, hz3⟩ ih2
    rw [L_M_line_109, jn_in (by omega), jn_ix (by omega), hT 42 (by omega) (by omega), hT 39 (by omega) (by omega), hT 41 (by omega) (by omega), e42, e39, e41, jn_lt (by omega) (by omega)]
    have hyz : y < z ∨ rw_ S k lf rt z := by
      rcases Nat.lt_or_ge y z with q | q
      · exact Or.inl q
      · have : z = y := by omega
        subst this; exact Or.inr hR
    have out : (z = bt + 1 ∨ ¬ rw_ S k lf rt z) → J_M_line_150 post (L_M_line_75 post K (jI (k : Nat)) v3 n) K (jI (k : Nat)) v3 (jI (m : Nat)) (jI (y : Nat)) (jI (z : Nat)) S'' := fun ho => by
      unfold J_M_line_150
      have hyz2 : y < z := by
        rcases hyz with q | q
        · exact q
        · rcases ho with q2 | q2
          · omega
          · exact absurd q q2
      rw [jn0, jn_eq (by omega) (by omega)]
      refine ⟨fun hm0 x170 e170 => ?_, fun hm0 => h y z hyb hlb (by omega) hz1 hz2 hz3 ho⟩
      obtain ⟨m', rfl⟩ : ∃ m', m = m' + 1 := ⟨m - 1, by omega⟩
      rw [e170, jm1]
      have hcz : cP (lb_ (rw_ S k lf rt) tp) z = cP (lb_ (rw_ S k lf rt) tp) y + 1 := by
        rw [cP_s (p := lb_ (rw_ S k lf rt) tp) (a := y + 1) (b := z) (by omega) (fun i i1 i2 i3 => ?_), cP_y hlb]
        rcases i3.2.2 with q | q
        · omega
        · exact q (hz3 (i - 1) (by omega) (by omega))
      refine ih m' z S'' ⟨rfl, by omega, by omega, by omega, ?_⟩ (by omega)
      rcases ho with q | q
      · exfalso; subst q; omega
      · exact Or.inr (Or.inr q)
    refine ⟨by omega, fun z2 => out (Or.inl (by omega)), fun z2 => ⟨by omega, by omega, m_Mrow hp hT (by omega) (by omega) (fun c2 hc2 hr2 => ?_)⟩⟩
    rw [jn0, jn_le (by omega) (by omega)]
    refine ⟨fun z3 => out (Or.inr (fun q => by have := hr2.mpr q; omega)), fun z3 x144 e144 => ?_⟩
    rw [e144, jn1]
    refine ih2 (z + 1) S'' ⟨rfl, by omega, by omega, fun t t1 t2 => ?_⟩ (by omega)
    by_cases q : t = z
    · subst q; exact hr2.mp (by omega)
    · exact hz3 t t1 (by omega)
  · have hR : ¬ rw_ S k lf rt y := fun q => by have := hr.mpr q; omega
    rw [e99, jn1]
    refine ih m (y + 1) S' ⟨rfl, by omega, by omega, ?_, Or.inr (Or.inl (by rw [Nat.add_sub_cancel]; exact hR))⟩ (by omega)
    rw [cP_n (fun q => hR q.2.1)]; exact hm
end ZX
