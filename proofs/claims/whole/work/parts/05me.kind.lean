section YS
def inR (x0 y0 x1 y1 u : Nat) : Prop := x0 ≤ u % 24 ∧ u % 24 < x1 ∧ y0 ≤ u / 24 ∧ u / 24 < y1
noncomputable def ctR (C : Nat → Prop) (x0 y0 x1 y1 : Nat) : Nat := cP (fun u => inR x0 y0 x1 y1 u ∧ C u) 576
theorem ctR_le (C : Nat → Prop) (x0 y0 x1 y1 : Nat) : ctR C x0 y0 x1 y1 ≤ 576 := cP_le _ _
theorem jmn (a b : Nat) : jI (a : Int) * jI (b : Int) = jI ((a * b : Nat) : Int) := by rw [jI_mul, Int.natCast_mul]
theorem jan (a b : Nat) : jI (a : Int) + jI (b : Int) = jI ((a + b : Nat) : Int) := by rw [jI_add, Int.natCast_add]
theorem jsn {a b : Nat} (h : b ≤ a) : jI (a : Int) - jI (b : Int) = jI ((a - b : Nat) : Int) := by rw [jI_sub]; congr 1; omega
theorem jk1 : (1 : Int32) = jI ((1 : Nat) : Int) := rfl
theorem jk2 : (2 : Int32) = jI ((2 : Nat) : Int) := rfl
theorem jk3 : (3 : Int32) = jI ((3 : Nat) : Int) := rfl
theorem jk4 : (4 : Int32) = jI ((4 : Nat) : Int) := rfl
theorem jk5 : (5 : Int32) = jI ((5 : Nat) : Int) := rfl
theorem jk6 : (6 : Int32) = jI ((6 : Nat) : Int) := rfl
theorem jk7 : (7 : Int32) = jI ((7 : Nat) : Int) := rfl
theorem jk8 : (8 : Int32) = jI ((8 : Nat) : Int) := rfl
theorem m_cleanIn {S : zS} {post : Int32 → zS → Prop} {x0 y0 x1 y1 : Nat} {v3 v4 pt : Int32} (e3 : v3 = jI ((x1 : Int) - 1)) (e4 : v4 = jI ((y1 : Int) - 1)) (hx : x0 ≤ x1) (hy : y0 ≤ y1) (hx1 : x1 ≤ 24) (hy1 : y1 ≤ 24)
    (h : post (jI (ctR (fun u => ¬ S 34 u = 0 ∧ (pt = -1 ∨ S 38 u = pt)) x0 y0 x1 y1 : Nat)) S) : P_M_cleanIn (jI x0) (jI y0) v3 v4 pt S post := by
  unfold P_M_cleanIn
  rw [e3, e4]
  unfold ctR at h
  generalize hp : (fun u => inR x0 y0 x1 y1 u ∧ ¬ S 34 u = 0 ∧ (pt = -1 ∨ S 38 u = pt)) = p at h
  have pd : ∀ u, p u ↔ inR x0 y0 x1 y1 u ∧ ¬ S 34 u = 0 ∧ (pt = -1 ∨ S 38 u = pt) := fun u => by rw [← hp]
  refine lq2 (A := Nat) (B := Nat) (fun k n y S' => L_M_cleanIn_6 post (jI x0) (jI ((x1 : Int) - 1)) (jI ((y1 : Int) - 1)) pt k (jI n) (jI y) S') (fun n y S' => S' = S ∧ y0 ≤ y ∧ y ≤ y1 ∧ n = cP p (24 * y)) (fun _ y _ => y1 - y) ?_ 0 y0 S ⟨rfl, by omega, by omega, (cP_s (a := 0) (by omega) (fun i h1 h2 h3 => by have := ((pd i).mp h3).1.2.2.1; omega)).symm⟩
  rintro k n y S' ⟨rfl, hy', hy2, hn⟩ ih
  rw [L_M_cleanIn_6, jI_lt (jS (by omega)) (jN y (by omega))]
  refine ⟨fun hz => ?_, fun hz => ?_⟩
  · rw [hn, ← cP_s (a := 24 * y) (b := 576) (by omega) (fun i h1 h2 h3 => by have := ((pd i).mp h3).1.2.2.2; omega)]
    exact h
  · refine lq2 (A := Nat) (B := Nat) (fun k n x S'' => L_M_cleanIn_16 post _ (jI x0) (jI ((x1 : Int) - 1)) (jI ((y1 : Int) - 1)) pt (jI y) k (jI n) (jI x) S'') (fun n x S'' => S'' = S' ∧ x0 ≤ x ∧ x ≤ x1 ∧ n = cP p (24 * y + x)) (fun _ x _ => x1 - x) ?_ n x0 S' ⟨rfl, by omega, by omega, by rw [hn]; exact (cP_s (by omega) (fun i h1 h2 h3 => by have := ((pd i).mp h3).1.1; omega)).symm⟩
    rintro k2 n2 x S'' ⟨rfl, hx', hx2, hn2⟩ ih2
    rw [L_M_cleanIn_16, jI_lt (jS (by omega)) (jN x (by omega))]
    refine ⟨fun hz2 x77 e77 => ?_, fun hz2 x30 e30 => ?_⟩
    · rw [e77, jn1 y]
      refine ih n2 (y + 1) S'' ⟨rfl, by omega, by omega, ?_⟩ (by omega)
      rw [hn2]
      exact (cP_s (by omega) (fun i h1 h2 h3 => by have := ((pd i).mp h3).1.2.1; omega)).symm
    · rw [jat'] at e30
      subst e30
      rw [jn_in (by omega), jn_ix (by omega)]
      have hin : inR x0 y0 x1 y1 (24 * y + x) := ⟨by omega, by omega, by omega, by omega⟩
      have no : ¬ p (24 * y + x) → ∀ x71 : Int32, x71 = jI x + 1 → L_M_cleanIn_16 post (fun v6_16e S16e => ∀ x77 : Int32, x77 = jI y + 1 → L_M_cleanIn_6 post (jI x0) (jI ((x1 : Int) - 1)) (jI ((y1 : Int) - 1)) pt k v6_16e x77 S16e) (jI x0) (jI ((x1 : Int) - 1)) (jI ((y1 : Int) - 1)) pt (jI y) k2 (jI n2) x71 S'' := fun hnp x71 e71 => by
        rw [e71, jn1 x]
        exact ih2 n2 (x + 1) S'' ⟨rfl, by omega, by omega, by rw [hn2]; exact (cP_n hnp).symm⟩ (by omega)
      have yes : p (24 * y + x) → J_M_cleanIn_60 post (L_M_cleanIn_16 post (fun v6_16e S16e => ∀ x77 : Int32, x77 = jI y + 1 → L_M_cleanIn_6 post (jI x0) (jI ((x1 : Int) - 1)) (jI ((y1 : Int) - 1)) pt k v6_16e x77 S16e) (jI x0) (jI ((x1 : Int) - 1)) (jI ((y1 : Int) - 1)) pt (jI y) k2) (jI x0) (jI ((x1 : Int) - 1)) (jI ((y1 : Int) - 1)) pt (jI n2) (jI y) (jI x) S'' := fun hyp => by
        unfold J_M_cleanIn_60
        intro x69 e69 x71 e71
        rw [e69, e71, jn1 x, jn1 n2]
        exact ih2 (n2 + 1) (x + 1) S'' ⟨rfl, by omega, by omega, by rw [hn2]; exact (cP_y hyp).symm⟩ (by omega)
      refine ⟨by omega, fun a => no (fun z => ((pd _).mp z).2.1 a), fun a => ⟨fun b => yes ((pd _).mpr ⟨hin, a, Or.inl b⟩), fun b => ⟨by omega, fun d => no (fun z => ((pd _).mp z).2.2.elim b d), fun d => yes ((pd _).mpr ⟨hin, a, Or.inr d⟩)⟩⟩⟩
theorem m_countClean {S : zS} {post : Int32 → zS → Prop} {x0 y0 x1 y1 : Nat} {v3 v4 : Int32} (e3 : v3 = jI ((x1 : Int) - x0)) (e4 : v4 = jI ((y1 : Int) - y0)) (hx : x0 ≤ x1) (hy : y0 ≤ y1) (hx1 : x1 ≤ 24) (hy1 : y1 ≤ 24)
    (h : post (jI (ctR (fun u => ¬ S 2 u = 0) x0 y0 x1 y1 : Nat)) S) : P_P_countClean (jI x0) (jI y0) v3 v4 S post := by
  unfold P_P_countClean
  have f3 : jI (x0 : Int) + v3 = jI (x1 : Nat) := by rw [e3, jI_add]; congr 1; omega
  have f4 : jI (y0 : Int) + v4 = jI (y1 : Nat) := by rw [e4, jI_add]; congr 1; omega
  unfold ctR at h
  generalize hp : (fun u => inR x0 y0 x1 y1 u ∧ ¬ S 2 u = 0) = p at h
  have pd : ∀ u, p u ↔ inR x0 y0 x1 y1 u ∧ ¬ S 2 u = 0 := fun u => by rw [← hp]
  refine lq2 (A := Nat) (B := Nat) (fun k n y S' => L_P_countClean_6 post (jI x0) (jI y0) v3 v4 k (jI n) (jI y) S') (fun n y S' => S' = S ∧ y0 ≤ y ∧ y ≤ y1 ∧ n = cP p (24 * y)) (fun _ y _ => y1 - y) ?_ 0 y0 S ⟨rfl, by omega, by omega, (cP_s (a := 0) (by omega) (fun i h1 h2 h3 => by have := ((pd i).mp h3).1.2.2.1; omega)).symm⟩
  rintro k n y S' ⟨rfl, hy', hy2, hn⟩ ih
  rw [L_P_countClean_6, f4, jn_le (by omega) (by omega)]
  refine ⟨fun hz => ?_, fun hz => ?_⟩
  · rw [hn, ← cP_s (a := 24 * y) (b := 576) (by omega) (fun i h1 h2 h3 => by have := ((pd i).mp h3).1.2.2.2; omega)]
    exact h
  · refine lq2 (A := Nat) (B := Nat) (fun k n x S'' => L_P_countClean_18 post _ (jI x0) (jI y0) v3 v4 (jI y) k (jI n) (jI x) S'') (fun n x S'' => S'' = S' ∧ x0 ≤ x ∧ x ≤ x1 ∧ n = cP p (24 * y + x)) (fun _ x _ => x1 - x) ?_ n x0 S' ⟨rfl, by omega, by omega, by rw [hn]; exact (cP_s (by omega) (fun i h1 h2 h3 => by have := ((pd i).mp h3).1.1; omega)).symm⟩
    rintro k2 n2 x S'' ⟨rfl, hx', hx2, hn2⟩ ih2
    rw [L_P_countClean_18, f3, jn_le (by omega) (by omega)]
    refine ⟨fun hz2 x77 e77 => ?_, fun hz2 => ?_⟩
    · rw [e77, jn1 y]
      refine ih n2 (y + 1) S'' ⟨rfl, by omega, by omega, ?_⟩ (by omega)
      rw [hn2]
      exact (cP_s (by omega) (fun i h1 h2 h3 => by have := ((pd i).mp h3).1.2.1; omega)).symm
    · rw [jat, jn_in (by omega), jn_ix (by omega)]
      have hin : inR x0 y0 x1 y1 (24 * y + x) := ⟨by omega, by omega, by omega, by omega⟩
      refine ⟨by omega, fun a x45 e45 => ?_, fun a x42 e42 x45 e45 => ?_⟩
      · rw [e45, jn1 x]
        exact ih2 n2 (x + 1) S'' ⟨rfl, by omega, by omega, by rw [hn2]; exact (cP_n (fun z => ((pd _).mp z).2 a)).symm⟩ (by omega)
      · rw [e42, e45, jn1 x, jn1 n2]
        exact ih2 (n2 + 1) (x + 1) S'' ⟨rfl, by omega, by omega, by rw [hn2]; exact (cP_y ((pd _).mpr ⟨hin, a⟩)).symm⟩ (by omega)
/-- the kind, by the counts -/
def kf_ (w h n1 n2 n3 n4 n5 n6 : Nat) : Nat :=
  if (h ≤ 2 ∧ 5 * h ≤ w) ∨ (w ≤ 2 ∧ 5 * w ≤ h) then 1 else if w < 7 ∨ h < 7 then 0 else
  if 3 * w ≤ 4 * n1 ∧ 3 * w ≤ 4 * n2 ∧ 3 * h ≤ 4 * n3 ∧ 3 * h ≤ 4 * n4 ∧ 4 * n5 ≤ (w - 2) * (h - 2) then 3 else if w * h ≤ 2 * n6 then 2 else 0
noncomputable def kd_ (C : Nat → Prop) (x0 y0 x1 y1 : Nat) : Nat :=
  kf_ (x1 - x0) (y1 - y0) (ctR C x0 y0 x1 (y0 + 1)) (ctR C x0 (y1 - 1) x1 y1) (ctR C x0 y0 (x0 + 1) y1) (ctR C (x1 - 1) y0 x1 y1) (ctR C (x0 + 1) (y0 + 1) (x1 - 1) (y1 - 1)) (ctR C x0 y0 x1 y1)
theorem m_MkindOf {S : zS} {post : Int32 → zS → Prop} {x0 y0 x1 y1 : Nat} (hx : x0 < x1) (hy : y0 < y1) (hx1 : x1 ≤ 24) (hy1 : y1 ≤ 24) (h : post (jI (kd_ (fun u => ¬ S 34 u = 0) x0 y0 x1 y1 : Nat)) S) : P_M_kindOf (jI x0) (jI y0) (jI ((x1 : Int) - 1)) (jI ((y1 : Int) - 1)) S post := by
  have fin : ∀ v : Nat, v = kd_ (fun u => ¬ S 34 u = 0) x0 y0 x1 y1 → post (jI v) S := fun v e => by rw [e]; exact h
  have ci : ∀ {a b c d : Nat} {post : Int32 → zS → Prop}, a ≤ c → b ≤ d → c ≤ 24 → d ≤ 24 → post (jI (ctR (fun u => ¬ S 34 u = 0) a b c d : Nat)) S → P_M_cleanIn (jI a) (jI b) (jI ((c : Int) - 1)) (jI ((d : Int) - 1)) (-1) S post := fun {a b c d post} h1 h2 h3 h4 hp => by
    refine m_cleanIn rfl rfl h1 h2 h3 h4 ?_
    have : ctR (fun u => ¬ S 34 u = 0 ∧ ((-1 : Int32) = -1 ∨ S 38 u = -1)) a b c d = ctR (fun u => ¬ S 34 u = 0) a b c d := by
      unfold ctR
      exact cP_c (fun i hi => ⟨fun z => ⟨z.1, z.2.1⟩, fun z => ⟨z.1, z.2, Or.inl rfl⟩⟩)
    rw [this]; exact hp
  have sx : jI ((x1 : Int) - 1) - jI (x0 : Int) + 1 = jI ((x1 - x0 : Nat) : Int) := by rw [jI_1, jI_sub, jI_add]; congr 1; omega
  have sy : jI ((y1 : Int) - 1) - jI (y0 : Int) + 1 = jI ((y1 - y0 : Nat) : Int) := by rw [jI_1, jI_sub, jI_add]; congr 1; omega
  have hwh : (x1 - x0) * (y1 - y0) ≤ 576 := Nat.mul_le_mul (show x1 - x0 ≤ 24 by omega) (show y1 - y0 ≤ 24 by omega)
  have hwh2 : (x1 - x0 - 2) * (y1 - y0 - 2) ≤ 576 := Nat.mul_le_mul (show x1 - x0 - 2 ≤ 24 by omega) (show y1 - y0 - 2 ≤ 24 by omega)
  unfold kd_ at fin
  have l1 := ctR_le (fun u => ¬ S 34 u = 0) x0 y0 x1 (y0 + 1)
  have l2 := ctR_le (fun u => ¬ S 34 u = 0) x0 (y1 - 1) x1 y1
  have l3 := ctR_le (fun u => ¬ S 34 u = 0) x0 y0 (x0 + 1) y1
  have l4 := ctR_le (fun u => ¬ S 34 u = 0) (x1 - 1) y0 x1 y1
  have l5 := ctR_le (fun u => ¬ S 34 u = 0) (x0 + 1) (y0 + 1) (x1 - 1) (y1 - 1)
  have l6 := ctR_le (fun u => ¬ S 34 u = 0) x0 y0 x1 y1
  have c1 : ∀ {post : Int32 → zS → Prop}, post (jI (ctR (fun u => ¬ S 34 u = 0) x0 y0 x1 (y0 + 1) : Nat)) S → P_M_cleanIn (jI x0) (jI y0) (jI ((x1 : Int) - 1)) (jI y0) (-1) S post := fun hp => by
    have e : jI (y0 : Int) = jI (((y0 + 1 : Nat) : Int) - 1) := by congr 1; omega
    have := ci (show x0 ≤ x1 by omega) (show y0 ≤ y0 + 1 by omega) hx1 (by omega) hp
    rw [← e] at this; exact this
  have c2 : ∀ {post : Int32 → zS → Prop}, post (jI (ctR (fun u => ¬ S 34 u = 0) x0 (y1 - 1) x1 y1 : Nat)) S → P_M_cleanIn (jI x0) (jI ((y1 : Int) - 1)) (jI ((x1 : Int) - 1)) (jI ((y1 : Int) - 1)) (-1) S post := fun hp => by
    have e : jI ((y1 - 1 : Nat) : Int) = jI ((y1 : Int) - 1) := by congr 1; omega
    have := ci (show x0 ≤ x1 by omega) (show y1 - 1 ≤ y1 by omega) hx1 hy1 hp
    rw [e] at this; exact this
  have c3 : ∀ {post : Int32 → zS → Prop}, post (jI (ctR (fun u => ¬ S 34 u = 0) x0 y0 (x0 + 1) y1 : Nat)) S → P_M_cleanIn (jI x0) (jI y0) (jI x0) (jI ((y1 : Int) - 1)) (-1) S post := fun hp => by
    have e : jI (x0 : Int) = jI (((x0 + 1 : Nat) : Int) - 1) := by congr 1; omega
    have := ci (show x0 ≤ x0 + 1 by omega) (show y0 ≤ y1 by omega) (by omega) hy1 hp
    rw [← e] at this; exact this
  have c4 : ∀ {post : Int32 → zS → Prop}, post (jI (ctR (fun u => ¬ S 34 u = 0) (x1 - 1) y0 x1 y1 : Nat)) S → P_M_cleanIn (jI ((x1 : Int) - 1)) (jI y0) (jI ((x1 : Int) - 1)) (jI ((y1 : Int) - 1)) (-1) S post := fun hp => by
    have e : jI ((x1 - 1 : Nat) : Int) = jI ((x1 : Int) - 1) := by congr 1; omega
    have := ci (show x1 - 1 ≤ x1 by omega) (show y0 ≤ y1 by omega) hx1 hy1 hp
    rw [e] at this; exact this
  have c5 : ∀ {post : Int32 → zS → Prop}, 7 ≤ x1 - x0 → 7 ≤ y1 - y0 → post (jI (ctR (fun u => ¬ S 34 u = 0) (x0 + 1) (y0 + 1) (x1 - 1) (y1 - 1) : Nat)) S → P_M_cleanIn (jI x0 + 1) (jI y0 + 1) (jI ((x1 : Int) - 1) - 1) (jI ((y1 : Int) - 1) - 1) (-1) S post := fun a1 a2 hp => by
    have e : jI ((x1 : Int) - 1) - 1 = jI (((x1 - 1 : Nat) : Int) - 1) := by rw [jI_1, jI_sub]; congr 1; omega
    have e' : jI ((y1 : Int) - 1) - 1 = jI (((y1 - 1 : Nat) : Int) - 1) := by rw [jI_1, jI_sub]; congr 1; omega
    rw [e, e', jn1, jn1]
    exact ci (by omega) (by omega) (by omega) (by omega) hp
  have c6 : ∀ {post : Int32 → zS → Prop}, post (jI (ctR (fun u => ¬ S 34 u = 0) x0 y0 x1 y1 : Nat)) S → P_M_cleanIn (jI x0) (jI y0) (jI ((x1 : Int) - 1)) (jI ((y1 : Int) - 1)) (-1) S post := fun hp => ci (by omega) (by omega) hx1 hy1 hp
  generalize hn1 : ctR (fun u => ¬ S 34 u = 0) x0 y0 x1 (y0 + 1) = n1 at *
  generalize hn2 : ctR (fun u => ¬ S 34 u = 0) x0 (y1 - 1) x1 y1 = n2 at *
  generalize hn3 : ctR (fun u => ¬ S 34 u = 0) x0 y0 (x0 + 1) y1 = n3 at *
  generalize hn4 : ctR (fun u => ¬ S 34 u = 0) (x1 - 1) y0 x1 y1 = n4 at *
  generalize hn5 : ctR (fun u => ¬ S 34 u = 0) (x0 + 1) (y0 + 1) (x1 - 1) (y1 - 1) = n5 at *
  generalize hn6 : ctR (fun u => ¬ S 34 u = 0) x0 y0 x1 y1 = n6 at *
  unfold P_M_kindOf
  intro x5 e5 x13 e13
  rw [sx] at e5
  rw [sy] at e13
  subst e5 e13
  generalize hwe : x1 - x0 = w at *
  generalize hhe : y1 - y0 = hh at *
  have hw1 : w ≤ 24 := by omega
  have hh1 : hh ≤ 24 := by omega
  have s2 : ∀ a : Nat, 2 ≤ a → jI (a : Int) - 2 = jI ((a - 2 : Nat) : Int) := fun a ha => by rw [jk2, jsn ha]
  have k197 : ¬ ((hh ≤ 2 ∧ 5 * hh ≤ w) ∨ (w ≤ 2 ∧ 5 * w ≤ hh)) → ¬ (w < 7 ∨ hh < 7) → ¬ (3 * w ≤ 4 * n1 ∧ 3 * w ≤ 4 * n2 ∧ 3 * hh ≤ 4 * n3 ∧ 3 * hh ≤ 4 * n4 ∧ 4 * n5 ≤ (w - 2) * (hh - 2)) → J_M_kindOf_197 post (jI x0) (jI y0) (jI ((x1 : Int) - 1)) (jI ((y1 : Int) - 1)) (jI w) (jI hh) S := fun a1 a2 a3 => by
    unfold J_M_kindOf_197
    refine c6 ?_
    rw [jk2, jmn, jmn, jn_lt (by omega) (by omega)]
    refine ⟨fun z => fin 0 ?_, fun z => fin 2 ?_⟩
    · unfold kf_; rw [if_neg a1, if_neg a2, if_neg a3, if_neg (by omega)]
    · unfold kf_; rw [if_neg a1, if_neg a2, if_neg a3, if_pos (by omega)]
  have k151 : ¬ ((hh ≤ 2 ∧ 5 * hh ≤ w) ∨ (w ≤ 2 ∧ 5 * w ≤ hh)) → ¬ (w < 7 ∨ hh < 7) → ∀ t s : Int32, (t = 0 → ¬ (3 * w ≤ 4 * n1 ∧ 3 * w ≤ 4 * n2)) → (¬ t = 0 → 3 * w ≤ 4 * n1 ∧ 3 * w ≤ 4 * n2) → (s = 0 → ¬ (3 * hh ≤ 4 * n3 ∧ 3 * hh ≤ 4 * n4)) → (¬ s = 0 → 3 * hh ≤ 4 * n3 ∧ 3 * hh ≤ 4 * n4) → J_M_kindOf_151 post (jI x0) (jI y0) (jI ((x1 : Int) - 1)) (jI ((y1 : Int) - 1)) (jI w) (jI hh) t s S := fun a1 a2 t s t0 t1 s0 s1 => by
    unfold J_M_kindOf_151
    refine ⟨fun z => k197 a1 a2 (fun y => t0 z ⟨y.1, y.2.1⟩), fun z => ⟨fun z2 => k197 a1 a2 (fun y => s0 z2 ⟨y.2.2.1, y.2.2.2.1⟩), fun z2 => ?_⟩⟩
    refine c5 (by omega) (by omega) ?_
    rw [s2 w (by omega), s2 hh (by omega), jk4, jmn, jmn, jn_lt (by omega) (by omega)]
    refine ⟨fun z3 => k197 a1 a2 (fun y => by have := y.2.2.2.2; omega), fun z3 => fin 3 ?_⟩
    unfold kf_
    rw [if_neg a1, if_neg a2, if_pos ⟨(t1 z).1, (t1 z).2, (s1 z2).1, (s1 z2).2, by omega⟩]
  have k106 : ¬ ((hh ≤ 2 ∧ 5 * hh ≤ w) ∨ (w ≤ 2 ∧ 5 * w ≤ hh)) → ¬ (w < 7 ∨ hh < 7) → ∀ t : Int32, (t = 0 → ¬ (3 * w ≤ 4 * n1 ∧ 3 * w ≤ 4 * n2)) → (¬ t = 0 → 3 * w ≤ 4 * n1 ∧ 3 * w ≤ 4 * n2) → J_M_kindOf_106 post (jI x0) (jI y0) (jI ((x1 : Int) - 1)) (jI ((y1 : Int) - 1)) (jI w) (jI hh) t S := fun a1 a2 t t0 t1 => by
    unfold J_M_kindOf_106 J_M_kindOf_150
    refine c3 ?_
    rw [jk4, jk3, jmn, jmn, jn_lt (by omega) (by omega)]
    refine ⟨fun z => k151 a1 a2 t 0 t0 t1 (fun _ y => by omega) (fun y => absurd rfl y), fun z => c4 ?_⟩
    rw [jmn, jn_lt (by omega) (by omega)]
    exact ⟨fun z2 => k151 a1 a2 t 0 t0 t1 (fun _ y => by omega) (fun y => absurd rfl y), fun z2 => k151 a1 a2 t 1 t0 t1 (fun y => absurd y (by decide)) (fun _ => by omega)⟩
  have k47 : ¬ ((hh ≤ 2 ∧ 5 * hh ≤ w) ∨ (w ≤ 2 ∧ 5 * w ≤ hh)) → J_M_kindOf_47 post (jI x0) (jI y0) (jI ((x1 : Int) - 1)) (jI ((y1 : Int) - 1)) (jI w) (jI hh) S := fun a1 => by
    unfold J_M_kindOf_47 J_M_kindOf_105
    rw [jk7, jn_lt (by omega) (by omega), jn_le (by omega) (by omega)]
    refine ⟨fun z => fin 0 ?_, fun z => ⟨fun z2 => c1 ?_, fun z2 => fin 0 ?_⟩⟩
    · unfold kf_; rw [if_neg a1, if_pos (Or.inl z)]
    · rw [jk4, jk3, jmn, jmn, jn_lt (by omega) (by omega)]
      refine ⟨fun z3 => k106 a1 (by omega) 0 (fun _ y => by omega) (fun y => absurd rfl y), fun z3 => c2 ?_⟩
      rw [jmn, jn_lt (by omega) (by omega)]
      exact ⟨fun z4 => k106 a1 (by omega) 0 (fun _ y => by omega) (fun y => absurd rfl y), fun z4 => k106 a1 (by omega) 1 (fun y => absurd y (by decide)) (fun _ => by omega)⟩
    · unfold kf_; rw [if_neg a1, if_pos (Or.inr (by omega))]
  have k30 : ¬ (hh ≤ 2 ∧ 5 * hh ≤ w) → J_M_kindOf_30 post (jI x0) (jI y0) (jI ((x1 : Int) - 1)) (jI ((y1 : Int) - 1)) (jI w) (jI hh) S := fun a1 => by
    unfold J_M_kindOf_30
    rw [jk2, jk5, jmn, jn_lt (by omega) (by omega), jn_lt (by omega) (by omega)]
    refine ⟨fun z => k47 (by omega), fun z => ⟨fun z2 => k47 (by omega), fun z2 => fin 1 ?_⟩⟩
    unfold kf_; rw [if_pos (Or.inr (by omega))]
  rw [jk2, jk5, jmn, jn_lt (by omega) (by omega), jn_le (by omega) (by omega)]
  refine ⟨fun z => k30 (by omega), fun z => ⟨fun z2 => fin 1 ?_, fun z2 => k30 (by omega)⟩⟩
  unfold kf_; rw [if_pos (Or.inl (by omega))]
end YS
