section YB
/-- an int by its number -/
def jI (z : Int) : Int32 := Int32.ofInt z
/-- numbers that an int can be -/
def jR (z : Int) : Prop := -2147483648 ≤ z ∧ z < 2147483648
theorem jI_toInt {z : Int} (h : jR z) : (jI z).toInt = z := Int32.toInt_ofInt_of_le (by have := h.1; omega) (by have := h.2; omega)
theorem jI_of (x : Int32) : x = jI x.toInt := (Int32.ofInt_toInt x).symm
theorem jI_add (a b : Int) : jI a + jI b = jI (a + b) := (Int32.ofInt_add a b).symm
theorem jI_sub (a b : Int) : jI a - jI b = jI (a - b) := (Int32.ofInt_sub a b).symm
theorem jI_mul (a b : Int) : jI a * jI b = jI (a * b) := (Int32.ofInt_mul a b).symm
theorem jI_lt {a b : Int} (ha : jR a) (hb : jR b) : jI a < jI b ↔ a < b := by rw [Int32.lt_iff_toInt_lt, jI_toInt ha, jI_toInt hb]
theorem jI_le {a b : Int} (ha : jR a) (hb : jR b) : jI a ≤ jI b ↔ a ≤ b := by rw [Int32.le_iff_toInt_le, jI_toInt ha, jI_toInt hb]
theorem jI_eq {a b : Int} (ha : jR a) (hb : jR b) : jI a = jI b ↔ a = b := by rw [← Int32.toInt_inj, jI_toInt ha, jI_toInt hb]
theorem jI_ix {a : Int} (ha : jR a) : z_ix (jI a) = a.toNat := by
  show (jI a).toInt.toNat = a.toNat
  rw [jI_toInt ha]
theorem jI_in {a : Int} {n : Nat} (ha : jR a) : vp_in (jI a) n ↔ 0 ≤ a ∧ a < n := by rw [vp_in_iff, jI_toInt ha]
theorem jI_nat (n : Nat) : jI (n : Int) = nI n := Int32.ofInt_eq_ofNat
theorem jI_div {a b : Int} (ha : 0 ≤ a ∧ a < 2147483648) (hb : 0 < b ∧ b < 2147483648) : jI a / jI b = jI (a / b) := by
  obtain ⟨m, rfl⟩ := Int.eq_ofNat_of_zero_le ha.1
  obtain ⟨k, rfl⟩ := Int.eq_ofNat_of_zero_le (show 0 ≤ b by omega)
  rw [jI_nat, jI_nat, pk_div (by omega) (by omega) (by omega), ← jI_nat]
  rfl
theorem jI_0 : (0 : Int32) = jI 0 := rfl
theorem jI_1 : (1 : Int32) = jI 1 := rfl
theorem jI_m1 : (-1 : Int32) = jI (-1) := rfl
theorem jI_2 : (2 : Int32) = jI 2 := rfl
theorem jI_24 : (24 : Int32) = jI 24 := rfl
theorem jI_576 : (576 : Int32) = jI 576 := rfl
theorem jI_288 : (288 : Int32) = jI 288 := rfl
/-- how many of 0 .. n - 1 have it -/
def ctn (p : Nat → Bool) : Nat → Nat
  | 0 => 0
  | n + 1 => ctn p n + (if p n then 1 else 0)
theorem ctn_le (p : Nat → Bool) : ∀ n, ctn p n ≤ n
  | 0 => Nat.le_refl 0
  | n + 1 => by
    have := ctn_le p n
    show ctn p n + (if p n then 1 else 0) ≤ n + 1
    by_cases h : p n = true <;> simp [h] <;> omega
theorem ctn_congr {p q : Nat → Bool} : ∀ {n : Nat}, (∀ i, i < n → p i = q i) → ctn p n = ctn q n
  | 0, _ => rfl
  | n + 1, h => by
    show ctn p n + (if p n then 1 else 0) = ctn q n + (if q n then 1 else 0)
    rw [ctn_congr (fun i hi => h i (by omega)), h n (by omega)]
theorem ctn_lt {p : Nat → Bool} : ∀ {n i : Nat}, i < n → p i = false → ctn p n < n
  | 0, i, h, _ => absurd h (Nat.not_lt_zero i)
  | n + 1, i, h, hp => by
    show ctn p n + (if p n then 1 else 0) < n + 1
    by_cases hi : i = n
    · subst hi
      have := ctn_le p i
      simp [hp]; omega
    · have := ctn_lt (p := p) (n := n) (i := i) (by omega) hp
      by_cases h : p n = true <;> simp [h] <;> omega
theorem ctn_up {p q : Nat → Bool} {i : Nat} : ∀ {n : Nat}, i < n → p i = false → q i = true → (∀ j, j < n → j ≠ i → q j = p j) → ctn q n = ctn p n + 1
  | 0, h, _, _, _ => absurd h (Nat.not_lt_zero i)
  | n + 1, h, hp, hq, hj => by
    show ctn q n + (if q n then 1 else 0) = ctn p n + (if p n then 1 else 0) + 1
    by_cases hi : i = n
    · subst hi
      rw [ctn_congr (p := q) (q := p) (fun j h2 => hj j (by omega) (by omega))]
      simp [hp, hq]
    · rw [ctn_up (n := n) (by omega) hp hq (fun j h2 h3 => hj j (by omega) h3), hj n (by omega) (fun h => hi h.symm)]
      omega
end YB
