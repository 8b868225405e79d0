section ZE
theorem b_shl : ∀ t : Nat, t < 25 → (1 : Int32) <<< (jI (t : Int) &&& 31) = jI ((2 ^ t : Nat) : Int) := by decide
theorem b_sh : ∀ t : Nat, t < 25 → ((jI (t : Int) &&& 31).toBitVec.smod 32).toNat = t := by decide
theorem b_orl {a b : Nat} (ha : a < 2 ^ 25) (hb : b < 2 ^ 25) : a ||| b < 2 ^ 25 := Nat.or_lt_two_pow ha hb
theorem b_or {a b : Nat} (ha : a < 2 ^ 25) (hb : b < 2 ^ 25) : jI (a : Int) ||| jI (b : Int) = jI ((a ||| b : Nat) : Int) := by
  rw [jI_nat, jI_nat, jI_nat]
  have hab := b_orl ha hb
  apply Int32.toBitVec_inj.mp
  apply BitVec.eq_of_toNat_eq
  rw [Int32.toBitVec_or, BitVec.toNat_or, pk_tn (by omega), pk_tn (by omega), pk_tn (by omega)]
theorem b_tb {lo hi t : Nat} (h : lo ≤ hi + 1) : (2 ^ (hi + 1) - 2 ^ lo).testBit t = (decide (lo ≤ t) && decide (t ≤ hi)) := by
  have e : 2 ^ (hi + 1) - 2 ^ lo = (2 ^ (hi + 1 - lo) - 1) <<< lo := by
    rw [Nat.shiftLeft_eq, Nat.sub_mul, ← Nat.pow_add]
    have : hi + 1 - lo + lo = hi + 1 := by omega
    rw [this]; omega
  rw [e, Nat.testBit_shiftLeft, Nat.testBit_two_pow_sub_one]
  by_cases h1 : lo ≤ t
  · have : t - lo < hi + 1 - lo ↔ t ≤ hi := by omega
    simp [h1, this]
  · simp [h1]
theorem m_bits {S : zS} {post : Int32 → zS → Prop} {lo hi : Nat} (h : lo ≤ hi + 1) (hh : hi < 24) (hp : post (jI (2 ^ (hi + 1) - 2 ^ lo : Nat)) S) : P_R_bits (jI lo) (jI hi) S post := by
  unfold P_R_bits
  have hle : 2 ^ lo ≤ 2 ^ (hi + 1) := Nat.pow_le_pow_right (by omega) h
  rw [jn1, b_shl (hi + 1) (by omega), b_shl lo (by omega), jsn hle]
  exact hp
theorem m_hasBit {S : zS} {post : Int32 → zS → Prop} {N t : Nat} (hN : N < 2 ^ 25) (ht : t < 24) (h1 : N.testBit t = true → post 1 S) (h0 : N.testBit t = false → post 0 S) : P_R_hasBit (jI N) (jI t) S post := by
  unfold P_R_hasBit
  have e1 : (jI (N : Int) >>> (jI (t : Int) &&& 31)).toInt = ((N / 2 ^ t : Nat) : Int) := by
    rw [pk_shr _ _ t (b_sh t (by omega)), jI_toInt ⟨by omega, by omega⟩, Int.shiftRight_eq_div_pow]
    rfl
  have hdiv : N / 2 ^ t ≤ N := Nat.div_le_self _ _
  have e2 : jI (N : Int) >>> (jI (t : Int) &&& 31) = nI (N / 2 ^ t) := by
    rw [jI_of (jI (N : Int) >>> (jI (t : Int) &&& 31)), e1, jI_nat]
  have e3 : (jI (N : Int) >>> (jI (t : Int) &&& 31)) &&& 1 = nI (N / 2 ^ t % 2) := by
    rw [pk_and _ 1 (by decide), e2, pk_tn (by omega)]
  rw [e3, ← jI_nat, jn0, jn_eq (by omega) (by omega)]
  have tb : N.testBit t = decide (N / 2 ^ t % 2 = 1) := Nat.testBit_eq_decide_div_mod_eq
  refine ⟨fun z => h0 ?_, fun z => h1 ?_⟩
  · rw [tb]; exact decide_eq_false (by omega)
  · rw [tb]; exact decide_eq_true (by omega)
end ZE
