section YN
def smz (f : Nat → Int32) : Nat → Nat
  | 0 => 0
  | n + 1 => smz f n + (f n).toInt.toNat
theorem smz_congr {f g : Nat → Int32} : ∀ {n : Nat}, (∀ i, i < n → f i = g i) → smz f n = smz g n
  | 0, _ => rfl
  | n + 1, h => by
    show smz f n + (f n).toInt.toNat = smz g n + (g n).toInt.toNat
    rw [smz_congr (fun i hi => h i (by omega)), h n (by omega)]
theorem smz_lt {f : Nat → Int32} {i : Nat} {v : Int32} (hv : v.toInt.toNat < (f i).toInt.toNat) : ∀ {n : Nat}, i < n → smz (upd f i v) n < smz f n
  | 0, h => absurd h (Nat.not_lt_zero i)
  | n + 1, h => by
    show smz (upd f i v) n + (upd f i v n).toInt.toNat < smz f n + (f n).toInt.toNat
    by_cases hi : i = n
    · subst hi
      rw [up_eq, smz_congr (f := upd f i v) (g := f) (fun j hj => up_ne (by omega))]
      omega
    · have := smz_lt hv (n := n) (by omega)
      rw [up_ne (fun z => hi z.symm)]
      omega
variable {W H mk : Nat} {T : zS} {kd v1 v2 : Int32}
theorem m_is {u : Nat} {S : zS} {post : Int32 → zS → Prop} (hwh : (v1 = 0 ∧ mk = 32 ∧ kd = 1) ∨ (v1 = 1 ∧ mk = 35 ∧ kd = 1) ∨ (v1 = 2 ∧ mk = 34 ∧ kd = 0)) (hu : u < 576) (hb : z_bo (S mk u)) (h1 : S mk u = kd → post 1 S) (h0 : ¬ S mk u = kd → post 0 S) : P_M_is v1 (jI u) S post := by
  unfold P_M_is
  rw [jn_in (by omega), jn_ix (by omega)]
  rcases hwh with ⟨rfl, rfl, rfl⟩ | ⟨rfl, rfl, rfl⟩ | ⟨rfl, rfl, rfl⟩
  · refine ⟨fun z => absurd rfl z, fun _ => ⟨hu, hb, ?_⟩⟩
    rcases hb with z | z
    · rw [z]; exact h0 (by rw [z]; decide)
    · rw [z]; exact h1 z
  · refine ⟨fun _ => ⟨fun z => absurd rfl z, fun _ => ⟨hu, hb, ?_⟩⟩, fun z => absurd z (by decide)⟩
    rcases hb with z | z
    · rw [z]; exact h0 (by rw [z]; decide)
    · rw [z]; exact h1 z
  · exact ⟨fun _ => ⟨fun _ => ⟨hu, h0, h1⟩, fun z => absurd z (by decide)⟩, fun z => absurd z (by decide)⟩
/-- the labels as they begin, up to p -/
def r_B (B : Nat → Int32) (kd : Int32) (W H p : Nat) (Lb : Nat → Int32) : Prop := ∀ u, u < p → u < 576 → u % 24 < W → u / 24 < H → (B u = kd → Lb u = jI (u : Nat)) ∧ (¬ B u = kd → Lb u = -1)
theorem m_gr2 {post K72 : zS → Prop} (hwh : (v1 = 0 ∧ mk = 32 ∧ kd = 1) ∨ (v1 = 1 ∧ mk = 35 ∧ kd = 1) ∨ (v1 = 2 ∧ mk = 34 ∧ kd = 0)) (hW : W ≤ 24) (hH : H ≤ 24) (e1 : T 31 1 = jI W) (e2 : T 31 2 = jI H) (hb : ∀ u, z_bo (T mk u))
    (h : ∀ S', (∀ a, a ≠ 37 → S' a = T a) → r_B (T mk) kd W H 576 (S' 37) → K72 S') : ∃ k, L_M_group_2 post K72 v1 v2 k 0 T := by
  have hmk : mk ≠ 37 := by rcases hwh with z | z | z <;> omega
  refine lq1 (A := Nat) (fun k y S => L_M_group_2 post K72 v1 v2 k (jI y) S) (fun y S => y ≤ H ∧ (∀ a, a ≠ 37 → S a = T a) ∧ r_B (T mk) kd W H (24 * y) (S 37)) (fun y _ => H - y) ?_ 0 T ⟨by omega, fun _ _ => rfl, fun u hu => absurd hu (by omega)⟩
  rintro k y S ⟨hy, hfr, hB⟩ ih
  rw [L_M_group_2, hfr 31 (by omega), e2, jn_le (by omega) (by omega)]
  refine ⟨fun hz => h S hfr (fun u hu hu2 hx hy2 => hB u (by omega) hu2 hx hy2), fun hz => ?_⟩
  refine lq1 (A := Nat) (fun k x S => L_M_group_13 post _ v1 v2 (jI y) k (jI x) S) (fun x S => x ≤ W ∧ (∀ a, a ≠ 37 → S a = T a) ∧ r_B (T mk) kd W H (24 * y + x) (S 37)) (fun x _ => W - x) ?_ 0 S ⟨by omega, hfr, hB⟩
  rintro k2 x S' ⟨hx, hfr', hB'⟩ ih2
  rw [L_M_group_13, hfr' 31 (by omega), e1, jn_le (by omega) (by omega)]
  refine ⟨fun hz2 x66 e66 => ?_, fun hz2 => ?_⟩
  · rw [e66, jn1]
    refine ih (y + 1) S' ⟨by omega, hfr', fun u hu hu2 hx2 hy2 => hB' u ?_ hu2 hx2 hy2⟩ (by omega)
    omega
  · have hgo : ∀ v : Int32, ((T mk (24 * y + x) = kd → v = jI (24 * y + x : Nat)) ∧ (¬ T mk (24 * y + x) = kd → v = -1)) → ∀ S59 : zS, S59 = z_su S' 37 (24 * y + x) v → ∀ x60 : Int32, x60 = jI x + 1 → L_M_group_13 post (fun S13e => ∀ x66 : Int32, x66 = jI y + 1 → L_M_group_2 post K72 v1 v2 k x66 S13e) v1 v2 (jI y) k2 x60 S59 := fun v hv S59 e59 x60 e60 => by
      rw [e60, jn1 x]
      refine ih2 (x + 1) S59 ⟨by omega, fun a ha => by rw [e59, su_ne ha]; exact hfr' a ha, fun u hu hu2 hx2 hy2 => ?_⟩ (by omega)
      rw [e59, su_eq]
      by_cases hz3 : u = 24 * y + x
      · subst hz3; rw [up_eq]; exact hv
      · rw [up_ne hz3]; exact hB' u (by omega) hu2 hx2 hy2
    rw [jat', jn_in (by omega), jn_ix (by omega)]
    refine m_is hwh (by omega) (by rw [hfr' mk hmk]; exact hb _) (fun a => ?_) (fun a => ?_)
    · rw [hfr' mk hmk] at a
      exact ⟨fun z => absurd z (by decide), fun _ => ⟨by omega, hgo _ ⟨fun _ => rfl, fun z => absurd a z⟩⟩⟩
    · rw [hfr' mk hmk] at a
      exact ⟨fun _ => ⟨by omega, hgo _ ⟨fun z => absurd z a, fun _ => rfl⟩⟩, fun z => absurd rfl z⟩
/-- where the n-th sample of the page lies -/
def r_at (W n : Nat) : Nat := 24 * (n / W) + n % W
theorem m_gr86 {post : zS → Prop} {K164 : Int32 → zS → Prop} {v4 : Int32} {l0 : Nat → Nat} (hW0 : 1 ≤ W) (hW : W ≤ 24) (hH : H ≤ 24) (e1 : T 31 1 = jI W) (e2 : T 31 2 = jI H) (S0 : zS) (hfr0 : ∀ a, a ≠ 37 → S0 a = T a) (hL0 : r_L (S0 37) (g_M (T mk) kd W H) (¬ v2 = 0) W H l0)
    (hK0 : (∀ u v, g_M (T mk) kd W H u → g_M (T mk) kd W H v → g_adj (¬ v2 = 0) u v → l0 u ≤ l0 v) → K164 0 S0)
    (hK1 : ∀ S l, (∀ a, a ≠ 37 → S a = T a) → r_L (S 37) (g_M (T mk) kd W H) (¬ v2 = 0) W H l → smz (S 37) 576 < smz (S0 37) 576 → K164 1 S) : ∃ k, L_M_group_86 post K164 v2 v4 k 0 0 S0 := by
  have hWH : W * H ≤ 576 := Nat.mul_le_mul hW hH
  have key : ∀ n, n < W * H → n / W < H ∧ n % W < W := fun n hn => ⟨Nat.div_lt_of_lt_mul hn, Nat.mod_lt _ (by omega)⟩
  refine lq2 (A := Int32) (B := Nat) (fun k mo j S => L_M_group_86 post K164 v2 v4 k mo (jI j) S)
    (fun mo j S => j ≤ W * H ∧ ((mo = 0 ∧ S = S0 ∧ ∀ i, i < j → ∀ v, g_M (T mk) kd W H (r_at W (if v4 = 0 then W * H - 1 - i else i)) → g_M (T mk) kd W H v → g_adj (¬ v2 = 0) (r_at W (if v4 = 0 then W * H - 1 - i else i)) v → l0 (r_at W (if v4 = 0 then W * H - 1 - i else i)) ≤ l0 v) ∨
      (mo = 1 ∧ (∀ a, a ≠ 37 → S a = T a) ∧ smz (S 37) 576 < smz (S0 37) 576 ∧ ∃ l, r_L (S 37) (g_M (T mk) kd W H) (¬ v2 = 0) W H l)))
    (fun _ j _ => W * H - j) ?_ 0 0 S0 ⟨by omega, Or.inl ⟨rfl, rfl, fun i hi => absurd hi (Nat.not_lt_zero i)⟩⟩
  rintro k mo j S ⟨hj, hI⟩ ih
  have hfr : ∀ a, a ≠ 37 → S a = T a := by
    rcases hI with ⟨-, rfl, -⟩ | ⟨-, z, -⟩
    · exact hfr0
    · exact z
  rw [L_M_group_86, hfr 31 (by omega), e1, e2, jI_mul, ← Int.natCast_mul, jn_le (by omega) (by omega)]
  refine ⟨fun hz => ?_, fun hz => ?_⟩
  · have hjj : j = W * H := by omega
    subst hjj
    rcases hI with ⟨rfl, rfl, hs⟩ | ⟨rfl, hz, hlt, l, hl⟩
    · refine hK0 (fun u v hu hv ha => ?_)
      have b1 := hu.2.1
      have b2 := hu.2.2.1
      have en : W * (u / 24) + u % 24 < W * H := by
        have : W * (u / 24) + W ≤ W * H := by rw [← Nat.mul_succ]; exact Nat.mul_le_mul_left W (by omega)
        omega
      have ed : (W * (u / 24) + u % 24) / W = u / 24 := by rw [Nat.mul_add_div (by omega), Nat.div_eq_of_lt b1]; omega
      have em : (W * (u / 24) + u % 24) % W = u % 24 := by rw [Nat.mul_add_mod, Nat.mod_eq_of_lt b1]
      have ea : r_at W (W * (u / 24) + u % 24) = u := by unfold r_at; rw [ed, em]; omega
      have := hs (if v4 = 0 then W * H - 1 - (W * (u / 24) + u % 24) else W * (u / 24) + u % 24) (by split <;> omega) v
      by_cases h4 : v4 = 0
      · have e3 : W * H - 1 - (W * H - 1 - (W * (u / 24) + u % 24)) = W * (u / 24) + u % 24 := by omega
        simp only [h4, if_true, e3, ea] at this
        exact this hu hv ha
      · simp only [h4, if_false, ea] at this
        exact this hu hv ha
    · exact hK1 S l hz hl hlt
  · have hgo : ∀ n, n < W * H → n = (if v4 = 0 then W * H - 1 - j else j) → J_M_group_124 post (L_M_group_86 post K164 v2 v4 k) v2 mo v4 (jI j) (jI n) S := fun n hn en => by
      obtain ⟨k1, k2⟩ := key n hn
      unfold J_M_group_124
      rw [hfr 31 (by omega), e1]
      have hw0 : ¬ jI (W : Int) = 0 := by rw [jn0, jn_eq (by omega) (by omega)]; omega
      refine ⟨hw0, hw0, ?_⟩
      have ed : jI (n : Int) / jI (W : Int) = jI ((n / W : Nat) : Int) := by rw [jI_div (by omega) (by omega)]; rfl
      have em : jI (n : Int) - jI ((n / W : Nat) : Int) * jI (W : Int) = jI ((n % W : Nat) : Int) := by
        rw [jI_mul, jI_sub]
        congr 1
        have h1 := Nat.div_add_mod n W
        have h2 : ((n / W : Nat) : Int) * (W : Int) = ((W * (n / W) : Nat) : Int) := by rw [Int.natCast_mul, Int.mul_comm]
        rw [h2]
        omega
      rw [ed, em]
      have hat : 24 * (n / W) + n % W = r_at W n := rfl
      have step1 : ∀ S', (∀ a, a ≠ 37 → S' a = T a) → smz (S' 37) 576 < smz (S0 37) 576 → ∀ l, r_L (S' 37) (g_M (T mk) kd W H) (¬ v2 = 0) W H l → ∀ x158 : Int32, x158 = jI j + 1 → L_M_group_86 post K164 v2 v4 k 1 x158 S' := fun S' a1 a2 l a3 x158 e158 => by
        rw [e158, jn1]
        exact ih 1 (j + 1) S' ⟨by omega, Or.inr ⟨rfl, a1, a2, l, a3⟩⟩ (by omega)
      have down : ∀ l, r_L (S 37) (g_M (T mk) kd W H) (¬ v2 = 0) W H l → ∀ m : Nat, g_M (T mk) kd W H (r_at W n) → m < l (r_at W n) → g_cn (g_M (T mk) kd W H) (¬ v2 = 0) (r_at W n) m → (∀ a, a ≠ 37 → z_su S 37 (r_at W n) (jI m) a = T a) ∧ smz (z_su S 37 (r_at W n) (jI m) 37) 576 < smz (S 37) 576 ∧ ∃ l', r_L (z_su S 37 (r_at W n) (jI m) 37) (g_M (T mk) kd W H) (¬ v2 = 0) W H l' := fun l hl m hM hm hc => by
        refine ⟨fun a ha => by rw [su_ne ha]; exact hfr a ha, ?_, fun u => if u = r_at W n then m else l u, ?_, ?_⟩
        · rw [su_eq]
          refine smz_lt ?_ hM.1
          have hb := (hl.2 _ hM).2.1
          have hb2 := hM.1
          rw [(hl.2 _ hM).1, jI_toInt (jN m (by omega)), jI_toInt (jN (l (r_at W n)) (by omega))]
          omega
        · intro u q1 q2 q3 q4
          rw [su_eq, up_ne (fun z => q4 (by rw [z]; exact hM))]
          exact hl.1 u q1 q2 q3 q4
        · intro u hu
          by_cases hz2 : u = r_at W n
          · subst hz2
            simp only [if_true]
            rw [su_eq, up_eq]
            have := (hl.2 _ hM).2.1
            exact ⟨rfl, by omega, hc⟩
          · simp only [hz2, if_false]
            rw [su_eq, up_ne hz2]
            exact hl.2 u hu
      rcases hI with ⟨rfl, rfl, hs⟩ | ⟨rfl, -, hlt, l, hl⟩
      · refine m_settles hW hH (by rw [hfr 31 (by omega)]; exact e1) (by rw [hfr 31 (by omega)]; exact e2) k2 k1 hL0 (fun h0 => ?_) (fun m hM hm hc => ?_)
        · refine ⟨fun z => absurd rfl z, fun _ => ⟨fun _ x158 e158 => ?_, fun z => absurd rfl z⟩⟩
          rw [e158, jn1]
          refine ih 0 (j + 1) S ⟨by omega, Or.inl ⟨rfl, rfl, fun i hi v => ?_⟩⟩ (by omega)
          by_cases hij : i = j
          · subst hij
            rw [← en]
            exact fun a1 a2 a3 => h0 a1 v a2 a3
          · exact hs i (by omega) v
        · refine ⟨fun _ => ?_, fun z => absurd z (by decide)⟩
          unfold J_M_group_152
          obtain ⟨a1, a2, l', a3⟩ := down l0 hL0 m hM hm hc
          exact step1 _ a1 a2 l' a3
      · refine m_settles hW hH (by rw [hfr 31 (by omega)]; exact e1) (by rw [hfr 31 (by omega)]; exact e2) k2 k1 hl (fun h0 => ?_) (fun m hM hm hc => ?_)
        · refine ⟨fun z => absurd rfl z, fun _ => ⟨fun z => absurd z (by decide), fun _ => ?_⟩⟩
          unfold J_M_group_152
          exact step1 S hfr hlt l hl
        · refine ⟨fun _ => ?_, fun z => absurd z (by decide)⟩
          unfold J_M_group_152
          obtain ⟨a1, a2, l', a3⟩ := down l hl m hM hm hc
          exact step1 _ a1 (Nat.lt_trans a2 hlt) l' a3
    have hpos : 1 ≤ W * H := by omega
    refine ⟨fun h4 => ?_, fun h4 => ?_⟩
    · have e3 : jI ((W * H : Nat) : Int) - 1 - jI (j : Int) = jI ((W * H - 1 - j : Nat) : Int) := by
        rw [jI_1, jI_sub, jI_sub]; congr 1; omega
      rw [e3]
      exact hgo _ (by omega) (by simp only [h4, if_true])
    · exact hgo j (by omega) (by simp only [h4, if_false])
theorem m_group {post : zS → Prop} (hwh : (v1 = 0 ∧ mk = 32 ∧ kd = 1) ∨ (v1 = 1 ∧ mk = 35 ∧ kd = 1) ∨ (v1 = 2 ∧ mk = 34 ∧ kd = 0)) (hW0 : 1 ≤ W) (hW : W ≤ 24) (hH : H ≤ 24) (e1 : T 31 1 = jI W) (e2 : T 31 2 = jI H) (hb : ∀ u, z_bo (T mk u))
    (h : ∀ S' l, (∀ a, a ≠ 37 → S' a = T a) → r_L (S' 37) (g_M (T mk) kd W H) (¬ v2 = 0) W H l → (∀ u v, g_M (T mk) kd W H u → g_cn (g_M (T mk) kd W H) (¬ v2 = 0) u v → l u = l v ∧ l u ≤ v) → post S') : P_M_group v1 v2 T post := by
  unfold P_M_group
  refine m_gr2 hwh hW hH e1 e2 hb (fun S1 hfr1 hB1 => ?_)
  have hL1 : r_L (S1 37) (g_M (T mk) kd W H) (¬ v2 = 0) W H (fun u => u) := ⟨fun u q1 q2 q3 q4 => (hB1 u q1 q1 q2 q3).2 (fun z => q4 ⟨q1, q2, q3, z⟩), fun u hu => ⟨(hB1 u hu.1 hu.1 hu.2.1 hu.2.2.1).1 hu.2.2.2, Nat.le_refl u, g_cn_r u⟩⟩
  refine lq2 (A := Int32) (B := Int32) (fun k mo dn S => L_M_group_77 post v2 k mo dn S)
    (fun mo _ S => (∀ a, a ≠ 37 → S a = T a) ∧ ∃ l, r_L (S 37) (g_M (T mk) kd W H) (¬ v2 = 0) W H l ∧ (mo = 0 → ∀ u v, g_M (T mk) kd W H u → g_M (T mk) kd W H v → g_adj (¬ v2 = 0) u v → l u ≤ l v))
    (fun mo _ S => 2 * smz (S 37) 576 + (if mo = 0 then 0 else 1)) ?_ 1 1 S1 ⟨hfr1, _, hL1, fun z => absurd z (by decide)⟩
  rintro k mo dn S ⟨hfr, l, hL, hs⟩ ih
  rw [L_M_group_77]
  refine ⟨fun hz => h S l hfr hL (fun u v hu hc => ?_), fun hz => ?_⟩
  · have hs' := hs hz
    have : g_M (T mk) kd W H v ∧ l u = l v := hc (fun w => g_M (T mk) kd W H w ∧ l u = l w) ⟨hu, rfl⟩ (fun a b hq ha hb2 hab => ⟨hb2, hq.2.trans (Nat.le_antisymm (hs' a b ha hb2 hab) (hs' b a hb2 ha (g_adj_s hab)))⟩)
    exact ⟨this.2, by rw [this.2]; exact (hL.2 v this.1).2.1⟩
  · refine m_gr86 hW0 hW hH e1 e2 S hfr hL (fun hall => ?_) (fun S' l' a1 a2 a3 => ?_)
    · exact ⟨fun _ => ih 0 0 S ⟨hfr, l, hL, fun _ => hall⟩ (by simp [hz]), fun _ => ih 0 1 S ⟨hfr, l, hL, fun _ => hall⟩ (by simp [hz])⟩
    · exact ⟨fun _ => ih 1 0 S' ⟨a1, l', a2, fun z => absurd z (by decide)⟩ (by simp [hz]; omega), fun _ => ih 1 1 S' ⟨a1, l', a2, fun z => absurd z (by decide)⟩ (by simp [hz]; omega)⟩
end YN
