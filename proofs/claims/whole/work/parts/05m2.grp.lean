section YG
/-- small numbers are ints -/
theorem jS {z : Int} (h : -1000000 ≤ z ∧ z ≤ 1000000) : jR z := ⟨by omega, by omega⟩
theorem jN (n : Nat) (h : n ≤ 1000000) : jR (n : Int) := ⟨by omega, by omega⟩
theorem su_eq (S : zS) (k i : Nat) (v : Int32) : z_su S k i v k = upd (S k) i v := by simp [z_su]
theorem su_ne {S : zS} {k i a : Nat} {v : Int32} (h : a ≠ k) : z_su S k i v a = S a := by simp [z_su, h]
theorem up_eq (f : Nat → Int32) (i : Nat) (v : Int32) : upd f i v i = v := by simp [upd]
theorem up_ne {f : Nat → Int32} {i j : Nat} {v : Int32} (h : j ≠ i) : upd f i v j = f j := by simp [upd, h]
/-- what isOpen asks -/
def g_op (g mk : Nat) (S : zS) (k : Int32) (W H : Nat) (x y : Int) : Prop := 0 ≤ x ∧ x < W ∧ 0 ≤ y ∧ y < H ∧ S mk (24 * y + x).toNat = k ∧ S (g + 1) (24 * y + x).toNat = -1
theorem m_isOpen {g mk W H : Nat} {S : zS} {k : Int32} {x y : Int} {post : Int32 → zS → Prop} (hw : S g 8 = jI W) (hh : S g 9 = jI H) (hW : W ≤ 24) (hH : H ≤ 24) (hx : -100 ≤ x ∧ x ≤ 100) (hy : -100 ≤ y ∧ y ≤ 100)
    (h1 : g_op g mk S k W H x y → post 1 S) (h0 : ¬ g_op g mk S k W H x y → post 0 S) : P_G_isOpen g mk k (jI x) (jI y) S post := by
  have jx : jR x := jS (by omega)
  have jy : jR y := jS (by omega)
  have jW : jR (W : Int) := jN W (by omega)
  have jH : jR (H : Int) := jN H (by omega)
  have j0 : jR 0 := jS (by omega)
  unfold P_G_isOpen
  simp only [hw, hh, jI_0, jI_lt jx j0, jI_lt jy j0, jI_le jW jx, jI_lt jy jH]
  refine ⟨fun a => h0 (fun z => by have := z.1; omega), fun a => ⟨fun b => h0 (fun z => by have := z.2.1; omega), fun b => ⟨fun c => h0 (fun z => by have := z.2.2.1; omega), fun c => ⟨fun d => ?_, fun d => h0 (fun z => by have := z.2.2.2.1; omega)⟩⟩⟩⟩
  intro x35 e35
  have e : x35 = jI (24 * y + x) := by
    rw [e35, jI_24, jI_mul, jI_add]
    congr 1
    omega
  have ja : jR (24 * y + x) := jS (by omega)
  subst e
  rw [jI_in ja, jI_ix ja]
  refine ⟨by omega, fun q => h0 (fun z => q z.2.2.2.2.1), fun q => ⟨by omega, fun r => h0 (fun z => r z.2.2.2.2.2), fun r => h1 ⟨by omega, by omega, by omega, by omega, q, r⟩⟩⟩
/-- a sample taken into the group that is being made -/
def g_tk (g : Nat) (S S' : zS) (c n x y : Nat) (lf rt bt : Int) : Prop :=
  S' (g + 1) = upd (S (g + 1)) (24 * y + x) (jI c) ∧ S' (g + 7) = upd (S (g + 7)) n (jI (24 * y + x : Nat)) ∧ S' (g + 6) = upd (S (g + 6)) c (jI (n + 1 : Nat)) ∧
  S' (g + 2) = upd (S (g + 2)) c (jI (if (x : Int) < lf then (x : Int) else lf)) ∧ S' (g + 4) = upd (S (g + 4)) c (jI (if rt < x then (x : Int) else rt)) ∧ S' (g + 5) = upd (S (g + 5)) c (jI (if bt < y then (y : Int) else bt)) ∧
  ∀ a, a ≠ g + 1 → a ≠ g + 2 → a ≠ g + 4 → a ≠ g + 5 → a ≠ g + 6 → a ≠ g + 7 → S' a = S a
theorem jI_if {a b c d : Int} (ha : jR a) (hb : jR b) : (if jI a < jI b then jI c else jI d) = jI (if a < b then c else d) := by
  by_cases h : a < b
  · simp [h, (jI_lt ha hb).mpr h]
  · have : ¬ jI a < jI b := fun z => h ((jI_lt ha hb).mp z)
    simp [h, this]
theorem m_take {g c n x y : Nat} {lf rt bt : Int} {S : zS} {post : zS → Prop} (hc : S g 6 = jI c) (hc2 : c < 288) (hn : S (g + 6) c = jI n) (hn2 : n < 576) (hx : x < 24) (hy : y < 24) (hlf : S (g + 2) c = jI lf) (hrt : S (g + 4) c = jI rt) (hbt : S (g + 5) c = jI bt) (b1 : -100 ≤ lf ∧ lf ≤ 100) (b2 : -100 ≤ rt ∧ rt ≤ 100) (b3 : -100 ≤ bt ∧ bt ≤ 100)
    (h : ∀ S', g_tk g S S' c n x y lf rt bt → post S') : P_G_take g (jI x) (jI y) S post := by
  have jc : jR (c : Int) := jN c (by omega)
  have jn : jR (n : Int) := jN n (by omega)
  have jx : jR (x : Int) := jN x (by omega)
  have jy : jR (y : Int) := jN y (by omega)
  unfold P_G_take
  intro x6 e6
  have e : x6 = jI ((24 * y + x : Nat) : Int) := by
    rw [e6, jI_24, jI_mul, jI_add]
    congr 1
    omega
  have ja : jR ((24 * y + x : Nat) : Int) := jN _ (by omega)
  subst e
  have ia : z_ix (jI ((24 * y + x : Nat) : Int)) = 24 * y + x := by rw [jI_ix ja]; omega
  have ic : z_ix (jI (c : Int)) = c := by rw [jI_ix jc]; omega
  have inn : z_ix (jI (n : Int)) = n := by rw [jI_ix jn]; omega
  have vc : vp_in (jI (c : Int)) 288 := by rw [jI_in jc]; omega
  have vn : vp_in (jI (n : Int)) 576 := by rw [jI_in jn]; omega
  refine ⟨by rw [jI_in ja]; omega, ?_⟩
  intro S16 e16
  have a1 : S16 g 6 = jI c := by rw [e16, su_ne (by omega)]; exact hc
  have a2 : S16 (g + 6) = S (g + 6) := by rw [e16, su_ne (by omega)]
  rw [a1, ic, a2, hn, inn]
  refine ⟨vc, vn, ?_⟩
  intro S31 e31
  have b1' : S31 g 6 = jI c := by rw [e31, su_ne (by omega)]; exact a1
  have b2' : S31 (g + 6) = S (g + 6) := by rw [e31, su_ne (by omega)]; exact a2
  rw [b1', ic, b2', hn]
  refine ⟨vc, vc, ?_⟩
  intro S44 e44
  have c1 : S44 g 6 = jI c := by rw [e44, su_ne (by omega)]; exact b1'
  have c2 : S44 (g + 2) = S (g + 2) := by rw [e44, su_ne (by omega), e31, su_ne (by omega), e16, su_ne (by omega)]
  rw [c1, ic, c2, hlf]
  refine ⟨vc, vc, ?_⟩
  intro S66 e66
  have d1 : S66 g 6 = jI c := by rw [e66, su_ne (by omega)]; exact c1
  have d2 : S66 (g + 4) = S (g + 4) := by rw [e66, su_ne (by omega), e44, su_ne (by omega), e31, su_ne (by omega), e16, su_ne (by omega)]
  rw [d1, ic, d2, hrt]
  refine ⟨vc, vc, ?_⟩
  intro S88 e88
  have f1 : S88 g 6 = jI c := by rw [e88, su_ne (by omega)]; exact d1
  have f2 : S88 (g + 5) = S (g + 5) := by rw [e88, su_ne (by omega), e66, su_ne (by omega), e44, su_ne (by omega), e31, su_ne (by omega), e16, su_ne (by omega)]
  rw [f1, ic, f2, hbt]
  refine ⟨vc, vc, ?_⟩
  intro S110 e110
  have jl : jR lf := jS (by omega)
  have jr : jR rt := jS (by omega)
  have jb : jR bt := jS (by omega)
  rw [jI_if jx jl] at e66
  rw [jI_if jr jx] at e88
  rw [jI_if jb jy] at e110
  refine h S110 ⟨?_, ?_, ?_, ?_, ?_, ?_, ?_⟩
  · rw [e110, su_ne (by omega), e88, su_ne (by omega), e66, su_ne (by omega), e44, su_ne (by omega), e31, su_ne (by omega), e16, su_eq, ia, hc]
  · rw [e110, su_ne (by omega), e88, su_ne (by omega), e66, su_ne (by omega), e44, su_ne (by omega), e31, su_eq, e16, su_ne (by omega)]
  · rw [e110, su_ne (by omega), e88, su_ne (by omega), e66, su_ne (by omega), e44, su_eq, b2', jI_1, jI_add]
    rfl
  · rw [e110, su_ne (by omega), e88, su_ne (by omega), e66, su_eq, c2]
  · rw [e110, su_ne (by omega), e88, su_eq, d2]
  · rw [e110, su_eq, f2]
  · intro a q1 q2 q4 q5 q6 q7
    rw [e110, su_ne q5, e88, su_ne q4, e66, su_ne q2, e44, su_ne q6, e31, su_ne q7, e16, su_ne q1]
end YG
