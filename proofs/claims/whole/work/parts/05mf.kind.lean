section YT
theorem m_wideOf {g k x0 x1 : Nat} {S : zS} {post : Int32 → zS → Prop} (hk : k < 288) (hx : x0 < x1) (e2 : S (g + 2) k = jI x0) (e4 : S (g + 4) k = jI ((x1 : Int) - 1)) (h : post (jI (x1 - x0 : Nat)) S) : P_G_wideOf g (jI k) S post := by
  unfold P_G_wideOf
  rw [jn_in (by omega), jn_ix (by omega), e2, e4]
  have e : jI ((x1 : Int) - 1) - jI (x0 : Int) + 1 = jI ((x1 - x0 : Nat) : Int) := by rw [jI_1, jI_sub, jI_add]; congr 1; omega
  rw [e]
  exact ⟨hk, hk, h⟩
theorem m_highOf {g k y0 y1 : Nat} {S : zS} {post : Int32 → zS → Prop} (hk : k < 288) (hy : y0 < y1) (e3 : S (g + 3) k = jI y0) (e5 : S (g + 5) k = jI ((y1 : Int) - 1)) (h : post (jI (y1 - y0 : Nat)) S) : P_G_highOf g (jI k) S post := by
  unfold P_G_highOf
  rw [jn_in (by omega), jn_ix (by omega), e3, e5]
  have e : jI ((y1 : Int) - 1) - jI (y0 : Int) + 1 = jI ((y1 - y0 : Nat) : Int) := by rw [jI_1, jI_sub, jI_add]; congr 1; omega
  rw [e]
  exact ⟨hk, hk, h⟩
theorem m_isThin {a b : Nat} {S : zS} {post : Int32 → zS → Prop} (ha : a ≤ 24) (hb : b ≤ 24) (h1 : b ≤ 2 ∧ 5 * b ≤ a → post 1 S) (h0 : ¬ (b ≤ 2 ∧ 5 * b ≤ a) → post 0 S) : P_P_isThin (jI a) (jI b) S post := by
  unfold P_P_isThin
  rw [jk2, jk5, jmn, jn_lt (by omega) (by omega), jn_lt (by omega) (by omega)]
  exact ⟨fun z => h0 (by omega), fun z => ⟨fun z2 => h0 (by omega), fun z2 => h1 (by omega)⟩⟩
theorem m_PkindOf {S : zS} {post : Int32 → zS → Prop} {k x0 y0 x1 y1 : Nat} (hk : k < 288) (hx : x0 < x1) (hy : y0 < y1) (hx1 : x1 ≤ 24) (hy1 : y1 ≤ 24) (e7 : S 7 k = jI x0) (e8 : S 8 k = jI y0) (e9 : S 9 k = jI ((x1 : Int) - 1)) (e10 : S 10 k = jI ((y1 : Int) - 1)) (h : post (jI (kd_ (fun u => ¬ S 2 u = 0) x0 y0 x1 y1 : Nat)) S) : P_P_kindOf (jI k) S post := by
  have fin : ∀ v : Nat, v = kd_ (fun u => ¬ S 2 u = 0) x0 y0 x1 y1 → post (jI v) S := fun v e => by rw [e]; exact h
  have hwh : (x1 - x0) * (y1 - y0) ≤ 576 := Nat.mul_le_mul (show x1 - x0 ≤ 24 by omega) (show y1 - y0 ≤ 24 by omega)
  have hwh2 : (x1 - x0 - 2) * (y1 - y0 - 2) ≤ 576 := Nat.mul_le_mul (show x1 - x0 - 2 ≤ 24 by omega) (show y1 - y0 - 2 ≤ 24 by omega)
  unfold kd_ at fin
  have l1 := ctR_le (fun u => ¬ S 2 u = 0) x0 y0 x1 (y0 + 1)
  have l2 := ctR_le (fun u => ¬ S 2 u = 0) x0 (y1 - 1) x1 y1
  have l3 := ctR_le (fun u => ¬ S 2 u = 0) x0 y0 (x0 + 1) y1
  have l4 := ctR_le (fun u => ¬ S 2 u = 0) (x1 - 1) y0 x1 y1
  have l5 := ctR_le (fun u => ¬ S 2 u = 0) (x0 + 1) (y0 + 1) (x1 - 1) (y1 - 1)
  have l6 := ctR_le (fun u => ¬ S 2 u = 0) x0 y0 x1 y1
  have eY : jI ((y1 : Int) - 1) = jI ((y1 - 1 : Nat) : Int) := by congr 1; omega
  have eX : jI ((x1 : Int) - 1) = jI ((x1 - 1 : Nat) : Int) := by congr 1; omega
  have c1 : ∀ {post : Int32 → zS → Prop}, post (jI (ctR (fun u => ¬ S 2 u = 0) x0 y0 x1 (y0 + 1) : Nat)) S → P_P_countClean (jI x0) (jI y0) (jI (x1 - x0 : Nat)) 1 S post := fun hp => m_countClean (by congr 1; omega) (by rw [jI_1]; congr 1; omega) (by omega) (by omega) hx1 (by omega) hp
  have c2 : ∀ {post : Int32 → zS → Prop}, post (jI (ctR (fun u => ¬ S 2 u = 0) x0 (y1 - 1) x1 y1 : Nat)) S → P_P_countClean (jI x0) (jI ((y1 : Int) - 1)) (jI (x1 - x0 : Nat)) 1 S post := fun hp => by
    rw [eY]
    exact m_countClean (by congr 1; omega) (by rw [jI_1]; congr 1; omega) (by omega) (by omega) hx1 (by omega) hp
  have c3 : ∀ {post : Int32 → zS → Prop}, post (jI (ctR (fun u => ¬ S 2 u = 0) x0 y0 (x0 + 1) y1 : Nat)) S → P_P_countClean (jI x0) (jI y0) 1 (jI (y1 - y0 : Nat)) S post := fun hp => m_countClean (by rw [jI_1]; congr 1; omega) (by congr 1; omega) (by omega) (by omega) (by omega) hy1 hp
  have c4 : ∀ {post : Int32 → zS → Prop}, post (jI (ctR (fun u => ¬ S 2 u = 0) (x1 - 1) y0 x1 y1 : Nat)) S → P_P_countClean (jI ((x1 : Int) - 1)) (jI y0) 1 (jI (y1 - y0 : Nat)) S post := fun hp => by
    rw [eX]
    exact m_countClean (by rw [jI_1]; congr 1; omega) (by congr 1; omega) (by omega) (by omega) hx1 hy1 hp
  have c5 : ∀ {post : Int32 → zS → Prop}, 7 ≤ x1 - x0 → 7 ≤ y1 - y0 → post (jI (ctR (fun u => ¬ S 2 u = 0) (x0 + 1) (y0 + 1) (x1 - 1) (y1 - 1) : Nat)) S → P_P_countClean (jI x0 + 1) (jI y0 + 1) (jI (x1 - x0 - 2 : Nat)) (jI (y1 - y0 - 2 : Nat)) S post := fun a1 a2 hp => by
    rw [jn1, jn1]
    exact m_countClean (by congr 1; omega) (by congr 1; omega) (by omega) (by omega) (by omega) (by omega) hp
  have c6 : ∀ {post : Int32 → zS → Prop}, post (jI (ctR (fun u => ¬ S 2 u = 0) x0 y0 x1 y1 : Nat)) S → P_P_countClean (jI x0) (jI y0) (jI (x1 - x0 : Nat)) (jI (y1 - y0 : Nat)) S post := fun hp => m_countClean (by congr 1; omega) (by congr 1; omega) (by omega) (by omega) hx1 hy1 hp
  have wo : ∀ {post : Int32 → zS → Prop}, post (jI (x1 - x0 : Nat)) S → P_G_wideOf 5 (jI k) S post := fun hp => m_wideOf hk hx e7 e9 hp
  have ho : ∀ {post : Int32 → zS → Prop}, post (jI (y1 - y0 : Nat)) S → P_G_highOf 5 (jI k) S post := fun hp => m_highOf hk hy e8 e10 hp
  generalize hn1 : ctR (fun u => ¬ S 2 u = 0) x0 y0 x1 (y0 + 1) = n1 at *
  generalize hn2 : ctR (fun u => ¬ S 2 u = 0) x0 (y1 - 1) x1 y1 = n2 at *
  generalize hn3 : ctR (fun u => ¬ S 2 u = 0) x0 y0 (x0 + 1) y1 = n3 at *
  generalize hn4 : ctR (fun u => ¬ S 2 u = 0) (x1 - 1) y0 x1 y1 = n4 at *
  generalize hn5 : ctR (fun u => ¬ S 2 u = 0) (x0 + 1) (y0 + 1) (x1 - 1) (y1 - 1) = n5 at *
  generalize hn6 : ctR (fun u => ¬ S 2 u = 0) x0 y0 x1 y1 = n6 at *
  generalize hwe : x1 - x0 = w at *
  generalize hhe : y1 - y0 = hh at *
  have hw1 : w ≤ 24 := by omega
  have hh1 : hh ≤ 24 := by omega
  have s2 : ∀ a : Nat, 2 ≤ a → jI (a : Int) - 2 = jI ((a - 2 : Nat) : Int) := fun a ha => by rw [jk2, jsn ha]
  have vk : vp_in (jI (k : Int)) 288 := by rw [jn_in (by omega)]; exact hk
  have ik : z_ix (jI (k : Int)) = k := jn_ix (by omega)
  have fr : ∀ {post : Int32 → zS → Prop}, (3 * w ≤ 4 * n1 ∧ 3 * w ≤ 4 * n2 ∧ 3 * hh ≤ 4 * n3 ∧ 3 * hh ≤ 4 * n4 → post 1 S) → (¬ (3 * w ≤ 4 * n1 ∧ 3 * w ≤ 4 * n2 ∧ 3 * hh ≤ 4 * n3 ∧ 3 * hh ≤ 4 * n4) → post 0 S) → P_P_isFramed (jI k) S post := fun {post} p1 p0 => by
    unfold P_P_isFramed
    rw [ik]
    refine ⟨vk, fun x9 f9 => ⟨vk, fun x19 f19 => ?_⟩⟩
    rw [f9, f19, e7, e8]
    refine wo (ho (c1 ?_))
    rw [jk4, jk3, jmn, jmn, jn_lt (by omega) (by omega)]
    refine ⟨fun z => p0 (fun y => by omega), fun z => ⟨vk, ?_⟩⟩
    rw [e10]
    refine c2 ?_
    rw [jmn, jn_lt (by omega) (by omega)]
    refine ⟨fun z2 => p0 (fun y => by omega), fun z2 => c3 ?_⟩
    rw [jmn, jmn, jn_lt (by omega) (by omega)]
    refine ⟨fun z3 => p0 (fun y => by omega), fun z3 => ⟨vk, ?_⟩⟩
    rw [e9]
    refine c4 ?_
    rw [jmn, jn_lt (by omega) (by omega)]
    exact ⟨fun z4 => p0 (fun y => by omega), fun z4 => p1 (by omega)⟩
  have em : ∀ {post : Int32 → zS → Prop}, 7 ≤ w → 7 ≤ hh → (4 * n5 ≤ (w - 2) * (hh - 2) → post 1 S) → (¬ 4 * n5 ≤ (w - 2) * (hh - 2) → post 0 S) → P_P_isMostlyEmptyWithin (jI k) S post := fun {post} a1 a2 p1 p0 => by
    unfold P_P_isMostlyEmptyWithin
    refine wo (fun x10 f10 => ho (fun x21 f21 => ⟨vk, vk, ?_⟩))
    rw [s2 _ (by omega)] at f10 f21
    rw [f10, f21, ik, e7, e8]
    refine c5 a1 a2 ?_
    rw [jk4, jmn, jmn, jn_lt (by omega) (by omega)]
    exact ⟨fun z => p0 (by omega), fun z => p1 (by omega)⟩
  have k68 : ¬ ((hh ≤ 2 ∧ 5 * hh ≤ w) ∨ (w ≤ 2 ∧ 5 * w ≤ hh)) → ¬ (w < 7 ∨ hh < 7) → ¬ (3 * w ≤ 4 * n1 ∧ 3 * w ≤ 4 * n2 ∧ 3 * hh ≤ 4 * n3 ∧ 3 * hh ≤ 4 * n4 ∧ 4 * n5 ≤ (w - 2) * (hh - 2)) → J_P_kindOf_68 post (jI k) (jI w) (jI hh) S := fun a1 a2 a3 => by
    unfold J_P_kindOf_68
    rw [ik, e7, e8]
    refine ⟨vk, vk, c6 ?_⟩
    rw [jk2, jmn, jmn, jn_lt (by omega) (by omega)]
    refine ⟨fun z => fin 0 ?_, fun z => fin 2 ?_⟩
    · unfold kf_; rw [if_neg a1, if_neg a2, if_neg a3, if_neg (by omega)]
    · unfold kf_; rw [if_neg a1, if_neg a2, if_neg a3, if_pos (by omega)]
  unfold P_P_kindOf
  refine wo (ho ?_)
  refine m_isThin hw1 hh1 (fun z => ⟨fun _ => fin 1 ?_, fun y => absurd y (by decide)⟩) (fun z => ⟨fun y => absurd rfl y, fun _ => ?_⟩)
  · unfold kf_; rw [if_pos (Or.inl z)]
  · refine m_isThin hh1 hw1 (fun z2 => ⟨fun y => absurd y (by decide), fun _ => fin 1 ?_⟩) (fun z2 => ⟨fun _ => ?_, fun y => absurd rfl y⟩)
    · unfold kf_; rw [if_pos (Or.inr z2)]
    · rw [jk7, jn_lt (by omega) (by omega), jn_le (by omega) (by omega)]
      have a1 : ¬ ((hh ≤ 2 ∧ 5 * hh ≤ w) ∨ (w ≤ 2 ∧ 5 * w ≤ hh)) := fun y => y.elim z z2
      refine ⟨fun z3 => fin 0 ?_, fun z3 => ⟨fun z4 => ?_, fun z4 => fin 0 ?_⟩⟩
      · unfold kf_; rw [if_neg a1, if_pos (Or.inl z3)]
      · refine fr (fun z5 => ⟨fun y => absurd y (by decide), fun _ => ?_⟩) (fun z5 => ⟨fun _ => k68 a1 (by omega) (fun y => z5 ⟨y.1, y.2.1, y.2.2.1, y.2.2.2.1⟩), fun y => absurd rfl y⟩)
        refine em (by omega) z4 (fun z6 => ⟨fun y => absurd y (by decide), fun _ => fin 3 ?_⟩) (fun z6 => ⟨fun _ => k68 a1 (by omega) (fun y => z6 y.2.2.2.2), fun y => absurd rfl y⟩)
        unfold kf_; rw [if_neg a1, if_neg (by omega), if_pos ⟨z5.1, z5.2.1, z5.2.2.1, z5.2.2.2, z6⟩]
      · unfold kf_; rw [if_neg a1, if_pos (Or.inr (by omega))]
end YT
