section YI
variable {g mk c r0 W H : Nat} {T : zS} {L0 : Nat → Int32} {kd v3 : Int32}
/-- what stays, while the neighbours of the sample u at place i of the queue are looked at -/
def g_J (g mk c r0 W H : Nat) (T : zS) (L0 : Nat → Int32) (kd v3 : Int32) (i u : Nat) (S : zS) : Prop :=
  ∃ n, g_GI g (g_M (T mk) kd W H) (¬ v3 = 0) T L0 c r0 n S ∧ i < n ∧ (∀ t, t < i → ∀ w v, w < 576 → S (g + 7) t = jI (w : Nat) → g_M (T mk) kd W H v → g_adj (¬ v3 = 0) w v → S (g + 1) v ≠ -1) ∧ S (g + 7) i = jI (u : Nat)
/-- the neighbours of u ahead of row ny, place nx have their labels -/
def g_D (g mk W H : Nat) (T : zS) (kd v3 : Int32) (u : Nat) (ny nx : Int) (S : zS) : Prop :=
  ∀ v, g_M (T mk) kd W H v → g_adj (¬ v3 = 0) u v → (((v / 24 : Nat) : Int) < ny ∨ (((v / 24 : Nat) : Int) = ny ∧ ((v % 24 : Nat) : Int) < nx)) → S (g + 1) v ≠ -1
theorem jI_inj {a b : Nat} (ha : a < 1000) (hb : b < 1000) (h : jI (a : Int) = jI (b : Int)) : a = b := by
  have := (jI_eq (jN a (by omega)) (jN b (by omega))).mp h
  omega
/-- the labels only grow -/
theorem g_J_take {i u x y n : Nat} {S S' : zS} (hJ : g_J g mk c r0 W H T L0 kd v3 i u S) (hc : c < 288) (hG : g_GI g (g_M (T mk) kd W H) (¬ v3 = 0) T L0 c r0 n S) (hG' : g_GI g (g_M (T mk) kd W H) (¬ v3 = 0) T L0 c r0 (n + 1) S') (h1 : S' (g + 1) = upd (S (g + 1)) (24 * y + x) (jI c)) (h7 : S' (g + 7) = upd (S (g + 7)) n (jI (24 * y + x : Nat))) : g_J g mk c r0 W H T L0 kd v3 i u S' := by
  obtain ⟨n', hn', hi, hp, hq⟩ := hJ
  have e : n' = n := hn'.2.2.2.2.2.2.1.trans hG.2.2.2.2.2.2.1.symm
  subst e
  refine ⟨n' + 1, hG', by omega, fun t ht w v hw hv hm ha => ?_, by rw [h7, up_ne (by omega)]; exact hq⟩
  rw [h7, up_ne (by omega)] at hv
  have := hp t ht w v hw hv hm ha
  by_cases hz : v = 24 * y + x
  · rw [h1, hz, up_eq]; exact jc_ne hc
  · rw [h1, up_ne hz]; exact this
theorem m_g70 {post K136 : zS → Prop} {x y i : Nat} {ny : Int} (hc : c < 288) (hTc : T g 6 = jI c) (hTw : T g 8 = jI W) (hTh : T g 9 = jI H) (hW : W ≤ 24) (hH : H ≤ 24) (hmk : mk < g) (hx : x < 24) (hy : y < 24) (hn1 : (y : Int) - 1 ≤ ny) (hn2 : ny ≤ y + 1)
    (hMu : g_M (T mk) kd W H (24 * y + x)) (hcu : g_cn (g_M (T mk) kd W H) (¬ v3 = 0) r0 (24 * y + x)) (S : zS) (hJ : g_J g mk c r0 W H T L0 kd v3 i (24 * y + x) S) (hD : g_D g mk W H T kd v3 (24 * y + x) ny (x - 1) S)
    (hK : ∀ S', g_J g mk c r0 W H T L0 kd v3 i (24 * y + x) S' → g_D g mk W H T kd v3 (24 * y + x) (ny + 1) (x - 1) S' → K136 S') : ∃ k, L_G_gather_70 g mk post K136 kd v3 (jI i) (jI x) (jI y) (jI ny) k (jI (x - 1)) S := by
  have hm : (24 * y + x) % 24 = x := by omega
  have hd : (24 * y + x) / 24 = y := by omega
  have jx : jR (x : Int) := jN x (by omega)
  have jy : jR (y : Int) := jN y (by omega)
  have jny : jR ny := jS (by omega)
  have key := pk_loop (fun k j S => L_G_gather_70 g mk post K136 kd v3 (jI i) (jI x) (jI y) (jI ny) k (jI ((x : Int) - 1 + (j : Nat))) S)
    (fun j S => g_J g mk c r0 W H T L0 kd v3 i (24 * y + x) S ∧ g_D g mk W H T kd v3 (24 * y + x) ny ((x : Int) - 1 + (j : Nat)) S) 3 0 S (by omega) ⟨hJ, by simpa using hD⟩ ?_ ?_
  · obtain ⟨k, hk⟩ := key
    exact ⟨k, by simpa using hk⟩
  · intro k S' hS
    rw [L_G_gather_70]
    have q : jI (x : Int) + 1 < jI ((x : Int) - 1 + (3 : Nat)) := by
      rw [jI_1, jI_add, jI_lt (jS (by omega)) (jS (by omega))]; omega
    refine ⟨fun _ => hK S' hS.1 ?_, fun h => absurd q h⟩
    intro v hv ha hlt
    refine hS.2 v hv ha ?_
    have a1 := ha.1
    have a2 := ha.2.1
    rw [hm] at a1 a2
    omega
  · intro k j S' hj hS ih
    have ih' : ∀ S'', g_J g mk c r0 W H T L0 kd v3 i (24 * y + x) S'' → g_D g mk W H T kd v3 (24 * y + x) ny ((x : Int) - 1 + (j : Nat) + 1) S'' → L_G_gather_70 g mk post K136 kd v3 (jI i) (jI x) (jI y) (jI ny) k (jI ((x : Int) - 1 + (j : Nat)) + 1) S'' := by
      intro S'' h1 h2
      have e1 : (x : Int) - 1 + ((j + 1 : Nat) : Int) = (x : Int) - 1 + (j : Nat) + 1 := by omega
      have := ih S'' ⟨h1, by rw [e1]; exact h2⟩
      rw [e1] at this
      rw [jI_1, jI_add]
      exact this
    generalize hnx : (x : Int) - 1 + (j : Nat) = nx at hS ih' ⊢
    have jnx : jR nx := jS (by omega)
    have hskip : (¬ ((¬ v3 = 0) ∨ nx = x ∨ ny = y) ∨ ¬ g_op g mk S' kd W H nx ny) → L_G_gather_70 g mk post K136 kd v3 (jI i) (jI x) (jI y) (jI ny) k (jI nx + 1) S' := fun hs => by
      refine ih' S' hS.1 (fun v hv ha hlt => ?_)
      by_cases hz : ((v / 24 : Nat) : Int) = ny ∧ ((v % 24 : Nat) : Int) = nx
      · rcases hs with hs | hs
        · refine absurd ?_ hs
          have := ha.2.2.2.2
          rw [hm, hd] at this
          rcases this with q | q | q
          · exact Or.inl q
          · exact Or.inr (Or.inl (by omega))
          · exact Or.inr (Or.inr (by omega))
        · intro hlab
          refine hs ?_
          obtain ⟨m1, m2, m3, m4⟩ := hv
          obtain ⟨n, hG, -⟩ := hS.1
          have e2 : (24 * ny + nx).toNat = v := by omega
          refine ⟨by omega, by omega, by omega, by omega, ?_, ?_⟩
          · rw [e2, hG.1 mk (by omega) (by omega) (by omega) (by omega) (by omega) (by omega)]; exact m4
          · rw [e2]; exact hlab
      · exact hS.2 v hv ha (by omega)
    have hgo : ((¬ v3 = 0) ∨ nx = x ∨ ny = y) → J_G_gather_109 g mk post (L_G_gather_70 g mk post K136 kd v3 (jI i) (jI x) (jI y) (jI ny) k) kd v3 (jI i) (jI x) (jI y) (jI ny) (jI nx) S' := fun hel => by
      unfold J_G_gather_109
      have hSg : S' g = T g := by
        obtain ⟨n, hG, -⟩ := hS.1
        exact hG.1 g (by omega) (by omega) (by omega) (by omega) (by omega) (by omega)
      refine m_isOpen (W := W) (H := H) (by rw [hSg]; exact hTw) (by rw [hSg]; exact hTh) hW hH (by omega) (by omega) (fun ho => ?_) (fun ho => ?_)
      · refine ⟨fun z => absurd z (by decide), fun _ => ?_⟩
        obtain ⟨n, hG, hrest⟩ := id hS.1
        obtain ⟨o1, o2, o3, o4, o5, o6⟩ := ho
        obtain ⟨x', rfl⟩ := Int.eq_ofNat_of_zero_le o1
        obtain ⟨y', rfl⟩ := Int.eq_ofNat_of_zero_le o3
        have e3 : (24 * (y' : Int) + (x' : Int)).toNat = 24 * y' + x' := by omega
        rw [e3] at o5 o6
        have hMv : g_M (T mk) kd W H (24 * y' + x') := ⟨by omega, by omega, by omega, by rw [← hG.1 mk (by omega) (by omega) (by omega) (by omega) (by omega) (by omega)]; exact o5⟩
        have hadj : g_adj (¬ v3 = 0) (24 * y + x) (24 * y' + x') := ⟨by omega, by omega, by omega, by omega, by
          rcases hel with q | q | q
          · exact Or.inl q
          · exact Or.inr (Or.inl (by omega))
          · exact Or.inr (Or.inr (by omega))⟩
        refine m_takeG hG hTc hc (by omega) (by omega) hMv (g_cn_t hcu (g_cn_1 hMu hMv hadj)) o6 (fun S'' hG' h1 h7 => ?_)
        intro x130 e130
        rw [e130]
        refine ih' S'' (g_J_take hS.1 hc hG hG' h1 h7) (fun v hv ha hlt => ?_)
        by_cases hz : v = 24 * y' + x'
        · rw [h1, hz, up_eq]; exact jc_ne hc
        · rw [h1, up_ne hz]
          exact hS.2 v hv ha (by omega)
      · refine ⟨fun _ x130 e130 => ?_, fun z => absurd rfl z⟩
        rw [e130]
        exact hskip (Or.inr ho)
    rw [L_G_gather_70]
    have q : ¬ jI (x : Int) + 1 < jI nx := by
      rw [jI_1, jI_add, jI_lt (jS (by omega)) jnx]; omega
    have h98 : ∀ t0 : Int32, (t0 = 0 → ¬ (nx = x ∨ ny = y)) → (¬ t0 = 0 → nx = x ∨ ny = y) → J_G_gather_98 g mk post (L_G_gather_70 g mk post K136 kd v3 (jI i) (jI x) (jI y) (jI ny) k) kd v3 (jI i) (jI x) (jI y) (jI ny) (jI nx) t0 S' := fun t0 h0 h1 => by
      unfold J_G_gather_98
      refine ⟨fun a => hgo (Or.inr (h1 a)), fun a => ⟨fun b x130 e130 => ?_, fun b => hgo (Or.inl b)⟩⟩
      rw [e130]
      refine hskip (Or.inl (fun z => ?_))
      rcases z with z | z
      · exact z b
      · exact h0 a z
    refine ⟨fun h => absurd h q, fun _ => ⟨fun a => ?_, fun a => ⟨fun b => ?_, fun b => ?_⟩⟩⟩
    · unfold J_G_gather_93
      exact h98 1 (fun z => absurd z (by decide)) (fun _ => Or.inl ((jI_eq jnx jx).mp a))
    · refine h98 0 (fun _ z => ?_) (fun z => absurd rfl z)
      rcases z with z | z
      · exact a (by rw [z])
      · exact b (by rw [z])
    · unfold J_G_gather_93
      exact h98 1 (fun z => absurd z (by decide)) (fun _ => Or.inr ((jI_eq jny jy).mp b))
end YI
