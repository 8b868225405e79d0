section YJ
variable {g mk c r0 W H : Nat} {T : zS} {L0 : Nat → Int32} {kd v3 : Int32}
theorem m_g55 {post K142 : zS → Prop} {x y i : Nat} (hc : c < 288) (hTc : T g 6 = jI c) (hTw : T g 8 = jI W) (hTh : T g 9 = jI H) (hW : W ≤ 24) (hH : H ≤ 24) (hmk : mk < g) (hx : x < 24) (hy : y < 24)
    (hMu : g_M (T mk) kd W H (24 * y + x)) (hcu : g_cn (g_M (T mk) kd W H) (¬ v3 = 0) r0 (24 * y + x)) (S : zS) (hJ : g_J g mk c r0 W H T L0 kd v3 i (24 * y + x) S)
    (hK : ∀ S', g_J g mk c r0 W H T L0 kd v3 i (24 * y + x) S' → (∀ v, g_M (T mk) kd W H v → g_adj (¬ v3 = 0) (24 * y + x) v → S' (g + 1) v ≠ -1) → K142 S') : ∃ k, L_G_gather_55 g mk post K142 kd v3 (jI i) (jI x) (jI y) k (jI (y - 1)) S := by
  have hm : (24 * y + x) % 24 = x := by omega
  have hd : (24 * y + x) / 24 = y := by omega
  have key := pk_loop (fun k j S => L_G_gather_55 g mk post K142 kd v3 (jI i) (jI x) (jI y) k (jI ((y : Int) - 1 + (j : Nat))) S)
    (fun j S => g_J g mk c r0 W H T L0 kd v3 i (24 * y + x) S ∧ g_D g mk W H T kd v3 (24 * y + x) ((y : Int) - 1 + (j : Nat)) ((x : Int) - 1) S) 3 0 S (by omega) ⟨hJ, ?_⟩ ?_ ?_
  · obtain ⟨k, hk⟩ := key
    exact ⟨k, by simpa using hk⟩
  · intro v hv ha hlt
    have a1 := ha.1
    have a3 := ha.2.2.1
    rw [hm] at a1
    rw [hd] at a3
    omega
  · intro k S' hS
    rw [L_G_gather_55]
    have q : jI (y : Int) + 1 < jI ((y : Int) - 1 + (3 : Nat)) := by
      rw [jI_1, jI_add, jI_lt (jS (by omega)) (jS (by omega))]; omega
    refine ⟨fun _ => hK S' hS.1 (fun v hv ha => hS.2 v hv ha ?_), fun h => absurd q h⟩
    have a4 := ha.2.2.2.1
    rw [hd] at a4
    omega
  · intro k j S' hj hS ih
    rw [L_G_gather_55]
    have q : ¬ jI (y : Int) + 1 < jI ((y : Int) - 1 + (j : Nat)) := by
      rw [jI_1, jI_add, jI_lt (jS (by omega)) (jS (by omega))]; omega
    refine ⟨fun h => absurd h q, fun _ x68 e68 => ?_⟩
    rw [e68, jI_1, jI_sub]
    refine m_g70 hc hTc hTw hTh hW hH hmk hx hy (by omega) (by omega) hMu hcu S' hS.1 hS.2 (fun S'' h1 h2 => ?_)
    intro x136 e136
    rw [e136, jI_add]
    have e1 : (y : Int) - 1 + (j : Nat) + 1 = (y : Int) - 1 + ((j + 1 : Nat) : Int) := by omega
    rw [e1]
    exact ih S'' ⟨h1, by rw [← e1]; exact h2⟩
theorem m_gather {post : zS → Prop} {n0 : Nat} (hc : c < 288) (hTc : T g 6 = jI c) (hTw : T g 8 = jI W) (hTh : T g 9 = jI H) (hW : W ≤ 24) (hH : H ≤ 24) (hmk : mk < g) (hfresh : ∀ u, u < 576 → L0 u ≠ jI c)
    (S : zS) (hG : g_GI g (g_M (T mk) kd W H) (¬ v3 = 0) T L0 c r0 n0 S)
    (h : ∀ S' n, g_GI g (g_M (T mk) kd W H) (¬ v3 = 0) T L0 c r0 n S' → (∀ u v, u < 576 → S' (g + 1) u = jI c → g_M (T mk) kd W H v → g_adj (¬ v3 = 0) u v → S' (g + 1) v ≠ -1) → post S') : P_G_gather g mk kd v3 S post := by
  unfold P_G_gather
  have key := pk_loop (fun k j S => L_G_gather_3 g mk post kd v3 k (jI (j : Nat)) S)
    (fun j S => ∃ n, g_GI g (g_M (T mk) kd W H) (¬ v3 = 0) T L0 c r0 n S ∧ j ≤ n ∧ (∀ t, t < j → ∀ w v, w < 576 → S (g + 7) t = jI (w : Nat) → g_M (T mk) kd W H v → g_adj (¬ v3 = 0) w v → S (g + 1) v ≠ -1)) 576 0 S (by omega) ⟨n0, hG, by omega, fun t ht => absurd ht (Nat.not_lt_zero t)⟩ ?_ ?_
  · exact key
  · rintro k S' ⟨n, hG', hjn, hp⟩
    have hn : n ≤ 576 := by rw [hG'.2.2.2.2.2.2.1]; exact ctn_le _ _
    rw [L_G_gather_3]
    refine ⟨fun _ => h S' n hG' (fun u v hu5 hu hv ha => ?_), fun z => absurd (by decide) z⟩
    obtain ⟨t, ht, hq⟩ := hG'.2.2.2.2.2.1 u hu5 hu
    exact hp t (by omega) u v hu5 hq hv ha
  · rintro k j S' hj ⟨n, hG', hjn, hp⟩ ih
    have jc : jR (c : Int) := jN c (by omega)
    have jj : jR (j : Int) := jN j (by omega)
    have hn : n ≤ 576 := by rw [hG'.2.2.2.2.2.2.1]; exact ctn_le _ _
    have jn : jR (n : Int) := jN n (by omega)
    have hSg : S' g = T g := hG'.1 g (by omega) (by omega) (by omega) (by omega) (by omega) (by omega)
    have ic : z_ix (jI (c : Int)) = c := by rw [jI_ix jc]; omega
    have ij : z_ix (jI (j : Int)) = j := by rw [jI_ix jj]; omega
    rw [L_G_gather_3]
    have q : ¬ (576 : Int32) ≤ jI (j : Int) := by rw [jI_576, jI_le (jS (by omega)) jj]; omega
    refine ⟨fun z => absurd z q, fun _ => ?_⟩
    rw [hSg, hTc, ic, hG'.2.2.1, ij, jI_le jn jj, jI_in jc, jI_in jj]
    refine ⟨by omega, fun z => h S' n hG' (fun u v hu5 hu hv ha => ?_), fun z => ?_⟩
    · obtain ⟨t, ht, hq⟩ := hG'.2.2.2.2.2.1 u hu5 hu
      exact hp t (by omega) u v hu5 hq hv ha
    · obtain ⟨u, hu5, huq, hul⟩ := hG'.2.2.2.2.1 j (by omega)
      have ju : jR (u : Int) := jN u (by omega)
      rw [huq]
      refine ⟨by omega, fun x35 e35 => ⟨by omega, fun x47 e47 x53 e53 => ?_⟩⟩
      have e47' : x47 = jI ((u / 24 : Nat) : Int) := by
        rw [e47, jI_24, jI_div (by omega) (by omega)]
        congr 1
      have e35' : x35 = jI ((u % 24 : Nat) : Int) := by
        rw [e35, jI_24, jI_div (by omega) (by omega), jI_mul, jI_sub]
        congr 1
        omega
      have eu : 24 * (u / 24) + u % 24 = u := by omega
      have hM : g_M (T mk) kd W H u ∧ g_cn (g_M (T mk) kd W H) (¬ v3 = 0) r0 u := by
        rcases hG'.2.2.2.1 u with q | q
        · exact absurd (q.symm.trans hul) (hfresh u hu5)
        · exact q.2.2
      rw [e53, e47', e35', jI_1, jI_sub]
      refine m_g55 (x := u % 24) (y := u / 24) hc hTc hTw hTh hW hH hmk (by omega) (by omega) (by rw [eu]; exact hM.1) (by rw [eu]; exact hM.2) S' ⟨n, hG', by omega, hp, by rw [eu]; exact huq⟩ (fun S'' h1 h2 => ?_)
      intro x142 e142
      rw [e142, jI_add]
      obtain ⟨n', hG'', hi, hp', hq'⟩ := h1
      refine ih S'' ⟨n', hG'', by omega, fun t ht w v hw hv hm ha => ?_⟩
      by_cases htj : t = j
      · subst htj
        have ew : w = u := jI_inj (by omega) (by omega) (by rw [← hv, hq', eu])
        subst ew
        rw [eu] at h2
        exact h2 v hm ha
      · exact hp' t (by omega) w v hw hv hm ha
end YJ
