theorem m_fill {fb : Nat} {v1 : Int32} {S : zS} {post : zS → Prop} (h : post (z_sf S fb 576 v1)) : P_A_fill fb v1 S post := by
  unfold P_A_fill
  refine pk_loop (fun n i S' => L_A_fill_5 fb post v1 576 n (jI i) S') (fun i S' => S' = z_sf S fb i v1) 576 0 S (by omega) ?_ ?_ ?_
  · funext a
    by_cases ha : a = fb
    · subst ha; simp [z_sf]
    · simp [z_sf, ha]
  · intro n S' hS
    rw [L_A_fill_5]
    refine ⟨fun _ => by rw [hS]; exact h, fun hn => absurd ?_ hn⟩
    decide
  · intro n i S' hi hS ih
    have hr : jR (i : Int) := ⟨by omega, by omega⟩
    rw [L_A_fill_5]
    refine ⟨fun hc => absurd hc ?_, fun _ => ⟨?_, fun S1 e1 x hx => ?_⟩⟩
    · rw [jI_576, jI_le ⟨by omega, by omega⟩ hr]; omega
    · rw [jI_in hr]; omega
    · rw [hx, jI_1, jI_add]
      refine ih S1 ?_
      rw [e1, hS, jI_ix hr]
      funext a j
      by_cases ha : a = fb
      · subst ha
        by_cases hj : j = i
        · subst hj; simp [z_su, z_sf, upd]
        · by_cases h2 : j < i
          · simp [z_su, z_sf, upd, hj, h2, Nat.lt_succ_of_lt h2]
          · have h3 : ¬ j < i + 1 := by omega
            simp [z_su, z_sf, upd, hj, h2, h3]
      · simp [z_su, z_sf, ha]
