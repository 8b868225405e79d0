section ZI
variable {lo hi : Nat → Nat → Nat} {sq : Nat → Nat} {c a b : Nat}
theorem m_divide {T : zS} {post : Int32 → zS → Prop} {d p bb : Nat} (hc : c ≤ 288) (hbc : b ≤ c) (hab : a ≤ b) (hb24 : ∀ d k, hi d k < 24) (hlh : ∀ d k, lo d k ≤ hi d k) (hq : ∀ x, x < c → T 28 x = jI (sq x : Nat) ∧ sq x < c) (h9 : ∀ k, k < c → T 9 k = jI (hi 0 k : Nat)) (h10 : ∀ k, k < c → T 10 k = jI (hi 1 k : Nat))
    (hbs : bs_ lo hi (ps_ a b sq) d p bb) (e3 : T 27 3 = jI (bb : Nat)) (e5 : T 27 5 = jI (d : Nat)) (hsr : sr_ lo sq a b)
    (h : ∀ S' sq' mid, (∀ i, i ≠ 28 → i ≠ 29 → S' i = T i) → (∀ x, x < c → S' 28 x = jI (sq' x : Nat) ∧ sq' x < c) → pm_ a b sq sq' → a ≤ mid → mid ≤ b → (∀ x, a ≤ x → x < mid → hi d (sq' x) ≤ p) → (∀ x, mid ≤ x → x < b → ¬ hi d (sq' x) ≤ p) → sr_ lo sq' a mid → sr_ lo sq' mid b → post (jI (mid : Nat)) S') : P_R_divide (jI a) (jI b) T post := by
  obtain ⟨⟨hd, ⟨k1, hk1, hk1p⟩, ⟨k2, hk2, hk2b⟩, hpb, hall⟩, -⟩ := id hbs
  have hbb : bb < 24 := by
    have := hb24 d k2
    have := hlh d k2
    omega
  have hside : ∀ k, ps_ a b sq k → (bb ≤ hi d k ↔ ¬ hi d k ≤ p) := fun k hk => by
    have := hall k hk
    have := hlh d k
    omega
  have key : ∀ la, la ≠ 28 → la ≠ 29 → (∀ k, k < c → T la k = jI (hi d k : Nat)) → J_R_divide_18 la post (jI a) (jI b) T := fun la l1 l2 hla => by
    unfold J_R_divide_18
    refine lq3 (A := Nat) (B := Nat) (C := Nat) (fun n kp mv i S => L_R_divide_29 la post _ (jI b) n (jI kp) (jI mv) (jI i) S)
      (fun kp mv i S => a ≤ kp ∧ kp + mv = i ∧ i ≤ b ∧ (∀ j, j ≠ 28 → j ≠ 29 → S j = T j) ∧ ∃ s bh : Nat → Nat, (∀ x, x < c → S 28 x = jI (s x : Nat) ∧ s x < c) ∧ (∀ x, x < mv → S 29 x = jI (bh x : Nat) ∧ bh x < c) ∧ (∀ x, a ≤ x → x < kp → ∃ t, a ≤ t ∧ t < i ∧ s x = sq t ∧ hi d (sq t) ≤ p) ∧ (∀ x, x < mv → ∃ t, a ≤ t ∧ t < i ∧ bh x = sq t ∧ ¬ hi d (sq t) ≤ p) ∧
        (∀ t, a ≤ t → t < i → (hi d (sq t) ≤ p → ∃ x, a ≤ x ∧ x < kp ∧ s x = sq t) ∧ (¬ hi d (sq t) ≤ p → ∃ x, x < mv ∧ bh x = sq t)) ∧ sr_ lo s a kp ∧ sr_ lo bh 0 mv ∧ (∀ x, x < a ∨ i ≤ x → s x = sq x))
      (fun _ _ i _ => b - i) ?_ a 0 a T ⟨by omega, by omega, hab, fun _ _ _ => rfl, sq, fun _ => 0, hq, fun x hx => absurd hx (by omega), fun x h1 h2 => absurd h1 (by omega), fun x hx => absurd hx (by omega), fun t h1 h2 => absurd h1 (by omega), fun x y h1 h2 h3 => absurd h1 (by omega), fun x y h1 h2 h3 => absurd h3 (by omega), fun x _ => rfl⟩
    rintro n kp mv i S ⟨i1, i2, i3, fr, s, bh, q1, q2, q3, q4, q5, q6, q7, q8⟩ ih
    rw [L_R_divide_29, jn_le (by omega) (by omega)]
    refine ⟨fun hz => ?_, fun hz => ?_⟩
    · have ei : i = b := by omega
      subst ei
      refine ⟨⟨by decide, ?_, ?_, ?_, ?_⟩, fun S102 e102 => ?_⟩
      · rw [jn0, jn_lt (by omega) (by omega)]; omega
      · rw [jn0, jn_lt (by omega) (by omega)]; omega
      · rw [jn_ix (by omega)]
        show 0 + mv ≤ 288
        omega
      · rw [jn_ix (by omega), jn_ix (by omega)]; omega
      · rw [jn_ix (by omega), jn_ix (by omega)] at e102
        have e28 : ∀ x, S102 28 x = if kp ≤ x ∧ x < kp + mv then S 29 (x - kp) else S 28 x := fun x => by
          rw [e102]
          unfold z_sc
          rw [if_pos rfl]
          unfold va_cpy
          by_cases hx : kp ≤ x ∧ x < kp + mv
          · rw [if_pos hx, if_pos (by omega)]
            congr 1
            show z_ix 0 + (x - kp) = x - kp
            have : z_ix 0 = 0 := rfl
            omega
          · rw [if_neg hx, if_neg (by omega)]
        refine h S102 (fun x => if kp ≤ x ∧ x < kp + mv then bh (x - kp) else s x) kp (fun j j1 j2 => ?_) (fun x hx => ?_) ⟨fun x hx => ?_, fun v => ⟨?_, ?_⟩⟩ i1 (by omega) (fun x x1 x2 => ?_) (fun x x1 x2 => ?_) (fun x y x1 x2 x3 => ?_) (fun x y x1 x2 x3 => ?_)
        · rw [e102]
          unfold z_sc
          rw [if_neg j1]
          exact fr j j1 j2
        · rw [e28]
          by_cases hz2 : kp ≤ x ∧ x < kp + mv
          · rw [if_pos hz2]
            show S 29 (x - kp) = jI ((if kp ≤ x ∧ x < kp + mv then bh (x - kp) else s x : Nat) : Int) ∧ (if kp ≤ x ∧ x < kp + mv then bh (x - kp) else s x) < c
            rw [if_pos hz2]
            exact q2 (x - kp) (by omega)
          · rw [if_neg hz2]
            show S 28 x = jI ((if kp ≤ x ∧ x < kp + mv then bh (x - kp) else s x : Nat) : Int) ∧ (if kp ≤ x ∧ x < kp + mv then bh (x - kp) else s x) < c
            rw [if_neg hz2]
            exact q1 x hx
        · show (if kp ≤ x ∧ x < kp + mv then bh (x - kp) else s x) = sq x
          rw [if_neg (by omega)]
          exact q8 x (by omega)
        · rintro ⟨x, x1, x2, x3⟩
          have x3' : (if kp ≤ x ∧ x < kp + mv then bh (x - kp) else s x) = v := x3
          by_cases hz2 : kp ≤ x ∧ x < kp + mv
          · rw [if_pos hz2] at x3'
            obtain ⟨t, t1, t2, t3, t4⟩ := q4 (x - kp) (by omega)
            exact ⟨t, t1, t2, by rw [← t3]; exact x3'⟩
          · rw [if_neg hz2] at x3'
            obtain ⟨t, t1, t2, t3, t4⟩ := q3 x x1 (by omega)
            exact ⟨t, t1, t2, by rw [← t3]; exact x3'⟩
        · rintro ⟨t, t1, t2, t3⟩
          by_cases hlow : hi d (sq t) ≤ p
          · obtain ⟨x, x1, x2, x3⟩ := (q5 t t1 t2).1 hlow
            refine ⟨x, x1, by omega, ?_⟩
            show (if kp ≤ x ∧ x < kp + mv then bh (x - kp) else s x) = v
            rw [if_neg (by omega), x3]; exact t3
          · obtain ⟨x, x1, x2⟩ := (q5 t t1 t2).2 hlow
            refine ⟨kp + x, by omega, by omega, ?_⟩
            show (if kp ≤ kp + x ∧ kp + x < kp + mv then bh (kp + x - kp) else s (kp + x)) = v
            rw [if_pos (by omega), show kp + x - kp = x by omega, x2]; exact t3
        · show hi d (if kp ≤ x ∧ x < kp + mv then bh (x - kp) else s x) ≤ p
          rw [if_neg (by omega)]
          obtain ⟨t, t1, t2, t3, t4⟩ := q3 x x1 x2
          rw [t3]; exact t4
        · show ¬ hi d (if kp ≤ x ∧ x < kp + mv then bh (x - kp) else s x) ≤ p
          rw [if_pos (by omega)]
          obtain ⟨t, t1, t2, t3, t4⟩ := q4 (x - kp) (by omega)
          rw [t3]; exact t4
        · show bf_ lo (if kp ≤ x ∧ x < kp + mv then bh (x - kp) else s x) (if kp ≤ y ∧ y < kp + mv then bh (y - kp) else s y)
          rw [if_neg (by omega), if_neg (by omega)]
          exact q6 x y x1 x2 x3
        · show bf_ lo (if kp ≤ x ∧ x < kp + mv then bh (x - kp) else s x) (if kp ≤ y ∧ y < kp + mv then bh (y - kp) else s y)
          rw [if_pos (by omega), if_pos (by omega)]
          exact q7 (x - kp) (y - kp) (by omega) (by omega) (by omega)
    · have hsi : s i = sq i := q8 i (Or.inr (Nat.le_refl i))
      have hqi := hq i (by omega)
      have hqs := q1 i (by omega)
      have hPi : ps_ a b sq (sq i) := ⟨i, by omega, by omega, rfl⟩
      have hb := hb24 d (sq i)
      rw [jn_in (by omega), jn_ix (by omega), hqs.1, hsi]
      refine ⟨by omega, fun x42 e42 => ?_⟩
      subst e42
      rw [jn_in (by omega), jn_ix (by omega), fr 27 (by omega) (by omega), e3, fr la l1 l2, hla _ hqi.2, jn_le (by omega) (by omega), hside _ hPi]
      refine ⟨by omega, fun hhi => ?_, fun hlow' => ?_⟩
      · rw [jn_in (by omega), jn_ix (by omega)]
        refine ⟨by omega, fun S79 e79 x80 e80 x83 e83 => ?_⟩
        rw [e80, e83, jn1, jn1]
        refine ih kp (mv + 1) (i + 1) S79 ⟨i1, by omega, by omega, fun j j1 j2 => by rw [e79, su_ne j2]; exact fr j j1 j2, s, fun x => if x = mv then sq i else bh x, fun x hx => by rw [e79, su_ne (by omega)]; exact q1 x hx, fun x hx => ?_, fun x x1 x2 => ?_, fun x hx => ?_, fun t t1 t2 => ⟨fun z => ?_, fun z => ?_⟩, q6, fun x y x1 x2 x3 => ?_, fun x hx => q8 x (by omega)⟩ (by omega)
        · rw [e79, su_eq]
          by_cases hxm : x = mv
          · subst hxm
            rw [up_eq]
            show jI ((sq i : Nat) : Int) = jI ((if x = x then sq i else bh x : Nat) : Int) ∧ (if x = x then sq i else bh x) < c
            rw [if_pos rfl]
            exact ⟨rfl, hqi.2⟩
          · rw [up_ne hxm]
            simp only [hxm, if_false]
            exact q2 x (by omega)
        · obtain ⟨t, t1, t2, t3⟩ := q3 x x1 x2
          exact ⟨t, t1, by omega, t3⟩
        · by_cases hxm : x = mv
          · simp only [hxm, if_true]
            exact ⟨i, by omega, by omega, rfl, hhi⟩
          · simp only [hxm, if_false]
            obtain ⟨t, t1, t2, t3⟩ := q4 x (by omega)
            exact ⟨t, t1, by omega, t3⟩
        · by_cases hti : t = i
          · subst hti; exact absurd z hhi
          · exact (q5 t t1 (by omega)).1 z
        · by_cases hti : t = i
          · subst hti; exact ⟨mv, by omega, by simp⟩
          · obtain ⟨x, x1, x2⟩ := (q5 t t1 (by omega)).2 z
            exact ⟨x, by omega, by show (if x = mv then sq i else bh x) = sq t; rw [if_neg (by omega)]; exact x2⟩
        · show bf_ lo (if x = mv then sq i else bh x) (if y = mv then sq i else bh y)
          rw [if_neg (by omega)]
          by_cases hym : y = mv
          · rw [if_pos hym]
            obtain ⟨t, t1, t2, t3, t4⟩ := q4 x (by omega)
            rw [t3]
            exact hsr t i t1 t2 (by omega)
          · rw [if_neg hym]
            exact q7 x y x1 x2 (by omega)
      · have hlow : hi d (sq i) ≤ p := Classical.not_not.mp hlow'
        rw [jn_in (by omega), jn_ix (by omega)]
        refine ⟨by omega, fun S64 e64 x65 e65 x83 e83 => ?_⟩
        rw [e65, e83, jn1, jn1]
        refine ih (kp + 1) mv (i + 1) S64 ⟨by omega, by omega, by omega, fun j j1 j2 => by rw [e64, su_ne j1]; exact fr j j1 j2, fun x => if x = kp then sq i else s x, bh, fun x hx => ?_, fun x hx => by rw [e64, su_ne (by omega)]; exact q2 x hx, fun x x1 x2 => ?_, fun x hx => ?_, fun t t1 t2 => ⟨fun z => ?_, fun z => ?_⟩, fun x y x1 x2 x3 => ?_, q7, fun x hx => ?_⟩ (by omega)
        · rw [e64, su_eq]
          by_cases hxm : x = kp
          · subst hxm
            rw [up_eq]
            show jI ((sq i : Nat) : Int) = jI ((if x = x then sq i else s x : Nat) : Int) ∧ (if x = x then sq i else s x) < c
            rw [if_pos rfl]
            exact ⟨rfl, hqi.2⟩
          · rw [up_ne hxm]
            simp only [hxm, if_false]
            exact q1 x hx
        · by_cases hxm : x = kp
          · simp only [hxm, if_true]
            exact ⟨i, by omega, by omega, rfl, hlow⟩
          · simp only [hxm, if_false]
            obtain ⟨t, t1, t2, t3⟩ := q3 x x1 (by omega)
            exact ⟨t, t1, by omega, t3⟩
        · obtain ⟨t, t1, t2, t3⟩ := q4 x hx
          exact ⟨t, t1, by omega, t3⟩
        · by_cases hti : t = i
          · subst hti; exact ⟨kp, i1, by omega, by simp⟩
          · obtain ⟨x, x1, x2, x3⟩ := (q5 t t1 (by omega)).1 z
            exact ⟨x, x1, by omega, by show (if x = kp then sq i else s x) = sq t; rw [if_neg (by omega)]; exact x3⟩
        · by_cases hti : t = i
          · subst hti; exact absurd hlow z
          · exact (q5 t t1 (by omega)).2 z
        · show bf_ lo (if x = kp then sq i else s x) (if y = kp then sq i else s y)
          rw [if_neg (by omega)]
          by_cases hym : y = kp
          · rw [if_pos hym]
            obtain ⟨t, t1, t2, t3, t4⟩ := q3 x x1 (by omega)
            rw [t3]
            exact hsr t i t1 t2 (by omega)
          · rw [if_neg hym]
            exact q6 x y x1 x2 (by omega)
        · show (if x = kp then sq i else s x) = sq x
          rw [if_neg (by omega)]
          exact q8 x (by omega)
  unfold P_R_divide
  rw [e5, jn0, jn_eq (by omega) (by omega)]
  refine ⟨fun z => ?_, fun z => ?_⟩
  · subst z
    exact key 9 (by omega) (by omega) h9
  · have : d = 1 := by omega
    subst this
    exact key 10 (by omega) (by omega) h10
end ZI
