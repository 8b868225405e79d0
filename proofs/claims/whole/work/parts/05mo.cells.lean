section ZC
/-- no sample of group k lies at the edge -/
def cd_ (L : Nat → Int32) (W H k : Nat) : Prop := ∀ u, u < 576 → u % 24 < W → u / 24 < H → L u = jI k → ¬ (u % 24 = 0 ∨ u / 24 = 0 ∨ u % 24 + 1 = W ∨ u / 24 + 1 = H)
theorem cd_iff {L : Nat → Int32} {W H k lf tp rt bt : Nat} (hb : g_BX L k 576 lf tp rt bt) (hp : ∀ u, u < 576 → L u = jI k → u % 24 < W ∧ u / 24 < H) : cd_ L W H k ↔ 0 < lf ∧ 0 < tp ∧ rt + 1 < W ∧ bt + 1 < H := by
  obtain ⟨h0, ⟨u1, -, q1, r1, s1⟩, ⟨u2, -, q2, r2, s2⟩, ⟨u3, -, q3, r3, s3⟩, ⟨u4, -, q4, r4, s4⟩⟩ := hb
  constructor
  · intro h
    have p1 := hp u1 q1 r1
    have p2 := hp u2 q2 r2
    have p3 := hp u3 q3 r3
    have p4 := hp u4 q4 r4
    have a1 := h u1 q1 p1.1 p1.2 r1
    have a2 := h u2 q2 p2.1 p2.2 r2
    have a3 := h u3 q3 p3.1 p3.2 r3
    have a4 := h u4 q4 p4.1 p4.2 r4
    omega
  · intro h u hu _ _ hl
    have := h0 u hu hu hl
    omega
theorem cP_k {p : Nat → Prop} {i k : Nat} (hi : p i) (hik : i < k) : cP p i < cP p k := by
  have h1 := cP_mono (p := p) (a := i + 1) (b := k) (by omega)
  rw [cP_y hi] at h1
  omega
variable {W H c : Nat} {L : Nat → Int32} {co : Prop} {r : Nat → Nat}
theorem m_dropAtEdge {g : Nat} {T : zS} {post : zS → Prop} (hW0 : 1 ≤ W) (hH0 : 1 ≤ H) (hW : W ≤ 24) (hH : H ≤ 24) (e6 : T g 6 = jI c) (e8 : T g 8 = jI W) (e9 : T g 9 = jI H) (hc : c ≤ 288) (hp : ∀ u k, k < c → u < 576 → L u = jI k → u % 24 < W ∧ u / 24 < H)
    (hB : ∀ k, k < c → ∃ lf tp rt bt : Nat, lf < 24 ∧ tp < 24 ∧ rt < 24 ∧ bt < 24 ∧ T (g + 2) k = jI lf ∧ T (g + 3) k = jI tp ∧ T (g + 4) k = jI rt ∧ T (g + 5) k = jI bt ∧ g_BX L k 576 lf tp rt bt)
    (h : ∀ S', (∀ a, a < g ∨ a = g + 1 ∨ g + 7 ≤ a → S' a = T a) → (∀ j, j ≠ 6 → S' g j = T g j) → S' g 6 = jI (cP (cd_ L W H) c : Nat) → (∀ k, k < c → cd_ L W H k → S' (g + 2) (cP (cd_ L W H) k) = T (g + 2) k ∧ S' (g + 3) (cP (cd_ L W H) k) = T (g + 3) k ∧ S' (g + 4) (cP (cd_ L W H) k) = T (g + 4) k ∧ S' (g + 5) (cP (cd_ L W H) k) = T (g + 5) k ∧ S' (g + 6) (cP (cd_ L W H) k) = T (g + 6) k) → post S') : P_G_dropAtEdge g T post := by
  unfold P_G_dropAtEdge
  refine lq2 (A := Nat) (B := Nat) (fun n kp k S => L_G_dropAtEdge_4 g post _ n (jI kp) (jI k) S)
    (fun kp k S => k ≤ c ∧ kp = cP (cd_ L W H) k ∧ (∀ a, a ≤ g ∨ a = g + 1 ∨ g + 7 ≤ a → S a = T a) ∧ (∀ i, k ≤ i → S (g + 2) i = T (g + 2) i ∧ S (g + 3) i = T (g + 3) i ∧ S (g + 4) i = T (g + 4) i ∧ S (g + 5) i = T (g + 5) i ∧ S (g + 6) i = T (g + 6) i) ∧
      ∀ i, i < k → cd_ L W H i → S (g + 2) (cP (cd_ L W H) i) = T (g + 2) i ∧ S (g + 3) (cP (cd_ L W H) i) = T (g + 3) i ∧ S (g + 4) (cP (cd_ L W H) i) = T (g + 4) i ∧ S (g + 5) (cP (cd_ L W H) i) = T (g + 5) i ∧ S (g + 6) (cP (cd_ L W H) i) = T (g + 6) i)
    (fun _ k _ => c - k) ?_ 0 0 T ⟨by omega, rfl, fun _ _ => rfl, fun _ _ => ⟨rfl, rfl, rfl, rfl, rfl⟩, fun i hi => absurd hi (by omega)⟩
  rintro n kp k S ⟨hk, hkp, fr, hge, hlt⟩ ih
  have hkpk := cP_le (cd_ L W H) k
  rw [L_G_dropAtEdge_4, fr g (by omega), e6, e8, e9, jn_le (by omega) (by omega)]
  refine ⟨fun hz S131 e131 => ?_, fun hz => ?_⟩
  · have ek : k = c := by omega
    subst ek
    refine h S131 (fun a ha => by rw [e131, su_ne (by omega)]; exact fr a (by omega)) (fun j hj => by rw [e131, su_eq, up_ne hj, fr g (by omega)]) (by rw [e131, su_eq, up_eq, hkp]) (fun i hi hci => ?_)
    rw [e131, su_ne (by omega), su_ne (by omega), su_ne (by omega), su_ne (by omega), su_ne (by omega)]
    exact hlt i hi hci
  · obtain ⟨lf, tp, rt, bt, b1, b2, b3, b4, b5, b6, b7, b8, b9⟩ := hB k (by omega)
    obtain ⟨g2, g3, g4, g5, g6⟩ := hge k (by omega)
    have hcd := cd_iff b9 (fun u hu hl => hp u k (by omega) hu hl)
    have skip : ¬ cd_ L W H k → ∀ x123 : Int32, x123 = jI k + 1 → L_G_dropAtEdge_4 g post (fun v1_4e S4e => ∀ S131 : zS, S131 = z_su S4e g 6 v1_4e → post S131) n (jI kp) x123 S := fun hn x123 e123 => by
      rw [e123, jn1]
      refine ih kp (k + 1) S ⟨by omega, by rw [cP_n hn]; exact hkp, fr, fun i hi => hge i (by omega), fun i hi hci => ?_⟩ (by omega)
      by_cases hik : i = k
      · subst hik; exact absurd hci hn
      · exact hlt i (by omega) hci
    have w1 : jI (W : Int) - 1 = jI ((W - 1 : Nat) : Int) := by rw [jk1, jsn hW0]
    have h1 : jI (H : Int) - 1 = jI ((H - 1 : Nat) : Int) := by rw [jk1, jsn hH0]
    rw [jn_in (by omega), jn_ix (by omega), g2, g3, g4, g5, b5, b6, b7, b8, w1, h1, jn0, jn_le (by omega) (by omega), jn_le (by omega) (by omega), jn_le (by omega) (by omega), jn_le (by omega) (by omega)]
    refine ⟨by omega, fun a => skip (fun z => by have := hcd.mp z; omega), fun a => ⟨by omega, fun b => skip (fun z => by have := hcd.mp z; omega), fun b => ⟨by omega, fun d => skip (fun z => by have := hcd.mp z; omega), fun d => ⟨by omega, fun e => skip (fun z => by have := hcd.mp z; omega), fun e => ?_⟩⟩⟩⟩
    have hck : cd_ L W H k := hcd.mpr (by omega)
    rw [jn_in (by omega), jn_ix (by omega)]
    refine ⟨by omega, by omega, fun S71 e71 => ?_⟩
    have m3 : S71 (g + 3) k = T (g + 3) k := by rw [e71, su_ne (by omega)]; exact g3
    rw [m3]
    refine ⟨by omega, by omega, fun S83 e83 => ?_⟩
    have m4 : S83 (g + 4) k = T (g + 4) k := by rw [e83, su_ne (by omega), e71, su_ne (by omega)]; exact g4
    rw [m4]
    refine ⟨by omega, by omega, fun S95 e95 => ?_⟩
    have m5 : S95 (g + 5) k = T (g + 5) k := by rw [e95, su_ne (by omega), e83, su_ne (by omega), e71, su_ne (by omega)]; exact g5
    rw [m5]
    refine ⟨by omega, by omega, fun S107 e107 => ?_⟩
    have m6 : S107 (g + 6) k = T (g + 6) k := by rw [e107, su_ne (by omega), e95, su_ne (by omega), e83, su_ne (by omega), e71, su_ne (by omega)]; exact g6
    rw [m6]
    refine ⟨by omega, by omega, fun S119 e119 x120 e120 x123 e123 => ?_⟩
    rw [e120, e123, jn1, jn1]
    have o2 : S119 (g + 2) = upd (S (g + 2)) kp (T (g + 2) k) := by rw [e119, su_ne (by omega), e107, su_ne (by omega), e95, su_ne (by omega), e83, su_ne (by omega), e71, su_eq, b5]
    have o3 : S119 (g + 3) = upd (S (g + 3)) kp (T (g + 3) k) := by rw [e119, su_ne (by omega), e107, su_ne (by omega), e95, su_ne (by omega), e83, su_eq, e71, su_ne (by omega)]
    have o4 : S119 (g + 4) = upd (S (g + 4)) kp (T (g + 4) k) := by rw [e119, su_ne (by omega), e107, su_ne (by omega), e95, su_eq, e83, su_ne (by omega), e71, su_ne (by omega)]
    have o5 : S119 (g + 5) = upd (S (g + 5)) kp (T (g + 5) k) := by rw [e119, su_ne (by omega), e107, su_eq, e95, su_ne (by omega), e83, su_ne (by omega), e71, su_ne (by omega)]
    have o6 : S119 (g + 6) = upd (S (g + 6)) kp (T (g + 6) k) := by rw [e119, su_eq, e107, su_ne (by omega), e95, su_ne (by omega), e83, su_ne (by omega), e71, su_ne (by omega)]
    refine ih (kp + 1) (k + 1) S119 ⟨by omega, by rw [cP_y hck, hkp], fun a ha => ?_, fun i hi => ?_, fun i hi hci => ?_⟩ (by omega)
    · rw [e119, su_ne (by omega), e107, su_ne (by omega), e95, su_ne (by omega), e83, su_ne (by omega), e71, su_ne (by omega)]; exact fr a ha
    · rw [o2, o3, o4, o5, o6, up_ne (by omega), up_ne (by omega), up_ne (by omega), up_ne (by omega), up_ne (by omega)]; exact hge i (by omega)
    · rw [o2, o3, o4, o5, o6]
      by_cases hik : i = k
      · subst hik
        rw [← hkp, up_eq, up_eq, up_eq, up_eq, up_eq]
        exact ⟨rfl, rfl, rfl, rfl, rfl⟩
      · have := cP_k hci (show i < k by omega)
        rw [up_ne (by omega), up_ne (by omega), up_ne (by omega), up_ne (by omega), up_ne (by omega)]
        exact hlt i (by omega) hci
theorem m_isClosed {S : zS} {post : Int32 → zS → Prop} {v1 : Int32} (hW0 : 1 ≤ W) (hH0 : 1 ≤ H) (hW : W ≤ 24) (hH : H ≤ 24) (e1 : S 31 1 = jI W) (e2 : S 31 2 = jI H)
    (h1 : (∀ u, u < 576 → u % 24 < W → u / 24 < H → S 37 u = v1 → ¬ (u % 24 = 0 ∨ u / 24 = 0 ∨ u % 24 + 1 = W ∨ u / 24 + 1 = H)) → post 1 S)
    (h0 : ¬ (∀ u, u < 576 → u % 24 < W → u / 24 < H → S 37 u = v1 → ¬ (u % 24 = 0 ∨ u / 24 = 0 ∨ u % 24 + 1 = W ∨ u / 24 + 1 = H)) → post 0 S) : P_M_isClosed v1 S post := by
  unfold P_M_isClosed
  generalize hQ : (fun p => ∀ u, u < p → u < 576 → u % 24 < W → u / 24 < H → S 37 u = v1 → ¬ (u % 24 = 0 ∨ u / 24 = 0 ∨ u % 24 + 1 = W ∨ u / 24 + 1 = H)) = Q
  have qd : ∀ p, Q p ↔ ∀ u, u < p → u < 576 → u % 24 < W → u / 24 < H → S 37 u = v1 → ¬ (u % 24 = 0 ∨ u / 24 = 0 ∨ u % 24 + 1 = W ∨ u / 24 + 1 = H) := fun p => by rw [← hQ]
  refine lq2 (A := Int32) (B := Nat) (fun n v y S' => L_M_isClosed_4 post v1 n v (jI y) S') (fun v y S' => S' = S ∧ y ≤ H ∧ ((v = 1 ∧ Q (24 * y)) ∨ (v = 0 ∧ ¬ Q (24 * y)))) (fun _ y _ => H - y) ?_ 1 0 S ⟨rfl, by omega, Or.inl ⟨rfl, (qd _).mpr (fun u hu => absurd hu (by omega))⟩⟩
  rintro n v y S' ⟨rfl, hy, hv⟩ ih
  rw [L_M_isClosed_4, e2, jn_le (by omega) (by omega)]
  refine ⟨fun hz => ?_, fun hz => ?_⟩
  · have hQ5 : Q (24 * y) ↔ (∀ u, u < 576 → u % 24 < W → u / 24 < H → S' 37 u = v1 → ¬ (u % 24 = 0 ∨ u / 24 = 0 ∨ u % 24 + 1 = W ∨ u / 24 + 1 = H)) := by
      rw [qd]
      exact ⟨fun z u a1 a2 a3 a4 => z u (by omega) a1 a2 a3 a4, fun z u _ a1 a2 a3 a4 => z u a1 a2 a3 a4⟩
    rcases hv with ⟨rfl, z⟩ | ⟨rfl, z⟩
    · exact ⟨Or.inr rfl, h1 (hQ5.mp z)⟩
    · exact ⟨Or.inl rfl, h0 (fun w => z (hQ5.mpr w))⟩
  · refine lq2 (A := Int32) (B := Nat) (fun n v x S'' => L_M_isClosed_15 post _ v1 (jI y) n v (jI x) S'') (fun v x S'' => S'' = S' ∧ x ≤ W ∧ ((v = 1 ∧ Q (24 * y + x)) ∨ (v = 0 ∧ ¬ Q (24 * y + x)))) (fun _ x _ => W - x) ?_ v 0 S' ⟨rfl, by omega, hv⟩
    rintro n2 v x S'' ⟨rfl, hx, hv⟩ ih2
    rw [L_M_isClosed_15, e1, e2, jn_le (by omega) (by omega)]
    refine ⟨fun hz2 x98 e98 => ?_, fun hz2 => ?_⟩
    · rw [e98, jn1]
      have hQ2 : Q (24 * (y + 1)) ↔ Q (24 * y + x) := by
        rw [qd, qd]
        exact ⟨fun z u a0 a1 a2 a3 a4 => z u (by omega) a1 a2 a3 a4, fun z u a0 a1 a2 a3 a4 => z u (by omega) a1 a2 a3 a4⟩
      refine ih v (y + 1) S'' ⟨rfl, by omega, ?_⟩ (by omega)
      rw [hQ2]
      exact hv
    · have go : ∀ v' : Int32, ((v' = 1 ∧ Q (24 * y + (x + 1))) ∨ (v' = 0 ∧ ¬ Q (24 * y + (x + 1)))) → ∀ x92 : Int32, x92 = jI x + 1 → L_M_isClosed_15 post (fun v2_15e S15e => ∀ x98 : Int32, x98 = jI y + 1 → L_M_isClosed_4 post v1 n v2_15e x98 S15e) v1 (jI y) n2 v' x92 S'' := fun v' hv' x92 e92 => by
        rw [e92, jn1 x]
        exact ih2 v' (x + 1) S'' ⟨rfl, by omega, hv'⟩ (by omega)
      have hQ3 : Q (24 * y + (x + 1)) ↔ Q (24 * y + x) ∧ (S'' 37 (24 * y + x) = v1 → ¬ (x = 0 ∨ y = 0 ∨ x + 1 = W ∨ y + 1 = H)) := by
        rw [qd, qd]
        constructor
        · intro z
          refine ⟨fun u a0 a1 a2 a3 a4 => z u (by omega) a1 a2 a3 a4, fun a4 => ?_⟩
          have := z (24 * y + x) (by omega) (by omega) (by omega) (by omega) a4
          omega
        · rintro ⟨z1, z2⟩ u a0 a1 a2 a3 a4
          by_cases hu : u = 24 * y + x
          · subst hu
            have := z2 a4
            omega
          · exact z1 u (by omega) a1 a2 a3 a4
      have k86 : Q (24 * y + (x + 1)) → J_M_isClosed_86 post (L_M_isClosed_15 post (fun v2_15e S15e => ∀ x98 : Int32, x98 = jI y + 1 → L_M_isClosed_4 post v1 n v2_15e x98 S15e) v1 (jI y) n2) v1 (jI y) (jI x) S'' := fun hq => by
        unfold J_M_isClosed_86
        exact go 1 (Or.inl ⟨rfl, hq⟩)
      have k59 : ∀ t : Int32, (t = 0 ↔ ¬ (x = 0 ∨ y = 0 ∨ x + 1 = W ∨ y + 1 = H)) → J_M_isClosed_59 post (L_M_isClosed_15 post (fun v2_15e S15e => ∀ x98 : Int32, x98 = jI y + 1 → L_M_isClosed_4 post v1 n v2_15e x98 S15e) v1 (jI y) n2) v1 v (jI y) (jI x) t S'' := fun t ht => by
        unfold J_M_isClosed_59
        rw [jat', jn_in (by omega), jn_ix (by omega)]
        refine ⟨fun a => go 0 (Or.inr ⟨rfl, fun z => ?_⟩), fun a => ?_⟩
        · rcases hv with ⟨b, -⟩ | ⟨-, b⟩
          · rw [a] at b; exact absurd b (by decide)
          · exact b (hQ3.mp z).1
        · have hq : Q (24 * y + x) := by
            rcases hv with ⟨-, b⟩ | ⟨b, -⟩
            · exact b
            · exact absurd b a
          refine ⟨fun b => k86 (hQ3.mpr ⟨hq, fun _ => ht.mp b⟩), fun b => ⟨by omega, fun d => go 0 (Or.inr ⟨rfl, fun z => b (ht.mpr ((hQ3.mp z).2 d))⟩), fun d => k86 (hQ3.mpr ⟨hq, fun z => absurd z d⟩)⟩⟩
      have k54 : (x = 0 ∨ y = 0 ∨ x + 1 = W ∨ y + 1 = H) → J_M_isClosed_54 post (L_M_isClosed_15 post (fun v2_15e S15e => ∀ x98 : Int32, x98 = jI y + 1 → L_M_isClosed_4 post v1 n v2_15e x98 S15e) v1 (jI y) n2) v1 v (jI y) (jI x) S'' := fun hh => by
        unfold J_M_isClosed_54
        exact k59 1 ⟨fun z => absurd z (by decide), fun z => absurd hh z⟩
      have w1 : jI (W : Int) - 1 = jI ((W - 1 : Nat) : Int) := by rw [jk1, jsn hW0]
      have h1' : jI (H : Int) - 1 = jI ((H - 1 : Nat) : Int) := by rw [jk1, jsn hH0]
      rw [w1, h1', jn0, jn_eq (by omega) (by omega), jn_eq (by omega) (by omega), jn_eq (by omega) (by omega), jn_eq (by omega) (by omega)]
      exact ⟨fun a => k54 (by omega), fun a => ⟨fun b => k54 (by omega), fun b => ⟨fun d => k54 (by omega), fun d => ⟨fun e => k59 _ ⟨fun _ => by omega, fun _ => rfl⟩, fun e => k54 (by omega)⟩⟩⟩⟩
end ZC
