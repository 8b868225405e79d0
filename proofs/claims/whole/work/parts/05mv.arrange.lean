section ZK
variable {lo hi : Nat → Nat → Nat} {c : Nat}
/-- the reader's stretches: one from a on, the ends of the others on a stack -/
def ag_ (lo hi : Nat → Nat → Nat) (LT : Nat → Nat → Prop) (c : Nat) (sq e : Nat → Nat) (a q : Nat) : Prop :=
  a ≤ c ∧ (q = 0 → a = c) ∧ (∀ m m', m < m' → m' < q → e m' < e m) ∧ (0 < q → e 0 = c) ∧ (∀ m, m < q → a ≤ e m) ∧ (0 < q → 0 < c → a < e (q - 1)) ∧
  sp_ LT sq c (fun z => z ≤ a ∨ ∃ m, m < q ∧ z = e m) ∧ (∀ m, m + 1 < q → pk_ lo hi LT sq (e (m + 1)) (e m) ∧ sr_ lo sq (e (m + 1)) (e m)) ∧ (0 < q → pk_ lo hi LT sq a (e (q - 1)) ∧ sr_ lo sq a (e (q - 1)))
variable {LT : Nat → Nat → Prop} {sq sq' e : Nat → Nat} {a q r : Nat}
theorem ag_c (h : ag_ lo hi LT c sq e a q) : ∀ m, m < q → e m + m ≤ c := by
  obtain ⟨h1, h2, h3, h4, h5, h6, h7, h8, h9⟩ := h
  intro m
  induction m with
  | zero => intro hm; have := h4 hm; omega
  | succ m ih => intro hm; have := ih (by omega); have := h3 m (m + 1) (by omega) hm; omega
theorem ag_B (h : ag_ lo hi LT c sq e a (r + 1)) : ∀ z, (z ≤ a ∨ ∃ m, m < r + 1 ∧ z = e m) → ¬ (a < z ∧ z < e r) := by
  obtain ⟨h1, h2, h3, h4, h5, h6, h7, h8, h9⟩ := h
  rintro z (hz | ⟨m, hm, rfl⟩)
  · omega
  · rcases Nat.lt_or_ge m r with w | w
    · have := h3 m r w (by omega); omega
    · have : m = r := by omega
      subst this; omega
theorem ag_end (h : ag_ lo hi LT c sq e a (r + 1)) (hno : ∀ d p bb, ¬ gi_ lo hi (ps_ a (e r) sq) d p bb) : ag_ lo hi LT c sq e (e r) r := by
  have hc := ag_c h r (by omega)
  have hB := ag_B h
  obtain ⟨h1, h2, h3, h4, h5, h6, h7, h8, h9⟩ := h
  obtain ⟨k1, k2⟩ := h9 (by omega)
  rw [Nat.add_sub_cancel] at k1 k2
  have hs := sp_end h7 (by omega) hB (Or.inl (Nat.le_refl a)) (Or.inr ⟨r, by omega, rfl⟩) k1 hno (pm_r _ _ _) k2
  refine ⟨by omega, fun hr => ?_, fun m m' a1 a2 => h3 m m' a1 (by omega), fun _ => h4 (by omega), fun m hm => Nat.le_of_lt (h3 m r hm (by omega)), fun h0 _ => h3 (r - 1) r (by omega) (by omega), ?_, fun m hm => h8 m (by omega), fun h0 => ?_⟩
  · subst hr; exact h4 (by omega)
  · rintro x y hxy hy ⟨z, hz, z2, z3⟩
    refine hs x y hxy hy ⟨z, ?_, z2, z3⟩
    rcases hz with hz | ⟨m, hm, hz⟩
    · rcases Nat.lt_or_ge z a with w | w
      · exact Or.inl (Or.inl (by omega))
      · exact Or.inr ⟨w, hz⟩
    · exact Or.inl (Or.inr ⟨m, by omega, hz⟩)
  · have := h8 (r - 1) (by omega)
    rw [show r - 1 + 1 = r by omega] at this
    exact this
theorem ag_div {mid d p bb : Nat} (h : ag_ lo hi LT c sq e a (r + 1)) (hlh : ∀ d k, lo d k ≤ hi d k) (hab : a < e r) (hbs : bs_ lo hi (ps_ a (e r) sq) d p bb) (hpm : pm_ a (e r) sq sq') (hm1 : a ≤ mid) (hm2 : mid ≤ e r) (hl : ∀ x, a ≤ x → x < mid → hi d (sq' x) ≤ p) (hh : ∀ x, mid ≤ x → x < e r → ¬ hi d (sq' x) ≤ p) (s1 : sr_ lo sq' a mid) (s2 : sr_ lo sq' mid (e r)) :
    ag_ lo hi LT c sq' (fun m => if m = r + 1 then mid else e m) a (r + 2) := by
  have hc := ag_c h r (by omega)
  have hB := ag_B h
  obtain ⟨h1, h2, h3, h4, h5, h6, h7, h8, h9⟩ := h
  obtain ⟨k1, k2⟩ := h9 (by omega)
  rw [Nat.add_sub_cancel] at k1 k2
  obtain ⟨g1, g2, g3, g4, g5⟩ := sp_div h7 (by omega) hab hB (Or.inl (Nat.le_refl a)) (Or.inr ⟨r, by omega, rfl⟩) k1 hlh hbs hpm hm1 hm2 hl hh
  have ea : ∀ m, m ≤ r → (if m = r + 1 then mid else e m) = e m := fun m hm => if_neg (by omega)
  have eb : (if r + 1 = r + 1 then mid else e (r + 1)) = mid := if_pos rfl
  have hmono : ∀ m, m ≤ r → e r ≤ e m := fun m hm => by
    rcases Nat.lt_or_ge m r with w | w
    · exact Nat.le_of_lt (h3 m r w (by omega))
    · have : m = r := by omega
      subst this; exact Nat.le_refl _
  refine ⟨h1, fun hr => by omega, fun m m' a1 a2 => ?_, fun _ => ?_, fun m hm => ?_, fun _ _ => ?_, ?_, fun m hm => ?_, fun _ => ?_⟩
  · show (if m' = r + 1 then mid else e m') < (if m = r + 1 then mid else e m)
    rw [ea m (by omega)]
    by_cases z : m' = r + 1
    · rw [if_pos z]; have := hmono m (by omega); omega
    · rw [if_neg z]; exact h3 m m' a1 (by omega)
  · show (if 0 = r + 1 then mid else e 0) = c
    rw [ea 0 (by omega)]; exact h4 (by omega)
  · show a ≤ (if m = r + 1 then mid else e m)
    by_cases z : m = r + 1
    · rw [if_pos z]; omega
    · rw [if_neg z]; exact h5 m (by omega)
  · show a < (if r + 2 - 1 = r + 1 then mid else _)
    rw [if_pos (by omega)]; exact g4
  · rintro x y hxy hy ⟨z, hz, z2, z3⟩
    refine g1 x y hxy hy ⟨z, ?_, z2, z3⟩
    rcases hz with hz | ⟨m, hm, hz⟩
    · exact Or.inl (Or.inl hz)
    · by_cases w : m = r + 1
      · have hz2 : z = (if m = r + 1 then mid else e m) := hz
        rw [if_pos w] at hz2; exact Or.inr hz2
      · have hz2 : z = (if m = r + 1 then mid else e m) := hz
        rw [if_neg w] at hz2; exact Or.inl (Or.inr ⟨m, by omega, hz2⟩)
  · show pk_ lo hi LT sq' (if m + 1 = r + 1 then mid else e (m + 1)) (if m = r + 1 then mid else e m) ∧ sr_ lo sq' (if m + 1 = r + 1 then mid else e (m + 1)) (if m = r + 1 then mid else e m)
    rw [ea m (by omega)]
    by_cases w : m = r
    · subst w
      rw [eb]; exact ⟨g3, s2⟩
    · rw [ea (m + 1) (by omega)]
      obtain ⟨p1, p2⟩ := h8 m (by omega)
      have hge := hmono (m + 1) (by omega)
      have hs : ∀ x, e (m + 1) ≤ x → sq' x = sq x := fun x hx => hpm.1 x (by omega)
      refine ⟨pk_c (fun x x1 _ => hs x x1) p1, fun x y x1 x2 x3 => ?_⟩
      rw [hs x x1, hs y (by omega)]
      exact p2 x y x1 x2 x3
  · show pk_ lo hi LT sq' a (if r + 2 - 1 = r + 1 then mid else _) ∧ sr_ lo sq' a (if r + 2 - 1 = r + 1 then mid else _)
    rw [if_pos (by omega)]; exact ⟨g2, s1⟩
/-- a stretch with a gap has two parts -/
theorem gi_2 {b d p bb : Nat} (hlh : ∀ d k, lo d k ≤ hi d k) (h : gi_ lo hi (ps_ a b sq) d p bb) : a + 2 ≤ b := by
  obtain ⟨-, ⟨k1, ⟨x1, p1, p2, p3⟩, q1⟩, ⟨k2, ⟨x2, p4, p5, p6⟩, q2⟩, h3, -⟩ := h
  have hne : x1 ≠ x2 := fun z => by
    subst z
    rw [p3] at p6
    subst p6
    have := hlh d k1
    omega
  omega
theorem jm1 {q : Nat} : jI ((q + 1 : Nat) : Int) + (-1) = jI ((q : Nat) : Int) := by
  rw [jI_m1, jI_add]; congr 1; omega
theorem m_arrange {T : zS} {post : zS → Prop} (hc : c ≤ 288) (hb24 : ∀ d k, hi d k < 24) (hlh : ∀ d k, lo d k ≤ hi d k) (e6 : T 5 6 = jI (c : Nat)) (h7 : ∀ k, k < c → T 7 k = jI (lo 0 k : Nat)) (h8 : ∀ k, k < c → T 8 k = jI (lo 1 k : Nat)) (h9 : ∀ k, k < c → T 9 k = jI (hi 0 k : Nat)) (h10 : ∀ k, k < c → T 10 k = jI (hi 1 k : Nat))
    (h : ∀ (S' : zS) (sq : Nat → Nat), (∀ i, i ≠ 27 → i ≠ 28 → i ≠ 29 → i ≠ 30 → S' i = T i) → (∀ x, x < c → S' 28 x = jI (sq x : Nat) ∧ sq x < c) → (∀ x y, x < y → y < c → lt_ lo hi 300 (fun k => k < c) (sq x) (sq y)) → post S') : P_R_arrange T post := by
  unfold P_R_arrange
  refine m_sortByBoxes (lo := lo) hc (fun d k => Nat.lt_of_le_of_lt (hlh d k) (hb24 d k)) e6 h7 h8 (fun S2 sq f2 hq hsr hsu => ⟨by rw [jn0, jn_in (by omega)]; omega, fun S18 e18 => ?_⟩)
  have ei : z_ix 0 = 0 := rfl
  rw [f2 5 (by omega), e6, ei] at e18
  have f18 : ∀ i, i ≠ 30 → S18 i = S2 i := fun i hi' => by rw [e18, su_ne hi']
  have hps : ps_ 0 c sq = fun k => k < c := by
    funext v
    refine propext ⟨fun ⟨x, x1, x2, x3⟩ => by rw [← x3]; exact (hq x x2).2, fun hv => ?_⟩
    obtain ⟨x, x1, x2⟩ := hsu v hv
    exact ⟨x, by omega, x1, x2⟩
  refine lq3 (A := Nat) (B := Nat) (C := Nat) (fun n a q st S => L_R_arrange_22 post n (jI a) (jI ((q : Int) - 1)) (jI st) S) (fun a q st S => (∀ i, i ≠ 27 → i ≠ 28 → i ≠ 29 → i ≠ 30 → S i = T i) ∧ (0 < q → st + 1 ≤ q + 2 * a) ∧ st ≤ 576 ∧ ∃ sq e : Nat → Nat, (∀ x, x < c → S 28 x = jI (sq x : Nat) ∧ sq x < c) ∧ (∀ m, m < q → S 30 m = jI (e m : Nat)) ∧ ag_ lo hi (lt_ lo hi 300 (fun k => k < c)) c sq e a q) (fun a q st S => if q = 0 then 0 else 600 - st) ?_ 0 1 0 S18 ⟨fun i i1 i2 i3 i4 => by rw [f18 i i4, f2 i i2], fun _ => by omega, by omega, sq, fun _ => c, fun x hx => by rw [f18 28 (by omega)]; exact hq x hx, fun m hm => ?_, by omega, fun z => by omega, fun m m' a1 a2 => by omega, fun _ => rfl, fun m _ => by omega, fun _ z => z, ?_, fun m hm => by omega, fun _ => ⟨⟨300, by show c - 0 ≤ 300; omega, fun i j _ _ => by show _ ↔ lt_ lo hi 300 (ps_ 0 c sq) i j; rw [hps]⟩, hsr⟩⟩
  · rintro n a q st S ⟨fr, hst, hst6, sq, e, hq, he, hag⟩ ih
    rw [L_R_arrange_22]
    have hx : post S ∨ 0 < q := by
      rcases Nat.eq_zero_or_pos q with z | z
      · subst z
        left
        have ea := hag.2.1 rfl
        refine h S sq fr hq (fun x y hxy hy => hag.2.2.2.2.2.2.1 x y hxy hy ⟨y, Or.inl (by omega), hxy, Nat.le_refl y⟩)
      · exact Or.inr z
    rcases Nat.eq_zero_or_pos q with z | z
    · have hp := hx.resolve_right (by omega)
      subst z
      refine ⟨fun _ => hp, fun _ => ⟨fun _ => hp, fun hn => absurd ?_ hn⟩⟩
      decide
    · obtain ⟨r, rfl⟩ : ∃ r, q = r + 1 := ⟨q - 1, by omega⟩
      have hcr := ag_c hag r (by omega)
      have har : a ≤ e r := hag.2.2.2.2.1 r (by omega)
      have har' : 0 < c → a < e r := fun z => by
        have := hag.2.2.2.2.2.1 (by omega) z
        rwa [Nat.add_sub_cancel] at this
      have hac : a ≤ c := hag.1
      have hst' := hst z
      have hst5 : st < 576 := by
        rcases Nat.eq_zero_or_pos c with w | w
        · omega
        · have := har' w
          omega
      have ev : jI (((r + 1 : Nat) : Int) - 1) = jI (r : Nat) := by congr 1; omega
      rw [ev, show (576 : Int32) = jI ((576 : Nat) : Int) from rfl, jn_le (by omega) (by omega), jn0, jn_lt (by omega) (by omega), jn_in (by omega), jn_ix (by omega), he r (by omega)]
      refine ⟨fun w => by omega, fun _ => ⟨fun w => by omega, fun _ => ⟨by omega, fun x40 e40 => ?_⟩⟩⟩
      rw [e40]
      have hf : ∀ i, i ≠ 27 → i ≠ 28 → i ≠ 29 → i ≠ 30 → S i = T i := fr
      refine m_findCut (lo := lo) (hi := hi) (c := c) (sq := sq) hb24 hlh hc (by omega) har hq (fun k hk => by rw [fr 7 (by omega) (by omega) (by omega) (by omega)]; exact h7 k hk) (fun k hk => by rw [fr 8 (by omega) (by omega) (by omega) (by omega)]; exact h8 k hk) (fun k hk => by rw [fr 9 (by omega) (by omega) (by omega) (by omega)]; exact h9 k hk) (fun k hk => by rw [fr 10 (by omega) (by omega) (by omega) (by omega)]; exact h10 k hk) (fun S47 f47 hno => ⟨fun _ => ?_, fun w => absurd rfl w⟩) (fun S47 d p bb f47 hbs e3 e5 => ⟨fun w => absurd w (by decide), fun _ => ?_⟩)
      · unfold J_R_arrange_82
        rintro x85 e85 x88 e88
        rw [e85, e88, jn1]
        have := ih (e r) r (st + 1) S47 ⟨fun i i1 i2 i3 i4 => by rw [f47 i i1, fr i i1 i2 i3 i4], fun hr => ?_, by omega, sq, e, fun x hx => by rw [f47 28 (by omega)]; exact hq x hx, fun m hm => by rw [f47 30 (by omega)]; exact he m (by omega), ag_end hag hno⟩ ?_
        · rw [show jI (r : Nat) + (-1) = jI ((r : Int) - 1) by rw [jI_m1, jI_add]; congr 1]
          exact this
        · rcases Nat.eq_zero_or_pos c with w | w
          · omega
          · have := har' w; omega
        · show (if r = 0 then 0 else 600 - (st + 1)) < (if r + 1 = 0 then 0 else 600 - st)
          rw [if_neg (by omega : ¬ r + 1 = 0)]
          by_cases w : r = 0
          · rw [if_pos w]; omega
          · rw [if_neg w]; omega
      · have h2 := gi_2 hlh hbs.1
        rw [jn1, show (288 : Int32) = jI ((288 : Nat) : Int) from rfl, jn_le (by omega) (by omega)]
        refine ⟨fun w => by omega, fun _ => ?_⟩
        rintro x62 e62
        rw [e62]
        have g47 : ∀ i, i ≠ 27 → i ≠ 28 → i ≠ 29 → i ≠ 30 → S47 i = T i := fun i i1 i2 i3 i4 => by rw [f47 i i1, fr i i1 i2 i3 i4]
        have hsr : sr_ lo sq a (e r) := by
          have := (hag.2.2.2.2.2.2.2.2 (by omega)).2
          rwa [Nat.add_sub_cancel] at this
        refine m_divide (lo := lo) (hi := hi) (c := c) (sq := sq) (d := d) (p := p) (bb := bb) hc (by omega) har hb24 hlh (fun x hx => by rw [f47 28 (by omega)]; exact hq x hx) (fun k hk => by rw [g47 9 (by omega) (by omega) (by omega) (by omega)]; exact h9 k hk) (fun k hk => by rw [g47 10 (by omega) (by omega) (by omega) (by omega)]; exact h10 k hk) hbs e3 e5 hsr (fun S75 sq' mid f75 hq' hpm hm1 hm2 hl hh s1 s2 => ⟨by rw [jn_in (by omega)]; omega, fun S78 e78 x88 e88 => ?_⟩)
        rw [e88, jn1]
        rw [jn_ix (by omega)] at e78
        have f78 : ∀ i, i ≠ 30 → S78 i = S75 i := fun i hi' => by rw [e78, su_ne hi']
        have := ih a (r + 2) (st + 1) S78 ⟨fun i i1 i2 i3 i4 => by rw [f78 i i4, f75 i i2 i3, g47 i i1 i2 i3 i4], fun hr => by omega, by omega, sq', fun m => if m = r + 1 then mid else e m, fun x hx => by rw [f78 28 (by omega)]; exact hq' x hx, fun m hm => ?_, ag_div hag hlh (by omega) hbs hpm hm1 hm2 hl hh s1 s2⟩ ?_
        · rw [show jI ((r + 1 : Nat) : Int) = jI (((r + 2 : Nat) : Int) - 1) by congr 1; omega]
          exact this
        · show S78 30 m = jI ((if m = r + 1 then mid else e m : Nat) : Int)
          by_cases w : m = r + 1
          · rw [if_pos w, w, e78, su_eq, up_eq]
          · rw [if_neg w, e78, su_eq, up_ne w, f75 30 (by omega) (by omega), f47 30 (by omega)]
            exact he m (by omega)
        · show (if r + 2 = 0 then 0 else 600 - (st + 1)) < (if r + 1 = 0 then 0 else 600 - st)
          rw [if_neg (by omega), if_neg (by omega)]
          omega
  · have : m = 0 := by omega
    subst this
    rw [e18, su_eq, up_eq]
  · rintro x y hxy hy ⟨z, hz, z2, z3⟩
    exfalso
    rcases hz with hz | ⟨m, hm, hz⟩
    · omega
    · have hz2 : z = c := hz
      omega
end ZK
