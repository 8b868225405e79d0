section ZF
/-- before, by the boxes -/
def bf_ (lo : Nat → Nat → Nat) (i j : Nat) : Prop := lo 1 i < lo 1 j ∨ (lo 1 i = lo 1 j ∧ (lo 0 i < lo 0 j ∨ (lo 0 i = lo 0 j ∧ i < j)))
theorem bf_as {lo : Nat → Nat → Nat} {i j : Nat} (h : bf_ lo i j) : ¬ bf_ lo j i := by unfold bf_ at *; omega
theorem bf_tr {lo : Nat → Nat → Nat} {i j k : Nat} (h : bf_ lo i j) (h2 : bf_ lo j k) : bf_ lo i k := by unfold bf_ at *; omega
theorem bf_to {lo : Nat → Nat → Nat} {i j : Nat} (h : i ≠ j) (h2 : ¬ bf_ lo i j) : bf_ lo j i := by unfold bf_ at *; omega
variable {lo hi : Nat → Nat → Nat}
/-- a gap of the parts P: nothing between p and b -/
def gi_ (lo hi : Nat → Nat → Nat) (P : Nat → Prop) (d p b : Nat) : Prop := d < 2 ∧ (∃ k, P k ∧ hi d k = p) ∧ (∃ k, P k ∧ lo d k = b) ∧ p < b ∧ ∀ k, P k → hi d k ≤ p ∨ b ≤ lo d k
/-- the gap that is cut -/
def bs_ (lo hi : Nat → Nat → Nat) (P : Nat → Prop) (d p b : Nat) : Prop := gi_ lo hi P d p b ∧ ∀ d' p' b', gi_ lo hi P d' p' b' → (b' + p < b + p' ∨ (b' + p = b + p' ∧ (d < d' ∨ (d = d' ∧ p ≤ p'))))
theorem bs_u {P : Nat → Prop} {d p b d' p' b' : Nat} (h : bs_ lo hi P d p b) (h' : bs_ lo hi P d' p' b') : d = d' ∧ p = p' := by
  have a1 := h.2 _ _ _ h'.1
  have a2 := h'.2 _ _ _ h.1
  omega
/-- the order in which the parts of P are read -/
def lt_ (lo hi : Nat → Nat → Nat) : Nat → (Nat → Prop) → Nat → Nat → Prop
  | 0, _, i, j => bf_ lo i j
  | n + 1, P, i, j => (∃ d p b, bs_ lo hi P d p b ∧ ((hi d i ≤ p ∧ ¬ hi d j ≤ p) ∨ (hi d i ≤ p ∧ hi d j ≤ p ∧ lt_ lo hi n (fun k => P k ∧ hi d k ≤ p) i j) ∨ (¬ hi d i ≤ p ∧ ¬ hi d j ≤ p ∧ lt_ lo hi n (fun k => P k ∧ ¬ hi d k ≤ p) i j))) ∨ ((¬ ∃ d p b, bs_ lo hi P d p b) ∧ bf_ lo i j)
theorem lt_as : ∀ (n : Nat) (P : Nat → Prop) (i j : Nat), lt_ lo hi n P i j → ¬ lt_ lo hi n P j i
  | 0, P, i, j, h => bf_as h
  | n + 1, P, i, j, h => by
    intro h2
    rw [lt_] at h h2
    rcases h with ⟨d, p, b, hb, h⟩ | ⟨hn, h⟩
    · rcases h2 with ⟨d', p', b', hb', h2⟩ | ⟨hn, -⟩
      · obtain ⟨e1, e2⟩ := bs_u hb hb'
        subst e1 e2
        rcases h with h | h | h
        · rcases h2 with z | z | z
          · exact z.2 h.1
          · exact h.2 z.1
          · exact z.2.1 h.1
        · rcases h2 with z | z | z
          · exact z.2 h.1
          · exact lt_as n _ i j h.2.2 z.2.2
          · exact z.1 h.2.1
        · rcases h2 with z | z | z
          · exact h.2.1 z.1
          · exact h.1 z.2.1
          · exact lt_as n _ i j h.2.2 z.2.2
      · exact hn ⟨d, p, b, hb⟩
    · rcases h2 with ⟨d', p', b', hb', -⟩ | ⟨-, h2⟩
      · exact hn ⟨d', p', b', hb'⟩
      · exact bf_as h h2
theorem lt_no {n : Nat} {P : Nat → Prop} {i j : Nat} (h : ∀ d p b, ¬ gi_ lo hi P d p b) : lt_ lo hi n P i j ↔ bf_ lo i j := by
  cases n with
  | zero => rw [lt_]
  | succ n =>
    rw [lt_]
    constructor
    · rintro (⟨d, p, b, hb, -⟩ | ⟨-, z⟩)
      · exact absurd hb.1 (h d p b)
      · exact z
    · intro z
      exact Or.inr ⟨fun ⟨d, p, b, hb⟩ => h d p b hb.1, z⟩
theorem lt_di {n : Nat} {P : Nat → Prop} {d p b i j : Nat} (h : bs_ lo hi P d p b) : lt_ lo hi (n + 1) P i j ↔ ((hi d i ≤ p ∧ ¬ hi d j ≤ p) ∨ (hi d i ≤ p ∧ hi d j ≤ p ∧ lt_ lo hi n (fun k => P k ∧ hi d k ≤ p) i j) ∨ (¬ hi d i ≤ p ∧ ¬ hi d j ≤ p ∧ lt_ lo hi n (fun k => P k ∧ ¬ hi d k ≤ p) i j)) := by
  rw [lt_]
  constructor
  · rintro (⟨d', p', b', hb', z⟩ | ⟨z, -⟩)
    · obtain ⟨e1, e2⟩ := bs_u h hb'
      subst e1 e2
      exact z
    · exact absurd ⟨d, p, b, h⟩ z
  · intro z
    exact Or.inl ⟨d, p, b, h, z⟩
/-- the parts at places a .. b - 1 -/
def ps_ (a b : Nat) (sq : Nat → Nat) (v : Nat) : Prop := ∃ x, a ≤ x ∧ x < b ∧ sq x = v
/-- other only within a .. b - 1, and there the same parts -/
def pm_ (a b : Nat) (sq sq' : Nat → Nat) : Prop := (∀ x, ¬ (a ≤ x ∧ x < b) → sq' x = sq x) ∧ ∀ v, ps_ a b sq' v ↔ ps_ a b sq v
theorem pm_r (a b : Nat) (sq : Nat → Nat) : pm_ a b sq sq := ⟨fun _ _ => rfl, fun _ => Iff.rfl⟩
theorem pm_t {a b : Nat} {s1 s2 s3 : Nat → Nat} (h1 : pm_ a b s1 s2) (h2 : pm_ a b s2 s3) : pm_ a b s1 s3 := ⟨fun x hx => (h2.1 x hx).trans (h1.1 x hx), fun v => (h2.2 v).trans (h1.2 v)⟩
/-- a stretch whose inner order is the whole's -/
def pk_ (lo hi : Nat → Nat → Nat) (LT : Nat → Nat → Prop) (sq : Nat → Nat) (a b : Nat) : Prop := ∃ n, b - a ≤ n ∧ ∀ i j, ps_ a b sq i → ps_ a b sq j → (LT i j ↔ lt_ lo hi n (ps_ a b sq) i j)
/-- what boundaries part is in order -/
def sp_ (LT : Nat → Nat → Prop) (sq : Nat → Nat) (c : Nat) (Bd : Nat → Prop) : Prop := ∀ x y, x < y → y < c → (∃ z, Bd z ∧ x < z ∧ z ≤ y) → LT (sq x) (sq y)
def sr_ (lo : Nat → Nat → Nat) (sq : Nat → Nat) (a b : Nat) : Prop := ∀ x y, a ≤ x → x < y → y < b → bf_ lo (sq x) (sq y)
variable {LT : Nat → Nat → Prop} {sq sq' : Nat → Nat} {c : Nat} {Bd : Nat → Prop}
theorem pk_c {a b : Nat} (h : ∀ x, a ≤ x → x < b → sq' x = sq x) (hp : pk_ lo hi LT sq a b) : pk_ lo hi LT sq' a b := by
  have e : ps_ a b sq' = ps_ a b sq := by
    funext v
    refine propext ⟨fun ⟨x, x1, x2, x3⟩ => ⟨x, x1, x2, by rw [← h x x1 x2]; exact x3⟩, fun ⟨x, x1, x2, x3⟩ => ⟨x, x1, x2, by rw [h x x1 x2]; exact x3⟩⟩
  unfold pk_ at hp ⊢
  rw [e]; exact hp
/-- what moved within a stretch stays in order with the rest -/
theorem sp_pm {a b : Nat} (hs : sp_ LT sq c Bd) (hb : b ≤ c) (hB : ∀ z, Bd z → ¬ (a < z ∧ z < b)) (hpm : pm_ a b sq sq') : sp_ LT sq' c Bd := by
  rintro x y hxy hy ⟨z, z1, z2, z3⟩
  have hz := hB z z1
  by_cases hx : a ≤ x ∧ x < b
  · obtain ⟨x1, p1, p2, p3⟩ := (hpm.2 (sq' x)).mp ⟨x, hx.1, hx.2, rfl⟩
    have hyy : sq' y = sq y := hpm.1 y (by omega)
    rw [hyy, ← p3]
    exact hs x1 y (by omega) hy ⟨z, z1, by omega, z3⟩
  · by_cases hy2 : a ≤ y ∧ y < b
    · obtain ⟨y1, p1, p2, p3⟩ := (hpm.2 (sq' y)).mp ⟨y, hy2.1, hy2.2, rfl⟩
      have hxx : sq' x = sq x := hpm.1 x hx
      rw [hxx, ← p3]
      exact hs x y1 (by omega) (by omega) ⟨z, z1, z2, by omega⟩
    · rw [hpm.1 x hx, hpm.1 y hy2]
      exact hs x y hxy hy ⟨z, z1, z2, z3⟩
/-- a stretch is cut -/
theorem sp_div {a b mid d p bb : Nat} (hs : sp_ LT sq c Bd) (hb : b ≤ c) (hab : a < b) (hB : ∀ z, Bd z → ¬ (a < z ∧ z < b)) (hBa : Bd a) (hBb : Bd b) (hpk : pk_ lo hi LT sq a b) (hlh : ∀ d k, lo d k ≤ hi d k) (hbs : bs_ lo hi (ps_ a b sq) d p bb) (hpm : pm_ a b sq sq') (hm1 : a ≤ mid) (hm2 : mid ≤ b)
    (hl : ∀ x, a ≤ x → x < mid → hi d (sq' x) ≤ p) (hh : ∀ x, mid ≤ x → x < b → ¬ hi d (sq' x) ≤ p) :
    sp_ LT sq' c (fun z => Bd z ∨ z = mid) ∧ pk_ lo hi LT sq' a mid ∧ pk_ lo hi LT sq' mid b ∧ a < mid ∧ mid < b := by
  obtain ⟨⟨hd, ⟨k1, hk1, hk1p⟩, ⟨k2, hk2, hk2b⟩, hpb, hall⟩, hbest⟩ := id hbs
  have hlow : ∀ v, ps_ a b sq v → hi d v ≤ p → ps_ a mid sq' v := fun v hv hvp => by
    obtain ⟨x, x1, x2, x3⟩ := (hpm.2 v).mpr hv
    rcases Nat.lt_or_ge x mid with z | z
    · exact ⟨x, x1, z, x3⟩
    · have := hh x z x2
      rw [x3] at this
      exact absurd hvp this
  have hhigh : ∀ v, ps_ a b sq v → ¬ hi d v ≤ p → ps_ mid b sq' v := fun v hv hvp => by
    obtain ⟨x, x1, x2, x3⟩ := (hpm.2 v).mpr hv
    rcases Nat.lt_or_ge x mid with z | z
    · have := hl x x1 z
      rw [x3] at this
      exact absurd this hvp
    · exact ⟨x, z, x2, x3⟩
  have hd1 : a < mid := by
    obtain ⟨x, x1, x2, x3⟩ := hlow k1 hk1 (by omega)
    omega
  have hk2n : ¬ hi d k2 ≤ p := by
    have := hlh d k2
    omega
  have hd2 : mid < b := by
    obtain ⟨x, x1, x2, x3⟩ := hhigh k2 hk2 hk2n
    omega
  have eP : ps_ a mid sq' = fun k => ps_ a b sq k ∧ hi d k ≤ p := by
    funext v
    refine propext ⟨fun ⟨x, x1, x2, x3⟩ => ⟨(hpm.2 v).mp ⟨x, x1, by omega, x3⟩, ?_⟩, fun z => hlow v z.1 z.2⟩
    have := hl x x1 x2
    rw [x3] at this
    exact this
  have eQ : ps_ mid b sq' = fun k => ps_ a b sq k ∧ ¬ hi d k ≤ p := by
    funext v
    refine propext ⟨fun ⟨x, x1, x2, x3⟩ => ⟨(hpm.2 v).mp ⟨x, by omega, x2, x3⟩, ?_⟩, fun z => hhigh v z.1 z.2⟩
    have := hh x x1 x2
    rw [x3] at this
    exact this
  obtain ⟨n, hn, hiff⟩ := hpk
  obtain ⟨m, rfl⟩ : ∃ m, n = m + 1 := ⟨n - 1, by omega⟩
  refine ⟨?_, ⟨m, by omega, fun i j h1 h2 => ?_⟩, ⟨m, by omega, fun i j h1 h2 => ?_⟩, hd1, hd2⟩
  · rintro x y hxy hy ⟨z, z1 | z1, z2, z3⟩
    · exact sp_pm hs hb hB hpm x y hxy hy ⟨z, z1, z2, z3⟩
    · subst z1
      by_cases hin : a ≤ x ∧ y < b
      · have p1 := (hpm.2 (sq' x)).mp ⟨x, hin.1, by omega, rfl⟩
        have p2 := (hpm.2 (sq' y)).mp ⟨y, by omega, hin.2, rfl⟩
        rw [hiff _ _ p1 p2, lt_di hbs]
        exact Or.inl ⟨hl x hin.1 z2, hh y z3 hin.2⟩
      · rcases Nat.lt_or_ge x a with w | w
        · exact sp_pm hs hb hB hpm x y hxy hy ⟨a, hBa, w, by omega⟩
        · exact sp_pm hs hb hB hpm x y hxy hy ⟨b, hBb, by omega, by omega⟩
  · rw [eP] at h1 h2 ⊢
    rw [hiff i j h1.1 h2.1, lt_di hbs]
    exact ⟨fun z => z.elim (fun z => absurd h2.2 z.2) (fun z => z.elim (fun z => z.2.2) (fun z => absurd h1.2 z.1)), fun z => Or.inr (Or.inl ⟨h1.2, h2.2, z⟩)⟩
  · rw [eQ] at h1 h2 ⊢
    rw [hiff i j h1.1 h2.1, lt_di hbs]
    exact ⟨fun z => z.elim (fun z => absurd z.1 h1.2) (fun z => z.elim (fun z => absurd z.1 h1.2) (fun z => z.2.2)), fun z => Or.inr (Or.inr ⟨h1.2, h2.2, z⟩)⟩
/-- a stretch without a cut is done -/
theorem sp_end {a b : Nat} (hs : sp_ LT sq c Bd) (hb : b ≤ c) (hB : ∀ z, Bd z → ¬ (a < z ∧ z < b)) (hBa : Bd a) (hBb : Bd b) (hpk : pk_ lo hi LT sq a b) (hno : ∀ d p bb, ¬ gi_ lo hi (ps_ a b sq) d p bb) (hpm : pm_ a b sq sq') (hsr : sr_ lo sq' a b) : sp_ LT sq' c (fun z => Bd z ∨ (a ≤ z ∧ z ≤ b)) := by
  obtain ⟨n, hn, hiff⟩ := hpk
  rintro x y hxy hy ⟨z, z1, z2, z3⟩
  by_cases hin : a ≤ x ∧ y < b
  · have p1 := (hpm.2 (sq' x)).mp ⟨x, hin.1, by omega, rfl⟩
    have p2 := (hpm.2 (sq' y)).mp ⟨y, by omega, hin.2, rfl⟩
    rw [hiff _ _ p1 p2, lt_no hno]
    exact hsr x y hin.1 hxy hin.2
  · rcases z1 with z1 | z1
    · exact sp_pm hs hb hB hpm x y hxy hy ⟨z, z1, z2, z3⟩
    · rcases Nat.lt_or_ge x a with w | w
      · exact sp_pm hs hb hB hpm x y hxy hy ⟨a, hBa, w, by omega⟩
      · exact sp_pm hs hb hB hpm x y hxy hy ⟨b, hBb, by omega, by omega⟩
/-- places 0 .. c - 1 in numbers below c, all other: then all are met -/
theorem pg_ {c : Nat} {f : Nat → Nat} (hr : ∀ x, x < c → f x < c) (hi : ∀ x y, x < y → y < c → f x ≠ f y) : ∀ v, v < c → ∃ x, x < c ∧ f x = v := by
  have key : ∀ n, n ≤ c → cP (fun v => ∃ x, x < n ∧ f x = v) c = n := by
    intro n
    induction n with
    | zero =>
      intro _
      have : cP (fun v => ∃ x, x < 0 ∧ f x = v) c = cP (fun v => ∃ x, x < 0 ∧ f x = v) 0 := cP_s (by omega) (fun i _ _ ⟨x, hx, _⟩ => absurd hx (by omega))
      rw [this]; rfl
    | succ n ih =>
      intro hn
      have h1 := ih (by omega)
      have : cP (fun v => ∃ x, x < n + 1 ∧ f x = v) c = cP (fun v => ∃ x, x < n ∧ f x = v) c + 1 := by
        refine ctn_up (i := f n) (hr n (by omega)) ?_ ?_ ?_
        · refine @decide_eq_false _ (Classical.propDecidable _) (fun ⟨x, hx, hxe⟩ => hi x n hx (by omega) hxe)
        · exact @decide_eq_true _ (Classical.propDecidable _) ⟨n, by omega, rfl⟩
        · intro j hj hj2
          have hiff : (∃ x, x < n + 1 ∧ f x = j) ↔ (∃ x, x < n ∧ f x = j) := by
            constructor
            · rintro ⟨x, hx, hxe⟩
              refine ⟨x, ?_, hxe⟩
              rcases Nat.lt_or_ge x n with z | z
              · exact z
              · have : x = n := by omega
                subst this
                exact absurd hxe.symm hj2
            · rintro ⟨x, hx, hxe⟩
              exact ⟨x, by omega, hxe⟩
          exact congrArg (fun p => @decide p (Classical.propDecidable p)) (propext hiff)
      rw [this, h1]
  intro v hv
  refine Classical.byContradiction (fun hno => ?_)
  have h1 := key c (Nat.le_refl c)
  have h2 : cP (fun v => ∃ x, x < c ∧ f x = v) c < c := ctn_lt hv (@decide_eq_false _ (Classical.propDecidable _) hno)
  omega
/-- in order: so there is only one such row -/
theorem so_u {s t : Nat → Nat} (hs : ∀ x, x < c → s x < c) (ht : ∀ x, x < c → t x < c) (has : ∀ i j, LT i j → ¬ LT j i) (h1 : ∀ x y, x < y → y < c → LT (s x) (s y)) (h2 : ∀ x y, x < y → y < c → LT (t x) (t y)) : ∀ x, x < c → s x = t x := by
  have is : ∀ x y, x < y → y < c → s x ≠ s y := fun x y a b e => by
    have := h1 x y a b
    rw [e] at this
    exact has _ _ this this
  have it : ∀ x y, x < y → y < c → t x ≠ t y := fun x y a b e => by
    have := h2 x y a b
    rw [e] at this
    exact has _ _ this this
  intro x
  induction x using Nat.strongRecOn with
  | ind x ih =>
    intro hx
    obtain ⟨y, y1, y2⟩ := pg_ ht it (s x) (hs x hx)
    obtain ⟨z, z1, z2⟩ := pg_ hs is (t x) (ht x hx)
    rcases Nat.lt_trichotomy y x with w | w | w
    · have := ih y w y1
      rw [y2] at this
      exact absurd this (is y x w hx)
    · rw [← y2, w]
    · rcases Nat.lt_trichotomy z x with v | v | v
      · have := ih z v z1
        rw [z2] at this
        exact absurd this.symm (it z x v hx)
      · rw [← z2, v]
      · have a1 := h2 x y w y1
        have a2 := h1 x z v z1
        rw [y2] at a1
        rw [z2] at a2
        exact absurd a1 (has _ _ a2)
end ZF
