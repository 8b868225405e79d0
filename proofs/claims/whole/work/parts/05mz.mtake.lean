section ZO
variable {lo hi : Nat → Nat → Nat} {LT : Nat → Nat → Prop} {c : Nat} {sq sq' f : Nat → Nat} {p : Nat}
/-- the other side's stretches, from the left; the rest is done -/
def gg_ (lo hi : Nat → Nat → Nat) (LT : Nat → Nat → Prop) (c : Nat) (sq f : Nat → Nat) (p : Nat) : Prop :=
  f 0 = 0 ∧ (∀ m, m < p → f m ≤ f (m + 1)) ∧ (0 < c → ∀ m, m < p → f m < f (m + 1)) ∧ f p ≤ c ∧ sp_ LT sq c (fun z => f p ≤ z ∨ ∃ m, m < p ∧ z = f m) ∧ ∀ m, m < p → pk_ lo hi LT sq (f m) (f (m + 1))
theorem gg_m (h : gg_ lo hi LT c sq f p) : ∀ k m, m + k ≤ p → f m ≤ f (m + k) := by
  intro k
  induction k with
  | zero => intro m _; exact Nat.le_refl _
  | succ k ih => intro m hm; exact Nat.le_trans (ih m (by omega)) (h.2.1 (m + k) (by omega))
theorem gg_p (h : gg_ lo hi LT c sq f p) (hc : 0 < c) : ∀ m, m ≤ p → m ≤ f m := by
  intro m
  induction m with
  | zero => intro _; omega
  | succ m ih => intro hm; have := ih (by omega); have := h.2.2.1 hc m (by omega); omega
theorem gg_B (h : gg_ lo hi LT c sq f (p + 1)) : ∀ z, (f (p + 1) ≤ z ∨ ∃ m, m < p + 1 ∧ z = f m) → ¬ (f p < z ∧ z < f (p + 1)) := by
  rintro z (hz | ⟨m, hm, rfl⟩)
  · omega
  · have := gg_m h (p - m) m (by omega)
    rw [show m + (p - m) = p by omega] at this
    omega
theorem gg_end (h : gg_ lo hi LT c sq f (p + 1)) (hno : ∀ d q bb, ¬ gi_ lo hi (ps_ (f p) (f (p + 1)) sq) d q bb) (hpm : pm_ (f p) (f (p + 1)) sq sq') (hsr : sr_ lo sq' (f p) (f (p + 1))) : gg_ lo hi LT c sq' f p := by
  have hB := gg_B h
  have hmo := gg_m h
  obtain ⟨h1, h2, h3, h4, h5, h6⟩ := h
  have hle := h2 p (by omega)
  have hs := sp_end h5 h4 hB (Or.inr ⟨p, by omega, rfl⟩) (Or.inl (Nat.le_refl _)) (h6 p (by omega)) hno hpm hsr
  refine ⟨h1, fun m hm => h2 m (by omega), fun hc m hm => h3 hc m (by omega), by omega, ?_, fun m hm => ?_⟩
  · rintro x y hxy hy ⟨z, hz, z2, z3⟩
    refine hs x y hxy hy ⟨z, ?_, z2, z3⟩
    rcases hz with hz | ⟨m, hm, hz⟩
    · rcases Nat.lt_or_ge z (f (p + 1)) with w | w
      · exact Or.inr ⟨hz, by omega⟩
      · exact Or.inl (Or.inl w)
    · exact Or.inl (Or.inr ⟨m, by omega, hz⟩)
  · have := hmo (p - (m + 1)) (m + 1) (by omega)
    rw [show m + 1 + (p - (m + 1)) = p by omega] at this
    exact pk_c (fun x x1 x2 => hpm.1 x (by omega)) (h6 m (by omega))
def gf_ (f : Nat → Nat) (p mid m : Nat) : Nat := if m ≤ p then f m else if m = p + 1 then mid else f (p + 1)
theorem gf_1 {mid m : Nat} (h : m ≤ p) : gf_ f p mid m = f m := if_pos h
theorem gf_2 {mid : Nat} : gf_ f p mid (p + 1) = mid := by unfold gf_; rw [if_neg (by omega), if_pos rfl]
theorem gf_3 {mid : Nat} : gf_ f p mid (p + 2) = f (p + 1) := by unfold gf_; rw [if_neg (by omega), if_neg (by omega)]
theorem gg_div {mid d q bb : Nat} (h : gg_ lo hi LT c sq f (p + 1)) (hlh : ∀ d k, lo d k ≤ hi d k) (hbs : bs_ lo hi (ps_ (f p) (f (p + 1)) sq) d q bb) (hpm : pm_ (f p) (f (p + 1)) sq sq') (hm1 : f p ≤ mid) (hm2 : mid ≤ f (p + 1)) (hl : ∀ x, f p ≤ x → x < mid → hi d (sq' x) ≤ q) (hh : ∀ x, mid ≤ x → x < f (p + 1) → ¬ hi d (sq' x) ≤ q) :
    gg_ lo hi LT c sq' (gf_ f p mid) (p + 2) ∧ f p < mid ∧ mid < f (p + 1) := by
  have hB := gg_B h
  have hmo := gg_m h
  obtain ⟨h1, h2, h3, h4, h5, h6⟩ := h
  have h2p := gi_2 hlh hbs.1
  obtain ⟨g1, g2, g3, g4, g5⟩ := sp_div h5 h4 (by omega) hB (Or.inr ⟨p, by omega, rfl⟩) (Or.inl (Nat.le_refl _)) (h6 p (by omega)) hlh hbs hpm hm1 hm2 hl hh
  have cs : ∀ m, m < p + 2 → m < p ∨ m = p ∨ m = p + 1 := fun m hm => by omega
  have lt : ∀ m, m < p + 2 → f m < f (m + 1) ∨ m = p ∨ m = p + 1 → gf_ f p mid m < gf_ f p mid (m + 1) := by
    rintro m hm hx
    rcases cs m hm with w | w | w
    · rw [gf_1 (by omega), gf_1 (by omega)]; omega
    · subst w; rw [gf_1 (Nat.le_refl _), gf_2]; exact g4
    · subst w; rw [gf_2, gf_3]; exact g5
  refine ⟨⟨by rw [gf_1 (by omega)]; exact h1, fun m hm => ?_, fun hc m hm => lt m hm ?_, by rw [gf_3]; exact h4, ?_, fun m hm => ?_⟩, g4, g5⟩
  · rcases cs m hm with w | w | w
    · rw [gf_1 (by omega), gf_1 (by omega)]; exact h2 m (by omega)
    · exact Nat.le_of_lt (lt m hm (Or.inr (Or.inl w)))
    · exact Nat.le_of_lt (lt m hm (Or.inr (Or.inr w)))
  · rcases cs m hm with w | w | w
    · exact Or.inl (h3 hc m (by omega))
    · exact Or.inr (Or.inl w)
    · exact Or.inr (Or.inr w)
  · rintro x y hxy hy ⟨z, hz, z2, z3⟩
    refine g1 x y hxy hy ⟨z, ?_, z2, z3⟩
    rcases hz with hz | ⟨m, hm, hz⟩
    · rw [gf_3] at hz; exact Or.inl (Or.inl hz)
    · rcases cs m hm with w | w | w
      · rw [gf_1 (by omega)] at hz; exact Or.inl (Or.inr ⟨m, by omega, hz⟩)
      · rw [gf_1 (by omega)] at hz; exact Or.inl (Or.inr ⟨m, by omega, hz⟩)
      · subst w; rw [gf_2] at hz; exact Or.inr hz
  · rcases cs m hm with w | w | w
    · rw [gf_1 (by omega), gf_1 (by omega)]
      have := hmo (p - (m + 1)) (m + 1) (by omega)
      rw [show m + 1 + (p - (m + 1)) = p by omega] at this
      exact pk_c (fun x x1 x2 => hpm.1 x (by omega)) (h6 m (by omega))
    · subst w; rw [gf_1 (Nat.le_refl _), gf_2]; exact g2
    · subst w; rw [gf_2, gf_3]; exact g3
theorem m_takeOrder {T : zS} {post : zS → Prop} (hc : c ≤ 288) (hb24 : ∀ d k, hi d k < 24) (hlh : ∀ d k, lo d k ≤ hi d k) (e12 : T 31 12 = jI (c : Nat)) (hb : rb_ lo hi c T)
    (h : ∀ (S' : zS) (sq : Nat → Nat), (∀ i, i ≠ 44 → i ≠ 48 → i ≠ 49 → S' i = T i) → (∀ x, x < c → S' 44 x = jI (sq x : Nat) ∧ sq x < c) → (∀ x y, x < y → y < c → lt_ lo hi 300 (fun k => k < c) (sq x) (sq y)) → post S') : P_M_takeOrder T post := by
  unfold P_M_takeOrder
  refine lq1 (A := Nat) (fun n x S => L_M_takeOrder_2 post _ n (jI (x : Nat)) S) (fun x S => x ≤ c ∧ (∀ i, i ≠ 44 → S i = T i) ∧ ∀ y, y < x → S 44 y = jI (y : Nat)) (fun x _ => c - x) ?_ 0 T ⟨by omega, fun _ _ => rfl, fun y hy => by omega⟩
  rintro n x S ⟨hxc, fr, hS⟩ ih
  rw [L_M_takeOrder_2, fr 31 (by omega), e12, jn_le (by omega) (by omega)]
  refine ⟨fun hz => ?_, fun hz => ⟨by rw [jn_in (by omega)]; omega, fun S16 e16 x17 e17 => ?_⟩⟩
  · have : x = c := by omega
    subst this
    refine ⟨by rw [jn0, jn_in (by omega)]; omega, fun S31 e31 => ⟨by rw [jn0, jn_in (by omega)]; omega, fun S41 e41 => ?_⟩⟩
    have ei : z_ix 0 = 0 := rfl
    rw [ei] at e31 e41
    have e2 : S31 31 12 = jI (x : Nat) := by rw [e31, su_ne (by omega), fr 31 (by omega), e12]
    rw [e2] at e41
    have hps : ps_ 0 x (fun y => y) = fun k => k < x := by
      funext v
      exact propext ⟨fun ⟨y, y1, y2, y3⟩ => by have y3 : y = v := y3; show v < x; omega, fun hv => ⟨v, by omega, hv, rfl⟩⟩
    have f41 : ∀ i, i ≠ 44 → i ≠ 48 → i ≠ 49 → S41 i = T i := fun i h1 h2 h3 => by rw [e41, su_ne h3, e31, su_ne h2, fr i h1]
    refine lq1 (A := Nat × Nat) (fun n q S => L_M_takeOrder_42 post n (jI (q.1 : Nat)) S) (fun q S => (∀ i, i ≠ 44 → i ≠ 48 → i ≠ 49 → S i = T i) ∧ ∃ sq f : Nat → Nat, oq_ x S sq ∧ f q.1 = q.2 ∧ (∀ m, m < q.1 → S 48 m = jI (f m : Nat) ∧ S 49 m = jI (f (m + 1) : Nat)) ∧ (x = 0 → q.1 ≤ 1) ∧ gg_ lo hi (lt_ lo hi 300 (fun k => k < x)) x sq f q.1) (fun q _ => if q.1 = 0 then 0 else 2 * q.2 + 2 - q.1) ?_ (1, x) S41 ⟨f41, fun y => y, fun m => if m = 0 then 0 else x, ⟨fun y hy => ⟨?_, hy⟩, fun y z h1 _ => by show y ≠ z; omega⟩, rfl, fun m hm => ?_, fun _ => Nat.le_refl 1, rfl, fun m hm => ?_, fun h0 m hm => ?_, by simp, ?_, fun m hm => ?_⟩
    · rintro n2 ⟨q, E⟩ S2 ⟨fr2, sq, f, hq, hfE, hst, hq1, hgg⟩ ih2
      have hfE : f q = E := hfE
      have hst : ∀ m, m < q → S2 48 m = jI (f m : Nat) ∧ S2 49 m = jI (f (m + 1) : Nat) := hst
      have hgg : gg_ lo hi (lt_ lo hi 300 (fun k => k < x)) x sq f q := hgg
      have hq1 : x = 0 → q ≤ 1 := hq1
      show L_M_takeOrder_42 post (n2 + 1) (jI (q : Nat)) S2
      rw [L_M_takeOrder_42, jn0]
      have hfx : f q ≤ x := hgg.2.2.2.1
      have hqx : q ≤ 288 := by
        rcases Nat.eq_zero_or_pos x with w | w
        · have := hq1 w; omega
        · have := gg_p hgg w q (Nat.le_refl q); omega
      rw [jn_le (by omega) (by omega)]
      refine ⟨fun hz2 => ?_, fun hz2 => ?_⟩
      · have : q = 0 := by omega
        subst this
        refine h S2 sq fr2 hq.1 (fun u v h1 h2 => hgg.2.2.2.2.1 u v h1 h2 ⟨v, Or.inl (by rw [hgg.1]; omega), h1, Nat.le_refl v⟩)
      · obtain ⟨p, rfl⟩ : ∃ p, q = p + 1 := ⟨q - 1, by omega⟩
        rw [jm1]
        obtain ⟨s1, s2⟩ := hst p (by omega)
        rintro x46 e46
        rw [e46, jn_in (by omega), jn_ix (by omega), s1, s2]
        refine ⟨by omega, fun x55 e55 => ⟨by omega, fun x62 e62 => ?_⟩⟩
        rw [e55, e62]
        have hle : f p ≤ f (p + 1) := hgg.2.1 p (by omega)
        rw [jsn hle, jk1, jn_le (by omega) (by omega)]
        have hlt : x ≠ 0 → f p < f (p + 1) := fun w => hgg.2.2.1 (by omega) p (by omega)
        have hpf : x ≠ 0 → p ≤ f p := fun w => gg_p hgg (by omega) p (by omega)
        have hrb2 : rb_ lo hi x S2 := by
          unfold rb_ at *
          rw [fr2 39 (by omega) (by omega) (by omega), fr2 40 (by omega) (by omega) (by omega), fr2 41 (by omega) (by omega) (by omega), fr2 42 (by omega) (by omega) (by omega)]
          exact hb
        have hno : (∀ d q bb, ¬ gi_ lo hi (ps_ (f p) (f (p + 1)) sq) d q bb) → J_M_takeOrder_80 post (L_M_takeOrder_42 post n2) (jI (p : Nat)) (jI (f p : Nat)) (jI (f (p + 1) : Nat)) (jI (f (p + 1) : Nat)) S2 := by
          intro hno
          unfold J_M_takeOrder_80
          refine ⟨fun w => absurd rfl w, fun _ => m_Msort hc (fun d k => Nat.lt_of_le_of_lt (hlh d k) (hb24 d k)) hrb2 hle hfx hq (fun S3 sq3 f3 hq3 hpm hsr => ?_)⟩
          refine ih2 (p, f p) S3 ⟨fun i i1 i2 i3 => by rw [f3 i i1, fr2 i i1 i2 i3], sq3, f, hq3, rfl, fun m hm => by rw [f3 48 (by omega), f3 49 (by omega)]; exact hst m (Nat.lt_succ_of_lt hm), fun w => by have := hq1 w; show p ≤ 1; omega, gg_end hgg hno hpm hsr⟩ ?_
          show (if p = 0 then 0 else 2 * f p + 2 - p) < (if p + 1 = 0 then 0 else 2 * E + 2 - (p + 1))
          rw [if_neg (by omega : ¬ p + 1 = 0)]
          by_cases w : p = 0
          · rw [if_pos w]; omega
          · have hx0 : x ≠ 0 := fun z => by have := hq1 z; omega
            rw [if_neg w]
            have := hlt hx0
            have := hpf hx0
            omega
        refine ⟨fun w => hno (fun d q bb g => ?_), fun w => ?_⟩
        · have := gi_2 hlh g
          omega
        · refine m_Mparts hc hb24 hlh hrb2 hle hfx hq hno (fun S3 sq3 mid d q bb f3 hq3 hbs hpm hm1 hm2 hl hh => ?_)
          obtain ⟨hg3, k1, k2⟩ := gg_div hgg hlh hbs hpm hm1 hm2 hl hh
          have hx0 : x ≠ 0 := by omega
          have := hpf hx0
          unfold J_M_takeOrder_80
          rw [jn_eq (by omega) (by omega), jn1, jn_in (by omega), jn_in (by omega), jn_ix (by omega), jn_ix (by omega)]
          refine ⟨fun _ => ⟨by omega, fun S103 e103 => ⟨by omega, fun S111 e111 => ⟨by omega, fun S121 e121 => ⟨by omega, fun S130 e130 x134 e134 => ?_⟩⟩⟩⟩, fun w => by omega⟩
          rw [e134, jk2, jan]
          have g44 : S130 44 = S3 44 := by rw [e130, su_ne (by omega), e121, su_ne (by omega), e111, su_ne (by omega), e103, su_ne (by omega)]
          refine ih2 (p + 2, f (p + 1)) S130 ⟨fun i i1 i2 i3 => by rw [e130, su_ne i3, e121, su_ne i2, e111, su_ne i3, e103, su_ne i2, f3 i i1, fr2 i i1 i2 i3], sq3, gf_ f p mid, ?_, gf_3, fun m hm => ?_, fun z => absurd z hx0, hg3⟩ ?_
          · unfold oq_ at *
            rw [g44]
            exact hq3
          · have hm : m < p + 2 := hm
            have a48 : S130 48 = upd (upd (S3 48) p (jI (f p : Nat))) (p + 1) (jI (mid : Nat)) := by rw [e130, su_ne (by omega), e121, su_eq, e111, su_ne (by omega), e103, su_eq]
            have a49 : S130 49 = upd (upd (S3 49) p (jI (mid : Nat))) (p + 1) (jI (f (p + 1) : Nat)) := by rw [e130, su_eq, e121, su_ne (by omega), e111, su_eq, e103, su_ne (by omega)]
            rw [a48, a49]
            have cs : m < p ∨ m = p ∨ m = p + 1 := by omega
            rcases cs with w2 | w2 | w2
            · rw [up_ne (by omega), up_ne (by omega), up_ne (by omega), up_ne (by omega), gf_1 (by omega), gf_1 (by omega), f3 48 (by omega), f3 49 (by omega)]
              exact hst m (by omega)
            · subst w2
              rw [up_ne (by omega), up_eq, up_ne (by omega), up_eq, gf_1 (Nat.le_refl _), gf_2]
              exact ⟨rfl, rfl⟩
            · subst w2
              rw [up_eq, up_eq, gf_2, gf_3]
              exact ⟨rfl, rfl⟩
          · show (if p + 2 = 0 then 0 else 2 * f (p + 1) + 2 - (p + 2)) < (if p + 1 = 0 then 0 else 2 * E + 2 - (p + 1))
            rw [if_neg (by omega), if_neg (by omega)]
            omega
    · rw [e41, su_ne (by omega), e31, su_ne (by omega)]
      exact hS y hy
    · have : m = 0 := by omega
      subst this
      constructor
      · rw [e41, su_ne (by omega), e31, su_eq, up_eq]; rfl
      · rw [e41, su_eq, up_eq]; rfl
    · have : m = 0 := by omega
      subst this
      exact Nat.zero_le _
    · have : m = 0 := by omega
      subst this
      simpa using h0
    · rintro u v huv hv ⟨z, hz, z2, z3⟩
      exfalso
      rcases hz with hz | ⟨m, hm, hz⟩
      · have hz2 : x ≤ z := hz
        omega
      · have : m = 0 := by omega
        subst this
        have hz2 : z = 0 := hz
        omega
    · have : m = 0 := by omega
      subst this
      exact ⟨300, by show x - 0 ≤ 300; omega, fun i j _ _ => by show _ ↔ lt_ lo hi 300 (ps_ 0 x (fun y => y)) i j; rw [hps]⟩
  · rw [e17, jn1]
    rw [jn_ix (by omega)] at e16
    refine ih (x + 1) S16 ⟨by omega, fun i hi' => by rw [e16, su_ne hi', fr i hi'], fun y hy => ?_⟩ (by omega)
    rw [e16, su_eq]
    by_cases w : y = x
    · subst w; rw [up_eq]
    · rw [up_ne w]; exact hS y (by omega)
end ZO
