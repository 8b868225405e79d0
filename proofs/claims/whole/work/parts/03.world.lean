/-! THE WORLD: 51 cells (the class's, the reference's, the law's long array); what they hold is ONE function zS: cell, place -> int.
An object's int fields are its places by slot; its references are fixed (z_kd says which cell each names). -/
section ZA
/-- an array as a function of its place, set at one -/
def z_su (S : zS) (k i : Nat) (v : Int32) : zS := fun a => if a = k then upd (S k) i v else S a
/-- the first n places of an array set -/
def z_sf (S : zS) (k n : Nat) (v : Int32) : zS := fun a => if a = k then (fun j => if j < n then v else S k j) else S a
/-- a stretch of one array copied to another -/
def z_sc (S : zS) (k1 k2 sp dp n : Nat) : zS := fun a => if a = k2 then va_cpy (S k1) (S k2) sp dp n else S a
def z_cp (sp dp n : Int32) (n1 n2 : Nat) : Prop := ¬ sp < 0 ∧ ¬ dp < 0 ∧ ¬ n < 0 ∧ z_ix sp + z_ix n ≤ n1 ∧ z_ix dp + z_ix n ≤ n2
def z_fv (ad : Nat → Nat) (r : Nat → Int32) (j : Nat) (o : Option Nat) : Value := match o with
  | none => .int (r j)
  | some h => .ref (ad h)
def z_fl (ad : Nat → Nat) (r : Nat → Int32) (fl : List (Option Nat)) : List Value := fl.mapIdx (z_fv ad r)
def z_ce (cA : Nat → ClassId) (ad : Nat → Nat) (k : Nat) (r : Nat → Int32) : va_E := match z_kd k with
  | .inl q => if q.1 = 2 then .inl (cA 2, q.2, .inr (.inl fun i => (r i).toInt64)) else .inl (cA q.1, q.2, .inl r)
  | .inr q => .inr (q.1, z_fl ad r q.2)
def z_w (cA : Nat → ClassId) (n : Nat) (ad : Nat → Nat) (S : zS) : va_W := (List.range n).map fun k => (ad k, z_ce cA ad k (S k))
variable {cA : Nat → ClassId} {n : Nat} {ad : Nat → Nat} {S : zS}
theorem z_w_at {k : Nat} (h : k < n) : (z_w cA n ad S)[k]? = some (ad k, z_ce cA ad k (S k)) := by
  simp [z_w, h]
theorem z_w_lt {k : Nat} {q : Nat × va_E} (h : (z_w cA n ad S)[k]? = some q) : k < n := by
  have := (List.getElem?_eq_some_iff.mp h).1
  simpa [z_w] using this
theorem z_w_set {k : Nat} (h : k < n) (r : Nat → Int32) : (z_w cA n ad S).set k (ad k, z_ce cA ad k r) = z_w cA n ad (fun a => if a = k then r else S a) := by
  apply List.ext_getElem?
  intro i
  rw [List.getElem?_set]
  by_cases hi : k = i
  · subst hi
    simp [z_w, h]
  · by_cases hn : i < n
    · simp [z_w, hi, hn, Ne.symm hi]
    · simp [z_w, hi, hn]
theorem z_w_D (hJ : ∀ i j, i < n → j < n → ad i = ad j → i = j) {A : Nat → Prop} (hA : ∀ k, k < n → A (ad k)) : va_D A (z_w cA n ad S) := by
  refine ⟨fun i j p q hp hq e => ?_, fun k q hk => ?_⟩
  · have h1 := z_w_lt hp
    have h2 := z_w_lt hq
    rw [z_w_at h1] at hp
    rw [z_w_at h2] at hq
    cases hp
    cases hq
    exact hJ i j h1 h2 e
  · have h1 := z_w_lt hk
    rw [z_w_at h1] at hk
    cases hk
    exact hA k h1
theorem z_ce_o {k ci : Nat} {fl : List (Option Nat)} {r : Nat → Int32} (h : z_kd k = .inr (ci, fl)) : z_ce cA ad k r = .inr (ci, z_fl ad r fl) := by
  simp [z_ce, h]
theorem z_ce_a {k t n : Nat} {r : Nat → Int32} (h : z_kd k = .inl (t, n)) (ht : t ≠ 2) : z_ce cA ad k r = .inl (cA t, n, .inl r) := by
  simp [z_ce, h, ht]
theorem z_ce_l {k n : Nat} {r : Nat → Int32} (h : z_kd k = .inl (2, n)) : z_ce cA ad k r = .inl (cA 2, n, .inr (.inl fun i => (r i).toInt64)) := by
  simp [z_ce, h]
theorem z_fl_at {fl : List (Option Nat)} {r : Nat → Int32} {j : Nat} {o : Option Nat} (h : fl[j]? = some o) : (z_fl ad r fl)[j]? = some (z_fv ad r j o) := by
  simp [z_fl, h]
theorem z_fl_set {fl : List (Option Nat)} {r : Nat → Int32} {j : Nat} {v : Int32} (h : fl[j]? = some none) : (z_fl ad r fl).set j (.int v) = z_fl ad (upd r j v) fl := by
  apply List.ext_getElem?
  intro i
  rw [List.getElem?_set]
  by_cases hi : j = i
  · subst hi
    have hl : j < fl.length := (List.getElem?_eq_some_iff.mp h).1
    simp only [z_fl, List.length_mapIdx, hl, if_true, List.getElem?_mapIdx, h]
    simp [z_fv, upd]
  · simp only [z_fl, List.getElem?_mapIdx, hi, if_false]
    cases hf : fl[i]? with
    | none => rfl
    | some o => cases o <;> simp [z_fv, upd, Ne.symm hi]
/-- the addresses that a method may change: the world's own and what is new -/
def z_fr (n : Nat) (ad : Nat → Nat) (sz : Nat) : Nat → Prop := fun q => (∃ k, k < n ∧ q = ad k) ∨ sz ≤ q
theorem z_fr_in {k sz : Nat} (h : k < n) : z_fr n ad sz (ad k) := Or.inl ⟨k, h, rfl⟩
theorem z_fr_mono {a b q : Nat} (h : a ≤ b) (hq : z_fr n ad b q) : z_fr n ad a q := hq.elim Or.inl fun z => Or.inr (Nat.le_trans h z)
def z_ty (cA : Nat → ClassId) : List (ClassId × FieldType) := [(cA 0, .int), (cA 1, .boolean), (cA 2, .long)]
def z_I (D : va_G) (cA : Nat → ClassId) (n : Nat) (ad : Nat → Nat) (H0 : Heap) (S : zS) (H : Heap) (locs : List Loc) : Prop := va_P D z_cl (z_w cA n ad S) H ∧ va_S (z_fr n ad H0.size) H0 H locs
def z_CT (p : Program) (s : State) (m : MethodId) (args : Array Value) (c : Code) (own : String) (cc : ByteArray) (nL : Nat) (D : va_G) (cA : Nat → ClassId) (n : Nat) (ad : Nat → Nat) : Prop :=
  p.tables.exec = Jvm.exec ∧ c.code = cc ∧ c.maxLocals = nL ∧ s.vm.findClass own = some m.cls ∧ (∀ w ∈ z_gw, w.before args s = true) ∧ va_K D z_cl (z_ty cA) s ∧ ∀ i j, i < n → j < n → ad i = ad j → i = j
theorem z_nb {v : Int32} (h : z_bo v) : narrow .boolean (.int v) = .int v := by
  rcases h with rfl | rfl <;> decide
theorem z_fb {v : Int32} (h : z_bo v) : fits .boolean (.int v) = true := by
  rcases h with rfl | rfl <;> decide
theorem z_vb {v : Int32} (h : z_bo v) : vp_nar .boolean v = v := by
  rcases h with rfl | rfl <;> decide
end ZA
section ZR
variable {p : Program} {l : Launch} {e : Env} {R : Room} {s : State} {m : MethodId} {args : Array Value} {below : List Frame} {meth : Method} {c : Code} {H : Heap} {locs : List Loc} {cells slots : Nat} {Q : State → Prop}
variable {cc : ByteArray} {pc nL : Nat} {ls : Array Slot} {rest : List Value} {D : va_G} {cA : Nat → ClassId} {n : Nat} {ad : Nat → Nat} {S : zS} {own : String}
theorem z_getI (C : z_CT p s m args c own cc nL D cA n ad) (hI : z_I D cA n ad s.heap S H locs) (k : Nat) (hk : k < n) {ci : Nat} {fl : List (Option Nat)} (hkd : z_kd k = .inr (ci, fl)) {C0 : String} {T : u_T} {N : Nat} (hc : z_cl[ci]? = some (C0, T, N)) (hin : ∀ w ∈ u_ws C0 T N, w ∈ z_gw) (j : Nat) (hj : j < N) {index : Nat} (hlink : Cond.fieldLink own index (T j).1 (T j).2.1 (T j).2.2.1 ∈ z_gw) (ho : fl[j]? = some none) (hdg : decode cc pc = .ok (.getfield index, 3))
    (kk : W p l e R s m args below meth c H locs cells slots Q (F0 m (pc + 3) ls (.int (S k j) :: rest))) : W p l e R s m args below meth c H locs cells slots Q (F0 m pc ls (.ref (ad k) :: rest)) := by
  obtain ⟨hx, hb, hml, hown, hts, hK, hJ⟩ := C
  exact va_get (D := D) (ci := ci) (v := .int (S k j)) hx hb hts hin hown hK hI.1 k (by rw [z_w_at hk, z_ce_o hkd]) hc j hj (hts _ hlink) (fun _ h => h) (z_fl_at ho) hdg kk
theorem z_getR (C : z_CT p s m args c own cc nL D cA n ad) (hI : z_I D cA n ad s.heap S H locs) (k : Nat) (hk : k < n) {ci : Nat} {fl : List (Option Nat)} (hkd : z_kd k = .inr (ci, fl)) {C0 : String} {T : u_T} {N : Nat} (hc : z_cl[ci]? = some (C0, T, N)) (hin : ∀ w ∈ u_ws C0 T N, w ∈ z_gw) (j : Nat) (hj : j < N) {index : Nat} (hlink : Cond.fieldLink own index (T j).1 (T j).2.1 (T j).2.2.1 ∈ z_gw) {q : Nat} (ho : fl[j]? = some (some q)) (hdg : decode cc pc = .ok (.getfield index, 3))
    (kk : W p l e R s m args below meth c H locs cells slots Q (F0 m (pc + 3) ls (.ref (ad q) :: rest))) : W p l e R s m args below meth c H locs cells slots Q (F0 m pc ls (.ref (ad k) :: rest)) := by
  obtain ⟨hx, hb, hml, hown, hts, hK, hJ⟩ := C
  exact va_get (D := D) (ci := ci) (v := .ref (ad q)) hx hb hts hin hown hK hI.1 k (by rw [z_w_at hk, z_ce_o hkd]) hc j hj (hts _ hlink) (fun _ h => h) (z_fl_at ho) hdg kk
theorem z_w_put {k j ci : Nat} {fl : List (Option Nat)} {v : Int32} (hk : k < n) (hkd : z_kd k = .inr (ci, fl)) (ho : fl[j]? = some none) : (z_w cA n ad S).set k (ad k, .inr (ci, (z_fl ad (S k) fl).set j (.int v))) = z_w cA n ad (z_su S k j v) := by
  rw [z_fl_set ho, show (Sum.inr (ci, z_fl ad (upd (S k) j v) fl) : va_E) = z_ce cA ad k (upd (S k) j v) from (z_ce_o hkd).symm, z_w_set hk]
  rfl
theorem z_putI (C : z_CT p s m args c own cc nL D cA n ad) (hI : z_I D cA n ad s.heap S H locs) (k : Nat) (hk : k < n) {ci : Nat} {fl : List (Option Nat)} (hkd : z_kd k = .inr (ci, fl)) {C0 : String} {T : u_T} {N : Nat} (hc : z_cl[ci]? = some (C0, T, N)) (hin : ∀ w ∈ u_ws C0 T N, w ∈ z_gw) (ty0 : Nat → FieldType) (hty : ∀ k, k < N → parseFieldDescriptor (T k).2.2.1 = some (ty0 k)) (hnm : ∀ a, a < N → ∀ b, b < N → a ≠ b → (T a).2.1 ≠ (T b).2.1) (j : Nat) (hj : j < N) {index : Nat} (hlink : Cond.fieldLink own index (T j).1 (T j).2.1 (T j).2.2.1 ∈ z_gw) (ho : fl[j]? = some none) (hfin : (T j).2.2.2 = false) (hd : ty0 j = .int) {v : Int32} (hdg : decode cc pc = .ok (.putfield index, 3))
    (kk : ∀ (S1 : zS) (_ : S1 = z_su S k j v) (H1 : Heap) (locs1 : List Loc), z_I D cA n ad s.heap S1 H1 locs1 → W p l e R s m args below meth c H1 locs1 cells slots Q (F0 m (pc + 3) ls rest)) : W p l e R s m args below meth c H locs cells slots Q (F0 m pc ls (.int v :: .ref (ad k) :: rest)) := by
  obtain ⟨hx, hb, hml, hown, hts, hK, hJ⟩ := C
  refine va_put (D := D) (ci := ci) (v := .int v) (ty := .int) hx hb hts hin ty0 hty hnm hown hK hI.1 (z_w_D hJ (fun k hk => z_fr_in hk)) hI.2 k (by rw [z_w_at hk, z_ce_o hkd]) hc j hj (hts _ hlink) (fun _ h => h) hfin (by rw [hty j hj, hd]) rfl rfl (by simpa [z_fl] using (List.getElem?_eq_some_iff.mp ho).1) hdg (fun H1 locs1 hP hD hS => kk _ rfl H1 locs1 ⟨?_, hS⟩)
  rw [z_w_put hk hkd ho] at hP
  exact hP
theorem z_putZ (C : z_CT p s m args c own cc nL D cA n ad) (hI : z_I D cA n ad s.heap S H locs) (k : Nat) (hk : k < n) {ci : Nat} {fl : List (Option Nat)} (hkd : z_kd k = .inr (ci, fl)) {C0 : String} {T : u_T} {N : Nat} (hc : z_cl[ci]? = some (C0, T, N)) (hin : ∀ w ∈ u_ws C0 T N, w ∈ z_gw) (ty0 : Nat → FieldType) (hty : ∀ k, k < N → parseFieldDescriptor (T k).2.2.1 = some (ty0 k)) (hnm : ∀ a, a < N → ∀ b, b < N → a ≠ b → (T a).2.1 ≠ (T b).2.1) (j : Nat) (hj : j < N) {index : Nat} (hlink : Cond.fieldLink own index (T j).1 (T j).2.1 (T j).2.2.1 ∈ z_gw) (ho : fl[j]? = some none) (hfin : (T j).2.2.2 = false) (hd : ty0 j = .boolean) {v : Int32} (hv : z_bo v) (hdg : decode cc pc = .ok (.putfield index, 3))
    (kk : ∀ (S1 : zS) (_ : S1 = z_su S k j v) (H1 : Heap) (locs1 : List Loc), z_I D cA n ad s.heap S1 H1 locs1 → W p l e R s m args below meth c H1 locs1 cells slots Q (F0 m (pc + 3) ls rest)) : W p l e R s m args below meth c H locs cells slots Q (F0 m pc ls (.int v :: .ref (ad k) :: rest)) := by
  obtain ⟨hx, hb, hml, hown, hts, hK, hJ⟩ := C
  refine va_put (D := D) (ci := ci) (v := .int v) (ty := .boolean) hx hb hts hin ty0 hty hnm hown hK hI.1 (z_w_D hJ (fun k hk => z_fr_in hk)) hI.2 k (by rw [z_w_at hk, z_ce_o hkd]) hc j hj (hts _ hlink) (fun _ h => h) hfin (by rw [hty j hj, hd]) (z_nb hv) (z_fb hv) (by simpa [z_fl] using (List.getElem?_eq_some_iff.mp ho).1) hdg (fun H1 locs1 hP hD hS => kk _ rfl H1 locs1 ⟨?_, hS⟩)
  rw [z_w_put hk hkd ho] at hP
  exact hP
theorem z_ild (C : z_CT p s m args c own cc nL D cA n ad) (hI : z_I D cA n ad s.heap S H locs) (k : Nat) (hk : k < n) {N : Nat} (hkd : z_kd k = .inl (0, N)) {i : Int32} (hin : vp_in i N) (hdg : decode cc pc = .ok (.iaload, 1))
    (kk : W p l e R s m args below meth c H locs cells slots Q (F0 m (pc + 1) ls (.int (S k (z_ix i)) :: rest))) : W p l e R s m args below meth c H locs cells slots Q (F0 m pc ls (.int i :: .ref (ad k) :: rest)) :=
  va_iald C.1 C.2.1 C.2.2.2.2.2.1 hI.1 k 0 (by rw [z_w_at hk, z_ce_a hkd (by decide)]) rfl hin hdg kk
theorem z_zld (C : z_CT p s m args c own cc nL D cA n ad) (hI : z_I D cA n ad s.heap S H locs) (k : Nat) (hk : k < n) {N : Nat} (hkd : z_kd k = .inl (1, N)) {i : Int32} (hin : vp_in i N) (hdg : decode cc pc = .ok (.baload, 1))
    (kk : W p l e R s m args below meth c H locs cells slots Q (F0 m (pc + 1) ls (.int (S k (z_ix i)) :: rest))) : W p l e R s m args below meth c H locs cells slots Q (F0 m pc ls (.int i :: .ref (ad k) :: rest)) :=
  va_zald C.1 C.2.1 C.2.2.2.2.2.1 hI.1 k 1 (by rw [z_w_at hk, z_ce_a hkd (by decide)]) rfl hin hdg kk
theorem z_lld (C : z_CT p s m args c own cc nL D cA n ad) (hI : z_I D cA n ad s.heap S H locs) (k : Nat) (hk : k < n) {N : Nat} (hkd : z_kd k = .inl (2, N)) {i : Int32} (hin : vp_in i N) (hdg : decode cc pc = .ok (.laload, 1))
    (kk : W p l e R s m args below meth c H locs cells slots Q (F0 m (pc + 1) ls (.long (Int32.toInt64 (S k (z_ix i))) :: rest))) : W p l e R s m args below meth c H locs cells slots Q (F0 m pc ls (.int i :: .ref (ad k) :: rest)) :=
  va_lald (f := fun j => (S k j).toInt64) C.1 C.2.1 C.2.2.2.2.2.1 hI.1 k 2 (by rw [z_w_at hk, z_ce_l hkd]) rfl hin hdg kk
theorem z_w_ast {k t N : Nat} {r : Nat → Int32} (hk : k < n) (hkd : z_kd k = .inl (t, N)) (ht : t ≠ 2) : (z_w cA n ad S).set k (ad k, .inl (cA t, N, .inl r)) = z_w cA n ad (fun a => if a = k then r else S a) := by
  rw [show (Sum.inl (cA t, N, .inl r) : va_E) = z_ce cA ad k r from (z_ce_a hkd ht).symm, z_w_set hk]
theorem z_ist (C : z_CT p s m args c own cc nL D cA n ad) (hI : z_I D cA n ad s.heap S H locs) (k : Nat) (hk : k < n) {N : Nat} (hkd : z_kd k = .inl (0, N)) {i v : Int32} (hin : vp_in i N) (hdg : decode cc pc = .ok (.iastore, 1))
    (kk : ∀ (S1 : zS) (_ : S1 = z_su S k (z_ix i) v) (H1 : Heap) (locs1 : List Loc), z_I D cA n ad s.heap S1 H1 locs1 → W p l e R s m args below meth c H1 locs1 cells slots Q (F0 m (pc + 1) ls rest)) : W p l e R s m args below meth c H locs cells slots Q (F0 m pc ls (.int v :: .int i :: .ref (ad k) :: rest)) := by
  obtain ⟨hx, hb, hml, hown, hts, hK, hJ⟩ := C
  refine va_iast hx hb hK hI.1 (z_w_D hJ (fun k hk => z_fr_in hk)) hI.2 k 0 (by rw [z_w_at hk, z_ce_a hkd (by decide)]) rfl hin hdg (fun H1 locs1 hP hD hS => kk _ rfl H1 locs1 ⟨?_, hS⟩)
  rw [z_w_ast hk hkd (by decide)] at hP
  exact hP
theorem z_zst (C : z_CT p s m args c own cc nL D cA n ad) (hI : z_I D cA n ad s.heap S H locs) (k : Nat) (hk : k < n) {N : Nat} (hkd : z_kd k = .inl (1, N)) {i v : Int32} (hin : vp_in i N) (hv : z_bo v) (hdg : decode cc pc = .ok (.bastore, 1))
    (kk : ∀ (S1 : zS) (_ : S1 = z_su S k (z_ix i) v) (H1 : Heap) (locs1 : List Loc), z_I D cA n ad s.heap S1 H1 locs1 → W p l e R s m args below meth c H1 locs1 cells slots Q (F0 m (pc + 1) ls rest)) : W p l e R s m args below meth c H locs cells slots Q (F0 m pc ls (.int v :: .int i :: .ref (ad k) :: rest)) := by
  obtain ⟨hx, hb, hml, hown, hts, hK, hJ⟩ := C
  refine va_zast hx hb hK hI.1 (z_w_D hJ (fun k hk => z_fr_in hk)) hI.2 k 1 (by rw [z_w_at hk, z_ce_a hkd (by decide)]) rfl hin hdg (fun H1 locs1 hP hD hS => kk _ rfl H1 locs1 ⟨?_, hS⟩)
  rw [z_vb hv, z_w_ast hk hkd (by decide)] at hP
  exact hP
theorem z_lst (C : z_CT p s m args c own cc nL D cA n ad) (hI : z_I D cA n ad s.heap S H locs) (k : Nat) (hk : k < n) {N : Nat} (hkd : z_kd k = .inl (2, N)) {i v : Int32} (hin : vp_in i N) (hdg : decode cc pc = .ok (.lastore, 1))
    (kk : ∀ (S1 : zS) (_ : S1 = z_su S k (z_ix i) v) (H1 : Heap) (locs1 : List Loc), z_I D cA n ad s.heap S1 H1 locs1 → W p l e R s m args below meth c H1 locs1 cells slots Q (F0 m (pc + 1) ls rest)) : W p l e R s m args below meth c H locs cells slots Q (F0 m pc ls (.long (Int32.toInt64 v) :: .int i :: .ref (ad k) :: rest)) := by
  obtain ⟨hx, hb, hml, hown, hts, hK, hJ⟩ := C
  refine va_last (f := fun j => (S k j).toInt64) hx hb hK hI.1 (z_w_D hJ (fun k hk => z_fr_in hk)) hI.2 k 2 (by rw [z_w_at hk, z_ce_l hkd]) rfl hin hdg (fun H1 locs1 hP hD hS => kk _ rfl H1 locs1 ⟨?_, hS⟩)
  have e1 : vp_updL (fun j => (S k j).toInt64) i.toNatClampNeg (Int32.toInt64 v) = fun j => (upd (S k) (z_ix i) v j).toInt64 := by
    funext j
    by_cases hj : j = i.toNatClampNeg <;> simp [vp_updL, upd, hj]
  rw [e1, show (Sum.inl (cA 2, N, .inr (.inl fun j => (upd (S k) (z_ix i) v j).toInt64)) : va_E) = z_ce cA ad k (upd (S k) (z_ix i) v) from (z_ce_l hkd).symm, z_w_set hk] at hP
  exact hP
/-- what a caller needs of a callee's words -/
def z_wv (y : MethodName) (bytes : ByteArray) (maxL : Nat) (ret : Option FieldType) (n : Nat) : Prop := Cond.instanceMethod y ∈ z_gw ∧ Cond.selects y.cls y y ∈ z_gw ∧ Cond.initialized y.cls ∈ z_gw ∧ Cond.code y bytes maxL ret ∈ z_gw ∧ y.cls ≠ "java/lang/invoke/MethodHandle" ∧ y.cls ≠ "java/lang/invoke/VarHandle" ∧ (parseMethodDescriptor y.desc).map (fun d => d.parameters.length) = some n
def z_ws (y : MethodName) (bytes : ByteArray) (maxL : Nat) (ret : Option FieldType) (n : Nat) : Prop := Cond.static y ∈ z_gw ∧ Cond.initialized y.cls ∈ z_gw ∧ Cond.code y bytes maxL ret ∈ z_gw ∧ y.cls ≠ "java/lang/invoke/MethodHandle" ∧ y.cls ≠ "java/lang/invoke/VarHandle" ∧ (parseMethodDescriptor y.desc).map (fun d => d.parameters.length) = some n
theorem z_gwg : ∀ w ∈ z_gw, (w.onTables && w.keeps) = true ∨ ∃ ty, w = .arrayClass ty := fun _ h => good_of_word (List.mem_filter.mp h).2
theorem z_GI {ws : List Cond} (h : ∀ w ∈ ws, w ∈ z_gw) : GoodIn z_gw ws := fun w hw => ⟨h w hw, z_gwg w (h w hw)⟩
def z_Pc (D : va_G) (cA : Nat → ClassId) (n : Nat) (ad : Nat → Nat) (av : List Value) (S : zS) (sz : Nat) : Array Value → State → Prop := va_Pc av (fun U => U.heap.size = sz ∧ va_P D z_cl (z_w cA n ad S) U.heap ∧ va_K D z_cl (z_ty cA) U)
theorem z_Pc_b {av : List Value} {sz : Nat} : FrameBlind (z_Pc D cA n ad av S sz) := fun a U g mk q => by
  obtain ⟨q0, q1, qP, qK⟩ := q
  exact ⟨q0, q1, qP, va_K.moved (u := U) (U := U.calling g mk a) (Vm.Alike.refl U.vm) qK⟩
/-- contracts: with an int (or boolean), with nothing -/
def z_cti (l : Launch) (D : va_G) (cA : Nat → ClassId) (n : Nat) (ad : Nat → Nat) (y : MethodName) (cc : ByteArray) (maxL : Nat) (ret : Option FieldType) (rm : Room) (av : List Value) (S : zS) (post : Int32 → zS → Prop) : Prop :=
  ∀ sz : Nat, (∀ i j, i < n → j < n → ad i = ad j → i = j) → Met l y (Cond.code y cc maxL ret :: z_gw) rm (z_Pc D cA n ad av S sz) (va_Qi post (fun S' t => va_P D z_cl (z_w cA n ad S') t.heap) (z_fr n ad sz)) 0 0 (z_fr n ad sz)
def z_ctv (l : Launch) (D : va_G) (cA : Nat → ClassId) (n : Nat) (ad : Nat → Nat) (y : MethodName) (cc : ByteArray) (maxL : Nat) (ret : Option FieldType) (rm : Room) (av : List Value) (S : zS) (post : zS → Prop) : Prop :=
  ∀ sz : Nat, (∀ i j, i < n → j < n → ad i = ad j → i = j) → Met l y (Cond.code y cc maxL ret :: z_gw) rm (z_Pc D cA n ad av S sz) (va_Qv post (fun S' t => va_P D z_cl (z_w cA n ad S') t.heap) (z_fr n ad sz)) 0 0 (z_fr n ad sz)
section ZC
variable {y : MethodName} {bytes : ByteArray} {maxL index : Nat} {ret : Option FieldType} {rm : Room} {As st0 : List Value}
theorem z_hA (hI : z_I D cA n ad s.heap S H locs) : ∀ q, z_fr n ad H.size q → z_fr n ad s.heap.size q := fun _ h => z_fr_mono hI.2.1 h
theorem z_GV (wc : z_wv y bytes maxL ret As.length) (wl : Cond.methodLink own index y ∈ z_gw) : GoodIn z_gw (wsV own index y.cls y (Cond.code y bytes maxL ret :: z_gw)) := z_GI (fun w hw => by
  obtain ⟨w1, w2, w3, w4, -⟩ := wc
  simp only [wsV, List.cons_append, List.nil_append, List.mem_cons] at hw
  rcases hw with rfl | rfl | rfl | rfl | rfl | hw
  · exact wl
  · exact w1
  · exact w2
  · exact w3
  · exact w4
  · exact hw)
theorem z_callVi (C : z_CT p s m args c own cc nL D cA n ad) (hI : z_I D cA n ad s.heap S H locs) (k : Nat) (hk : k < n) {ci : Nat} {fl : List (Option Nat)} (hkd : z_kd k = .inr (ci, fl)) {T : u_T} {N : Nat} (hc : z_cl[ci]? = some (y.cls, T, N)) {post : Int32 → zS → Prop}
    (hM : z_cti l D cA n ad y bytes maxL ret rm (.ref (ad k) :: As) S post) (wc : z_wv y bytes maxL ret As.length) (wl : Cond.methodLink own index y ∈ z_gw) (hr0 : rm.cells = 0) (hr1 : rm.slots = 0) (h1 : rm.frames + 1 ≤ R.frames) (h2 : 8 + (maxL + 11) + rm.locals ≤ R.locals) (hcs : cells ≤ R.cells ∧ slots ≤ R.slots) (hls : ls.size = nL) (hst : (rest.map fun v => v.category).sum ≤ 8) (h0 : st0 = As.reverse ++ .ref (ad k) :: rest) (hdg : decode cc pc = .ok (.invokevirtual index, 3))
    (kk : ∀ (r : Int32) (S1 : zS) (H1 : Heap) (locs1 : List Loc), post r S1 → z_I D cA n ad s.heap S1 H1 locs1 → W p l e R s m args below meth c H1 locs1 cells slots Q (F0 m (pc + 3) ls (.int r :: rest))) : W p l e R s m args below meth c H locs cells slots Q (F0 m pc ls st0) := by
  obtain ⟨hx, hb, hml, hown, hts, hK, hJ⟩ := id C
  have hA := z_hA hI
  refine va_calli (va_runV (b := ad k) (As := As) (rest := rest) ⟨hx, hb, hml, hown, hts⟩ (hM H.size hJ) (cwV As.length hts (z_GV wc wl) rfl hr0 hr1 ⟨rfl, wc.2.2.2.2⟩ ⟨h1, h2⟩) ⟨z_Pc_b, va_recv hK hI.1 (ci := ci) (q0 := k) hc (by rw [z_w_at hk, z_ce_o hkd]), fun U hU hW => ⟨rfl, by rw [hU], by rw [hU]; exact hI.1, va_K.moved hW.alike hK⟩⟩ rfl rfl hls h0 (lv_room hst) hdg ⟨hcs.1, hcs.2⟩) hI.2 (fun q _ h => hA q h) hA (fun r u t H1 locs1 ht hvm hp hB hz1 hk1 hS => kk r u H1 locs1 hp ⟨by rw [← ht]; exact hB, hS⟩)
theorem z_callVv (C : z_CT p s m args c own cc nL D cA n ad) (hI : z_I D cA n ad s.heap S H locs) (k : Nat) (hk : k < n) {ci : Nat} {fl : List (Option Nat)} (hkd : z_kd k = .inr (ci, fl)) {T : u_T} {N : Nat} (hc : z_cl[ci]? = some (y.cls, T, N)) {post : zS → Prop}
    (hM : z_ctv l D cA n ad y bytes maxL ret rm (.ref (ad k) :: As) S post) (wc : z_wv y bytes maxL ret As.length) (wl : Cond.methodLink own index y ∈ z_gw) (hr0 : rm.cells = 0) (hr1 : rm.slots = 0) (h1 : rm.frames + 1 ≤ R.frames) (h2 : 8 + (maxL + 11) + rm.locals ≤ R.locals) (hcs : cells ≤ R.cells ∧ slots ≤ R.slots) (hls : ls.size = nL) (hst : (rest.map fun v => v.category).sum ≤ 8) (h0 : st0 = As.reverse ++ .ref (ad k) :: rest) (hdg : decode cc pc = .ok (.invokevirtual index, 3))
    (kk : ∀ (S1 : zS) (H1 : Heap) (locs1 : List Loc), post S1 → z_I D cA n ad s.heap S1 H1 locs1 → W p l e R s m args below meth c H1 locs1 cells slots Q (F0 m (pc + 3) ls rest)) : W p l e R s m args below meth c H locs cells slots Q (F0 m pc ls st0) := by
  obtain ⟨hx, hb, hml, hown, hts, hK, hJ⟩ := id C
  have hA := z_hA hI
  refine va_callv (va_runV (b := ad k) (As := As) (rest := rest) ⟨hx, hb, hml, hown, hts⟩ (hM H.size hJ) (cwV As.length hts (z_GV wc wl) rfl hr0 hr1 ⟨rfl, wc.2.2.2.2⟩ ⟨h1, h2⟩) ⟨z_Pc_b, va_recv hK hI.1 (ci := ci) (q0 := k) hc (by rw [z_w_at hk, z_ce_o hkd]), fun U hU hW => ⟨rfl, by rw [hU], by rw [hU]; exact hI.1, va_K.moved hW.alike hK⟩⟩ rfl rfl hls h0 (lv_room hst) hdg ⟨hcs.1, hcs.2⟩) hI.2 (fun q _ h => hA q h) hA (fun u t H1 locs1 ht hvm hp hB hz1 hk1 hS => kk u H1 locs1 hp ⟨by rw [← ht]; exact hB, hS⟩)
theorem z_GS (wc : z_ws y bytes maxL ret As.length) (wl : Cond.methodLink own index y ∈ z_gw) : GoodIn z_gw (va_wsS own index y (Cond.code y bytes maxL ret :: z_gw)) := z_GI (fun w hw => by
  obtain ⟨w1, w2, w3, -⟩ := wc
  simp only [va_wsS, List.cons_append, List.nil_append, List.mem_cons] at hw
  rcases hw with rfl | rfl | rfl | rfl | hw
  · exact wl
  · exact w1
  · exact w2
  · exact w3
  · exact hw)
theorem z_callSi (C : z_CT p s m args c own cc nL D cA n ad) (hI : z_I D cA n ad s.heap S H locs) {post : Int32 → zS → Prop}
    (hM : z_cti l D cA n ad y bytes maxL ret rm As S post) (wc : z_ws y bytes maxL ret As.length) (wl : Cond.methodLink own index y ∈ z_gw) (hr0 : rm.cells = 0) (hr1 : rm.slots = 0) (h1 : rm.frames + 1 ≤ R.frames) (h2 : 8 + (maxL + 11) + rm.locals ≤ R.locals) (hcs : cells ≤ R.cells ∧ slots ≤ R.slots) (hls : ls.size = nL) (hst : (rest.map fun v => v.category).sum ≤ 8) (h0 : st0 = As.reverse ++ rest) (hdg : decode cc pc = .ok (.invokestatic index, 3))
    (kk : ∀ (r : Int32) (S1 : zS) (H1 : Heap) (locs1 : List Loc), post r S1 → z_I D cA n ad s.heap S1 H1 locs1 → W p l e R s m args below meth c H1 locs1 cells slots Q (F0 m (pc + 3) ls (.int r :: rest))) : W p l e R s m args below meth c H locs cells slots Q (F0 m pc ls st0) := by
  obtain ⟨hx, hb, hml, hown, hts, hK, hJ⟩ := id C
  have hA := z_hA hI
  refine va_calli (va_runS (As := As) (rest := rest) ⟨hx, hb, hml, hown, hts⟩ (hM H.size hJ) (va_cwS As.length hts (z_GS wc wl) rfl hr0 hr1 wc.2.2.2 ⟨h1, h2⟩) ⟨z_Pc_b, fun U hU hW => ⟨rfl, by rw [hU], by rw [hU]; exact hI.1, va_K.moved hW.alike hK⟩⟩ rfl rfl hls h0 (lv_room hst) hdg ⟨hcs.1, hcs.2⟩) hI.2 (fun q _ h => hA q h) hA (fun r u t H1 locs1 ht hvm hp hB hz1 hk1 hS => kk r u H1 locs1 hp ⟨by rw [← ht]; exact hB, hS⟩)
theorem z_callSv (C : z_CT p s m args c own cc nL D cA n ad) (hI : z_I D cA n ad s.heap S H locs) {post : zS → Prop}
    (hM : z_ctv l D cA n ad y bytes maxL ret rm As S post) (wc : z_ws y bytes maxL ret As.length) (wl : Cond.methodLink own index y ∈ z_gw) (hr0 : rm.cells = 0) (hr1 : rm.slots = 0) (h1 : rm.frames + 1 ≤ R.frames) (h2 : 8 + (maxL + 11) + rm.locals ≤ R.locals) (hcs : cells ≤ R.cells ∧ slots ≤ R.slots) (hls : ls.size = nL) (hst : (rest.map fun v => v.category).sum ≤ 8) (h0 : st0 = As.reverse ++ rest) (hdg : decode cc pc = .ok (.invokestatic index, 3))
    (kk : ∀ (S1 : zS) (H1 : Heap) (locs1 : List Loc), post S1 → z_I D cA n ad s.heap S1 H1 locs1 → W p l e R s m args below meth c H1 locs1 cells slots Q (F0 m (pc + 3) ls rest)) : W p l e R s m args below meth c H locs cells slots Q (F0 m pc ls st0) := by
  obtain ⟨hx, hb, hml, hown, hts, hK, hJ⟩ := id C
  have hA := z_hA hI
  refine va_callv (va_runS (As := As) (rest := rest) ⟨hx, hb, hml, hown, hts⟩ (hM H.size hJ) (va_cwS As.length hts (z_GS wc wl) rfl hr0 hr1 wc.2.2.2 ⟨h1, h2⟩) ⟨z_Pc_b, fun U hU hW => ⟨rfl, by rw [hU], by rw [hU]; exact hI.1, va_K.moved hW.alike hK⟩⟩ rfl rfl hls h0 (lv_room hst) hdg ⟨hcs.1, hcs.2⟩) hI.2 (fun q _ h => hA q h) hA (fun u t H1 locs1 ht hvm hp hB hz1 hk1 hS => kk u H1 locs1 hp ⟨by rw [← ht]; exact hB, hS⟩)
theorem z_mmin (C : z_CT p s m args c own cc nL D cA n ad) (hls : ls.size = nL) (wl : Cond.methodLink own index Lib.Math.min.name ∈ z_gw) (h1 : 1 ≤ R.frames) (h2 : (rest.map fun v => v.category).sum + 13 ≤ R.locals) (hcs : cells ≤ R.cells ∧ slots ≤ R.slots) {x y : Int32} (hdg : decode cc pc = .ok (.invokestatic index, 3))
    (kk : W p l e R s m args below meth c H locs cells slots Q (F0 m (pc + 3) ls (.int (if y < x then y else x) :: rest))) : W p l e R s m args below meth c H locs cells slots Q (F0 m pc ls (.int y :: .int x :: rest)) := by
  obtain ⟨hx, hb, hml, hown, hts, hK, hJ⟩ := C
  exact va_mmin hx hb (hml.trans hls.symm) hown (hts _ wl) (hts _ k_st_min) (hts _ k_in_Math) (hts _ k_co_min) h1 h2 hcs.1 hcs.2 hdg kk
theorem z_mmax (C : z_CT p s m args c own cc nL D cA n ad) (hls : ls.size = nL) (wl : Cond.methodLink own index Lib.Math.max.name ∈ z_gw) (h1 : 1 ≤ R.frames) (h2 : (rest.map fun v => v.category).sum + 13 ≤ R.locals) (hcs : cells ≤ R.cells ∧ slots ≤ R.slots) {x y : Int32} (hdg : decode cc pc = .ok (.invokestatic index, 3))
    (kk : W p l e R s m args below meth c H locs cells slots Q (F0 m (pc + 3) ls (.int (if x < y then y else x) :: rest))) : W p l e R s m args below meth c H locs cells slots Q (F0 m pc ls (.int y :: .int x :: rest)) := by
  obtain ⟨hx, hb, hml, hown, hts, hK, hJ⟩ := C
  exact va_mmax hx hb (hml.trans hls.symm) hown (hts _ wl) (hts _ k_st_max) (hts _ k_in_Math) (hts _ k_co_max) h1 h2 hcs.1 hcs.2 hdg kk
theorem z_copy (C : z_CT p s m args c own cc nL D cA n ad) (hI : z_I D cA n ad s.heap S H locs) (k1 k2 : Nat) (hk1 : k1 < n) (hk2 : k2 < n) {N1 N2 : Nat} (hd1 : z_kd k1 = .inl (0, N1)) (hd2 : z_kd k2 = .inl (0, N2)) {sp dp q : Int32} (h : z_cp sp dp q N1 N2) (hls : ls.size = nL) (wl : Cond.methodLink own index arraycopyName ∈ z_gw) (h1 : 1 ≤ R.frames) (h2 : (rest.map fun v => v.category).sum + (nativeFrameWords "java/lang/System" "arraycopy" 5 + 11) ≤ R.locals) (hdg : decode cc pc = .ok (.invokestatic index, 3))
    (kk : ∀ (S1 : zS) (_ : S1 = z_sc S k1 k2 (z_ix sp) (z_ix dp) (z_ix q)) (H1 : Heap) (locs1 : List Loc), z_I D cA n ad s.heap S1 H1 locs1 → W p l e R s m args below meth c H1 locs1 cells slots Q (F0 m (pc + 3) ls rest)) : W p l e R s m args below meth c H locs cells slots Q (F0 m pc ls (.int q :: .int dp :: .ref (ad k2) :: .int sp :: .ref (ad k1) :: rest)) := by
  obtain ⟨hx, hb, hml, hown, hts, hK, hJ⟩ := C
  obtain ⟨a1, a2, a3, a4, a5⟩ := h
  refine va_copyi (ty := .int) hx hb (hml.trans hls.symm) hown (hts _ wl) (hts _ k_nt_arraycopy) (hts _ k_st_arraycopy) (hts _ k_in_System) hK hI.1 (z_w_D hJ (fun k hk => z_fr_in hk)) hI.2 k1 k2 0 0 (by rw [z_w_at hk1, z_ce_a hd1 (by decide)]) (by rw [z_w_at hk2, z_ce_a hd2 (by decide)]) rfl rfl rfl a1 a2 a3 a4 a5 (fun _ _ => rfl) h1 h2 hdg (fun H1 locs1 hP hD hS => kk _ rfl H1 locs1 ⟨?_, hS⟩)
  rw [z_w_ast hk2 hd2 (by decide)] at hP
  exact hP
theorem z_alen (C : z_CT p s m args c own cc nL D cA n ad) (hI : z_I D cA n ad s.heap S H locs) (k : Nat) (hk : k < n) {N : Nat} (hkd : z_kd k = .inl (0, N)) {v : Int32} (hv : Int32.ofNat N = v) (hdg : decode cc pc = .ok (.arraylength, 1))
    (kk : W p l e R s m args below meth c H locs cells slots Q (F0 m (pc + 1) ls (.int v :: rest))) : W p l e R s m args below meth c H locs cells slots Q (F0 m pc ls (.ref (ad k) :: rest)) :=
  va_alen C.1 C.2.1 C.2.2.2.2.2.1 hI.1 k 0 (by rw [z_w_at hk, z_ce_a hkd (by decide)]) rfl hv hdg kk
end ZC
/-- what a method owes at its end -/
def z_Ri (p : Program) (l : Launch) (e : Env) (R : Room) (s : State) (m : MethodId) (args : Array Value) (below : List Frame) (meth : Method) (c : Code) (Q : State → Prop) (cc : ByteArray) (D : va_G) (cA : Nat → ClassId) (n : Nat) (ad : Nat → Nat) (post : Int32 → zS → Prop) : Prop :=
  ∀ (cells slots : Nat), cells ≤ R.cells ∧ slots ≤ R.slots → ∀ (v : Int32) (S : zS) (H : Heap) (locs : List Loc) (pc : Nat) (ls : Array Slot), post v S → z_I D cA n ad s.heap S H locs → decode cc pc = .ok (.ireturn, 1) → W p l e R s m args below meth c H locs cells slots Q (F0 m pc ls [.int v])
def z_Rz (p : Program) (l : Launch) (e : Env) (R : Room) (s : State) (m : MethodId) (args : Array Value) (below : List Frame) (meth : Method) (c : Code) (Q : State → Prop) (cc : ByteArray) (D : va_G) (cA : Nat → ClassId) (n : Nat) (ad : Nat → Nat) (post : Int32 → zS → Prop) : Prop :=
  ∀ (cells slots : Nat), cells ≤ R.cells ∧ slots ≤ R.slots → ∀ (v : Int32) (S : zS) (H : Heap) (locs : List Loc) (pc : Nat) (ls : Array Slot), z_bo v → post v S → z_I D cA n ad s.heap S H locs → decode cc pc = .ok (.ireturn, 1) → W p l e R s m args below meth c H locs cells slots Q (F0 m pc ls [.int v])
def z_Rv (p : Program) (l : Launch) (e : Env) (R : Room) (s : State) (m : MethodId) (args : Array Value) (below : List Frame) (meth : Method) (c : Code) (Q : State → Prop) (cc : ByteArray) (D : va_G) (cA : Nat → ClassId) (n : Nat) (ad : Nat → Nat) (post : zS → Prop) : Prop :=
  ∀ (cells slots : Nat), cells ≤ R.cells ∧ slots ≤ R.slots → ∀ (S : zS) (H : Heap) (locs : List Loc) (pc : Nat) (ls : Array Slot), post S → z_I D cA n ad s.heap S H locs → decode cc pc = .ok (.return_, 1) → W p l e R s m args below meth c H locs cells slots Q (F0 m pc ls [])
end ZR
section ZM
variable {l : Launch} {D : va_G} {cA : Nat → ClassId} {n : Nat} {ad : Nat → Nat} {y : MethodName} {cc : ByteArray} {maxL : Nat} {rm : Room} {av : List Value} {S : zS}
theorem z_meti {post : Int32 → zS → Prop} (hy : plainName y.cls = true) (hav : (lg_sl av).length ≤ maxL) (hr : rm.cells = 0 ∧ rm.slots = 0)
    (body : ∀ (p : Program) (e : Env) (s : State) (m : MethodId) (args : Array Value) (below : List Frame) (meth : Method) (c : Code) (Q : State → Prop) (ls : Array Slot), z_CT p s m args c y.cls cc maxL D cA n ad → 0 ≤ rm.cells ∧ 0 ≤ rm.slots → lv_has ls maxL (lv_args 0 av) → z_I D cA n ad s.heap S s.heap [] → z_Ri p l e rm s m args below meth c Q cc D cA n ad post → W p l e rm s m args below meth c s.heap [] 0 0 Q (F0 m 0 ls [])) :
    z_cti l D cA n ad y cc maxL (some .int) rm av S post := by
  intro sz hJ
  refine Met.ofW (cc := cc) (maxL := maxL) (ret := some .int) hy rfl ?_
  intro p e s m args below meth c s₁ B hml hv
  obtain ⟨rfl, hsz, hP, hK⟩ := hv
  have hts := atoms_spec (ws := Cond.code y cc maxL (some .int) :: z_gw) B.pre
  subst hsz
  have hlocks := B.notSynchronized
  have hr9 := B.returns
  have hx := B.exec
  have hb := B.bytes
  rw [lg_entry_eq]
  refine body p e s m av.toArray below meth c _ _ ⟨hx, hb, hml, findClass_of_methodNamed B.named, fun w hw => hts w (List.mem_cons_of_mem _ hw), hK, hJ⟩ ⟨Nat.zero_le _, Nat.zero_le _⟩ (lv_entry av hav) ⟨hP, va_S.rf⟩ ?_
  intro cells slots hcs v S1 H locs pc ls hp hI hd
  have e1 : cells = 0 := Nat.le_zero.mp (by have := hcs.1; rw [hr.1] at this; exact this)
  have e2 : slots = 0 := Nat.le_zero.mp (by have := hcs.2; rw [hr.2] at this; exact this)
  subst e1
  subst e2
  exact W.iret (v := v) hx hb hr9 (fun t ht hW => ⟨⟨v, S1, rfl, hp, (by show va_P D z_cl _ t.heap; rw [ht]; exact hI.1)⟩, hI.2.F ht⟩) hI.2.2.2 hd
theorem z_metz {post : Int32 → zS → Prop} (hy : plainName y.cls = true) (hav : (lg_sl av).length ≤ maxL) (hr : rm.cells = 0 ∧ rm.slots = 0)
    (body : ∀ (p : Program) (e : Env) (s : State) (m : MethodId) (args : Array Value) (below : List Frame) (meth : Method) (c : Code) (Q : State → Prop) (ls : Array Slot), z_CT p s m args c y.cls cc maxL D cA n ad → 0 ≤ rm.cells ∧ 0 ≤ rm.slots → lv_has ls maxL (lv_args 0 av) → z_I D cA n ad s.heap S s.heap [] → z_Rz p l e rm s m args below meth c Q cc D cA n ad post → W p l e rm s m args below meth c s.heap [] 0 0 Q (F0 m 0 ls [])) :
    z_cti l D cA n ad y cc maxL (some .boolean) rm av S post := by
  intro sz hJ
  refine Met.ofW (cc := cc) (maxL := maxL) (ret := some .boolean) hy rfl ?_
  intro p e s m args below meth c s₁ B hml hv
  obtain ⟨rfl, hsz, hP, hK⟩ := hv
  have hts := atoms_spec (ws := Cond.code y cc maxL (some .boolean) :: z_gw) B.pre
  subst hsz
  have hlocks := B.notSynchronized
  have hr9 := B.returns
  have hx := B.exec
  have hb := B.bytes
  rw [lg_entry_eq]
  refine body p e s m av.toArray below meth c _ _ ⟨hx, hb, hml, findClass_of_methodNamed B.named, fun w hw => hts w (List.mem_cons_of_mem _ hw), hK, hJ⟩ ⟨Nat.zero_le _, Nat.zero_le _⟩ (lv_entry av hav) ⟨hP, va_S.rf⟩ ?_
  intro cells slots hcs v S1 H locs pc ls hv hp hI hd
  have e1 : cells = 0 := Nat.le_zero.mp (by have := hcs.1; rw [hr.1] at this; exact this)
  have e2 : slots = 0 := Nat.le_zero.mp (by have := hcs.2; rw [hr.2] at this; exact this)
  subst e1
  subst e2
  exact W.zret (v := v) hx hb hr9 (z_nb hv) (fun t ht hW => ⟨⟨v, S1, rfl, hp, (by show va_P D z_cl _ t.heap; rw [ht]; exact hI.1)⟩, hI.2.F ht⟩) hI.2.2.2 hd
theorem z_metv {post : zS → Prop} (hy : plainName y.cls = true) (hav : (lg_sl av).length ≤ maxL) (hr : rm.cells = 0 ∧ rm.slots = 0)
    (body : ∀ (p : Program) (e : Env) (s : State) (m : MethodId) (args : Array Value) (below : List Frame) (meth : Method) (c : Code) (Q : State → Prop) (ls : Array Slot), z_CT p s m args c y.cls cc maxL D cA n ad → 0 ≤ rm.cells ∧ 0 ≤ rm.slots → lv_has ls maxL (lv_args 0 av) → z_I D cA n ad s.heap S s.heap [] → z_Rv p l e rm s m args below meth c Q cc D cA n ad post → W p l e rm s m args below meth c s.heap [] 0 0 Q (F0 m 0 ls [])) :
    z_ctv l D cA n ad y cc maxL none rm av S post := by
  intro sz hJ
  refine Met.ofW (cc := cc) (maxL := maxL) (ret := none) hy rfl ?_
  intro p e s m args below meth c s₁ B hml hv
  obtain ⟨rfl, hsz, hP, hK⟩ := hv
  have hts := atoms_spec (ws := Cond.code y cc maxL none :: z_gw) B.pre
  subst hsz
  have hlocks := B.notSynchronized
  have hr9 := B.returns
  have hx := B.exec
  have hb := B.bytes
  rw [lg_entry_eq]
  refine body p e s m av.toArray below meth c _ _ ⟨hx, hb, hml, findClass_of_methodNamed B.named, fun w hw => hts w (List.mem_cons_of_mem _ hw), hK, hJ⟩ ⟨Nat.zero_le _, Nat.zero_le _⟩ (lv_entry av hav) ⟨hP, va_S.rf⟩ ?_
  intro cells slots hcs S1 H locs pc ls hp hI hd
  have e1 : cells = 0 := Nat.le_zero.mp (by have := hcs.1; rw [hr.1] at this; exact this)
  have e2 : slots = 0 := Nat.le_zero.mp (by have := hcs.2; rw [hr.2] at this; exact this)
  subst e1
  subst e2
  exact W.vret hx hb hr9 (fun t ht hW => ⟨⟨S1, rfl, hp, (by show va_P D z_cl _ t.heap; rw [ht]; exact hI.1)⟩, hI.2.F ht⟩) hI.2.2.2 hd
end ZM

