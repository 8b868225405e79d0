theorem k_ac_int : Cond.arrayClass .int ∈ z_gw := z_gwi 141 (by decide +kernel) (by decide +kernel)
theorem k_ac_boolean : Cond.arrayClass .boolean ∈ z_gw := z_gwi 140 (by decide +kernel) (by decide +kernel)
theorem k_ac_long : Cond.arrayClass .long ∈ z_gw := z_gwi 898 (by decide +kernel) (by decide +kernel)
theorem k_oi_inst : Cond.instanceMethod objectInit ∈ z_gw := z_gwi 80 (by decide +kernel) (by decide +kernel)
theorem k_oi_code : Cond.code objectInit ⟨#[0xb1]⟩ 1 none ∈ z_gw := z_gwi 81 (by decide +kernel) (by decide +kernel)
theorem k_is_P : Cond.instantiable R_P 15 ∈ z_gw := z_gwi 75 (by decide +kernel) (by decide +kernel)
theorem k_ci_P : Cond.instanceMethod y_P_init ∈ z_gw := z_gwi 77 (by decide +kernel) (by decide +kernel)
set_option maxRecDepth 20000 in
theorem k_cc_P : Cond.code y_P_init b_P_init 3 none ∈ z_gw := z_gwi 78 (rfl) rfl
theorem k_is_G : Cond.instantiable R_G 10 ∈ z_gw := z_gwi 92 (by decide +kernel) (by decide +kernel)
theorem k_ci_G : Cond.instanceMethod y_G_init ∈ z_gw := z_gwi 94 (by decide +kernel) (by decide +kernel)
set_option maxRecDepth 20000 in
theorem k_cc_G : Cond.code y_G_init b_G_init 3 none ∈ z_gw := z_gwi 95 (rfl) rfl
theorem k_is_C : Cond.instantiable R_C 9 ∈ z_gw := z_gwi 143 (by decide +kernel) (by decide +kernel)
theorem k_ci_C : Cond.instanceMethod y_C_init ∈ z_gw := z_gwi 145 (by decide +kernel) (by decide +kernel)
set_option maxRecDepth 20000 in
theorem k_cc_C : Cond.code y_C_init b_C_init 3 none ∈ z_gw := z_gwi 146 (rfl) rfl
theorem k_is_R : Cond.instantiable R_R 6 ∈ z_gw := z_gwi 182 (by decide +kernel) (by decide +kernel)
theorem k_ci_R : Cond.instanceMethod y_R_init ∈ z_gw := z_gwi 184 (by decide +kernel) (by decide +kernel)
set_option maxRecDepth 20000 in
theorem k_cc_R : Cond.code y_R_init b_R_init 1 none ∈ z_gw := z_gwi 185 (rfl) rfl
theorem k_is_M : Cond.instantiable R_M 27 ∈ z_gw := z_gwi 641 (by decide +kernel) (by decide +kernel)
theorem k_ci_M : Cond.instanceMethod y_M_init ∈ z_gw := z_gwi 643 (by decide +kernel) (by decide +kernel)
set_option maxRecDepth 20000 in
theorem k_cc_M : Cond.code y_M_init b_M_init 3 none ∈ z_gw := z_gwi 644 (rfl) rfl
theorem k_nc_L_8 : Cond.classLink R_L 8 R_P ∈ z_gw := z_gwi 74 (by decide +kernel) (by decide +kernel)
theorem k_nc_P_34 : Cond.classLink R_P 34 R_G ∈ z_gw := z_gwi 91 (by decide +kernel) (by decide +kernel)
theorem k_nc_P_46 : Cond.classLink R_P 46 R_C ∈ z_gw := z_gwi 142 (by decide +kernel) (by decide +kernel)
theorem k_nc_P_53 : Cond.classLink R_P 53 R_R ∈ z_gw := z_gwi 181 (by decide +kernel) (by decide +kernel)
theorem k_nc_L_65 : Cond.classLink R_L 65 R_M ∈ z_gw := z_gwi 640 (by decide +kernel) (by decide +kernel)
/-! CONSTRUCTORS: explicit worlds -/
section ZK
def z_fh (h0 sz : Nat) : Nat → Prop := fun q => q = h0 ∨ sz ≤ q
def z_E (D : va_G) (A : Nat → Prop) (H0 : Heap) (ws : va_W) (H : Heap) (locs : List Loc) : Prop := va_P D z_cl ws H ∧ va_D A ws ∧ va_S A H0 H locs
abbrev z_az (cA : Nat → ClassId) (t N : Nat) : va_E := .inl (cA t, N, .inl fun _ => 0)
def z_ctC (l : Launch) (D : va_G) (cA : Nat → ClassId) (y : MethodName) (cc : ByteArray) (maxL : Nat) (rm : Room) (X : State → Prop) (h0 ci : Nat) (fs0 av : List Value) (mc ms : Nat) (B : (Nat → Nat) → va_W) : Prop :=
  ∀ sz : Nat, Met l y (Cond.code y cc maxL none :: z_gw) rm (va_Pc (.ref h0 :: av) (fun U => U.heap.size = sz ∧ va_P D z_cl [(h0, .inr (ci, fs0))] U.heap ∧ va_K D z_cl (z_ty cA) U ∧ X U)) (va_Qv (fun _ : Nat → Nat => True) (fun q t => va_P D z_cl (B q) t.heap ∧ va_D (z_fh h0 sz) (B q)) (z_fh h0 sz)) mc ms (z_fh h0 sz)
variable {p : Program} {l : Launch} {e : Env} {R : Room} {s : State} {m : MethodId} {args : Array Value} {below : List Frame} {meth : Method} {c : Code} {H : Heap} {locs : List Loc} {cells slots : Nat} {Q : State → Prop}
variable {cc : ByteArray} {pc nL : Nat} {ls : Array Slot} {rest : List Value} {D : va_G} {cA : Nat → ClassId} {ad : Nat → Nat} {own : String} {A : Nat → Prop} {H0 : Heap} {ws ws' : va_W}
variable {y : MethodName} {bytes : ByteArray} {maxL index : Nat} {ret : Option FieldType} {rm : Room} {As st0 : List Value}
theorem z_eNewI (C : z_CT p s m args c own cc nL D cA 0 ad) (hE : z_E D A H0 ws H locs) (hA : ∀ q, H0.size ≤ q → A q) {v : Int32} {N : Nat} (hN : v.toNatClampNeg = N) (hv : ¬ v < 0) (hbytes : N * componentBytes .int ≤ 536870912) (hcs : cells + 1 ≤ R.cells ∧ slots + N ≤ R.slots) (hdg : decode cc pc = .ok (.newarray .int, 2))
    (kk : ∀ (q : Nat) (H1 : Heap), z_E D A H0 (ws ++ [(q, z_az cA 0 N)]) H1 locs → W p l e R s m args below meth c H1 locs (cells + 1) (slots + N) Q (F0 m (pc + 2) ls (.ref q :: rest))) : W p l e R s m args below meth c H locs cells slots Q (F0 m pc ls (.int v :: rest)) := by
  obtain ⟨hx, hb, hml, hown, hts, hK, hJ⟩ := C
  obtain ⟨hP, hD, hS⟩ := hE
  refine va_newa (atype := .int) (a0 := (N, .inl fun _ => 0)) (ty := .int) hx hb (hts _ k_ac_int) rfl hK hP hD hS hA (fun _ => rfl) hv hN hbytes hcs.1 hcs.2 hdg (fun q c1 H1 hK1 hP1 hD1 hS1 => ?_)
  have e1 := va_nm_int (hK1.2 3 _ rfl).2
  have e2 := va_nm_int (hK.2 0 _ rfl).2
  have e3 := Option.some.inj (e1.symm.trans e2)
  dsimp only at e3
  subst e3
  exact kk q H1 ⟨hP1, hD1, hS1⟩
theorem z_eNewZ (C : z_CT p s m args c own cc nL D cA 0 ad) (hE : z_E D A H0 ws H locs) (hA : ∀ q, H0.size ≤ q → A q) {v : Int32} {N : Nat} (hN : v.toNatClampNeg = N) (hv : ¬ v < 0) (hbytes : N * componentBytes .boolean ≤ 536870912) (hcs : cells + 1 ≤ R.cells ∧ slots + N ≤ R.slots) (hdg : decode cc pc = .ok (.newarray .boolean, 2))
    (kk : ∀ (q : Nat) (H1 : Heap), z_E D A H0 (ws ++ [(q, z_az cA 1 N)]) H1 locs → W p l e R s m args below meth c H1 locs (cells + 1) (slots + N) Q (F0 m (pc + 2) ls (.ref q :: rest))) : W p l e R s m args below meth c H locs cells slots Q (F0 m pc ls (.int v :: rest)) := by
  obtain ⟨hx, hb, hml, hown, hts, hK, hJ⟩ := C
  obtain ⟨hP, hD, hS⟩ := hE
  refine va_newa (atype := .boolean) (a0 := (N, .inl fun _ => 0)) (ty := .boolean) hx hb (hts _ k_ac_boolean) rfl hK hP hD hS hA (fun _ => rfl) hv hN hbytes hcs.1 hcs.2 hdg (fun q c1 H1 hK1 hP1 hD1 hS1 => ?_)
  have e1 := va_nm_boolean (hK1.2 3 _ rfl).2
  have e2 := va_nm_boolean (hK.2 1 _ rfl).2
  have e3 := Option.some.inj (e1.symm.trans e2)
  dsimp only at e3
  subst e3
  exact kk q H1 ⟨hP1, hD1, hS1⟩
theorem z_eNewJ (C : z_CT p s m args c own cc nL D cA 0 ad) (hE : z_E D A H0 ws H locs) (hA : ∀ q, H0.size ≤ q → A q) {v : Int32} {N : Nat} (hN : v.toNatClampNeg = N) (hv : ¬ v < 0) (hbytes : N * componentBytes .long ≤ 536870912) (hcs : cells + 1 ≤ R.cells ∧ slots + N ≤ R.slots) (hdg : decode cc pc = .ok (.newarray .long, 2))
    (kk : ∀ (q : Nat) (H1 : Heap), z_E D A H0 (ws ++ [(q, .inl (cA 2, N, .inr (.inl fun _ => 0)))]) H1 locs → W p l e R s m args below meth c H1 locs (cells + 1) (slots + N) Q (F0 m (pc + 2) ls (.ref q :: rest))) : W p l e R s m args below meth c H locs cells slots Q (F0 m pc ls (.int v :: rest)) := by
  obtain ⟨hx, hb, hml, hown, hts, hK, hJ⟩ := C
  obtain ⟨hP, hD, hS⟩ := hE
  refine va_newa (atype := .long) (a0 := (N, .inr (.inl fun _ => 0))) (ty := .long) hx hb (hts _ k_ac_long) rfl hK hP hD hS hA (fun _ => rfl) hv hN hbytes hcs.1 hcs.2 hdg (fun q c1 H1 hK1 hP1 hD1 hS1 => ?_)
  have e1 := va_nm_long (hK1.2 3 _ rfl).2
  have e2 := va_nm_long (hK.2 2 _ rfl).2
  have e3 := Option.some.inj (e1.symm.trans e2)
  dsimp only at e3
  subst e3
  exact kk q H1 ⟨hP1, hD1, hS1⟩
theorem z_ePutF (C : z_CT p s m args c own cc nL D cA 0 ad) (hin2 : meth.name = "<init>") (hE : z_E D A H0 ws H locs) (q0 : Nat) {a ci : Nat} {fs : List Value} (he : ws[q0]? = some (a, .inr (ci, fs))) {C0 : String} {T : u_T} {N : Nat} (hc : z_cl[ci]? = some (C0, T, N)) (hin : ∀ w ∈ u_ws C0 T N, w ∈ z_gw) (ty0 : Nat → FieldType) (hty : ∀ k, k < N → parseFieldDescriptor (T k).2.2.1 = some (ty0 k)) (hnm : ∀ a, a < N → ∀ b, b < N → a ≠ b → (T a).2.1 ≠ (T b).2.1) (j : Nat) (hj : j < N) (hlink : Cond.fieldLink own index (T j).1 (T j).2.1 (T j).2.2.1 ∈ z_gw) (hfin : (T j).2.2.2 = true) (hdecl : (T j).1 = own) {v : Value} {ty : FieldType} (hd : ty0 j = ty) (hn : narrow ty v = v) (hfit : fits ty v = true) (hl : j < fs.length) (hw : ws.set q0 (a, .inr (ci, fs.set j v)) = ws') (hdg : decode cc pc = .ok (.putfield index, 3))
    (kk : ∀ (H1 : Heap) (locs1 : List Loc), z_E D A H0 ws' H1 locs1 → W p l e R s m args below meth c H1 locs1 cells slots Q (F0 m (pc + 3) ls rest)) : W p l e R s m args below meth c H locs cells slots Q (F0 m pc ls (v :: .ref a :: rest)) := by
  obtain ⟨hx, hb, hml, hown, hts, hK, hJ⟩ := C
  obtain ⟨hP, hD, hS⟩ := hE
  subst hw
  exact va_putF (D := D) (ci := ci) (v := v) (ty := ty) hx hb hts hin ty0 hty hnm hown hK hP hD hS q0 he hc j hj (hts _ hlink) (fun _ h => h) hfin hin2 hdecl (by rw [hty j hj, hd]) hn hfit hl hdg (fun H1 locs1 hP1 hD1 hS1 => kk H1 locs1 ⟨hP1, hD1, hS1⟩)
theorem z_ePutN (C : z_CT p s m args c own cc nL D cA 0 ad) (hE : z_E D A H0 ws H locs) (q0 : Nat) {a ci : Nat} {fs : List Value} (he : ws[q0]? = some (a, .inr (ci, fs))) {C0 : String} {T : u_T} {N : Nat} (hc : z_cl[ci]? = some (C0, T, N)) (hin : ∀ w ∈ u_ws C0 T N, w ∈ z_gw) (ty0 : Nat → FieldType) (hty : ∀ k, k < N → parseFieldDescriptor (T k).2.2.1 = some (ty0 k)) (hnm : ∀ a, a < N → ∀ b, b < N → a ≠ b → (T a).2.1 ≠ (T b).2.1) (j : Nat) (hj : j < N) (hlink : Cond.fieldLink own index (T j).1 (T j).2.1 (T j).2.2.1 ∈ z_gw) (hfin : (T j).2.2.2 = false) {v : Value} {ty : FieldType} (hd : ty0 j = ty) (hn : narrow ty v = v) (hfit : fits ty v = true) (hl : j < fs.length) (hw : ws.set q0 (a, .inr (ci, fs.set j v)) = ws') (hdg : decode cc pc = .ok (.putfield index, 3))
    (kk : ∀ (H1 : Heap) (locs1 : List Loc), z_E D A H0 ws' H1 locs1 → W p l e R s m args below meth c H1 locs1 cells slots Q (F0 m (pc + 3) ls rest)) : W p l e R s m args below meth c H locs cells slots Q (F0 m pc ls (v :: .ref a :: rest)) := by
  obtain ⟨hx, hb, hml, hown, hts, hK, hJ⟩ := C
  obtain ⟨hP, hD, hS⟩ := hE
  subst hw
  exact va_put (D := D) (ci := ci) (v := v) (ty := ty) hx hb hts hin ty0 hty hnm hown hK hP hD hS q0 he hc j hj (hts _ hlink) (fun _ h => h) hfin (by rw [hty j hj, hd]) hn hfit hl hdg (fun H1 locs1 hP1 hD1 hS1 => kk H1 locs1 ⟨hP1, hD1, hS1⟩)
theorem z_eGet (C : z_CT p s m args c own cc nL D cA 0 ad) (hE : z_E D A H0 ws H locs) (q0 : Nat) {a ci : Nat} {fs : List Value} (he : ws[q0]? = some (a, .inr (ci, fs))) {C0 : String} {T : u_T} {N : Nat} (hc : z_cl[ci]? = some (C0, T, N)) (hin : ∀ w ∈ u_ws C0 T N, w ∈ z_gw) (j : Nat) (hj : j < N) (hlink : Cond.fieldLink own index (T j).1 (T j).2.1 (T j).2.2.1 ∈ z_gw) {v : Value} (hv : fs[j]? = some v) (hdg : decode cc pc = .ok (.getfield index, 3))
    (kk : W p l e R s m args below meth c H locs cells slots Q (F0 m (pc + 3) ls (v :: rest))) : W p l e R s m args below meth c H locs cells slots Q (F0 m pc ls (.ref a :: rest)) := by
  obtain ⟨hx, hb, hml, hown, hts, hK, hJ⟩ := C
  exact va_get (D := D) (ci := ci) (v := v) hx hb hts hin hown hK hE.1 q0 he hc j hj (hts _ hlink) (fun _ h => h) hv hdg kk
theorem z_eObj (C : z_CT p s m args c own cc nL D cA 0 ad) (wl : Cond.methodLink own index objectInit ∈ z_gw) (hls : ls.size = nL) {a : Nat} (h1 : 1 ≤ R.frames) (h2 : (rest.map fun v => v.category).sum + 12 ≤ R.locals) (hdg : decode cc pc = .ok (.invokespecial index, 3))
    (kk : W p l e R s m args below meth c H locs cells slots Q (F0 m (pc + 3) ls rest)) : W p l e R s m args below meth c H locs cells slots Q (F0 m pc ls (.ref a :: rest)) := by
  obtain ⟨hx, hb, hml, hown, hts, hK, hJ⟩ := C
  refine W.objInit hx hb hown (hts _ wl) (hts _ k_oi_inst) (hts _ k_oi_code) rfl (hls.trans hml.symm) rfl hdg h1 (by show 2 * 0 + _ + 12 ≤ _; omega) kk
theorem z_eNew (C : z_CT p s m args c own cc nL D cA 0 ad) (hE : z_E D A H0 ws H locs) (hA : ∀ q, H0.size ≤ q → A q) {ci : Nat} {C0 : String} {T : u_T} {N : Nat} (hc : z_cl[ci]? = some (C0, T, N)) (hin : ∀ w ∈ u_ws C0 T N, w ∈ z_gw) (ty0 : Nat → FieldType) (hty : ∀ k, k < N → parseFieldDescriptor (T k).2.2.1 = some (ty0 k)) (w1 : Cond.classLink own index C0 ∈ z_gw) (w2 : Cond.instantiable C0 N ∈ z_gw) (w3 : Cond.initialized C0 ∈ z_gw) {fs : List Value} (hfs : ∀ j, j < N → defaultValue (ty0 j) = vp_V fs j) (hcs : cells + 1 ≤ R.cells ∧ slots + N ≤ R.slots) (hdg : decode cc pc = .ok (.new index, 3))
    (kk : ∀ (q : Nat) (H1 : Heap), z_E D A H0 (ws ++ [(q, .inr (ci, fs))]) H1 locs → W p l e R s m args below meth c H1 locs (cells + 1) (slots + N) Q (F0 m (pc + 3) ls (.ref q :: rest))) : W p l e R s m args below meth c H locs cells slots Q (F0 m pc ls rest) := by
  obtain ⟨hx, hb, hml, hown, hts, hK, hJ⟩ := C
  obtain ⟨hP, hD, hS⟩ := hE
  exact va_new (ci := ci) (fs := fs) hx hb hts hin ty0 hty hown (hts _ w1) (hts _ w2) (hts _ w3) hK hP hD hS hA hc hfs hcs.1 hcs.2 hdg (fun q H1 hP1 hD1 hS1 => kk q H1 ⟨hP1, hD1, hS1⟩)
/-- a call of a method that looks at no cell -/
theorem z_eCallS (C : z_CT p s m args c own cc nL D cA 0 ad) (hE : z_E D A H0 ws H locs) (hA : ∀ q, H0.size ≤ q → A q) {S : zS} {post : Int32 → zS → Prop}
    (hM : z_cti l D cA 0 ad y bytes maxL ret rm As S post) (wc : z_ws y bytes maxL ret As.length) (wl : Cond.methodLink own index y ∈ z_gw) (hr0 : rm.cells = 0) (hr1 : rm.slots = 0) (h1 : rm.frames + 1 ≤ R.frames) (h2 : 8 + (maxL + 11) + rm.locals ≤ R.locals) (hcs : cells ≤ R.cells ∧ slots ≤ R.slots) (hls : ls.size = nL) (hst : (rest.map fun v => v.category).sum ≤ 8) (h0 : st0 = As.reverse ++ rest) (hdg : decode cc pc = .ok (.invokestatic index, 3))
    (kk : ∀ (r : Int32) (S1 : zS) (H1 : Heap) (locs1 : List Loc), post r S1 → z_E D A H0 ws H1 locs1 → W p l e R s m args below meth c H1 locs1 cells slots Q (F0 m (pc + 3) ls (.int r :: rest))) : W p l e R s m args below meth c H locs cells slots Q (F0 m pc ls st0) := by
  obtain ⟨hx, hb, hml, hown, hts, hK, hJ⟩ := id C
  obtain ⟨hP, hD, hS⟩ := hE
  have hz : ∀ q, z_fr 0 ad H.size q → H.size ≤ q := fun q h => h.elim (fun ⟨k, hk, _⟩ => absurd hk (Nat.not_lt_zero k)) id
  refine va_calli (va_runS (As := As) (rest := rest) ⟨hx, hb, hml, hown, hts⟩ (hM H.size hJ) (va_cwS As.length hts (z_GS wc wl) rfl hr0 hr1 wc.2.2.2 ⟨h1, h2⟩) ⟨z_Pc_b, fun U hU hW => ⟨rfl, by rw [hU], fun k q h => by simp [z_w] at h, va_K.moved hW.alike hK⟩⟩ rfl rfl hls h0 (lv_room hst) hdg ⟨hcs.1, hcs.2⟩) hS (fun q h3 h4 => absurd (hz q h4) (by omega)) (fun q h => hA q (Nat.le_trans hS.1 (hz q h))) (fun r u t H1 locs1 ht hvm hp hB hz1 hk1 hS1 => kk r u H1 locs1 hp ⟨hP.kept (fun k q hq => hk1 _ (hP k q hq).lt (fun h => absurd (hz _ h) (by have := (hP k q hq).lt; omega))), hD, hS1⟩)
theorem z_metC {X : State → Prop} {h0 ci mc ms : Nat} {fs0 av : List Value} {B : (Nat → Nat) → va_W} (hy : plainName y.cls = true) (hyn : y.name = "<init>") (hav : (lg_sl (.ref h0 :: av)).length ≤ maxL)
    (body : ∀ (p : Program) (e : Env) (s : State) (m : MethodId) (args : Array Value) (below : List Frame) (meth : Method) (c : Code) (Q : State → Prop) (ls : Array Slot), z_CT p s m args c y.cls cc maxL D cA 0 (fun _ => 0) → meth.name = "<init>" → X s → lv_has ls maxL (lv_args 0 (.ref h0 :: av)) → z_E D (z_fh h0 s.heap.size) s.heap [(h0, .inr (ci, fs0))] s.heap [] → (∀ q, s.heap.size ≤ q → z_fh h0 s.heap.size q) →
      (∀ (q : Nat → Nat) (H : Heap) (locs : List Loc) (pc : Nat) (ls : Array Slot), z_E D (z_fh h0 s.heap.size) s.heap (B q) H locs → decode cc pc = .ok (.return_, 1) → W p l e rm s m args below meth c H locs mc ms Q (F0 m pc ls [])) → W p l e rm s m args below meth c s.heap [] 0 0 Q (F0 m 0 ls [])) :
    z_ctC l D cA y cc maxL rm X h0 ci fs0 av mc ms B := by
  intro sz
  refine Met.ofW (cc := cc) (maxL := maxL) (ret := none) hy rfl ?_
  intro p e s m args below meth c s₁ B' hml hv
  obtain ⟨rfl, hsz, hP, hK, hX⟩ := hv
  have hts := atoms_spec (ws := Cond.code y cc maxL none :: z_gw) B'.pre
  subst hsz
  have hlocks := B'.notSynchronized
  have hr9 := B'.returns
  have hx := B'.exec
  have hb := B'.bytes
  have hin : meth.name = "<init>" := (name_of_methodNamed B'.named B'.method).1.trans hyn
  rw [lg_entry_eq]
  refine body p e s m _ below meth c _ _ ⟨hx, hb, hml, findClass_of_methodNamed B'.named, fun w hw => hts w (List.mem_cons_of_mem _ hw), hK, fun i j hi => absurd hi (Nat.not_lt_zero i)⟩ hin hX (lv_entry _ hav) ⟨hP, ⟨fun i j p q hp hq _ => ?_, fun k q hk => ?_⟩, va_S.rf⟩ (fun q h => Or.inr h) ?_
  · have h1 := (List.getElem?_eq_some_iff.mp hp).1
    have h2 := (List.getElem?_eq_some_iff.mp hq).1
    simp at h1 h2
    omega
  · have h1 := (List.getElem?_eq_some_iff.mp hk).1
    simp at h1
    subst h1
    simp at hk
    subst hk
    exact Or.inl rfl
  · intro q H locs pc ls hE hd
    exact W.vret hx hb hr9 (fun t ht hW => ⟨⟨q, rfl, trivial, (by rw [ht]; exact hE.1), hE.2.1⟩, hE.2.2.F ht⟩) hE.2.2.2.2 hd
theorem z_join1 {A0 : Nat → Prop} {wr w1 : va_W} {qo : Nat} {e0 : va_E} {H1 : Heap} (hP : va_P D z_cl (wr ++ [(qo, e0)]) H) (hD : va_D A0 (wr ++ [(qo, e0)])) (hk : ∀ q : Nat, q < H.size → ¬ z_fh qo H.size q → H1[q]? = H[q]?) (hF : ∀ q, z_fh qo H.size q → A0 q) (hP1 : va_P D z_cl w1 H1) (hD1 : va_D (z_fh qo H.size) w1) : va_P D z_cl (wr ++ w1) H1 ∧ va_D A0 (wr ++ w1) := by
  have hin : ∀ (k : Nat) (q : Nat × va_E), wr[k]? = some q → (wr ++ [(qo, e0)])[k]? = some q := fun k q h => by
    have h1 := (List.getElem?_eq_some_iff.mp h).1
    rw [List.getElem?_append_left h1]; exact h
  have hlast : (wr ++ [(qo, e0)])[wr.length]? = some (qo, e0) := by simp
  have hne : ∀ (k : Nat) (q : Nat × va_E), wr[k]? = some q → q.1 < H.size ∧ q.1 ≠ qo := fun k q h => by
    refine ⟨(hP k q (hin k q h)).lt, fun e => ?_⟩
    have h1 := (List.getElem?_eq_some_iff.mp h).1
    have h2 := hD.1 k wr.length q (qo, e0) (hin k q h) hlast e
    omega
  have hnf : ∀ (k : Nat) (q : Nat × va_E), wr[k]? = some q → ¬ z_fh qo H.size q.1 := fun k q h z => by
    have h1 := hne k q h
    rcases z with z | z
    · exact h1.2 z
    · omega
  refine ⟨va_P.app (fun k q h => (hP k q (hin k q h)).kept (hk _ (hne k q h).1 (hnf k q h))) hP1, va_D.app ⟨fun i j p q hp hq e => hD.1 i j p q (hin i p hp) (hin j q hq) e, fun k q h => hD.2 k q (hin k q h)⟩ (hD1.weaken (fun _ q _ h => hF q.1 h)) (fun i j p q hp hq e => ?_)⟩
  exact hnf i p hp (by rw [e]; exact hD1.2 j q hq)
theorem z_last {A0 : Nat → Prop} {wr : va_W} {qo : Nat} {e0 : va_E} {H0 : Heap} (hD : va_D A0 (wr ++ [(qo, e0)])) (hS : va_S A0 H0 H locs) (hA : ∀ q, H0.size ≤ q → A0 q) : ∀ q, z_fh qo H.size q → A0 q := fun q h => by
  rcases h with rfl | h
  · exact hD.2 wr.length (q, e0) (by simp)
  · exact hA q (Nat.le_trans hS.1 h)
theorem z_eCtor {X : State → Prop} {wr : va_W} {qo ci mc ms : Nat} {fs0 : List Value} {B : (Nat → Nat) → va_W} (C : z_CT p s m args c own cc nL D cA 0 ad) (hE : z_E D A s.heap (wr ++ [(qo, .inr (ci, fs0))]) H locs) (hA : ∀ q, s.heap.size ≤ q → A q) (hX : ∀ U : State, s.WarmedH U.vm → X U) (hXb : ∀ (a : Array Value) (U : State) (g : JFrame) (mk : MethodId), X U → X (U.calling g mk a))
    (hM : z_ctC l D cA y bytes maxL rm X qo ci fs0 As mc ms B) (w1 : Cond.instanceMethod y ∈ z_gw) (w2 : Cond.initialized y.cls ∈ z_gw) (w3 : Cond.code y bytes maxL none ∈ z_gw) (wl : Cond.methodLink own index y ∈ z_gw) (hyn : y.name = "<init>") (hd : y.cls ≠ "java/lang/invoke/MethodHandle" ∧ y.cls ≠ "java/lang/invoke/VarHandle" ∧ (parseMethodDescriptor y.desc).map (fun d => d.parameters.length) = some As.length) (hr0 : rm.cells = mc) (hr1 : rm.slots = ms) (h1 : rm.frames + 1 ≤ R.frames) (h2 : 8 + (maxL + 11) + rm.locals ≤ R.locals) (hcs : cells + mc ≤ R.cells ∧ slots + ms ≤ R.slots) (hls : ls.size = nL) (hst : (rest.map fun v => v.category).sum ≤ 8) (h0 : st0 = As.reverse ++ .ref qo :: rest) (hdg : decode cc pc = .ok (.invokespecial index, 3))
    (kk : ∀ (q : Nat → Nat) (H1 : Heap) (locs1 : List Loc), z_E D A s.heap (wr ++ B q) H1 locs1 → W p l e R s m args below meth c H1 locs1 (cells + mc) (slots + ms) Q (F0 m (pc + 3) ls rest)) : W p l e R s m args below meth c H locs cells slots Q (F0 m pc ls st0) := by
  obtain ⟨hx, hb, hml, hown, hts, hK, hJ⟩ := id C
  obtain ⟨hP, hD, hS⟩ := hE
  have hF := z_last hD hS hA
  refine va_callv (va_runI (b := qo) (As := As) (rest := rest) ⟨hx, hb, hml, hown, hts⟩ (hM H.size) (cwI As.length hts (z_GI (List.forall_mem_cons.mpr ⟨w3, fun _ h => h⟩)) rfl hr0 hr1 (hts _ w2) (hts _ wl) (hts _ w1) hyn hd ⟨h1, h2⟩) ⟨fun a U g mk q => ⟨q.1, q.2.1, q.2.2.1, va_K.moved (u := U) (U := U.calling g mk a) (Vm.Alike.refl U.vm) q.2.2.2.1, hXb a U g mk q.2.2.2.2⟩, fun U hU hW => ⟨rfl, by rw [hU], fun k q h => ?_, va_K.moved hW.alike hK, hX U hW⟩⟩ rfl rfl hls h0 (lv_room hst) hdg hcs) hS (fun q _ h => hF q h) hF (fun u t H1 locs1 ht hvm _ hB hz1 hk1 hS1 => ?_)
  · have h3 := (List.getElem?_eq_some_iff.mp h).1
    simp at h3
    subst h3
    simp at h
    subst h
    rw [hU]
    exact hP wr.length _ (by simp)
  · obtain ⟨hP1, hD1⟩ := hB
    rw [ht] at hP1
    obtain ⟨hP2, hD2⟩ := z_join1 hP hD hk1 hF hP1 hD1
    exact kk u H1 locs1 ⟨hP2, hD2, hS1⟩
theorem z_eCtorN {X : State → Prop} {wr : va_W} {qo ci mc ms : Nat} {fs0 : List Value} {B : (Nat → Nat) → va_W} {host : String} (C : z_CT p s m args c own cc nL D cA 0 ad) (hE : z_E D A s.heap (wr ++ [(qo, .inr (ci, fs0))]) H locs) (hA : ∀ q, s.heap.size ≤ q → A q) (hX : ∀ U : State, s.WarmedH U.vm → X U) (hXb : ∀ (a : Array Value) (U : State) (g : JFrame) (mk : MethodId), X U → X (U.calling g mk a))
    (hM : z_ctC l D cA y bytes maxL rm X qo ci fs0 As mc ms B) (w1 : Cond.instanceMethod y ∈ z_gw) (w2 : Cond.initialized y.cls ∈ z_gw) (w3 : Cond.code y bytes maxL none ∈ z_gw) (wl : va_Nw (.methodLinkNest own index y host) s) (hyn : y.name = "<init>") (hd : y.cls ≠ "java/lang/invoke/MethodHandle" ∧ y.cls ≠ "java/lang/invoke/VarHandle" ∧ (parseMethodDescriptor y.desc).map (fun d => d.parameters.length) = some As.length) (hr0 : rm.cells = mc) (hr1 : rm.slots = ms) (h1 : rm.frames + 1 ≤ R.frames) (h2 : 8 + (maxL + 11) + rm.locals ≤ R.locals) (hcs : cells + mc ≤ R.cells ∧ slots + ms ≤ R.slots) (hls : ls.size = nL) (hst : (rest.map fun v => v.category).sum ≤ 8) (h0 : st0 = As.reverse ++ .ref qo :: rest) (hdg : decode cc pc = .ok (.invokespecial index, 3))
    (kk : ∀ (q : Nat → Nat) (H1 : Heap) (locs1 : List Loc), z_E D A s.heap (wr ++ B q) H1 locs1 → W p l e R s m args below meth c H1 locs1 (cells + mc) (slots + ms) Q (F0 m (pc + 3) ls rest)) : W p l e R s m args below meth c H locs cells slots Q (F0 m pc ls st0) := by
  obtain ⟨hx, hb, hml, hown, hts, hK, hJ⟩ := id C
  obtain ⟨hP, hD, hS⟩ := hE
  have hF := z_last hD hS hA
  refine va_callv (va_runIN (b := qo) (As := As) (rest := rest) ⟨hx, hb, hml, hown, hts⟩ (hM H.size) ⟨va_cnB As.length hts (z_GI (List.forall_mem_cons.mpr ⟨w3, fun _ h => h⟩)) rfl hr0 hr1 wl (hts _ w2) hd ⟨h1, h2⟩, hyn, hts _ w1⟩ ⟨fun a U g mk q => ⟨q.1, q.2.1, q.2.2.1, va_K.moved (u := U) (U := U.calling g mk a) (Vm.Alike.refl U.vm) q.2.2.2.1, hXb a U g mk q.2.2.2.2⟩, fun U hU hW => ⟨rfl, by rw [hU], fun k q h => ?_, va_K.moved hW.alike hK, hX U hW⟩⟩ rfl rfl hls h0 (lv_room hst) hdg hcs) hS (fun q _ h => hF q h) hF (fun u t H1 locs1 ht hvm _ hB hz1 hk1 hS1 => ?_)
  · have h3 := (List.getElem?_eq_some_iff.mp h).1
    simp at h3
    subst h3
    simp at h
    subst h
    rw [hU]
    exact hP wr.length _ (by simp)
  · obtain ⟨hP1, hD1⟩ := hB
    rw [ht] at hP1
    obtain ⟨hP2, hD2⟩ := z_join1 hP hD hk1 hF hP1 hD1
    exact kk u H1 locs1 ⟨hP2, hD2, hS1⟩
end ZK
