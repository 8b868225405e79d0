def z_str : List (Nat × String) := [(182, "no such sample"), (76, "a rectangle is at least 1 wide and 1 high"), (87, "noise is 0 .. 100"), (89, "a gap is 0 .. 24"), (177, "the page was not parted, or changed since"), (185, "there is none of this number"), (187, "nothing is told by this number")]
/-! THROWS: a method that may throw has two contracts: it returns (as any other), or it throws (z_ctX: one cell of six slots is new). -/
section ZT
abbrev z_nm : List String := ["java/lang/RuntimeException", "java/lang/Exception"]
def z_ex : Nat → String
  | 0 => "java/lang/IllegalStateException"
  | 1 => "java/lang/IndexOutOfBoundsException"
  | _ => "java/lang/IllegalArgumentException"
def z_cd (w : Cond) : Bool := match w with
  | .castable .. => true
  | .declares .. => true
  | _ => false
def z_bw : List Cond := lw_tbl.filter z_cd
/-- what a throw needs of the start: statics of Throwable, the texts, words that are not kept by calls of themselves -/
def z_T (l : Launch) (A : Nat → Prop) (U : State) : Prop :=
  l.stackTraces = false ∧ vx_Zq Bundle.tN "UNASSIGNED_STACK" Bundle.steD A U U.heap ∧ vx_Zq Bundle.tN "SUPPRESSED_SENTINEL" Bundle.listD A U U.heap ∧ (∀ w ∈ z_bw, va_Nw w U) ∧ (∀ q ∈ z_str, ∃ sa, vk_R R_P q.1 q.2 sa U) ∧ ∀ i j, i < 3 → j < 3 → i ≠ j → va_Nc (z_ex i) (z_ex j) U
theorem z_cd_warm {w : Cond} (h : z_cd w = true) {s U : State} (hW : s.WarmedH U.vm) (hZ : va_Nw w s) : va_Nw w U := by
  cases w <;> first | (simp [z_cd] at h; done) | exact va_Nw.warmC hW hZ | exact va_Nw.warmD hW hZ
theorem z_cd_tab {w : Cond} (h : z_cd w = true) : w.onTables = true := by
  cases w <;> first | (simp [z_cd] at h; done) | rfl
theorem z_bw_cd {w : Cond} (h : w ∈ z_bw) : z_cd w = true := (List.mem_filter.mp h).2
theorem z_T_mv {l : Launch} {A B : Nat → Prop} {s U : State} {H : Heap} {locs : List Loc} (h : z_T l A s) (hW : s.WarmedH U.vm) (hU : U.heap = H) (hS : va_S A s.heap H locs) (hA : ∀ q, B q → A q) : z_T l B U := by
  obtain ⟨h1, h2, h3, h4, h5, h6⟩ := h
  refine ⟨h1, ?_, ?_, fun w hw => z_cd_warm (z_bw_cd hw) hW (h4 w hw), fun q hq => ?_, fun i j hi hj hn => va_Nc.moved hW.alike (h6 i j hi hj hn)⟩
  · exact ((h2.moved hW.alike).kept (fun a ha hn => by rw [hU]; exact hS.2.1 a ha hn)).narrow hA
  · exact ((h3.moved hW.alike).kept (fun a ha hn => by rw [hU]; exact hS.2.1 a ha hn)).narrow hA
  · obtain ⟨sa, hs⟩ := h5 q hq
    exact ⟨sa, hs.warm hW⟩
theorem z_T_same {l : Launch} {A : Nat → Prop} {s U : State} (h : z_T l A s) (hv : U.vm = s.vm) (hh : U.heap = s.heap) : z_T l A U := by
  have hW : s.WarmedH U.vm := by rw [hv]; exact State.WarmedH.refl s
  exact z_T_mv h hW hh va_S.rf (fun _ h => h)
def z_PX (l : Launch) (D : va_G) (cA : Nat → ClassId) (n : Nat) (ad : Nat → Nat) (av : List Value) (S : zS) (sz : Nat) : Array Value → State → Prop := va_Pc av (fun U => U.heap.size = sz ∧ va_P D z_cl (z_w cA n ad S) U.heap ∧ va_K D z_cl (z_ty cA) U ∧ z_T l (z_fr n ad sz) U)
theorem z_PX_b {l : Launch} {D : va_G} {cA : Nat → ClassId} {n : Nat} {ad : Nat → Nat} {av : List Value} {S : zS} {sz : Nat} : FrameBlind (z_PX l D cA n ad av S sz) := fun a U g mk q => by
  obtain ⟨q0, q1, qP, qK, qT⟩ := q
  exact ⟨q0, q1, qP, va_K.moved (u := U) (U := U.calling g mk a) (Vm.Alike.refl U.vm) qK, z_T_same qT rfl rfl⟩
abbrev z_XC (D : va_G) (cA : Nat → ClassId) (n : Nat) (ad : Nat → Nat) (px : Nat → zS → Prop) (sz : Nat) : String → State → State → Prop := vx_X (fun u : Nat × zS => px u.1 u.2) (fun E u t => E = z_ex u.1 ∧ va_P D z_cl (z_w cA n ad u.2) t.heap) (z_fr n ad sz)
def z_ctX (l : Launch) (D : va_G) (cA : Nat → ClassId) (n : Nat) (ad : Nat → Nat) (y : MethodName) (cc : ByteArray) (maxL : Nat) (ret : Option FieldType) (rm : Room) (av : List Value) (S : zS) (px : Nat → zS → Prop) : Prop :=
  ∀ sz : Nat, (∀ i j, i < n → j < n → ad i = ad j → i = j) → vx_Met l y (Cond.code y cc maxL ret :: z_gw) rm (z_PX l D cA n ad av S sz) (fun _ _ _ _ => False) (z_XC D cA n ad px sz) 1 6 (z_fr n ad sz)
variable {p : Program} {l : Launch} {e : Env} {R : Room} {s : State} {m : MethodId} {args : Array Value} {below : List Frame} {meth : Method} {c : Code} {H : Heap} {locs : List Loc} {cells slots : Nat} {Q : State → Prop}
variable {cc : ByteArray} {pc nL : Nat} {ls : Array Slot} {rest : List Value} {D : va_G} {cA : Nat → ClassId} {n : Nat} {ad : Nat → Nat} {S : zS} {own : String}
variable {y : MethodName} {bytes : ByteArray} {maxL index : Nat} {ret : Option FieldType} {rm : Room} {As st0 : List Value}
/-- a call that throws, with what comes then -/
theorem z_thrown {px : Nat → zS → Prop} (hI : z_I D cA n ad s.heap S H locs) (hr : vx_Run p l e R s m args below meth c H locs cells slots 1 6 (F0 m pc ls st0) rest (fun _ _ _ => False) (z_XC D cA n ad px H.size) (z_fr n ad H.size))
    (kx : ∀ (cd : Nat) (S1 : zS) (H1 : Heap) (locs1 : List Loc) (q : Addr) (ce : Cell), px cd S1 → z_I D cA n ad s.heap S1 H1 locs1 → H1[q]? = some ce → ce.vm = .none → s.vm.findClass (z_ex cd) = some ce.cls → vx_W p l e R s m args below meth c H1 locs1 (cells + 1) (slots + 6) Q (F0 m pc ls rest) q) : W p l e R s m args below meth c H locs cells slots Q (F0 m pc ls st0) := by
  have hA := z_hA hI
  intro T hT X
  rcases hr T hT X with ⟨v, st₀, t, T', L, h0, X', hL, e1, e2, hF, st⟩ | ⟨q, st₀, t, T', L, E, ce, h0, X', hL, e1, e2, ⟨u, hp, ⟨hE, hB⟩, hF⟩, hce, hcv, hcl, st⟩
  · exact hF.elim
  · obtain ⟨k1, k2, k3⟩ := vx_keep h0 e1 hI.2 (fun q _ h => hA q h) hA hL hF
    subst hE
    obtain ⟨t2, a1, b1⟩ := kx u.1 u.2 T'.heap (locs ++ L) q ce hp ⟨by rw [e1]; exact hB, k3⟩ (by rw [e1]; exact hce) hcv hcl T' rfl X'
    exact ⟨t2, st.trans a1, b1⟩
theorem z_callVXc {px : Nat → zS → Prop} (C : z_CT p s m args c own cc nL D cA n ad) (hT : z_T l (z_fr n ad s.heap.size) s) (hI : z_I D cA n ad s.heap S H locs) (k : Nat) (hk : k < n) {ci : Nat} {fl : List (Option Nat)} (hkd : z_kd k = .inr (ci, fl)) {T : u_T} {N : Nat} (hc : z_cl[ci]? = some (y.cls, T, N))
    (hM : z_ctX l D cA n ad y bytes maxL ret rm (.ref (ad k) :: As) S px) (wc : z_wv y bytes maxL ret As.length) (wl : Cond.methodLink own index y ∈ z_gw) (hr0 : rm.cells = 1) (hr1 : rm.slots = 6) (h1 : rm.frames + 1 ≤ R.frames) (h2 : 8 + (maxL + 11) + rm.locals ≤ R.locals) (hcs : cells + 1 ≤ R.cells ∧ slots + 6 ≤ R.slots) (hls : ls.size = nL) (hst : (rest.map fun v => v.category).sum ≤ 8) (h0 : st0 = As.reverse ++ .ref (ad k) :: rest) (hdg : decode cc pc = .ok (.invokevirtual index, 3))
    (kx : ∀ (cd : Nat) (S1 : zS) (H1 : Heap) (locs1 : List Loc) (q : Addr) (ce : Cell), px cd S1 → z_I D cA n ad s.heap S1 H1 locs1 → H1[q]? = some ce → ce.vm = .none → s.vm.findClass (z_ex cd) = some ce.cls → vx_W p l e R s m args below meth c H1 locs1 (cells + 1) (slots + 6) Q (F0 m pc ls rest) q) : W p l e R s m args below meth c H locs cells slots Q (F0 m pc ls st0) := by
  obtain ⟨hx, hb, hml, hown, hts, hK, hJ⟩ := id C
  exact z_thrown hI (vx_runV (b := ad k) (As := As) (rest := rest) ⟨hx, hb, hml, hown, hts⟩ (hM H.size hJ) (cwV As.length hts (z_GV wc wl) rfl hr0 hr1 ⟨rfl, wc.2.2.2.2⟩ ⟨h1, h2⟩) ⟨z_PX_b, va_recv hK hI.1 (ci := ci) (q0 := k) hc (by rw [z_w_at hk, z_ce_o hkd]), fun U hU hW => ⟨rfl, by rw [hU], by rw [hU]; exact hI.1, va_K.moved hW.alike hK, z_T_mv hT hW hU hI.2 (fun q h => z_hA hI q h)⟩⟩ rfl rfl hls h0 (lv_room hst) hdg hcs) kx
theorem z_callSXc {px : Nat → zS → Prop} (C : z_CT p s m args c own cc nL D cA n ad) (hT : z_T l (z_fr n ad s.heap.size) s) (hI : z_I D cA n ad s.heap S H locs)
    (hM : z_ctX l D cA n ad y bytes maxL ret rm As S px) (wc : z_ws y bytes maxL ret As.length) (wl : Cond.methodLink own index y ∈ z_gw) (hr0 : rm.cells = 1) (hr1 : rm.slots = 6) (h1 : rm.frames + 1 ≤ R.frames) (h2 : 8 + (maxL + 11) + rm.locals ≤ R.locals) (hcs : cells + 1 ≤ R.cells ∧ slots + 6 ≤ R.slots) (hls : ls.size = nL) (hst : (rest.map fun v => v.category).sum ≤ 8) (h0 : st0 = As.reverse ++ rest) (hdg : decode cc pc = .ok (.invokestatic index, 3))
    (kx : ∀ (cd : Nat) (S1 : zS) (H1 : Heap) (locs1 : List Loc) (q : Addr) (ce : Cell), px cd S1 → z_I D cA n ad s.heap S1 H1 locs1 → H1[q]? = some ce → ce.vm = .none → s.vm.findClass (z_ex cd) = some ce.cls → vx_W p l e R s m args below meth c H1 locs1 (cells + 1) (slots + 6) Q (F0 m pc ls rest) q) : W p l e R s m args below meth c H locs cells slots Q (F0 m pc ls st0) := by
  obtain ⟨hx, hb, hml, hown, hts, hK, hJ⟩ := id C
  exact z_thrown hI (vx_runS (As := As) (rest := rest) ⟨hx, hb, hml, hown, hts⟩ (hM H.size hJ) (va_cwS As.length hts (z_GS wc wl) rfl hr0 hr1 wc.2.2.2 ⟨h1, h2⟩) ⟨z_PX_b, fun U hU hW => ⟨rfl, by rw [hU], by rw [hU]; exact hI.1, va_K.moved hW.alike hK, z_T_mv hT hW hU hI.2 (fun q h => z_hA hI q h)⟩⟩ rfl rfl hls h0 (lv_room hst) hdg hcs) kx
abbrev z_QX (below : List Frame) (D : va_G) (cA : Nat → ClassId) (n : Nat) (ad : Nat → Nat) (px : Nat → zS → Prop) (args : Array Value) (s : State) : State → Prop := vx_MQ below (fun _ _ _ _ => False) (z_XC D cA n ad px s.heap.size) args s 1 6 (z_fr n ad s.heap.size)
/-- it goes on to the caller -/
theorem z_goes {px : Nat → zS → Prop} (hout : ∀ x ∈ c.exceptionTable.toList, False) (hlocks : meth.locks = false) {cd : Nat} {q : Addr} {ce : Cell} (hp : px cd S) (hI : z_I D cA n ad s.heap S H locs) (hce : H[q]? = some ce) (hcv : ce.vm = .none) (hcl : s.vm.findClass (z_ex cd) = some ce.cls) : vx_W p l e R s m args below meth c H locs (0 + 1) (0 + 6) (z_QX below D cA n ad px args s) (F0 m pc ls rest) q :=
  vx_out (E := z_ex cd) (fun x hx => (hout x hx).elim) hlocks hce hcv hcl (fun t ht ha => ⟨(cd, S), hp, ⟨rfl, by show va_P D z_cl _ t.heap; rw [ht]; exact hI.1⟩, hI.2.F ht⟩) hI.2.2.2 (Nat.le_refl _) (Nat.le_refl _)
theorem z_callVX {px : Nat → zS → Prop} (C : z_CT p s m args c own cc nL D cA n ad) (hT : z_T l (z_fr n ad s.heap.size) s) (hout : ∀ x ∈ c.exceptionTable.toList, False) (hlocks : meth.locks = false) (hI : z_I D cA n ad s.heap S H locs) (k : Nat) (hk : k < n) {ci : Nat} {fl : List (Option Nat)} (hkd : z_kd k = .inr (ci, fl)) {T : u_T} {N : Nat} (hc : z_cl[ci]? = some (y.cls, T, N))
    (hM : z_ctX l D cA n ad y bytes maxL ret rm (.ref (ad k) :: As) S px) (wc : z_wv y bytes maxL ret As.length) (wl : Cond.methodLink own index y ∈ z_gw) (hr0 : rm.cells = 1) (hr1 : rm.slots = 6) (h1 : rm.frames + 1 ≤ R.frames) (h2 : 8 + (maxL + 11) + rm.locals ≤ R.locals) (hcs : 0 + 1 ≤ R.cells ∧ 0 + 6 ≤ R.slots) (hls : ls.size = nL) (hst : (rest.map fun v => v.category).sum ≤ 8) (h0 : st0 = As.reverse ++ .ref (ad k) :: rest) (hdg : decode cc pc = .ok (.invokevirtual index, 3)) : W p l e R s m args below meth c H locs 0 0 (z_QX below D cA n ad px args s) (F0 m pc ls st0) :=
  z_callVXc C hT hI k hk hkd hc hM wc wl hr0 hr1 h1 h2 hcs hls hst h0 hdg (fun _ _ _ _ _ _ hp hI h1 h2 h3 => z_goes hout hlocks hp hI h1 h2 h3)
theorem z_callSX {px : Nat → zS → Prop} (C : z_CT p s m args c own cc nL D cA n ad) (hT : z_T l (z_fr n ad s.heap.size) s) (hout : ∀ x ∈ c.exceptionTable.toList, False) (hlocks : meth.locks = false) (hI : z_I D cA n ad s.heap S H locs)
    (hM : z_ctX l D cA n ad y bytes maxL ret rm As S px) (wc : z_ws y bytes maxL ret As.length) (wl : Cond.methodLink own index y ∈ z_gw) (hr0 : rm.cells = 1) (hr1 : rm.slots = 6) (h1 : rm.frames + 1 ≤ R.frames) (h2 : 8 + (maxL + 11) + rm.locals ≤ R.locals) (hcs : 0 + 1 ≤ R.cells ∧ 0 + 6 ≤ R.slots) (hls : ls.size = nL) (hst : (rest.map fun v => v.category).sum ≤ 8) (h0 : st0 = As.reverse ++ rest) (hdg : decode cc pc = .ok (.invokestatic index, 3)) : W p l e R s m args below meth c H locs 0 0 (z_QX below D cA n ad px args s) (F0 m pc ls st0) :=
  z_callSXc C hT hI hM wc wl hr0 hr1 h1 h2 hcs hls hst h0 hdg (fun _ _ _ _ _ _ hp hI h1 h2 h3 => z_goes hout hlocks hp hI h1 h2 h3)
/-- 'throw new E("text")' -/
theorem z_throw {px : Nat → zS → Prop} (C : z_CT p s m args c R_P cc nL D cA n ad) (hT : z_T l (z_fr n ad s.heap.size) s) (hout : ∀ x ∈ c.exceptionTable.toList, False) (hlocks : meth.locks = false) (hI : z_I D cA n ad s.heap S H locs) (cd : Nat) {ik is ic : Nat} {text : String} (wk : Cond.classLink R_P ik (z_ex cd) ∈ z_gw) (wi : Cond.initialized (z_ex cd) ∈ z_gw) (ws : (is, text) ∈ z_str) (wa : ∀ w ∈ vx_atS R_P ic (z_ex cd) z_nm, w ∈ lw_tbl ∧ (goodWord w || z_cd w) = true) (hfit : Bundle.fit (z_ex cd) = true)
    (d0 : decode cc pc = .ok (.new ik, 3)) (d3 : decode cc (pc + 3) = .ok (.dup, 1)) (d4 : decode cc (pc + 4) = .ok (.ldc is, 2)) (d6 : decode cc (pc + 6) = .ok (.invokespecial ic, 3)) (d9 : decode cc (pc + 9) = .ok (.athrow, 1)) (hls : ls.size = nL) (h1 : 5 < R.frames) (h2 : (rest.map fun v => v.category).sum + 82 ≤ R.locals) (hcs : 0 + 1 ≤ R.cells ∧ 0 + 6 ≤ R.slots) (hp : px cd S) : W p l e R s m args below meth c H locs 0 0 (z_QX below D cA n ad px args s) (F0 m pc ls rest) := by
  obtain ⟨hx, hb, hml, hown, hts, hK, hJ⟩ := id C
  obtain ⟨t1, t2, t3, t4, t5, t6⟩ := hT
  obtain ⟨sa, hs⟩ := t5 _ ws
  refine vx_throwS (names := z_nm) (own := R_P) (cls := z_ex cd) (text := text) (sa := sa) hx hb t1 hown hfit (by decide +kernel) (hts _ wk) (hts _ wi) hs (fun w hw => ?_) (fun w hw => ?_) t2 t3 hI.2 (hls.trans hml.symm) d0 d3 d4 d6 d9 (fun x hx => (hout x hx).elim) h1 h2 hcs.1 hcs.2 hlocks (fun t ha hz hk => ?_) hI.2.2.2 (Nat.le_refl _) (Nat.le_refl _)
  · obtain ⟨a, b⟩ := wa w hw
    rcases Bool.or_eq_true_iff.mp b with g | g
    · exact hts w (List.mem_filter.mpr ⟨a, g⟩)
    · exact va_Nw.use (z_cd_tab g) (t4 w (List.mem_filter.mpr ⟨a, g⟩))
  · rcases List.mem_cons.mp hw with rfl | hw
    · exact Bool.or_eq_true_iff.mpr (Or.inr rfl)
    · rcases List.mem_cons.mp hw with rfl | hw
      · exact Bool.or_eq_true_iff.mpr (Or.inr rfl)
      · rcases Bool.or_eq_true_iff.mp (wa w hw).2 with g | g
        · exact Bool.or_eq_true_iff.mpr (Or.inr g)
        · exact Bool.or_eq_true_iff.mpr (Or.inl (z_cd_tab g))
  · refine ⟨(cd, S), hp, ⟨rfl, hI.1.kept (fun k q hq => hk _ (hI.1 k q hq).lt)⟩, Nat.le_trans hI.2.1 hz, fun q h3 h4 => ?_⟩
    rw [hk q (Nat.lt_of_lt_of_le h3 hI.2.1)]
    exact hI.2.2.1 q h3 h4
theorem z_metX {av : List Value} {px : Nat → zS → Prop} (hy : plainName y.cls = true) (hav : (lg_sl av).length ≤ maxL)
    (body : ∀ (p : Program) (e : Env) (s : State) (m : MethodId) (args : Array Value) (below : List Frame) (meth : Method) (c : Code) (ls : Array Slot), z_CT p s m args c y.cls cc maxL D cA n ad → z_T l (z_fr n ad s.heap.size) s → (∀ x ∈ c.exceptionTable.toList, False) → meth.locks = false → lv_has ls maxL (lv_args 0 av) → z_I D cA n ad s.heap S s.heap [] → W p l e rm s m args below meth c s.heap [] 0 0 (z_QX below D cA n ad px args s) (F0 m 0 ls [])) :
    z_ctX l D cA n ad y cc maxL ret rm av S px := by
  intro sz hJ
  refine vx_ofW (cc := cc) (maxL := maxL) (ret := ret) hy rfl ?_
  intro p e s m args below meth c s₁ B hml hout hv
  obtain ⟨rfl, hsz, hP, hK, hT⟩ := hv
  have hts := atoms_spec (ws := Cond.code y cc maxL ret :: z_gw) B.pre
  subst hsz
  rw [lg_entry_eq]
  exact body p e s m av.toArray below meth c _ ⟨B.exec, B.bytes, hml, findClass_of_methodNamed B.named, fun w hw => hts w (List.mem_cons_of_mem _ hw), hK, hJ⟩ hT hout B.notSynchronized (lv_entry av hav) ⟨hP, va_S.rf⟩
end ZT

theorem k_cl_180 : Cond.classLink R_P 180 (z_ex 1) ∈ z_gw := z_gwi 280 (by decide +kernel) (by decide +kernel)
theorem wa_184 : ∀ w ∈ vx_atS R_P 184 (z_ex 1) z_nm, w ∈ lw_tbl ∧ (goodWord w || z_cd w) = true := by decide +kernel
theorem k_cl_74 : Cond.classLink R_P 74 (z_ex 2) ∈ z_gw := z_gwi 360 (by decide +kernel) (by decide +kernel)
theorem wa_78 : ∀ w ∈ vx_atS R_P 78 (z_ex 2) z_nm, w ∈ lw_tbl ∧ (goodWord w || z_cd w) = true := by decide +kernel
theorem k_cl_175 : Cond.classLink R_P 175 (z_ex 0) ∈ z_gw := z_gwi 510 (by decide +kernel) (by decide +kernel)
theorem wa_179 : ∀ w ∈ vx_atS R_P 179 (z_ex 0) z_nm, w ∈ lw_tbl ∧ (goodWord w || z_cd w) = true := by decide +kernel
theorem k_ie_0 : Cond.initialized (z_ex 0) ∈ z_gw := z_gwi 73 (by decide +kernel) (by decide +kernel)
theorem k_ie_1 : Cond.initialized (z_ex 1) ∈ z_gw := z_gwi 69 (by decide +kernel) (by decide +kernel)
theorem k_ie_2 : Cond.initialized (z_ex 2) ∈ z_gw := z_gwi 70 (by decide +kernel) (by decide +kernel)
