/-! THE LAW'S OWN METHODS that catch: they return, at most one cell of six slots is new -/
section ZL
def z_ctW (l : Launch) (D : va_G) (cA : Nat → ClassId) (n : Nat) (ad : Nat → Nat) (y : MethodName) (cc : ByteArray) (maxL : Nat) (hh : List (Nat × Nat × Nat × Nat)) (rm : Room) (av : List Value) (S : zS) (post : Int32 → zS → Prop) : Prop :=
  ∀ sz : Nat, (∀ i j, i < n → j < n → ad i = ad j → i = j) → Met l y (Cond.codeWith y cc maxL (some .int) hh :: z_gw) rm (z_PX l D cA n ad av S sz) (va_Qi post (fun S' t => va_P D z_cl (z_w cA n ad S') t.heap) (z_fr n ad sz)) 1 6 (z_fr n ad sz)
def z_wW (y : MethodName) (bytes : ByteArray) (maxL : Nat) (hh : List (Nat × Nat × Nat × Nat)) (n : Nat) : Prop := Cond.static y ∈ z_gw ∧ Cond.initialized y.cls ∈ z_gw ∧ Cond.codeWith y bytes maxL (some .int) hh ∈ z_gw ∧ y.cls ≠ "java/lang/invoke/MethodHandle" ∧ y.cls ≠ "java/lang/invoke/VarHandle" ∧ (parseMethodDescriptor y.desc).map (fun d => d.parameters.length) = some n
variable {p : Program} {l : Launch} {e : Env} {R : Room} {s : State} {m : MethodId} {args : Array Value} {below : List Frame} {meth : Method} {c : Code} {H : Heap} {locs : List Loc} {cells slots : Nat} {Q : State → Prop}
variable {cc : ByteArray} {pc nL : Nat} {ls : Array Slot} {rest : List Value} {D : va_G} {cA : Nat → ClassId} {n : Nat} {ad : Nat → Nat} {S : zS} {own : String}
variable {y : MethodName} {bytes : ByteArray} {maxL index : Nat} {ret : Option FieldType} {rm : Room} {As st0 : List Value} {hh : List (Nat × Nat × Nat × Nat)}
theorem z_catch {A : Nat → Prop} (C : z_CT p s m args c R_L cc nL D cA n ad) (hT : z_T l A s) {cd : Nat} (hcd : cd < 3) {q : Addr} {ce : Cell} (hce : H[q]? = some ce) (hcv : ce.vm = .none) (hcl : s.vm.findClass (z_ex cd) = some ce.cls) (htab : c.exceptionTable.toList = tableOf hh) (pre : List (Nat × Nat × Nat × Nat)) (x : Nat × Nat × Nat × Nat) (suf : List (Nat × Nat × Nat × Nat)) (hsp : hh = pre ++ x :: suf) (hpass : ∀ z ∈ pre, z.2.2.2 ≠ 0 ∧ ∃ k, k < 3 ∧ k ≠ cd ∧ Cond.classLink R_L z.2.2.2 (z_ex k) ∈ z_gw) (hcov : covers ⟨x.1, x.2.1, x.2.2.1, x.2.2.2⟩ pc = true) (h0 : x.2.2.2 ≠ 0) (hlink : Cond.classLink R_L x.2.2.2 (z_ex cd) ∈ z_gw) (hcast : Cond.castable (z_ex cd) (z_ex cd) ∈ z_bw)
    (kk : W p l e R s m args below meth c H locs cells slots Q (F0 m x.2.2.1 ls [.ref q])) : vx_W p l e R s m args below meth c H locs cells slots Q (F0 m pc ls rest) q := by
  obtain ⟨hx, hb, hml, hown, hts, hK, hJ⟩ := C
  refine vx_catch (own := R_L) (name := z_ex cd) (E := z_ex cd) hown (tableOf pre) ⟨x.1, x.2.1, x.2.2.1, x.2.2.2⟩ (tableOf suf) (by rw [htab, hsp]; simp [tableOf]) (fun z hz => ?_) hcov h0 (hts _ hlink) (va_Nw.use rfl (hT.2.2.2.1 _ hcast)) hce hcv hcl kk
  simp only [tableOf, List.mem_map] at hz
  obtain ⟨w, hw, rfl⟩ := hz
  obtain ⟨h1, k, h2, h3, h4⟩ := hpass w hw
  exact Or.inr ⟨h1, z_ex k, hts _ h4, hT.2.2.2.2.2 cd k hcd h2 (Ne.symm h3)⟩
theorem z_metW {av : List Value} {post : Int32 → zS → Prop} (hy : plainName y.cls = true) (hav : (lg_sl av).length ≤ maxL) (hr : rm.cells = 1 ∧ rm.slots = 6)
    (body : ∀ (p : Program) (e : Env) (s : State) (m : MethodId) (args : Array Value) (below : List Frame) (meth : Method) (c : Code) (Q : State → Prop) (ls : Array Slot), z_CT p s m args c y.cls cc maxL D cA n ad → z_T l (z_fr n ad s.heap.size) s → c.exceptionTable.toList = tableOf hh → lv_has ls maxL (lv_args 0 av) → z_I D cA n ad s.heap S s.heap [] → z_Ri p l e rm s m args below meth c Q cc D cA n ad post → W p l e rm s m args below meth c s.heap [] 0 0 Q (F0 m 0 ls [])) :
    z_ctW l D cA n ad y cc maxL hh rm av S post := by
  intro sz hJ
  refine va_MetW (cc := cc) (maxL := maxL) (ret := some .int) (hh := hh) hy rfl ?_
  intro p e s m args below meth c s₁ B hml hv
  obtain ⟨rfl, hsz, hP, hK, hT⟩ := hv
  have hts := atoms_spec (ws := Cond.codeWith y cc maxL (some .int) hh :: z_gw) B.pre
  subst hsz
  have hlocks := B.notSynchronized
  have hr9 := B.returns
  have hx := B.exec
  have hb := B.bytes
  rw [lg_entry_eq]
  refine body p e s m av.toArray below meth c _ _ ⟨hx, hb, hml, findClass_of_methodNamed B.named, fun w hw => hts w (List.mem_cons_of_mem _ hw), hK, hJ⟩ hT (vx_table (x := y) B (hts _ List.mem_cons_self)) (lv_entry av hav) ⟨hP, va_S.rf⟩ ?_
  intro cells slots hcs v S1 H locs pc ls hp hI hd
  refine W.widen (k := 1) (n := 6) (by have := hcs.1; rw [hr.1] at this; exact this) (by have := hcs.2; rw [hr.2] at this; exact this) ?_
  exact W.iret (v := v) hx hb hr9 (fun t ht hW => ⟨⟨v, S1, rfl, hp, (by show va_P D z_cl _ t.heap; rw [ht]; exact hI.1)⟩, hI.2.F ht⟩) hI.2.2.2 hd
theorem z_callSW (C : z_CT p s m args c own cc nL D cA n ad) (hT : z_T l (z_fr n ad s.heap.size) s) (hI : z_I D cA n ad s.heap S H locs) {post : Int32 → zS → Prop}
    (hM : z_ctW l D cA n ad y bytes maxL hh rm As S post) (wc : z_wW y bytes maxL hh As.length) (wl : Cond.methodLink own index y ∈ z_gw) (hr0 : rm.cells = 1) (hr1 : rm.slots = 6) (h1 : rm.frames + 1 ≤ R.frames) (h2 : 8 + (maxL + 11) + rm.locals ≤ R.locals) (hcs : cells + 1 ≤ R.cells ∧ slots + 6 ≤ R.slots) (hls : ls.size = nL) (hst : (rest.map fun v => v.category).sum ≤ 8) (h0 : st0 = As.reverse ++ rest) (hdg : decode cc pc = .ok (.invokestatic index, 3))
    (kk : ∀ (r : Int32) (S1 : zS) (H1 : Heap) (locs1 : List Loc), post r S1 → z_I D cA n ad s.heap S1 H1 locs1 → W p l e R s m args below meth c H1 locs1 (cells + 1) (slots + 6) Q (F0 m (pc + 3) ls (.int r :: rest))) : W p l e R s m args below meth c H locs cells slots Q (F0 m pc ls st0) := by
  obtain ⟨hx, hb, hml, hown, hts, hK, hJ⟩ := id C
  have hA := z_hA hI
  have hG : GoodIn z_gw (va_wsS own index y (Cond.codeWith y bytes maxL (some .int) hh :: z_gw)) := z_GI (fun w hw => by
    obtain ⟨w1, w2, w3, -⟩ := wc
    simp only [va_wsS, List.cons_append, List.nil_append, List.mem_cons] at hw
    rcases hw with rfl | rfl | rfl | rfl | hw
    · exact wl
    · exact w1
    · exact w2
    · exact w3
    · exact hw)
  refine va_calli (vx_runSW (As := As) (rest := rest) ⟨hx, hb, hml, hown, hts⟩ (hM H.size hJ) (vx_cwSW As.length hts hG rfl hr0 hr1 wc.2.2.2 ⟨h1, h2⟩) ⟨z_PX_b, fun U hU hW => ⟨rfl, by rw [hU], by rw [hU]; exact hI.1, va_K.moved hW.alike hK, z_T_mv hT hW hU hI.2 (fun q h => z_hA hI q h)⟩⟩ rfl rfl hls h0 (lv_room hst) hdg hcs) hI.2 (fun q _ h => hA q h) hA (fun r u t H1 locs1 ht hvm hp hB hz1 hk1 hS => kk r u H1 locs1 hp ⟨by rw [← ht]; exact hB, hS⟩)
/-- the script, as the law reads it -/
def z_X0 (b L : Nat) (xs : Nat → Int32) (n : Nat) (ad : Nat → Nat) (s : State) : Prop := va_X b L xs s s.heap ∧ b < s.heap.size ∧ ∀ k, k < n → s.heap.size ≤ ad k
theorem z_X0_A {b L : Nat} {xs : Nat → Int32} (h : z_X0 b L xs n ad s) : ¬ z_fr n ad s.heap.size b := by
  rintro (⟨k, h1, h2⟩ | h1)
  · have := h.2.2 k h1
    have := h.2.1
    omega
  · have := h.2.1
    omega
theorem z_sld (C : z_CT p s m args c own cc nL D cA n ad) (hI : z_I D cA n ad s.heap S H locs) {b L : Nat} {xs : Nat → Int32} (hX : z_X0 b L xs n ad s) {i : Int32} (hin : vp_in i L) (hdg : decode cc pc = .ok (.iaload, 1))
    (kk : W p l e R s m args below meth c H locs cells slots Q (F0 m (pc + 1) ls (.int (xs (z_ix i)) :: rest))) : W p l e R s m args below meth c H locs cells slots Q (F0 m pc ls (.int i :: .ref b :: rest)) :=
  va_sld C.1 C.2.1 hX.1 hX.2.1 (z_X0_A hX) hI.2 hin hdg kk
theorem z_slen (C : z_CT p s m args c own cc nL D cA n ad) (hI : z_I D cA n ad s.heap S H locs) {b L : Nat} {xs : Nat → Int32} (hX : z_X0 b L xs n ad s) (hdg : decode cc pc = .ok (.arraylength, 1))
    (kk : W p l e R s m args below meth c H locs cells slots Q (F0 m (pc + 1) ls (.int (nI L) :: rest))) : W p l e R s m args below meth c H locs cells slots Q (F0 m pc ls (.ref b :: rest)) :=
  va_slen C.1 C.2.1 hX.1 hX.2.1 (z_X0_A hX) hI.2 hdg kk
theorem z_cmp0 {x y : Int32} : lg_cmp (Int32.toInt64 x) (Int32.toInt64 y) = 0 ↔ x = y := by
  have hin : Int32.toInt64 x = Int32.toInt64 y ↔ x = y := by
    constructor
    · intro h
      have h2 := congrArg Int64.toInt h
      rw [Int32.toInt_toInt64, Int32.toInt_toInt64] at h2
      exact Int32.toInt_inj.mp h2
    · intro h; rw [h]
  rw [← hin]
  unfold lg_cmp
  constructor
  · intro h
    split at h
    · exact absurd h (by decide)
    · split at h
      · first | assumption | exact absurd h (by decide)
      · first | assumption | exact absurd h (by decide)
  · intro h
    rw [h]
    simp
end ZL

theorem k_cL_13 : Cond.classLink R_L 13 (z_ex 1) ∈ z_gw := z_gwi 271 (by decide +kernel) (by decide +kernel)
theorem k_cL_19 : Cond.classLink R_L 19 (z_ex 2) ∈ z_gw := z_gwi 355 (by decide +kernel) (by decide +kernel)
theorem k_cL_32 : Cond.classLink R_L 32 (z_ex 0) ∈ z_gw := z_gwi 501 (by decide +kernel) (by decide +kernel)
theorem k_cc_0 : Cond.castable (z_ex 0) (z_ex 0) ∈ z_bw := List.mem_filter.mpr ⟨List.mem_of_getElem? (i := 512) (by decide +kernel), rfl⟩
theorem k_cc_1 : Cond.castable (z_ex 1) (z_ex 1) ∈ z_bw := List.mem_filter.mpr ⟨List.mem_of_getElem? (i := 282) (by decide +kernel), rfl⟩
theorem k_cc_2 : Cond.castable (z_ex 2) (z_ex 2) ∈ z_bw := List.mem_filter.mpr ⟨List.mem_of_getElem? (i := 362) (by decide +kernel), rfl⟩
def hh_L_put : List (Nat × Nat × Nat × Nat) := [(0, 19, 22, 13)]
set_option maxRecDepth 20000 in
theorem wc_L_put : z_wW y_L_put b_L_put 6 hh_L_put 5 := ⟨z_gwi 269 (by decide +kernel) (by decide +kernel), z_gwi 59 (by decide +kernel) (by decide +kernel), z_gwi 270 (by decide +kernel) (by decide +kernel), by decide +kernel, by decide +kernel, by decide +kernel⟩
def hh_L_fill : List (Nat × Nat × Nat × Nat) := [(0, 16, 19, 13), (0, 16, 23, 19)]
set_option maxRecDepth 20000 in
theorem wc_L_fill : z_wW y_L_fill b_L_fill 8 hh_L_fill 7 := ⟨z_gwi 353 (by decide +kernel) (by decide +kernel), z_gwi 59 (by decide +kernel) (by decide +kernel), z_gwi 354 (by decide +kernel) (by decide +kernel), by decide +kernel, by decide +kernel, by decide +kernel⟩
def hh_L_noise : List (Nat × Nat × Nat × Nat) := [(0, 9, 12, 19)]
set_option maxRecDepth 20000 in
theorem wc_L_noise : z_wW y_L_noise b_L_noise 4 hh_L_noise 3 := ⟨z_gwi 377 (by decide +kernel) (by decide +kernel), z_gwi 59 (by decide +kernel) (by decide +kernel), z_gwi 378 (by decide +kernel) (by decide +kernel), by decide +kernel, by decide +kernel, by decide +kernel⟩
def hh_L_run : List (Nat × Nat × Nat × Nat) := [(0, 10, 13, 19)]
set_option maxRecDepth 20000 in
theorem wc_L_run : z_wW y_L_run b_L_run 5 hh_L_run 4 := ⟨z_gwi 385 (by decide +kernel) (by decide +kernel), z_gwi 59 (by decide +kernel) (by decide +kernel), z_gwi 386 (by decide +kernel) (by decide +kernel), by decide +kernel, by decide +kernel, by decide +kernel⟩
def hh_L_part : List (Nat × Nat × Nat × Nat) := [(0, 10, 13, 32), (0, 10, 17, 13), (0, 10, 21, 19)]
set_option maxRecDepth 20000 in
theorem wc_L_part : z_wW y_L_part b_L_part 5 hh_L_part 4 := ⟨z_gwi 499 (by decide +kernel) (by decide +kernel), z_gwi 59 (by decide +kernel) (by decide +kernel), z_gwi 500 (by decide +kernel) (by decide +kernel), by decide +kernel, by decide +kernel, by decide +kernel⟩
def hh_L_partOf : List (Nat × Nat × Nat × Nat) := [(0, 10, 13, 32), (0, 10, 17, 13)]
set_option maxRecDepth 20000 in
theorem wc_L_partOf : z_wW y_L_partOf b_L_partOf 5 hh_L_partOf 4 := ⟨z_gwi 584 (by decide +kernel) (by decide +kernel), z_gwi 59 (by decide +kernel) (by decide +kernel), z_gwi 585 (by decide +kernel) (by decide +kernel), by decide +kernel, by decide +kernel, by decide +kernel⟩
def hh_L_line : List (Nat × Nat × Nat × Nat) := [(0, 12, 15, 32), (0, 12, 19, 13), (0, 12, 23, 19)]
set_option maxRecDepth 20000 in
theorem wc_L_line : z_wW y_L_line b_L_line 6 hh_L_line 5 := ⟨z_gwi 591 (by decide +kernel) (by decide +kernel), z_gwi 59 (by decide +kernel) (by decide +kernel), z_gwi 592 (by decide +kernel) (by decide +kernel), by decide +kernel, by decide +kernel, by decide +kernel⟩
def hh_L_order : List (Nat × Nat × Nat × Nat) := [(0, 9, 12, 32), (0, 9, 15, 13)]
set_option maxRecDepth 20000 in
theorem wc_L_order : z_wW y_L_order b_L_order 4 hh_L_order 3 := ⟨z_gwi 606 (by decide +kernel) (by decide +kernel), z_gwi 59 (by decide +kernel) (by decide +kernel), z_gwi 607 (by decide +kernel) (by decide +kernel), by decide +kernel, by decide +kernel, by decide +kernel⟩
def hh_L_cover : List (Nat × Nat × Nat × Nat) := [(0, 10, 13, 32), (0, 10, 17, 13), (0, 10, 21, 19)]
set_option maxRecDepth 20000 in
theorem wc_L_cover : z_wW y_L_cover b_L_cover 5 hh_L_cover 4 := ⟨z_gwi 613 (by decide +kernel) (by decide +kernel), z_gwi 59 (by decide +kernel) (by decide +kernel), z_gwi 614 (by decide +kernel) (by decide +kernel), by decide +kernel, by decide +kernel, by decide +kernel⟩
def hh_L_strip : List (Nat × Nat × Nat × Nat) := [(0, 9, 12, 32), (0, 9, 15, 13)]
set_option maxRecDepth 20000 in
theorem wc_L_strip : z_wW y_L_strip b_L_strip 4 hh_L_strip 3 := ⟨z_gwi 620 (by decide +kernel) (by decide +kernel), z_gwi 59 (by decide +kernel) (by decide +kernel), z_gwi 621 (by decide +kernel) (by decide +kernel), by decide +kernel, by decide +kernel, by decide +kernel⟩
def hh_L_cell2 : List (Nat × Nat × Nat × Nat) := [(0, 10, 13, 32), (0, 10, 17, 13), (0, 10, 21, 19)]
set_option maxRecDepth 20000 in
theorem wc_L_cell2 : z_wW y_L_cell2 b_L_cell2 5 hh_L_cell2 4 := ⟨z_gwi 627 (by decide +kernel) (by decide +kernel), z_gwi 59 (by decide +kernel) (by decide +kernel), z_gwi 628 (by decide +kernel) (by decide +kernel), by decide +kernel, by decide +kernel, by decide +kernel⟩
def hh_L_isSpeck : List (Nat × Nat × Nat × Nat) := [(0, 17, 20, 32), (0, 17, 24, 13)]
set_option maxRecDepth 20000 in
theorem wc_L_isSpeck : z_wW y_L_isSpeck b_L_isSpeck 5 hh_L_isSpeck 4 := ⟨z_gwi 634 (by decide +kernel) (by decide +kernel), z_gwi 59 (by decide +kernel) (by decide +kernel), z_gwi 635 (by decide +kernel) (by decide +kernel), by decide +kernel, by decide +kernel, by decide +kernel⟩
theorem d_L_cell_0 : decode b_L_cell 0 = .ok (.iload_n 1, 1) := by decide +kernel
theorem d_L_cell_1 : decode b_L_cell 1 = .ok (.aload_n 0, 1) := by decide +kernel
theorem d_L_cell_2 : decode b_L_cell 2 = .ok (.arraylength, 1) := by decide +kernel
theorem d_L_cell_3 : decode b_L_cell 3 = .ok (.if_icmp .ge 9, 3) := by decide +kernel
theorem d_L_cell_6 : decode b_L_cell 6 = .ok (.aload_n 0, 1) := by decide +kernel
theorem d_L_cell_7 : decode b_L_cell 7 = .ok (.iload_n 1, 1) := by decide +kernel
theorem d_L_cell_8 : decode b_L_cell 8 = .ok (.iaload, 1) := by decide +kernel
theorem d_L_cell_9 : decode b_L_cell 9 = .ok (.goto 4, 3) := by decide +kernel
theorem d_L_cell_12 : decode b_L_cell 12 = .ok (.iconst 0, 1) := by decide +kernel
theorem d_L_cell_13 : decode b_L_cell 13 = .ok (.ireturn, 1) := by decide +kernel
theorem d_L_put_0 : decode b_L_put 0 = .ok (.aload 4, 2) := by decide +kernel
theorem d_L_put_2 : decode b_L_put 2 = .ok (.iconst 0, 1) := by decide +kernel
theorem d_L_put_3 : decode b_L_put 3 = .ok (.aload_n 0, 1) := by decide +kernel
theorem d_L_put_4 : decode b_L_put 4 = .ok (.iload_n 1, 1) := by decide +kernel
theorem d_L_put_5 : decode b_L_put 5 = .ok (.iload_n 2, 1) := by decide +kernel
theorem d_L_put_6 : decode b_L_put 6 = .ok (.iload_n 3, 1) := by decide +kernel
theorem d_L_put_7 : decode b_L_put 7 = .ok (.invokevirtual 7, 3) := by decide +kernel
theorem d_L_put_10 : decode b_L_put 10 = .ok (.ifCond .eq 7, 3) := by decide +kernel
theorem d_L_put_13 : decode b_L_put 13 = .ok (.lconst 1, 1) := by decide +kernel
theorem d_L_put_14 : decode b_L_put 14 = .ok (.goto 4, 3) := by decide +kernel
theorem d_L_put_17 : decode b_L_put 17 = .ok (.lconst 0, 1) := by decide +kernel
theorem d_L_put_18 : decode b_L_put 18 = .ok (.lastore, 1) := by decide +kernel
theorem d_L_put_19 : decode b_L_put 19 = .ok (.goto 7, 3) := by decide +kernel
theorem d_L_put_22 : decode b_L_put 22 = .ok (.astore 5, 2) := by decide +kernel
theorem d_L_put_24 : decode b_L_put 24 = .ok (.iconst 1, 1) := by decide +kernel
theorem d_L_put_25 : decode b_L_put 25 = .ok (.ireturn, 1) := by decide +kernel
theorem d_L_put_26 : decode b_L_put 26 = .ok (.iconst 0, 1) := by decide +kernel
theorem d_L_put_27 : decode b_L_put 27 = .ok (.ireturn, 1) := by decide +kernel
theorem d_L_fill_0 : decode b_L_fill 0 = .ok (.aload 6, 2) := by decide +kernel
theorem d_L_fill_2 : decode b_L_fill 2 = .ok (.iconst 0, 1) := by decide +kernel
theorem d_L_fill_3 : decode b_L_fill 3 = .ok (.aload_n 0, 1) := by decide +kernel
theorem d_L_fill_4 : decode b_L_fill 4 = .ok (.iload_n 1, 1) := by decide +kernel
theorem d_L_fill_5 : decode b_L_fill 5 = .ok (.iload_n 2, 1) := by decide +kernel
theorem d_L_fill_6 : decode b_L_fill 6 = .ok (.iload_n 3, 1) := by decide +kernel
theorem d_L_fill_7 : decode b_L_fill 7 = .ok (.iload 4, 2) := by decide +kernel
theorem d_L_fill_9 : decode b_L_fill 9 = .ok (.iload 5, 2) := by decide +kernel
theorem d_L_fill_11 : decode b_L_fill 11 = .ok (.invokevirtual 15, 3) := by decide +kernel
theorem d_L_fill_14 : decode b_L_fill 14 = .ok (.i2l, 1) := by decide +kernel
theorem d_L_fill_15 : decode b_L_fill 15 = .ok (.lastore, 1) := by decide +kernel
theorem d_L_fill_16 : decode b_L_fill 16 = .ok (.goto 11, 3) := by decide +kernel
theorem d_L_fill_19 : decode b_L_fill 19 = .ok (.astore 7, 2) := by decide +kernel
theorem d_L_fill_21 : decode b_L_fill 21 = .ok (.iconst 1, 1) := by decide +kernel
theorem d_L_fill_22 : decode b_L_fill 22 = .ok (.ireturn, 1) := by decide +kernel
theorem d_L_fill_23 : decode b_L_fill 23 = .ok (.astore 7, 2) := by decide +kernel
theorem d_L_fill_25 : decode b_L_fill 25 = .ok (.iconst 2, 1) := by decide +kernel
theorem d_L_fill_26 : decode b_L_fill 26 = .ok (.ireturn, 1) := by decide +kernel
theorem d_L_fill_27 : decode b_L_fill 27 = .ok (.iconst 0, 1) := by decide +kernel
theorem d_L_fill_28 : decode b_L_fill 28 = .ok (.ireturn, 1) := by decide +kernel
theorem d_L_noise_0 : decode b_L_noise 0 = .ok (.aload_n 2, 1) := by decide +kernel
theorem d_L_noise_1 : decode b_L_noise 1 = .ok (.iconst 0, 1) := by decide +kernel
theorem d_L_noise_2 : decode b_L_noise 2 = .ok (.aload_n 0, 1) := by decide +kernel
theorem d_L_noise_3 : decode b_L_noise 3 = .ok (.iload_n 1, 1) := by decide +kernel
theorem d_L_noise_4 : decode b_L_noise 4 = .ok (.invokevirtual 21, 3) := by decide +kernel
theorem d_L_noise_7 : decode b_L_noise 7 = .ok (.i2l, 1) := by decide +kernel
theorem d_L_noise_8 : decode b_L_noise 8 = .ok (.lastore, 1) := by decide +kernel
theorem d_L_noise_9 : decode b_L_noise 9 = .ok (.goto 6, 3) := by decide +kernel
theorem d_L_noise_12 : decode b_L_noise 12 = .ok (.astore_n 3, 1) := by decide +kernel
theorem d_L_noise_13 : decode b_L_noise 13 = .ok (.iconst 1, 1) := by decide +kernel
theorem d_L_noise_14 : decode b_L_noise 14 = .ok (.ireturn, 1) := by decide +kernel
theorem d_L_noise_15 : decode b_L_noise 15 = .ok (.iconst 0, 1) := by decide +kernel
theorem d_L_noise_16 : decode b_L_noise 16 = .ok (.ireturn, 1) := by decide +kernel
theorem d_L_run_0 : decode b_L_run 0 = .ok (.aload_n 3, 1) := by decide +kernel
theorem d_L_run_1 : decode b_L_run 1 = .ok (.iconst 0, 1) := by decide +kernel
theorem d_L_run_2 : decode b_L_run 2 = .ok (.aload_n 0, 1) := by decide +kernel
theorem d_L_run_3 : decode b_L_run 3 = .ok (.iload_n 1, 1) := by decide +kernel
theorem d_L_run_4 : decode b_L_run 4 = .ok (.iload_n 2, 1) := by decide +kernel
theorem d_L_run_5 : decode b_L_run 5 = .ok (.invokevirtual 25, 3) := by decide +kernel
theorem d_L_run_8 : decode b_L_run 8 = .ok (.i2l, 1) := by decide +kernel
theorem d_L_run_9 : decode b_L_run 9 = .ok (.lastore, 1) := by decide +kernel
theorem d_L_run_10 : decode b_L_run 10 = .ok (.goto 7, 3) := by decide +kernel
theorem d_L_run_13 : decode b_L_run 13 = .ok (.astore 4, 2) := by decide +kernel
theorem d_L_run_15 : decode b_L_run 15 = .ok (.iconst 1, 1) := by decide +kernel
theorem d_L_run_16 : decode b_L_run 16 = .ok (.ireturn, 1) := by decide +kernel
theorem d_L_run_17 : decode b_L_run 17 = .ok (.iconst 0, 1) := by decide +kernel
theorem d_L_run_18 : decode b_L_run 18 = .ok (.ireturn, 1) := by decide +kernel
theorem d_L_part_0 : decode b_L_part 0 = .ok (.aload_n 3, 1) := by decide +kernel
theorem d_L_part_1 : decode b_L_part 1 = .ok (.iconst 0, 1) := by decide +kernel
theorem d_L_part_2 : decode b_L_part 2 = .ok (.aload_n 0, 1) := by decide +kernel
theorem d_L_part_3 : decode b_L_part 3 = .ok (.iload_n 1, 1) := by decide +kernel
theorem d_L_part_4 : decode b_L_part 4 = .ok (.iload_n 2, 1) := by decide +kernel
theorem d_L_part_5 : decode b_L_part 5 = .ok (.invokevirtual 29, 3) := by decide +kernel
theorem d_L_part_8 : decode b_L_part 8 = .ok (.i2l, 1) := by decide +kernel
theorem d_L_part_9 : decode b_L_part 9 = .ok (.lastore, 1) := by decide +kernel
theorem d_L_part_10 : decode b_L_part 10 = .ok (.goto 15, 3) := by decide +kernel
theorem d_L_part_13 : decode b_L_part 13 = .ok (.astore 4, 2) := by decide +kernel
theorem d_L_part_15 : decode b_L_part 15 = .ok (.iconst 1, 1) := by decide +kernel
theorem d_L_part_16 : decode b_L_part 16 = .ok (.ireturn, 1) := by decide +kernel
theorem d_L_part_17 : decode b_L_part 17 = .ok (.astore 4, 2) := by decide +kernel
theorem d_L_part_19 : decode b_L_part 19 = .ok (.iconst 2, 1) := by decide +kernel
theorem d_L_part_20 : decode b_L_part 20 = .ok (.ireturn, 1) := by decide +kernel
theorem d_L_part_21 : decode b_L_part 21 = .ok (.astore 4, 2) := by decide +kernel
theorem d_L_part_23 : decode b_L_part 23 = .ok (.iconst 3, 1) := by decide +kernel
theorem d_L_part_24 : decode b_L_part 24 = .ok (.ireturn, 1) := by decide +kernel
theorem d_L_part_25 : decode b_L_part 25 = .ok (.iconst 0, 1) := by decide +kernel
theorem d_L_part_26 : decode b_L_part 26 = .ok (.ireturn, 1) := by decide +kernel
theorem d_L_partOf_0 : decode b_L_partOf 0 = .ok (.aload_n 3, 1) := by decide +kernel
theorem d_L_partOf_1 : decode b_L_partOf 1 = .ok (.iconst 0, 1) := by decide +kernel
theorem d_L_partOf_2 : decode b_L_partOf 2 = .ok (.aload_n 0, 1) := by decide +kernel
theorem d_L_partOf_3 : decode b_L_partOf 3 = .ok (.iload_n 1, 1) := by decide +kernel
theorem d_L_partOf_4 : decode b_L_partOf 4 = .ok (.iload_n 2, 1) := by decide +kernel
theorem d_L_partOf_5 : decode b_L_partOf 5 = .ok (.invokevirtual 34, 3) := by decide +kernel
theorem d_L_partOf_8 : decode b_L_partOf 8 = .ok (.i2l, 1) := by decide +kernel
theorem d_L_partOf_9 : decode b_L_partOf 9 = .ok (.lastore, 1) := by decide +kernel
theorem d_L_partOf_10 : decode b_L_partOf 10 = .ok (.goto 11, 3) := by decide +kernel
theorem d_L_partOf_13 : decode b_L_partOf 13 = .ok (.astore 4, 2) := by decide +kernel
theorem d_L_partOf_15 : decode b_L_partOf 15 = .ok (.iconst 1, 1) := by decide +kernel
theorem d_L_partOf_16 : decode b_L_partOf 16 = .ok (.ireturn, 1) := by decide +kernel
theorem d_L_partOf_17 : decode b_L_partOf 17 = .ok (.astore 4, 2) := by decide +kernel
theorem d_L_partOf_19 : decode b_L_partOf 19 = .ok (.iconst 2, 1) := by decide +kernel
theorem d_L_partOf_20 : decode b_L_partOf 20 = .ok (.ireturn, 1) := by decide +kernel
theorem d_L_partOf_21 : decode b_L_partOf 21 = .ok (.iconst 0, 1) := by decide +kernel
theorem d_L_partOf_22 : decode b_L_partOf 22 = .ok (.ireturn, 1) := by decide +kernel
theorem d_L_line_0 : decode b_L_line 0 = .ok (.aload 4, 2) := by decide +kernel
theorem d_L_line_2 : decode b_L_line 2 = .ok (.iconst 0, 1) := by decide +kernel
theorem d_L_line_3 : decode b_L_line 3 = .ok (.aload_n 0, 1) := by decide +kernel
theorem d_L_line_4 : decode b_L_line 4 = .ok (.iload_n 1, 1) := by decide +kernel
theorem d_L_line_5 : decode b_L_line 5 = .ok (.iload_n 2, 1) := by decide +kernel
theorem d_L_line_6 : decode b_L_line 6 = .ok (.iload_n 3, 1) := by decide +kernel
theorem d_L_line_7 : decode b_L_line 7 = .ok (.invokevirtual 37, 3) := by decide +kernel
theorem d_L_line_10 : decode b_L_line 10 = .ok (.i2l, 1) := by decide +kernel
theorem d_L_line_11 : decode b_L_line 11 = .ok (.lastore, 1) := by decide +kernel
theorem d_L_line_12 : decode b_L_line 12 = .ok (.goto 15, 3) := by decide +kernel
theorem d_L_line_15 : decode b_L_line 15 = .ok (.astore 5, 2) := by decide +kernel
theorem d_L_line_17 : decode b_L_line 17 = .ok (.iconst 1, 1) := by decide +kernel
theorem d_L_line_18 : decode b_L_line 18 = .ok (.ireturn, 1) := by decide +kernel
theorem d_L_line_19 : decode b_L_line 19 = .ok (.astore 5, 2) := by decide +kernel
theorem d_L_line_21 : decode b_L_line 21 = .ok (.iconst 2, 1) := by decide +kernel
theorem d_L_line_22 : decode b_L_line 22 = .ok (.ireturn, 1) := by decide +kernel
theorem d_L_line_23 : decode b_L_line 23 = .ok (.astore 5, 2) := by decide +kernel
theorem d_L_line_25 : decode b_L_line 25 = .ok (.iconst 3, 1) := by decide +kernel
theorem d_L_line_26 : decode b_L_line 26 = .ok (.ireturn, 1) := by decide +kernel
theorem d_L_line_27 : decode b_L_line 27 = .ok (.iconst 0, 1) := by decide +kernel
theorem d_L_line_28 : decode b_L_line 28 = .ok (.ireturn, 1) := by decide +kernel
theorem d_L_order_0 : decode b_L_order 0 = .ok (.aload_n 2, 1) := by decide +kernel
theorem d_L_order_1 : decode b_L_order 1 = .ok (.iconst 0, 1) := by decide +kernel
theorem d_L_order_2 : decode b_L_order 2 = .ok (.aload_n 0, 1) := by decide +kernel
theorem d_L_order_3 : decode b_L_order 3 = .ok (.iload_n 1, 1) := by decide +kernel
theorem d_L_order_4 : decode b_L_order 4 = .ok (.invokevirtual 41, 3) := by decide +kernel
theorem d_L_order_7 : decode b_L_order 7 = .ok (.i2l, 1) := by decide +kernel
theorem d_L_order_8 : decode b_L_order 8 = .ok (.lastore, 1) := by decide +kernel
theorem d_L_order_9 : decode b_L_order 9 = .ok (.goto 9, 3) := by decide +kernel
theorem d_L_order_12 : decode b_L_order 12 = .ok (.astore_n 3, 1) := by decide +kernel
theorem d_L_order_13 : decode b_L_order 13 = .ok (.iconst 1, 1) := by decide +kernel
theorem d_L_order_14 : decode b_L_order 14 = .ok (.ireturn, 1) := by decide +kernel
theorem d_L_order_15 : decode b_L_order 15 = .ok (.astore_n 3, 1) := by decide +kernel
theorem d_L_order_16 : decode b_L_order 16 = .ok (.iconst 2, 1) := by decide +kernel
theorem d_L_order_17 : decode b_L_order 17 = .ok (.ireturn, 1) := by decide +kernel
theorem d_L_order_18 : decode b_L_order 18 = .ok (.iconst 0, 1) := by decide +kernel
theorem d_L_order_19 : decode b_L_order 19 = .ok (.ireturn, 1) := by decide +kernel
theorem d_L_cover_0 : decode b_L_cover 0 = .ok (.aload_n 3, 1) := by decide +kernel
theorem d_L_cover_1 : decode b_L_cover 1 = .ok (.iconst 0, 1) := by decide +kernel
theorem d_L_cover_2 : decode b_L_cover 2 = .ok (.aload_n 0, 1) := by decide +kernel
theorem d_L_cover_3 : decode b_L_cover 3 = .ok (.iload_n 1, 1) := by decide +kernel
theorem d_L_cover_4 : decode b_L_cover 4 = .ok (.iload_n 2, 1) := by decide +kernel
theorem d_L_cover_5 : decode b_L_cover 5 = .ok (.invokevirtual 44, 3) := by decide +kernel
theorem d_L_cover_8 : decode b_L_cover 8 = .ok (.i2l, 1) := by decide +kernel
theorem d_L_cover_9 : decode b_L_cover 9 = .ok (.lastore, 1) := by decide +kernel
theorem d_L_cover_10 : decode b_L_cover 10 = .ok (.goto 15, 3) := by decide +kernel
theorem d_L_cover_13 : decode b_L_cover 13 = .ok (.astore 4, 2) := by decide +kernel
theorem d_L_cover_15 : decode b_L_cover 15 = .ok (.iconst 1, 1) := by decide +kernel
theorem d_L_cover_16 : decode b_L_cover 16 = .ok (.ireturn, 1) := by decide +kernel
theorem d_L_cover_17 : decode b_L_cover 17 = .ok (.astore 4, 2) := by decide +kernel
theorem d_L_cover_19 : decode b_L_cover 19 = .ok (.iconst 2, 1) := by decide +kernel
theorem d_L_cover_20 : decode b_L_cover 20 = .ok (.ireturn, 1) := by decide +kernel
theorem d_L_cover_21 : decode b_L_cover 21 = .ok (.astore 4, 2) := by decide +kernel
theorem d_L_cover_23 : decode b_L_cover 23 = .ok (.iconst 3, 1) := by decide +kernel
theorem d_L_cover_24 : decode b_L_cover 24 = .ok (.ireturn, 1) := by decide +kernel
theorem d_L_cover_25 : decode b_L_cover 25 = .ok (.iconst 0, 1) := by decide +kernel
theorem d_L_cover_26 : decode b_L_cover 26 = .ok (.ireturn, 1) := by decide +kernel
theorem d_L_strip_0 : decode b_L_strip 0 = .ok (.aload_n 2, 1) := by decide +kernel
theorem d_L_strip_1 : decode b_L_strip 1 = .ok (.iconst 0, 1) := by decide +kernel
theorem d_L_strip_2 : decode b_L_strip 2 = .ok (.aload_n 0, 1) := by decide +kernel
theorem d_L_strip_3 : decode b_L_strip 3 = .ok (.iload_n 1, 1) := by decide +kernel
theorem d_L_strip_4 : decode b_L_strip 4 = .ok (.invokevirtual 47, 3) := by decide +kernel
theorem d_L_strip_7 : decode b_L_strip 7 = .ok (.i2l, 1) := by decide +kernel
theorem d_L_strip_8 : decode b_L_strip 8 = .ok (.lastore, 1) := by decide +kernel
theorem d_L_strip_9 : decode b_L_strip 9 = .ok (.goto 9, 3) := by decide +kernel
theorem d_L_strip_12 : decode b_L_strip 12 = .ok (.astore_n 3, 1) := by decide +kernel
theorem d_L_strip_13 : decode b_L_strip 13 = .ok (.iconst 1, 1) := by decide +kernel
theorem d_L_strip_14 : decode b_L_strip 14 = .ok (.ireturn, 1) := by decide +kernel
theorem d_L_strip_15 : decode b_L_strip 15 = .ok (.astore_n 3, 1) := by decide +kernel
theorem d_L_strip_16 : decode b_L_strip 16 = .ok (.iconst 2, 1) := by decide +kernel
theorem d_L_strip_17 : decode b_L_strip 17 = .ok (.ireturn, 1) := by decide +kernel
theorem d_L_strip_18 : decode b_L_strip 18 = .ok (.iconst 0, 1) := by decide +kernel
theorem d_L_strip_19 : decode b_L_strip 19 = .ok (.ireturn, 1) := by decide +kernel
theorem d_L_cell2_0 : decode b_L_cell2 0 = .ok (.aload_n 3, 1) := by decide +kernel
theorem d_L_cell2_1 : decode b_L_cell2 1 = .ok (.iconst 0, 1) := by decide +kernel
theorem d_L_cell2_2 : decode b_L_cell2 2 = .ok (.aload_n 0, 1) := by decide +kernel
theorem d_L_cell2_3 : decode b_L_cell2 3 = .ok (.iload_n 1, 1) := by decide +kernel
theorem d_L_cell2_4 : decode b_L_cell2 4 = .ok (.iload_n 2, 1) := by decide +kernel
theorem d_L_cell2_5 : decode b_L_cell2 5 = .ok (.invokevirtual 50, 3) := by decide +kernel
theorem d_L_cell2_8 : decode b_L_cell2 8 = .ok (.i2l, 1) := by decide +kernel
theorem d_L_cell2_9 : decode b_L_cell2 9 = .ok (.lastore, 1) := by decide +kernel
theorem d_L_cell2_10 : decode b_L_cell2 10 = .ok (.goto 15, 3) := by decide +kernel
theorem d_L_cell2_13 : decode b_L_cell2 13 = .ok (.astore 4, 2) := by decide +kernel
theorem d_L_cell2_15 : decode b_L_cell2 15 = .ok (.iconst 1, 1) := by decide +kernel
theorem d_L_cell2_16 : decode b_L_cell2 16 = .ok (.ireturn, 1) := by decide +kernel
theorem d_L_cell2_17 : decode b_L_cell2 17 = .ok (.astore 4, 2) := by decide +kernel
theorem d_L_cell2_19 : decode b_L_cell2 19 = .ok (.iconst 2, 1) := by decide +kernel
theorem d_L_cell2_20 : decode b_L_cell2 20 = .ok (.ireturn, 1) := by decide +kernel
theorem d_L_cell2_21 : decode b_L_cell2 21 = .ok (.astore 4, 2) := by decide +kernel
theorem d_L_cell2_23 : decode b_L_cell2 23 = .ok (.iconst 3, 1) := by decide +kernel
theorem d_L_cell2_24 : decode b_L_cell2 24 = .ok (.ireturn, 1) := by decide +kernel
theorem d_L_cell2_25 : decode b_L_cell2 25 = .ok (.iconst 0, 1) := by decide +kernel
theorem d_L_cell2_26 : decode b_L_cell2 26 = .ok (.ireturn, 1) := by decide +kernel
theorem d_L_isSpeck_0 : decode b_L_isSpeck 0 = .ok (.aload_n 3, 1) := by decide +kernel
theorem d_L_isSpeck_1 : decode b_L_isSpeck 1 = .ok (.iconst 0, 1) := by decide +kernel
theorem d_L_isSpeck_2 : decode b_L_isSpeck 2 = .ok (.aload_n 0, 1) := by decide +kernel
theorem d_L_isSpeck_3 : decode b_L_isSpeck 3 = .ok (.iload_n 1, 1) := by decide +kernel
theorem d_L_isSpeck_4 : decode b_L_isSpeck 4 = .ok (.iload_n 2, 1) := by decide +kernel
theorem d_L_isSpeck_5 : decode b_L_isSpeck 5 = .ok (.invokevirtual 53, 3) := by decide +kernel
theorem d_L_isSpeck_8 : decode b_L_isSpeck 8 = .ok (.ifCond .eq 7, 3) := by decide +kernel
theorem d_L_isSpeck_11 : decode b_L_isSpeck 11 = .ok (.lconst 1, 1) := by decide +kernel
theorem d_L_isSpeck_12 : decode b_L_isSpeck 12 = .ok (.goto 4, 3) := by decide +kernel
theorem d_L_isSpeck_15 : decode b_L_isSpeck 15 = .ok (.lconst 0, 1) := by decide +kernel
theorem d_L_isSpeck_16 : decode b_L_isSpeck 16 = .ok (.lastore, 1) := by decide +kernel
theorem d_L_isSpeck_17 : decode b_L_isSpeck 17 = .ok (.goto 11, 3) := by decide +kernel
theorem d_L_isSpeck_20 : decode b_L_isSpeck 20 = .ok (.astore 4, 2) := by decide +kernel
theorem d_L_isSpeck_22 : decode b_L_isSpeck 22 = .ok (.iconst 1, 1) := by decide +kernel
theorem d_L_isSpeck_23 : decode b_L_isSpeck 23 = .ok (.ireturn, 1) := by decide +kernel
theorem d_L_isSpeck_24 : decode b_L_isSpeck 24 = .ok (.astore 4, 2) := by decide +kernel
theorem d_L_isSpeck_26 : decode b_L_isSpeck 26 = .ok (.iconst 2, 1) := by decide +kernel
theorem d_L_isSpeck_27 : decode b_L_isSpeck 27 = .ok (.ireturn, 1) := by decide +kernel
theorem d_L_isSpeck_28 : decode b_L_isSpeck 28 = .ok (.iconst 0, 1) := by decide +kernel
theorem d_L_isSpeck_29 : decode b_L_isSpeck 29 = .ok (.ireturn, 1) := by decide +kernel
