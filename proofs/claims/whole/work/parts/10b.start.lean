
theorem z_ev {args : Array Value} {s : State} {t : Term} {nm : String} (h : (Cond.exactly t nm).before args s = true) : ∃ a, t.eval args s none [] s = some (.ref a) := by
  obtain ⟨a2, c, cA, kA, q1, -⟩ := Cond.exactly_spec (args := args) (first := s) (o := none) (s := s) (idx := []) (t := t) (cls := nm) h
  exact ⟨a2, q1⟩
theorem z_T_of {s : State} {b : Nat} {l : Launch} {A : Nat → Prop} (hl : l.stackTraces = false) (hts : ∀ w ∈ lw_tbl, w.before #[Value.ref b] s = true) (hgv : (Jvm.Cond.and given_1 narrow_1).before #[Value.ref b] s = true) (hA : ∀ a : Nat, a < s.heap.size → ¬ A a) : z_T l A s := by
  have hg := flat_of_before _ hgv
  refine ⟨hl, vx_Zqof (hts _ (List.mem_of_getElem? (i := 307) (by decide +kernel))) (hts _ (List.mem_of_getElem? (i := 66) (by decide +kernel))) (hg _ (by decide +kernel)) hA, vx_Zqof (hts _ (List.mem_of_getElem? (i := 309) (by decide +kernel))) (hts _ (List.mem_of_getElem? (i := 66) (by decide +kernel))) (hg _ (by decide +kernel)) hA, fun w hw => va_Nw.of (z_cd_tab (z_bw_cd hw)) (hts w (List.mem_filter.mp hw).1), ?_, ?_⟩
  · intro q hq
    simp only [z_str, List.mem_cons, List.not_mem_nil, or_false] at hq
    rcases hq with rfl | rfl | rfl | rfl | rfl | rfl | rfl
    · obtain ⟨a, ha⟩ := z_ev (hg (Cond.exactly (Term.string "PageParts" 182) "java/lang/String") (by decide +kernel))
      exact ⟨a, hts (Cond.stringRef "PageParts" 182 "no such sample") (List.mem_of_getElem? (i := 321) (by decide +kernel)), ha⟩
    · obtain ⟨a, ha⟩ := z_ev (hg (Cond.exactly (Term.string "PageParts" 76) "java/lang/String") (by decide +kernel))
      exact ⟨a, hts (Cond.stringRef "PageParts" 76 "a rectangle is at least 1 wide and 1 high") (List.mem_of_getElem? (i := 369) (by decide +kernel)), ha⟩
    · obtain ⟨a, ha⟩ := z_ev (hg (Cond.exactly (Term.string "PageParts" 87) "java/lang/String") (by decide +kernel))
      exact ⟨a, hts (Cond.stringRef "PageParts" 87 "noise is 0 .. 100") (List.mem_of_getElem? (i := 383) (by decide +kernel)), ha⟩
    · obtain ⟨a, ha⟩ := z_ev (hg (Cond.exactly (Term.string "PageParts" 89) "java/lang/String") (by decide +kernel))
      exact ⟨a, hts (Cond.stringRef "PageParts" 89 "a gap is 0 .. 24") (List.mem_of_getElem? (i := 391) (by decide +kernel)), ha⟩
    · obtain ⟨a, ha⟩ := z_ev (hg (Cond.exactly (Term.string "PageParts" 177) "java/lang/String") (by decide +kernel))
      exact ⟨a, hts (Cond.stringRef "PageParts" 177 "the page was not parted, or changed since") (List.mem_of_getElem? (i := 519) (by decide +kernel)), ha⟩
    · obtain ⟨a, ha⟩ := z_ev (hg (Cond.exactly (Term.string "PageParts" 185) "java/lang/String") (by decide +kernel))
      exact ⟨a, hts (Cond.stringRef "PageParts" 185 "there is none of this number") (List.mem_of_getElem? (i := 529) (by decide +kernel)), ha⟩
    · obtain ⟨a, ha⟩ := z_ev (hg (Cond.exactly (Term.string "PageParts" 187) "java/lang/String") (by decide +kernel))
      exact ⟨a, hts (Cond.stringRef "PageParts" 187 "nothing is told by this number") (List.mem_of_getElem? (i := 533) (by decide +kernel)), ha⟩
  · intro i j hi hj hn
    match i, j, hi, hj, hn with
    | 0, 0, _, _, hn => exact absurd rfl hn
    | 0, 1, _, _, _ => exact va_Nc.of (hg (Cond.not (Cond.castable "java/lang/IllegalStateException" "java/lang/IndexOutOfBoundsException")) (by decide +kernel))
    | 0, 2, _, _, _ => exact va_Nc.of (hg (Cond.not (Cond.castable "java/lang/IllegalStateException" "java/lang/IllegalArgumentException")) (by decide +kernel))
    | 1, 0, _, _, _ => exact va_Nc.of (hg (Cond.not (Cond.castable "java/lang/IndexOutOfBoundsException" "java/lang/IllegalStateException")) (by decide +kernel))
    | 1, 1, _, _, hn => exact absurd rfl hn
    | 1, 2, _, _, _ => exact va_Nc.of (hg (Cond.not (Cond.castable "java/lang/IndexOutOfBoundsException" "java/lang/IllegalArgumentException")) (by decide +kernel))
    | 2, 0, _, _, _ => exact va_Nc.of (hg (Cond.not (Cond.castable "java/lang/IllegalArgumentException" "java/lang/IllegalStateException")) (by decide +kernel))
    | 2, 1, _, _, _ => exact va_Nc.of (hg (Cond.not (Cond.castable "java/lang/IllegalArgumentException" "java/lang/IndexOutOfBoundsException")) (by decide +kernel))
    | 2, 2, _, _, hn => exact absurd rfl hn
    | i + 3, _, hi, _, _ => exact absurd hi (by omega)
    | _, j + 3, _, hj, _ => exact absurd hj (by omega)

theorem z_arr_int {s : State} {args : Array Value} (h : (Cond.arrayClass .int).before args s = true) : ∃ cA : ClassId, ArrOfT s cA .int ∧ va_RA s cA .int := by
  obtain ⟨cB, kB, comp, hcB, hkB, hkind⟩ := Cond.arrayClass_spec h
  exact ⟨cB, fun n z => ⟨fun k h => (by cases h), kB, hkB, comp, hkind⟩, hcB⟩
theorem z_arr_boolean {s : State} {args : Array Value} (h : (Cond.arrayClass .boolean).before args s = true) : ∃ cA : ClassId, ArrOfT s cA .boolean ∧ va_RA s cA .boolean := by
  obtain ⟨cB, kB, comp, hcB, hkB, hkind⟩ := Cond.arrayClass_spec h
  exact ⟨cB, fun n z => ⟨fun k h => (by cases h), kB, hkB, comp, hkind⟩, hcB⟩
theorem z_arr_long {s : State} {args : Array Value} (h : (Cond.arrayClass .long).before args s = true) : ∃ cA : ClassId, ArrOfT s cA .long ∧ va_RA s cA .long := by
  obtain ⟨cB, kB, comp, hcB, hkB, hkind⟩ := Cond.arrayClass_spec h
  exact ⟨cB, fun n z => ⟨fun k h => (by cases h), kB, hkB, comp, hkind⟩, hcB⟩
theorem z_arrs {s : State} {args : Array Value} (hts : ∀ w ∈ z_gw, w.before args s = true) : ∃ cA : Nat → ClassId, ∀ (k : Nat) (q : ClassId × FieldType), (z_ty cA)[k]? = some q → ArrOfT s q.1 q.2 ∧ va_RA s q.1 q.2 := by
  obtain ⟨a0, h0, g0⟩ := z_arr_int (hts _ k_ac_int)
  obtain ⟨a1, h1, g1⟩ := z_arr_boolean (hts _ k_ac_boolean)
  obtain ⟨a2, h2, g2⟩ := z_arr_long (hts _ k_ac_long)
  refine ⟨fun k => if k = 0 then a0 else if k = 1 then a1 else a2, fun k q hq => ?_⟩
  match k, hq with
  | 0, hq => cases hq; exact ⟨h0, g0⟩
  | 1, hq => cases hq; exact ⟨h1, g1⟩
  | 2, hq => cases hq; exact ⟨h2, g2⟩
  | k + 3, hq => simp [z_ty] at hq
section ZE
variable (cA : Nat → ClassId) (ad : Nat → Nat) (w h : Int32)
theorem ze_0 : z_ce cA ad 0 (z_S0 w h 0) = .inr (0, [.int w, .int h, .ref (ad 1), .ref (ad 2), .ref (ad 3), .ref (ad 4), .ref (ad 5), .ref (ad 13), .ref (ad 21), .ref (ad 27), .int 0, .int 0, .int 0, .int 3, .int 0]) := by
  rw [z_ce_o kd_0]
  simp only [z_fl, List.mapIdx_cons, List.mapIdx_nil, z_fv]
  rfl
theorem ze_1 : z_ce cA ad 1 (z_S0 w h 1) = .inl (cA 1, 576, .inl fun _ => 0) := (z_ce_a kd_1 (by decide)).trans rfl
theorem ze_2 : z_ce cA ad 2 (z_S0 w h 2) = .inl (cA 1, 576, .inl fun _ => 0) := (z_ce_a kd_2 (by decide)).trans rfl
theorem ze_3 : z_ce cA ad 3 (z_S0 w h 3) = .inl (cA 1, 576, .inl fun _ => 0) := (z_ce_a kd_3 (by decide)).trans rfl
theorem ze_4 : z_ce cA ad 4 (z_S0 w h 4) = .inl (cA 0, 24, .inl fun _ => 0) := (z_ce_a kd_4 (by decide)).trans rfl
theorem ze_5 : z_ce cA ad 5 (z_S0 w h 5) = .inr (1, [.ref (ad 6), .ref (ad 7), .ref (ad 8), .ref (ad 9), .ref (ad 10), .ref (ad 11), .int 0, .ref (ad 12), .int w, .int h]) := by
  rw [z_ce_o kd_5]
  simp only [z_fl, List.mapIdx_cons, List.mapIdx_nil, z_fv]
  rfl
theorem ze_6 : z_ce cA ad 6 (z_S0 w h 6) = .inl (cA 0, 576, .inl fun _ => 0) := (z_ce_a kd_6 (by decide)).trans rfl
theorem ze_7 : z_ce cA ad 7 (z_S0 w h 7) = .inl (cA 0, 288, .inl fun _ => 0) := (z_ce_a kd_7 (by decide)).trans rfl
theorem ze_8 : z_ce cA ad 8 (z_S0 w h 8) = .inl (cA 0, 288, .inl fun _ => 0) := (z_ce_a kd_8 (by decide)).trans rfl
theorem ze_9 : z_ce cA ad 9 (z_S0 w h 9) = .inl (cA 0, 288, .inl fun _ => 0) := (z_ce_a kd_9 (by decide)).trans rfl
theorem ze_10 : z_ce cA ad 10 (z_S0 w h 10) = .inl (cA 0, 288, .inl fun _ => 0) := (z_ce_a kd_10 (by decide)).trans rfl
theorem ze_11 : z_ce cA ad 11 (z_S0 w h 11) = .inl (cA 0, 288, .inl fun _ => 0) := (z_ce_a kd_11 (by decide)).trans rfl
theorem ze_12 : z_ce cA ad 12 (z_S0 w h 12) = .inl (cA 0, 576, .inl fun _ => 0) := (z_ce_a kd_12 (by decide)).trans rfl
theorem ze_13 : z_ce cA ad 13 (z_S0 w h 13) = .inr (1, [.ref (ad 14), .ref (ad 15), .ref (ad 16), .ref (ad 17), .ref (ad 18), .ref (ad 19), .int 0, .ref (ad 20), .int w, .int h]) := by
  rw [z_ce_o kd_13]
  simp only [z_fl, List.mapIdx_cons, List.mapIdx_nil, z_fv]
  rfl
theorem ze_14 : z_ce cA ad 14 (z_S0 w h 14) = .inl (cA 0, 576, .inl fun _ => 0) := (z_ce_a kd_14 (by decide)).trans rfl
theorem ze_15 : z_ce cA ad 15 (z_S0 w h 15) = .inl (cA 0, 288, .inl fun _ => 0) := (z_ce_a kd_15 (by decide)).trans rfl
theorem ze_16 : z_ce cA ad 16 (z_S0 w h 16) = .inl (cA 0, 288, .inl fun _ => 0) := (z_ce_a kd_16 (by decide)).trans rfl
theorem ze_17 : z_ce cA ad 17 (z_S0 w h 17) = .inl (cA 0, 288, .inl fun _ => 0) := (z_ce_a kd_17 (by decide)).trans rfl
theorem ze_18 : z_ce cA ad 18 (z_S0 w h 18) = .inl (cA 0, 288, .inl fun _ => 0) := (z_ce_a kd_18 (by decide)).trans rfl
theorem ze_19 : z_ce cA ad 19 (z_S0 w h 19) = .inl (cA 0, 288, .inl fun _ => 0) := (z_ce_a kd_19 (by decide)).trans rfl
theorem ze_20 : z_ce cA ad 20 (z_S0 w h 20) = .inl (cA 0, 576, .inl fun _ => 0) := (z_ce_a kd_20 (by decide)).trans rfl
theorem ze_21 : z_ce cA ad 21 (z_S0 w h 21) = .inr (2, [.ref (ad 22), .ref (ad 23), .ref (ad 24), .ref (ad 25), .int 0, .ref (ad 26), .int w, .int h, .int 0]) := by
  rw [z_ce_o kd_21]
  simp only [z_fl, List.mapIdx_cons, List.mapIdx_nil, z_fv]
  rfl
theorem ze_22 : z_ce cA ad 22 (z_S0 w h 22) = .inl (cA 0, 6, .inl fun _ => 0) := (z_ce_a kd_22 (by decide)).trans rfl
theorem ze_23 : z_ce cA ad 23 (z_S0 w h 23) = .inl (cA 0, 6, .inl fun _ => 0) := (z_ce_a kd_23 (by decide)).trans rfl
theorem ze_24 : z_ce cA ad 24 (z_S0 w h 24) = .inl (cA 0, 6, .inl fun _ => 0) := (z_ce_a kd_24 (by decide)).trans rfl
theorem ze_25 : z_ce cA ad 25 (z_S0 w h 25) = .inl (cA 0, 6, .inl fun _ => 0) := (z_ce_a kd_25 (by decide)).trans rfl
theorem ze_26 : z_ce cA ad 26 (z_S0 w h 26) = .inl (cA 0, 576, .inl fun _ => 0) := (z_ce_a kd_26 (by decide)).trans rfl
theorem ze_27 : z_ce cA ad 27 (z_S0 w h 27) = .inr (3, [.ref (ad 28), .ref (ad 29), .ref (ad 30), .int 0, .int 0, .int 0]) := by
  rw [z_ce_o kd_27]
  simp only [z_fl, List.mapIdx_cons, List.mapIdx_nil, z_fv]
  rfl
theorem ze_28 : z_ce cA ad 28 (z_S0 w h 28) = .inl (cA 0, 288, .inl fun _ => 0) := (z_ce_a kd_28 (by decide)).trans rfl
theorem ze_29 : z_ce cA ad 29 (z_S0 w h 29) = .inl (cA 0, 288, .inl fun _ => 0) := (z_ce_a kd_29 (by decide)).trans rfl
theorem ze_30 : z_ce cA ad 30 (z_S0 w h 30) = .inl (cA 0, 288, .inl fun _ => 0) := (z_ce_a kd_30 (by decide)).trans rfl
theorem ze_31 : z_ce cA ad 31 (z_S0 w h 31) = .inr (4, [.int 0, .int w, .int h, .ref (ad 32), .int 3, .int 0, .ref (ad 33), .ref (ad 34), .ref (ad 35), .ref (ad 36), .ref (ad 37), .ref (ad 38), .int 0, .ref (ad 39), .ref (ad 40), .ref (ad 41), .ref (ad 42), .ref (ad 43), .ref (ad 44), .int 0, .ref (ad 45), .int 0, .ref (ad 46), .int 0, .ref (ad 47), .ref (ad 48), .ref (ad 49)]) := by
  rw [z_ce_o kd_31]
  simp only [z_fl, List.mapIdx_cons, List.mapIdx_nil, z_fv]
  rfl
theorem ze_32 : z_ce cA ad 32 (z_S0 w h 32) = .inl (cA 1, 576, .inl fun _ => 0) := (z_ce_a kd_32 (by decide)).trans rfl
theorem ze_33 : z_ce cA ad 33 (z_S0 w h 33) = .inl (cA 1, 576, .inl fun _ => 0) := (z_ce_a kd_33 (by decide)).trans rfl
theorem ze_34 : z_ce cA ad 34 (z_S0 w h 34) = .inl (cA 1, 576, .inl fun _ => 0) := (z_ce_a kd_34 (by decide)).trans rfl
theorem ze_35 : z_ce cA ad 35 (z_S0 w h 35) = .inl (cA 1, 576, .inl fun _ => 0) := (z_ce_a kd_35 (by decide)).trans rfl
theorem ze_36 : z_ce cA ad 36 (z_S0 w h 36) = .inl (cA 1, 576, .inl fun _ => 0) := (z_ce_a kd_36 (by decide)).trans rfl
theorem ze_37 : z_ce cA ad 37 (z_S0 w h 37) = .inl (cA 0, 576, .inl fun _ => 0) := (z_ce_a kd_37 (by decide)).trans rfl
theorem ze_38 : z_ce cA ad 38 (z_S0 w h 38) = .inl (cA 0, 576, .inl fun _ => 0) := (z_ce_a kd_38 (by decide)).trans rfl
theorem ze_39 : z_ce cA ad 39 (z_S0 w h 39) = .inl (cA 0, 300, .inl fun _ => 0) := (z_ce_a kd_39 (by decide)).trans rfl
theorem ze_40 : z_ce cA ad 40 (z_S0 w h 40) = .inl (cA 0, 300, .inl fun _ => 0) := (z_ce_a kd_40 (by decide)).trans rfl
theorem ze_41 : z_ce cA ad 41 (z_S0 w h 41) = .inl (cA 0, 300, .inl fun _ => 0) := (z_ce_a kd_41 (by decide)).trans rfl
theorem ze_42 : z_ce cA ad 42 (z_S0 w h 42) = .inl (cA 0, 300, .inl fun _ => 0) := (z_ce_a kd_42 (by decide)).trans rfl
theorem ze_43 : z_ce cA ad 43 (z_S0 w h 43) = .inl (cA 0, 300, .inl fun _ => 0) := (z_ce_a kd_43 (by decide)).trans rfl
theorem ze_44 : z_ce cA ad 44 (z_S0 w h 44) = .inl (cA 0, 300, .inl fun _ => 0) := (z_ce_a kd_44 (by decide)).trans rfl
theorem ze_45 : z_ce cA ad 45 (z_S0 w h 45) = .inl (cA 0, 24, .inl fun _ => 0) := (z_ce_a kd_45 (by decide)).trans rfl
theorem ze_46 : z_ce cA ad 46 (z_S0 w h 46) = .inl (cA 0, 24, .inl fun _ => 0) := (z_ce_a kd_46 (by decide)).trans rfl
theorem ze_47 : z_ce cA ad 47 (z_S0 w h 47) = .inl (cA 0, 576, .inl fun _ => 0) := (z_ce_a kd_47 (by decide)).trans rfl
theorem ze_48 : z_ce cA ad 48 (z_S0 w h 48) = .inl (cA 0, 300, .inl fun _ => 0) := (z_ce_a kd_48 (by decide)).trans rfl
theorem ze_49 : z_ce cA ad 49 (z_S0 w h 49) = .inl (cA 0, 300, .inl fun _ => 0) := (z_ce_a kd_49 (by decide)).trans rfl
theorem ze_50 : z_ce cA ad 50 (z_S0 w h 50) = .inl (cA 2, 1, .inr (.inl fun _ => 0)) := (z_ce_l kd_50).trans rfl
theorem ze_rg : List.range 51 = [0, 1, 2, 3, 4, 5, 6, 7, 8, 9, 10, 11, 12, 13, 14, 15, 16, 17, 18, 19, 20, 21, 22, 23, 24, 25, 26, 27, 28, 29, 30, 31, 32, 33, 34, 35, 36, 37, 38, 39, 40, 41, 42, 43, 44, 45, 46, 47, 48, 49, 50] := by decide
theorem ze_w : z_w cA 51 ad (z_S0 w h) = [(ad 0, .inr (0, [.int w, .int h, .ref (ad 1), .ref (ad 2), .ref (ad 3), .ref (ad 4), .ref (ad 5), .ref (ad 13), .ref (ad 21), .ref (ad 27), .int 0, .int 0, .int 0, .int 3, .int 0])), (ad 1, .inl (cA 1, 576, .inl fun _ => 0)), (ad 2, .inl (cA 1, 576, .inl fun _ => 0)), (ad 3, .inl (cA 1, 576, .inl fun _ => 0)), (ad 4, .inl (cA 0, 24, .inl fun _ => 0)), (ad 5, .inr (1, [.ref (ad 6), .ref (ad 7), .ref (ad 8), .ref (ad 9), .ref (ad 10), .ref (ad 11), .int 0, .ref (ad 12), .int w, .int h])), (ad 6, .inl (cA 0, 576, .inl fun _ => 0)), (ad 7, .inl (cA 0, 288, .inl fun _ => 0)), (ad 8, .inl (cA 0, 288, .inl fun _ => 0)), (ad 9, .inl (cA 0, 288, .inl fun _ => 0)), (ad 10, .inl (cA 0, 288, .inl fun _ => 0)), (ad 11, .inl (cA 0, 288, .inl fun _ => 0)), (ad 12, .inl (cA 0, 576, .inl fun _ => 0)), (ad 13, .inr (1, [.ref (ad 14), .ref (ad 15), .ref (ad 16), .ref (ad 17), .ref (ad 18), .ref (ad 19), .int 0, .ref (ad 20), .int w, .int h])), (ad 14, .inl (cA 0, 576, .inl fun _ => 0)), (ad 15, .inl (cA 0, 288, .inl fun _ => 0)), (ad 16, .inl (cA 0, 288, .inl fun _ => 0)), (ad 17, .inl (cA 0, 288, .inl fun _ => 0)), (ad 18, .inl (cA 0, 288, .inl fun _ => 0)), (ad 19, .inl (cA 0, 288, .inl fun _ => 0)), (ad 20, .inl (cA 0, 576, .inl fun _ => 0)), (ad 21, .inr (2, [.ref (ad 22), .ref (ad 23), .ref (ad 24), .ref (ad 25), .int 0, .ref (ad 26), .int w, .int h, .int 0])), (ad 22, .inl (cA 0, 6, .inl fun _ => 0)), (ad 23, .inl (cA 0, 6, .inl fun _ => 0)), (ad 24, .inl (cA 0, 6, .inl fun _ => 0)), (ad 25, .inl (cA 0, 6, .inl fun _ => 0)), (ad 26, .inl (cA 0, 576, .inl fun _ => 0)), (ad 27, .inr (3, [.ref (ad 28), .ref (ad 29), .ref (ad 30), .int 0, .int 0, .int 0])), (ad 28, .inl (cA 0, 288, .inl fun _ => 0)), (ad 29, .inl (cA 0, 288, .inl fun _ => 0)), (ad 30, .inl (cA 0, 288, .inl fun _ => 0)), (ad 31, .inr (4, [.int 0, .int w, .int h, .ref (ad 32), .int 3, .int 0, .ref (ad 33), .ref (ad 34), .ref (ad 35), .ref (ad 36), .ref (ad 37), .ref (ad 38), .int 0, .ref (ad 39), .ref (ad 40), .ref (ad 41), .ref (ad 42), .ref (ad 43), .ref (ad 44), .int 0, .ref (ad 45), .int 0, .ref (ad 46), .int 0, .ref (ad 47), .ref (ad 48), .ref (ad 49)])), (ad 32, .inl (cA 1, 576, .inl fun _ => 0)), (ad 33, .inl (cA 1, 576, .inl fun _ => 0)), (ad 34, .inl (cA 1, 576, .inl fun _ => 0)), (ad 35, .inl (cA 1, 576, .inl fun _ => 0)), (ad 36, .inl (cA 1, 576, .inl fun _ => 0)), (ad 37, .inl (cA 0, 576, .inl fun _ => 0)), (ad 38, .inl (cA 0, 576, .inl fun _ => 0)), (ad 39, .inl (cA 0, 300, .inl fun _ => 0)), (ad 40, .inl (cA 0, 300, .inl fun _ => 0)), (ad 41, .inl (cA 0, 300, .inl fun _ => 0)), (ad 42, .inl (cA 0, 300, .inl fun _ => 0)), (ad 43, .inl (cA 0, 300, .inl fun _ => 0)), (ad 44, .inl (cA 0, 300, .inl fun _ => 0)), (ad 45, .inl (cA 0, 24, .inl fun _ => 0)), (ad 46, .inl (cA 0, 24, .inl fun _ => 0)), (ad 47, .inl (cA 0, 576, .inl fun _ => 0)), (ad 48, .inl (cA 0, 300, .inl fun _ => 0)), (ad 49, .inl (cA 0, 300, .inl fun _ => 0)), (ad 50, .inl (cA 2, 1, .inr (.inl fun _ => 0)))] := by
  unfold z_w
  rw [ze_rg]
  simp only [List.map_cons, List.map_nil, ze_0, ze_1, ze_2, ze_3, ze_4, ze_5, ze_6, ze_7, ze_8, ze_9, ze_10, ze_11, ze_12, ze_13, ze_14, ze_15, ze_16, ze_17, ze_18, ze_19, ze_20, ze_21, ze_22, ze_23, ze_24, ze_25, ze_26, ze_27, ze_28, ze_29, ze_30, ze_31, ze_32, ze_33, ze_34, ze_35, ze_36, ze_37, ze_38, ze_39, ze_40, ze_41, ze_42, ze_43, ze_44, ze_45, ze_46, ze_47, ze_48, ze_49, ze_50]
end ZE
