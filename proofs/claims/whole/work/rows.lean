section
-- ===== PART A: goes FIRST, ahead of the names: the tables' words, and 'selects' of the private methods out of them =====
/-- a private method of a class that the tables say can be made, by its rows of tables_1 -/
def lw_okq (q : MethodName × Nat) : Prop := (q.1.cls ≠ "java/lang/invoke/MethodHandle" ∧ q.1.cls ≠ "java/lang/invoke/VarHandle") ∧ Cond.instantiable q.1.cls q.2 ∈ tables_1 ∧ Cond.privateMethod q.1 ∈ tables_1 ∧ Cond.instanceMethod q.1 ∈ tables_1
theorem lw_p0 : lw_okq (⟨"PageParts", "toldOfParted", "(I)I"⟩, 15) := ⟨⟨by decide +kernel, by decide +kernel⟩, List.mem_of_getElem? (i := 16) (by decide +kernel), List.mem_of_getElem? (i := 199) (by decide +kernel), List.mem_of_getElem? (i := 200) (by decide +kernel)⟩
theorem lw_p1 : lw_okq (⟨"PageParts", "mustBeSample", "(II)V"⟩, 15) := ⟨⟨by decide +kernel, by decide +kernel⟩, List.mem_of_getElem? (i := 16) (by decide +kernel), List.mem_of_getElem? (i := 218) (by decide +kernel), List.mem_of_getElem? (i := 219) (by decide +kernel)⟩
theorem lw_p2 : lw_okq (⟨"java/lang/Throwable", "fillInStackTrace", "(I)Ljava/lang/Throwable;"⟩, 6) := ⟨⟨by decide +kernel, by decide +kernel⟩, List.mem_of_getElem? (i := 260) (by decide +kernel), List.mem_of_getElem? (i := 258) (by decide +kernel), List.mem_of_getElem? (i := 259) (by decide +kernel)⟩
theorem lw_p3 : lw_okq (⟨"PageParts", "paint", "(IIZ)Z"⟩, 15) := ⟨⟨by decide +kernel, by decide +kernel⟩, List.mem_of_getElem? (i := 16) (by decide +kernel), List.mem_of_getElem? (i := 290) (by decide +kernel), List.mem_of_getElem? (i := 291) (by decide +kernel)⟩
theorem lw_p4 : lw_okq (⟨"PageParts", "findClean", "()V"⟩, 15) := ⟨⟨by decide +kernel, by decide +kernel⟩, List.mem_of_getElem? (i := 16) (by decide +kernel), List.mem_of_getElem? (i := 334) (by decide +kernel), List.mem_of_getElem? (i := 335) (by decide +kernel)⟩
theorem lw_p5 : lw_okq (⟨"PageParts$Groups", "isOpen", "([ZZII)Z"⟩, 10) := ⟨⟨by decide +kernel, by decide +kernel⟩, List.mem_of_getElem? (i := 33) (by decide +kernel), List.mem_of_getElem? (i := 345) (by decide +kernel), List.mem_of_getElem? (i := 346) (by decide +kernel)⟩
theorem lw_p6 : lw_okq (⟨"PageParts$Groups", "begin", "(II)V"⟩, 10) := ⟨⟨by decide +kernel, by decide +kernel⟩, List.mem_of_getElem? (i := 33) (by decide +kernel), List.mem_of_getElem? (i := 349) (by decide +kernel), List.mem_of_getElem? (i := 350) (by decide +kernel)⟩
theorem lw_p7 : lw_okq (⟨"PageParts$Groups", "take", "(II)V"⟩, 10) := ⟨⟨by decide +kernel, by decide +kernel⟩, List.mem_of_getElem? (i := 33) (by decide +kernel), List.mem_of_getElem? (i := 353) (by decide +kernel), List.mem_of_getElem? (i := 354) (by decide +kernel)⟩
theorem lw_p8 : lw_okq (⟨"PageParts$Groups", "gather", "([ZZZ)V"⟩, 10) := ⟨⟨by decide +kernel, by decide +kernel⟩, List.mem_of_getElem? (i := 33) (by decide +kernel), List.mem_of_getElem? (i := 359) (by decide +kernel), List.mem_of_getElem? (i := 360) (by decide +kernel)⟩
theorem lw_p9 : lw_okq (⟨"PageParts", "smear", "(II)V"⟩, 15) := ⟨⟨by decide +kernel, by decide +kernel⟩, List.mem_of_getElem? (i := 16) (by decide +kernel), List.mem_of_getElem? (i := 363) (by decide +kernel), List.mem_of_getElem? (i := 364) (by decide +kernel)⟩
theorem lw_p10 : lw_okq (⟨"PageParts", "smearAlong", "(IIII)V"⟩, 15) := ⟨⟨by decide +kernel, by decide +kernel⟩, List.mem_of_getElem? (i := 16) (by decide +kernel), List.mem_of_getElem? (i := 367) (by decide +kernel), List.mem_of_getElem? (i := 368) (by decide +kernel)⟩
theorem lw_p11 : lw_okq (⟨"PageParts$Covers", "measure", "([Z)V"⟩, 9) := ⟨⟨by decide +kernel, by decide +kernel⟩, List.mem_of_getElem? (i := 84) (by decide +kernel), List.mem_of_getElem? (i := 375) (by decide +kernel), List.mem_of_getElem? (i := 376) (by decide +kernel)⟩
theorem lw_p12 : lw_okq (⟨"PageParts$Covers", "findGreatest", "(I)V"⟩, 9) := ⟨⟨by decide +kernel, by decide +kernel⟩, List.mem_of_getElem? (i := 84) (by decide +kernel), List.mem_of_getElem? (i := 379) (by decide +kernel), List.mem_of_getElem? (i := 380) (by decide +kernel)⟩
theorem lw_p13 : lw_okq (⟨"PageParts$Covers", "growFrom", "(III)V"⟩, 9) := ⟨⟨by decide +kernel, by decide +kernel⟩, List.mem_of_getElem? (i := 84) (by decide +kernel), List.mem_of_getElem? (i := 383) (by decide +kernel), List.mem_of_getElem? (i := 384) (by decide +kernel)⟩
theorem lw_p14 : lw_okq (⟨"PageParts$Covers", "block", "(I)V"⟩, 9) := ⟨⟨by decide +kernel, by decide +kernel⟩, List.mem_of_getElem? (i := 84) (by decide +kernel), List.mem_of_getElem? (i := 388) (by decide +kernel), List.mem_of_getElem? (i := 389) (by decide +kernel)⟩
theorem lw_p15 : lw_okq (⟨"PageParts$Covers", "shortenBefore", "(II)V"⟩, 9) := ⟨⟨by decide +kernel, by decide +kernel⟩, List.mem_of_getElem? (i := 84) (by decide +kernel), List.mem_of_getElem? (i := 392) (by decide +kernel), List.mem_of_getElem? (i := 393) (by decide +kernel)⟩
def lw_privs_1 : List (MethodName × Nat) := [(⟨"PageParts", "toldOfParted", "(I)I"⟩, 15), (⟨"PageParts", "mustBeSample", "(II)V"⟩, 15), (⟨"java/lang/Throwable", "fillInStackTrace", "(I)Ljava/lang/Throwable;"⟩, 6), (⟨"PageParts", "paint", "(IIZ)Z"⟩, 15), (⟨"PageParts", "findClean", "()V"⟩, 15), (⟨"PageParts$Groups", "isOpen", "([ZZII)Z"⟩, 10), (⟨"PageParts$Groups", "begin", "(II)V"⟩, 10), (⟨"PageParts$Groups", "take", "(II)V"⟩, 10), (⟨"PageParts$Groups", "gather", "([ZZZ)V"⟩, 10), (⟨"PageParts", "smear", "(II)V"⟩, 15), (⟨"PageParts", "smearAlong", "(IIII)V"⟩, 15), (⟨"PageParts$Covers", "measure", "([Z)V"⟩, 9), (⟨"PageParts$Covers", "findGreatest", "(I)V"⟩, 9), (⟨"PageParts$Covers", "growFrom", "(III)V"⟩, 9), (⟨"PageParts$Covers", "block", "(I)V"⟩, 9), (⟨"PageParts$Covers", "shortenBefore", "(II)V"⟩, 9)]
theorem lw_r1 : ∀ q ∈ lw_privs_1, lw_okq q := List.forall_mem_cons.mpr ⟨lw_p0, List.forall_mem_cons.mpr ⟨lw_p1, List.forall_mem_cons.mpr ⟨lw_p2, List.forall_mem_cons.mpr ⟨lw_p3, List.forall_mem_cons.mpr ⟨lw_p4, List.forall_mem_cons.mpr ⟨lw_p5, List.forall_mem_cons.mpr ⟨lw_p6, List.forall_mem_cons.mpr ⟨lw_p7, List.forall_mem_cons.mpr ⟨lw_p8, List.forall_mem_cons.mpr ⟨lw_p9, List.forall_mem_cons.mpr ⟨lw_p10, List.forall_mem_cons.mpr ⟨lw_p11, List.forall_mem_cons.mpr ⟨lw_p12, List.forall_mem_cons.mpr ⟨lw_p13, List.forall_mem_cons.mpr ⟨lw_p14, List.forall_mem_cons.mpr ⟨lw_p15, fun _ h => absurd h List.not_mem_nil⟩⟩⟩⟩⟩⟩⟩⟩⟩⟩⟩⟩⟩⟩⟩⟩
theorem lw_p16 : lw_okq (⟨"PageParts", "findStrips", "()V"⟩, 15) := ⟨⟨by decide +kernel, by decide +kernel⟩, List.mem_of_getElem? (i := 16) (by decide +kernel), List.mem_of_getElem? (i := 396) (by decide +kernel), List.mem_of_getElem? (i := 397) (by decide +kernel)⟩
theorem lw_p17 : lw_okq (⟨"PageParts", "hasInk", "(I)Z"⟩, 15) := ⟨⟨by decide +kernel, by decide +kernel⟩, List.mem_of_getElem? (i := 16) (by decide +kernel), List.mem_of_getElem? (i := 400) (by decide +kernel), List.mem_of_getElem? (i := 401) (by decide +kernel)⟩
theorem lw_p18 : lw_okq (⟨"PageParts$Reading", "sortByBoxes", "(LPageParts$Groups;)V"⟩, 6) := ⟨⟨by decide +kernel, by decide +kernel⟩, List.mem_of_getElem? (i := 123) (by decide +kernel), List.mem_of_getElem? (i := 412) (by decide +kernel), List.mem_of_getElem? (i := 413) (by decide +kernel)⟩
theorem lw_p19 : lw_okq (⟨"PageParts$Reading", "findCut", "(LPageParts$Groups;II)Z"⟩, 6) := ⟨⟨by decide +kernel, by decide +kernel⟩, List.mem_of_getElem? (i := 123) (by decide +kernel), List.mem_of_getElem? (i := 419) (by decide +kernel), List.mem_of_getElem? (i := 420) (by decide +kernel)⟩
theorem lw_p20 : lw_okq (⟨"PageParts$Reading", "lookAlong", "([I[IIIZ)V"⟩, 6) := ⟨⟨by decide +kernel, by decide +kernel⟩, List.mem_of_getElem? (i := 123) (by decide +kernel), List.mem_of_getElem? (i := 423) (by decide +kernel), List.mem_of_getElem? (i := 424) (by decide +kernel)⟩
theorem lw_p21 : lw_okq (⟨"PageParts$Reading", "divide", "(LPageParts$Groups;II)I"⟩, 6) := ⟨⟨by decide +kernel, by decide +kernel⟩, List.mem_of_getElem? (i := 123) (by decide +kernel), List.mem_of_getElem? (i := 433) (by decide +kernel), List.mem_of_getElem? (i := 434) (by decide +kernel)⟩
theorem lw_p22 : lw_okq (⟨"PageParts", "mustBeParted", "()V"⟩, 15) := ⟨⟨by decide +kernel, by decide +kernel⟩, List.mem_of_getElem? (i := 16) (by decide +kernel), List.mem_of_getElem? (i := 448) (by decide +kernel), List.mem_of_getElem? (i := 449) (by decide +kernel)⟩
theorem lw_p23 : lw_okq (⟨"PageParts", "weightOf", "(I)I"⟩, 15) := ⟨⟨by decide +kernel, by decide +kernel⟩, List.mem_of_getElem? (i := 16) (by decide +kernel), List.mem_of_getElem? (i := 476) (by decide +kernel), List.mem_of_getElem? (i := 477) (by decide +kernel)⟩
theorem lw_p24 : lw_okq (⟨"PageParts", "kindOf", "(I)I"⟩, 15) := ⟨⟨by decide +kernel, by decide +kernel⟩, List.mem_of_getElem? (i := 16) (by decide +kernel), List.mem_of_getElem? (i := 480) (by decide +kernel), List.mem_of_getElem? (i := 481) (by decide +kernel)⟩
theorem lw_p25 : lw_okq (⟨"PageParts", "isFramed", "(I)Z"⟩, 15) := ⟨⟨by decide +kernel, by decide +kernel⟩, List.mem_of_getElem? (i := 16) (by decide +kernel), List.mem_of_getElem? (i := 495) (by decide +kernel), List.mem_of_getElem? (i := 496) (by decide +kernel)⟩
theorem lw_p26 : lw_okq (⟨"PageParts", "countClean", "(IIII)I"⟩, 15) := ⟨⟨by decide +kernel, by decide +kernel⟩, List.mem_of_getElem? (i := 16) (by decide +kernel), List.mem_of_getElem? (i := 499) (by decide +kernel), List.mem_of_getElem? (i := 500) (by decide +kernel)⟩
theorem lw_p27 : lw_okq (⟨"PageParts", "isMostlyEmptyWithin", "(I)Z"⟩, 15) := ⟨⟨by decide +kernel, by decide +kernel⟩, List.mem_of_getElem? (i := 16) (by decide +kernel), List.mem_of_getElem? (i := 503) (by decide +kernel), List.mem_of_getElem? (i := 504) (by decide +kernel)⟩
theorem lw_p28 : lw_okq (⟨"PageParts", "countLines", "(I)I"⟩, 15) := ⟨⟨by decide +kernel, by decide +kernel⟩, List.mem_of_getElem? (i := 16) (by decide +kernel), List.mem_of_getElem? (i := 507) (by decide +kernel), List.mem_of_getElem? (i := 508) (by decide +kernel)⟩
theorem lw_p29 : lw_okq (⟨"PageParts", "beginsLine", "(II)Z"⟩, 15) := ⟨⟨by decide +kernel, by decide +kernel⟩, List.mem_of_getElem? (i := 16) (by decide +kernel), List.mem_of_getElem? (i := 511) (by decide +kernel), List.mem_of_getElem? (i := 512) (by decide +kernel)⟩
theorem lw_p30 : lw_okq (⟨"PageParts", "hasCleanOf", "(II)Z"⟩, 15) := ⟨⟨by decide +kernel, by decide +kernel⟩, List.mem_of_getElem? (i := 16) (by decide +kernel), List.mem_of_getElem? (i := 515) (by decide +kernel), List.mem_of_getElem? (i := 516) (by decide +kernel)⟩
theorem lw_p31 : lw_okq (⟨"PageParts", "firstRowOfLine", "(II)I"⟩, 15) := ⟨⟨by decide +kernel, by decide +kernel⟩, List.mem_of_getElem? (i := 16) (by decide +kernel), List.mem_of_getElem? (i := 539) (by decide +kernel), List.mem_of_getElem? (i := 540) (by decide +kernel)⟩
def lw_privs_2 : List (MethodName × Nat) := [(⟨"PageParts", "findStrips", "()V"⟩, 15), (⟨"PageParts", "hasInk", "(I)Z"⟩, 15), (⟨"PageParts$Reading", "sortByBoxes", "(LPageParts$Groups;)V"⟩, 6), (⟨"PageParts$Reading", "findCut", "(LPageParts$Groups;II)Z"⟩, 6), (⟨"PageParts$Reading", "lookAlong", "([I[IIIZ)V"⟩, 6), (⟨"PageParts$Reading", "divide", "(LPageParts$Groups;II)I"⟩, 6), (⟨"PageParts", "mustBeParted", "()V"⟩, 15), (⟨"PageParts", "weightOf", "(I)I"⟩, 15), (⟨"PageParts", "kindOf", "(I)I"⟩, 15), (⟨"PageParts", "isFramed", "(I)Z"⟩, 15), (⟨"PageParts", "countClean", "(IIII)I"⟩, 15), (⟨"PageParts", "isMostlyEmptyWithin", "(I)Z"⟩, 15), (⟨"PageParts", "countLines", "(I)I"⟩, 15), (⟨"PageParts", "beginsLine", "(II)Z"⟩, 15), (⟨"PageParts", "hasCleanOf", "(II)Z"⟩, 15), (⟨"PageParts", "firstRowOfLine", "(II)I"⟩, 15)]
theorem lw_r2 : ∀ q ∈ lw_privs_2, lw_okq q := List.forall_mem_cons.mpr ⟨lw_p16, List.forall_mem_cons.mpr ⟨lw_p17, List.forall_mem_cons.mpr ⟨lw_p18, List.forall_mem_cons.mpr ⟨lw_p19, List.forall_mem_cons.mpr ⟨lw_p20, List.forall_mem_cons.mpr ⟨lw_p21, List.forall_mem_cons.mpr ⟨lw_p22, List.forall_mem_cons.mpr ⟨lw_p23, List.forall_mem_cons.mpr ⟨lw_p24, List.forall_mem_cons.mpr ⟨lw_p25, List.forall_mem_cons.mpr ⟨lw_p26, List.forall_mem_cons.mpr ⟨lw_p27, List.forall_mem_cons.mpr ⟨lw_p28, List.forall_mem_cons.mpr ⟨lw_p29, List.forall_mem_cons.mpr ⟨lw_p30, List.forall_mem_cons.mpr ⟨lw_p31, fun _ h => absurd h List.not_mem_nil⟩⟩⟩⟩⟩⟩⟩⟩⟩⟩⟩⟩⟩⟩⟩⟩
theorem lw_p32 : lw_okq (⟨"PageParts", "countRowsOfLine", "(II)I"⟩, 15) := ⟨⟨by decide +kernel, by decide +kernel⟩, List.mem_of_getElem? (i := 16) (by decide +kernel), List.mem_of_getElem? (i := 543) (by decide +kernel), List.mem_of_getElem? (i := 544) (by decide +kernel)⟩
theorem lw_p33 : lw_okq (⟨"PagePartsModel", "isSample", "(II)Z"⟩, 27) := ⟨⟨by decide +kernel, by decide +kernel⟩, List.mem_of_getElem? (i := 582) (by decide +kernel), List.mem_of_getElem? (i := 681) (by decide +kernel), List.mem_of_getElem? (i := 682) (by decide +kernel)⟩
theorem lw_p34 : lw_okq (⟨"PagePartsModel", "goes", "(ZZZ)Z"⟩, 27) := ⟨⟨by decide +kernel, by decide +kernel⟩, List.mem_of_getElem? (i := 582) (by decide +kernel), List.mem_of_getElem? (i := 688) (by decide +kernel), List.mem_of_getElem? (i := 689) (by decide +kernel)⟩
theorem lw_p35 : lw_okq (⟨"PagePartsModel", "takeInk", "(II)V"⟩, 27) := ⟨⟨by decide +kernel, by decide +kernel⟩, List.mem_of_getElem? (i := 582) (by decide +kernel), List.mem_of_getElem? (i := 708) (by decide +kernel), List.mem_of_getElem? (i := 709) (by decide +kernel)⟩
theorem lw_p36 : lw_okq (⟨"PagePartsModel", "group", "(IZ)V"⟩, 27) := ⟨⟨by decide +kernel, by decide +kernel⟩, List.mem_of_getElem? (i := 582) (by decide +kernel), List.mem_of_getElem? (i := 712) (by decide +kernel), List.mem_of_getElem? (i := 713) (by decide +kernel)⟩
theorem lw_p37 : lw_okq (⟨"PagePartsModel", "is", "(II)Z"⟩, 27) := ⟨⟨by decide +kernel, by decide +kernel⟩, List.mem_of_getElem? (i := 582) (by decide +kernel), List.mem_of_getElem? (i := 716) (by decide +kernel), List.mem_of_getElem? (i := 717) (by decide +kernel)⟩
theorem lw_p38 : lw_okq (⟨"PagePartsModel", "settles", "(IIZ)Z"⟩, 27) := ⟨⟨by decide +kernel, by decide +kernel⟩, List.mem_of_getElem? (i := 582) (by decide +kernel), List.mem_of_getElem? (i := 720) (by decide +kernel), List.mem_of_getElem? (i := 721) (by decide +kernel)⟩
theorem lw_p39 : lw_okq (⟨"PagePartsModel", "sizeOf", "(I)I"⟩, 27) := ⟨⟨by decide +kernel, by decide +kernel⟩, List.mem_of_getElem? (i := 582) (by decide +kernel), List.mem_of_getElem? (i := 724) (by decide +kernel), List.mem_of_getElem? (i := 725) (by decide +kernel)⟩
theorem lw_p40 : lw_okq (⟨"PagePartsModel", "inGap", "(IIIII)Z"⟩, 27) := ⟨⟨by decide +kernel, by decide +kernel⟩, List.mem_of_getElem? (i := 582) (by decide +kernel), List.mem_of_getElem? (i := 728) (by decide +kernel), List.mem_of_getElem? (i := 729) (by decide +kernel)⟩
theorem lw_p41 : lw_okq (⟨"PagePartsModel", "takeParts", "()V"⟩, 27) := ⟨⟨by decide +kernel, by decide +kernel⟩, List.mem_of_getElem? (i := 582) (by decide +kernel), List.mem_of_getElem? (i := 732) (by decide +kernel), List.mem_of_getElem? (i := 733) (by decide +kernel)⟩
theorem lw_p42 : lw_okq (⟨"PagePartsModel", "kindOf", "(IIII)I"⟩, 27) := ⟨⟨by decide +kernel, by decide +kernel⟩, List.mem_of_getElem? (i := 582) (by decide +kernel), List.mem_of_getElem? (i := 736) (by decide +kernel), List.mem_of_getElem? (i := 737) (by decide +kernel)⟩
theorem lw_p43 : lw_okq (⟨"PagePartsModel", "cleanIn", "(IIIII)I"⟩, 27) := ⟨⟨by decide +kernel, by decide +kernel⟩, List.mem_of_getElem? (i := 582) (by decide +kernel), List.mem_of_getElem? (i := 740) (by decide +kernel), List.mem_of_getElem? (i := 741) (by decide +kernel)⟩
theorem lw_p44 : lw_okq (⟨"PagePartsModel", "takeCovers", "()V"⟩, 27) := ⟨⟨by decide +kernel, by decide +kernel⟩, List.mem_of_getElem? (i := 582) (by decide +kernel), List.mem_of_getElem? (i := 744) (by decide +kernel), List.mem_of_getElem? (i := 745) (by decide +kernel)⟩
theorem lw_p45 : lw_okq (⟨"PagePartsModel", "takeCover", "()Z"⟩, 27) := ⟨⟨by decide +kernel, by decide +kernel⟩, List.mem_of_getElem? (i := 582) (by decide +kernel), List.mem_of_getElem? (i := 748) (by decide +kernel), List.mem_of_getElem? (i := 749) (by decide +kernel)⟩
theorem lw_p46 : lw_okq (⟨"PagePartsModel", "takeStrips", "()V"⟩, 27) := ⟨⟨by decide +kernel, by decide +kernel⟩, List.mem_of_getElem? (i := 582) (by decide +kernel), List.mem_of_getElem? (i := 752) (by decide +kernel), List.mem_of_getElem? (i := 753) (by decide +kernel)⟩
theorem lw_p47 : lw_okq (⟨"PagePartsModel", "takeCells", "()V"⟩, 27) := ⟨⟨by decide +kernel, by decide +kernel⟩, List.mem_of_getElem? (i := 582) (by decide +kernel), List.mem_of_getElem? (i := 756) (by decide +kernel), List.mem_of_getElem? (i := 757) (by decide +kernel)⟩
def lw_privs_3 : List (MethodName × Nat) := [(⟨"PageParts", "countRowsOfLine", "(II)I"⟩, 15), (⟨"PagePartsModel", "isSample", "(II)Z"⟩, 27), (⟨"PagePartsModel", "goes", "(ZZZ)Z"⟩, 27), (⟨"PagePartsModel", "takeInk", "(II)V"⟩, 27), (⟨"PagePartsModel", "group", "(IZ)V"⟩, 27), (⟨"PagePartsModel", "is", "(II)Z"⟩, 27), (⟨"PagePartsModel", "settles", "(IIZ)Z"⟩, 27), (⟨"PagePartsModel", "sizeOf", "(I)I"⟩, 27), (⟨"PagePartsModel", "inGap", "(IIIII)Z"⟩, 27), (⟨"PagePartsModel", "takeParts", "()V"⟩, 27), (⟨"PagePartsModel", "kindOf", "(IIII)I"⟩, 27), (⟨"PagePartsModel", "cleanIn", "(IIIII)I"⟩, 27), (⟨"PagePartsModel", "takeCovers", "()V"⟩, 27), (⟨"PagePartsModel", "takeCover", "()Z"⟩, 27), (⟨"PagePartsModel", "takeStrips", "()V"⟩, 27), (⟨"PagePartsModel", "takeCells", "()V"⟩, 27)]
theorem lw_r3 : ∀ q ∈ lw_privs_3, lw_okq q := List.forall_mem_cons.mpr ⟨lw_p32, List.forall_mem_cons.mpr ⟨lw_p33, List.forall_mem_cons.mpr ⟨lw_p34, List.forall_mem_cons.mpr ⟨lw_p35, List.forall_mem_cons.mpr ⟨lw_p36, List.forall_mem_cons.mpr ⟨lw_p37, List.forall_mem_cons.mpr ⟨lw_p38, List.forall_mem_cons.mpr ⟨lw_p39, List.forall_mem_cons.mpr ⟨lw_p40, List.forall_mem_cons.mpr ⟨lw_p41, List.forall_mem_cons.mpr ⟨lw_p42, List.forall_mem_cons.mpr ⟨lw_p43, List.forall_mem_cons.mpr ⟨lw_p44, List.forall_mem_cons.mpr ⟨lw_p45, List.forall_mem_cons.mpr ⟨lw_p46, List.forall_mem_cons.mpr ⟨lw_p47, fun _ h => absurd h List.not_mem_nil⟩⟩⟩⟩⟩⟩⟩⟩⟩⟩⟩⟩⟩⟩⟩⟩
theorem lw_p48 : lw_okq (⟨"PagePartsModel", "isClosed", "(I)Z"⟩, 27) := ⟨⟨by decide +kernel, by decide +kernel⟩, List.mem_of_getElem? (i := 582) (by decide +kernel), List.mem_of_getElem? (i := 760) (by decide +kernel), List.mem_of_getElem? (i := 761) (by decide +kernel)⟩
theorem lw_p49 : lw_okq (⟨"PagePartsModel", "takeOrder", "()V"⟩, 27) := ⟨⟨by decide +kernel, by decide +kernel⟩, List.mem_of_getElem? (i := 582) (by decide +kernel), List.mem_of_getElem? (i := 764) (by decide +kernel), List.mem_of_getElem? (i := 765) (by decide +kernel)⟩
theorem lw_p50 : lw_okq (⟨"PagePartsModel", "parts", "(II)I"⟩, 27) := ⟨⟨by decide +kernel, by decide +kernel⟩, List.mem_of_getElem? (i := 582) (by decide +kernel), List.mem_of_getElem? (i := 768) (by decide +kernel), List.mem_of_getElem? (i := 769) (by decide +kernel)⟩
theorem lw_p51 : lw_okq (⟨"PagePartsModel", "gap", "(IZII)I"⟩, 27) := ⟨⟨by decide +kernel, by decide +kernel⟩, List.mem_of_getElem? (i := 582) (by decide +kernel), List.mem_of_getElem? (i := 772) (by decide +kernel), List.mem_of_getElem? (i := 773) (by decide +kernel)⟩
theorem lw_p52 : lw_okq (⟨"PagePartsModel", "low", "(IZ)I"⟩, 27) := ⟨⟨by decide +kernel, by decide +kernel⟩, List.mem_of_getElem? (i := 582) (by decide +kernel), List.mem_of_getElem? (i := 776) (by decide +kernel), List.mem_of_getElem? (i := 777) (by decide +kernel)⟩
theorem lw_p53 : lw_okq (⟨"PagePartsModel", "high", "(IZ)I"⟩, 27) := ⟨⟨by decide +kernel, by decide +kernel⟩, List.mem_of_getElem? (i := 582) (by decide +kernel), List.mem_of_getElem? (i := 780) (by decide +kernel), List.mem_of_getElem? (i := 781) (by decide +kernel)⟩
theorem lw_p54 : lw_okq (⟨"PagePartsModel", "swap", "(II)V"⟩, 27) := ⟨⟨by decide +kernel, by decide +kernel⟩, List.mem_of_getElem? (i := 582) (by decide +kernel), List.mem_of_getElem? (i := 784) (by decide +kernel), List.mem_of_getElem? (i := 785) (by decide +kernel)⟩
theorem lw_p55 : lw_okq (⟨"PagePartsModel", "sort", "(II)V"⟩, 27) := ⟨⟨by decide +kernel, by decide +kernel⟩, List.mem_of_getElem? (i := 582) (by decide +kernel), List.mem_of_getElem? (i := 788) (by decide +kernel), List.mem_of_getElem? (i := 789) (by decide +kernel)⟩
theorem lw_p56 : lw_okq (⟨"PagePartsModel", "isBefore", "(II)Z"⟩, 27) := ⟨⟨by decide +kernel, by decide +kernel⟩, List.mem_of_getElem? (i := 582) (by decide +kernel), List.mem_of_getElem? (i := 792) (by decide +kernel), List.mem_of_getElem? (i := 793) (by decide +kernel)⟩
theorem lw_p57 : lw_okq (⟨"PagePartsModel", "lines", "(I)I"⟩, 27) := ⟨⟨by decide +kernel, by decide +kernel⟩, List.mem_of_getElem? (i := 582) (by decide +kernel), List.mem_of_getElem? (i := 800) (by decide +kernel), List.mem_of_getElem? (i := 801) (by decide +kernel)⟩
theorem lw_p58 : lw_okq (⟨"PagePartsModel", "inkOf", "(I)I"⟩, 27) := ⟨⟨by decide +kernel, by decide +kernel⟩, List.mem_of_getElem? (i := 582) (by decide +kernel), List.mem_of_getElem? (i := 804) (by decide +kernel), List.mem_of_getElem? (i := 805) (by decide +kernel)⟩
def lw_privs_4 : List (MethodName × Nat) := [(⟨"PagePartsModel", "isClosed", "(I)Z"⟩, 27), (⟨"PagePartsModel", "takeOrder", "()V"⟩, 27), (⟨"PagePartsModel", "parts", "(II)I"⟩, 27), (⟨"PagePartsModel", "gap", "(IZII)I"⟩, 27), (⟨"PagePartsModel", "low", "(IZ)I"⟩, 27), (⟨"PagePartsModel", "high", "(IZ)I"⟩, 27), (⟨"PagePartsModel", "swap", "(II)V"⟩, 27), (⟨"PagePartsModel", "sort", "(II)V"⟩, 27), (⟨"PagePartsModel", "isBefore", "(II)Z"⟩, 27), (⟨"PagePartsModel", "lines", "(I)I"⟩, 27), (⟨"PagePartsModel", "inkOf", "(I)I"⟩, 27)]
theorem lw_r4 : ∀ q ∈ lw_privs_4, lw_okq q := List.forall_mem_cons.mpr ⟨lw_p48, List.forall_mem_cons.mpr ⟨lw_p49, List.forall_mem_cons.mpr ⟨lw_p50, List.forall_mem_cons.mpr ⟨lw_p51, List.forall_mem_cons.mpr ⟨lw_p52, List.forall_mem_cons.mpr ⟨lw_p53, List.forall_mem_cons.mpr ⟨lw_p54, List.forall_mem_cons.mpr ⟨lw_p55, List.forall_mem_cons.mpr ⟨lw_p56, List.forall_mem_cons.mpr ⟨lw_p57, List.forall_mem_cons.mpr ⟨lw_p58, fun _ h => absurd h List.not_mem_nil⟩⟩⟩⟩⟩⟩⟩⟩⟩⟩⟩
def lw_privs : List (MethodName × Nat) := lw_privs_1 ++ (lw_privs_2 ++ (lw_privs_3 ++ (lw_privs_4)))
def lw_tbl : List Cond := k2_sels lw_privs ++ tables_1
theorem lw_privs_ok : ∀ q ∈ lw_privs, lw_okq q := by
  show ∀ q ∈ lw_privs_1 ++ (lw_privs_2 ++ (lw_privs_3 ++ (lw_privs_4))), lw_okq q
  exact List.forall_mem_append.mpr ⟨lw_r1, List.forall_mem_append.mpr ⟨lw_r2, List.forall_mem_append.mpr ⟨lw_r3, lw_r4⟩⟩⟩
end
section
def R_P : String := "PageParts"
def F_P : u_T := fun k => match k with
  | 0 => ("PageParts", "width", "I", true)
  | 1 => ("PageParts", "height", "I", true)
  | 2 => ("PageParts", "black", "[Z", true)
  | 3 => ("PageParts", "clean", "[Z", true)
  | 4 => ("PageParts", "ink", "[Z", true)
  | 5 => ("PageParts", "strips", "[I", true)
  | 6 => ("PageParts", "parts", "LPageParts$Groups;", true)
  | 7 => ("PageParts", "cells", "LPageParts$Groups;", true)
  | 8 => ("PageParts", "covers", "LPageParts$Covers;", true)
  | 9 => ("PageParts", "reading", "LPageParts$Reading;", true)
  | 10 => ("PageParts", "blackCount", "I", false)
  | 11 => ("PageParts", "cleanCount", "I", false)
  | 12 => ("PageParts", "stripCount", "I", false)
  | 13 => ("PageParts", "noiseNow", "I", false)
  | _ => ("PageParts", "parted", "Z", false)
def ty_P : Nat → FieldType := fun k => match k with
  | 0 => .int
  | 1 => .int
  | 2 => .array .boolean
  | 3 => .array .boolean
  | 4 => .array .boolean
  | 5 => .array .int
  | 6 => .object "PageParts$Groups"
  | 7 => .object "PageParts$Groups"
  | 8 => .object "PageParts$Covers"
  | 9 => .object "PageParts$Reading"
  | 10 => .int
  | 11 => .int
  | 12 => .int
  | 13 => .int
  | _ => .boolean
def R_G : String := "PageParts$Groups"
def F_G : u_T := fun k => match k with
  | 0 => ("PageParts$Groups", "label", "[I", true)
  | 1 => ("PageParts$Groups", "left", "[I", true)
  | 2 => ("PageParts$Groups", "top", "[I", true)
  | 3 => ("PageParts$Groups", "right", "[I", true)
  | 4 => ("PageParts$Groups", "bottom", "[I", true)
  | 5 => ("PageParts$Groups", "size", "[I", true)
  | 6 => ("PageParts$Groups", "count", "I", false)
  | 7 => ("PageParts$Groups", "queue", "[I", true)
  | 8 => ("PageParts$Groups", "width", "I", true)
  | _ => ("PageParts$Groups", "height", "I", true)
def ty_G : Nat → FieldType := fun k => match k with
  | 0 => .array .int
  | 1 => .array .int
  | 2 => .array .int
  | 3 => .array .int
  | 4 => .array .int
  | 5 => .array .int
  | 6 => .int
  | 7 => .array .int
  | 8 => .int
  | _ => .int
def R_C : String := "PageParts$Covers"
def F_C : u_T := fun k => match k with
  | 0 => ("PageParts$Covers", "left", "[I", true)
  | 1 => ("PageParts$Covers", "top", "[I", true)
  | 2 => ("PageParts$Covers", "wide", "[I", true)
  | 3 => ("PageParts$Covers", "high", "[I", true)
  | 4 => ("PageParts$Covers", "count", "I", false)
  | 5 => ("PageParts$Covers", "reach", "[I", true)
  | 6 => ("PageParts$Covers", "width", "I", true)
  | 7 => ("PageParts$Covers", "height", "I", true)
  | _ => ("PageParts$Covers", "greatest", "I", false)
def ty_C : Nat → FieldType := fun k => match k with
  | 0 => .array .int
  | 1 => .array .int
  | 2 => .array .int
  | 3 => .array .int
  | 4 => .int
  | 5 => .array .int
  | 6 => .int
  | 7 => .int
  | _ => .int
def R_R : String := "PageParts$Reading"
def F_R : u_T := fun k => match k with
  | 0 => ("PageParts$Reading", "sequence", "[I", true)
  | 1 => ("PageParts$Reading", "behind", "[I", true)
  | 2 => ("PageParts$Reading", "ends", "[I", true)
  | 3 => ("PageParts$Reading", "cutAt", "I", false)
  | 4 => ("PageParts$Reading", "cutGap", "I", false)
  | _ => ("PageParts$Reading", "cutsRows", "Z", false)
def ty_R : Nat → FieldType := fun k => match k with
  | 0 => .array .int
  | 1 => .array .int
  | 2 => .array .int
  | 3 => .int
  | 4 => .int
  | _ => .boolean
def R_M : String := "PagePartsModel"
def F_M : u_T := fun k => match k with
  | 0 => ("PagePartsModel", "thrown", "I", false)
  | 1 => ("PagePartsModel", "width", "I", true)
  | 2 => ("PagePartsModel", "height", "I", true)
  | 3 => ("PagePartsModel", "black", "[Z", true)
  | 4 => ("PagePartsModel", "noise", "I", false)
  | 5 => ("PagePartsModel", "parted", "Z", false)
  | 6 => ("PagePartsModel", "specks", "[Z", true)
  | 7 => ("PagePartsModel", "clean", "[Z", true)
  | 8 => ("PagePartsModel", "ink", "[Z", true)
  | 9 => ("PagePartsModel", "covered", "[Z", true)
  | 10 => ("PagePartsModel", "labels", "[I", true)
  | 11 => ("PagePartsModel", "partOf", "[I", true)
  | 12 => ("PagePartsModel", "parts", "I", false)
  | 13 => ("PagePartsModel", "lefts", "[I", true)
  | 14 => ("PagePartsModel", "tops", "[I", true)
  | 15 => ("PagePartsModel", "rights", "[I", true)
  | 16 => ("PagePartsModel", "bottoms", "[I", true)
  | 17 => ("PagePartsModel", "kinds", "[I", true)
  | 18 => ("PagePartsModel", "order", "[I", true)
  | 19 => ("PagePartsModel", "covers", "I", false)
  | 20 => ("PagePartsModel", "coverRows", "[I", true)
  | 21 => ("PagePartsModel", "strips", "I", false)
  | 22 => ("PagePartsModel", "stripOf", "[I", true)
  | 23 => ("PagePartsModel", "cells", "I", false)
  | 24 => ("PagePartsModel", "cellOf", "[I", true)
  | 25 => ("PagePartsModel", "from", "[I", true)
  | _ => ("PagePartsModel", "to", "[I", true)
def ty_M : Nat → FieldType := fun k => match k with
  | 0 => .int
  | 1 => .int
  | 2 => .int
  | 3 => .array .boolean
  | 4 => .int
  | 5 => .boolean
  | 6 => .array .boolean
  | 7 => .array .boolean
  | 8 => .array .boolean
  | 9 => .array .boolean
  | 10 => .array .int
  | 11 => .array .int
  | 12 => .int
  | 13 => .array .int
  | 14 => .array .int
  | 15 => .array .int
  | 16 => .array .int
  | 17 => .array .int
  | 18 => .array .int
  | 19 => .int
  | 20 => .array .int
  | 21 => .int
  | 22 => .array .int
  | 23 => .int
  | 24 => .array .int
  | 25 => .array .int
  | _ => .array .int
def R_L : String := "PagePartsLaw"
abbrev z_cl : List vw_C := [(R_P, F_P, 15), (R_G, F_G, 10), (R_C, F_C, 9), (R_R, F_R, 6), (R_M, F_M, 27)]
theorem cl_P : z_cl[0]? = some (R_P, F_P, 15) := rfl
theorem cl_G : z_cl[1]? = some (R_G, F_G, 10) := rfl
theorem cl_C : z_cl[2]? = some (R_C, F_C, 9) := rfl
theorem cl_R : z_cl[3]? = some (R_R, F_R, 6) := rfl
theorem cl_M : z_cl[4]? = some (R_M, F_M, 27) := rfl
abbrev b_P_init : ByteArray := prog_1_method_1_code
def y_P_init : MethodName := ⟨R_P, "<init>", "(II)V"⟩
abbrev b_P_put : ByteArray := prog_1_method_2_code
def y_P_put : MethodName := ⟨R_P, "put", "(IIZ)Z"⟩
abbrev b_P_fill : ByteArray := prog_1_method_3_code
def y_P_fill : MethodName := ⟨R_P, "fill", "(IIIIZ)I"⟩
abbrev b_P_noise : ByteArray := prog_1_method_4_code
def y_P_noise : MethodName := ⟨R_P, "noise", "(I)I"⟩
abbrev b_P_run : ByteArray := prog_1_method_5_code
def y_P_run : MethodName := ⟨R_P, "run", "(II)I"⟩
abbrev b_P_part : ByteArray := prog_1_method_6_code
def y_P_part : MethodName := ⟨R_P, "part", "(II)I"⟩
abbrev b_P_partOf : ByteArray := prog_1_method_7_code
def y_P_partOf : MethodName := ⟨R_P, "partOf", "(II)I"⟩
abbrev b_P_line : ByteArray := prog_1_method_8_code
def y_P_line : MethodName := ⟨R_P, "line", "(III)I"⟩
abbrev b_P_order : ByteArray := prog_1_method_9_code
def y_P_order : MethodName := ⟨R_P, "order", "(I)I"⟩
abbrev b_P_cover : ByteArray := prog_1_method_10_code
def y_P_cover : MethodName := ⟨R_P, "cover", "(II)I"⟩
abbrev b_P_strip : ByteArray := prog_1_method_11_code
def y_P_strip : MethodName := ⟨R_P, "strip", "(I)I"⟩
abbrev b_P_cell : ByteArray := prog_1_method_12_code
def y_P_cell : MethodName := ⟨R_P, "cell", "(II)I"⟩
abbrev b_P_isSpeck : ByteArray := prog_1_method_13_code
def y_P_isSpeck : MethodName := ⟨R_P, "isSpeck", "(II)Z"⟩
abbrev b_P_told : ByteArray := prog_1_method_14_code
def y_P_told : MethodName := ⟨R_P, "told", "(I)I"⟩
abbrev b_P_clear : ByteArray := prog_1_method_15_code
def y_P_clear : MethodName := ⟨R_P, "clear", "()V"⟩
abbrev b_P_nearestSide : ByteArray := prog_1_method_16_code
def y_P_nearestSide : MethodName := ⟨R_P, "nearestSide", "(I)I"⟩
abbrev b_P_mustBeParted : ByteArray := prog_1_method_17_code
def y_P_mustBeParted : MethodName := ⟨R_P, "mustBeParted", "()V"⟩
abbrev b_P_mustBeSample : ByteArray := prog_1_method_18_code
def y_P_mustBeSample : MethodName := ⟨R_P, "mustBeSample", "(II)V"⟩
abbrev b_P_mustBeBelow : ByteArray := prog_1_method_19_code
def y_P_mustBeBelow : MethodName := ⟨R_P, "mustBeBelow", "(II)V"⟩
abbrev b_P_mustBeTold : ByteArray := prog_1_method_20_code
def y_P_mustBeTold : MethodName := ⟨R_P, "mustBeTold", "(II)V"⟩
abbrev b_P_paint : ByteArray := prog_1_method_21_code
def y_P_paint : MethodName := ⟨R_P, "paint", "(IIZ)Z"⟩
abbrev b_P_toldOfParted : ByteArray := prog_1_method_22_code
def y_P_toldOfParted : MethodName := ⟨R_P, "toldOfParted", "(I)I"⟩
abbrev b_P_findClean : ByteArray := prog_1_method_23_code
def y_P_findClean : MethodName := ⟨R_P, "findClean", "()V"⟩
abbrev b_P_smear : ByteArray := prog_1_method_24_code
def y_P_smear : MethodName := ⟨R_P, "smear", "(II)V"⟩
abbrev b_P_smearAlong : ByteArray := prog_1_method_25_code
def y_P_smearAlong : MethodName := ⟨R_P, "smearAlong", "(IIII)V"⟩
abbrev b_P_findStrips : ByteArray := prog_1_method_26_code
def y_P_findStrips : MethodName := ⟨R_P, "findStrips", "()V"⟩
abbrev b_P_hasInk : ByteArray := prog_1_method_27_code
def y_P_hasInk : MethodName := ⟨R_P, "hasInk", "(I)Z"⟩
abbrev b_P_weightOf : ByteArray := prog_1_method_28_code
def y_P_weightOf : MethodName := ⟨R_P, "weightOf", "(I)I"⟩
abbrev b_P_kindOf : ByteArray := prog_1_method_29_code
def y_P_kindOf : MethodName := ⟨R_P, "kindOf", "(I)I"⟩
abbrev b_P_isThin : ByteArray := prog_1_method_30_code
def y_P_isThin : MethodName := ⟨R_P, "isThin", "(II)Z"⟩
abbrev b_P_isFramed : ByteArray := prog_1_method_31_code
def y_P_isFramed : MethodName := ⟨R_P, "isFramed", "(I)Z"⟩
abbrev b_P_isMostlyEmptyWithin : ByteArray := prog_1_method_32_code
def y_P_isMostlyEmptyWithin : MethodName := ⟨R_P, "isMostlyEmptyWithin", "(I)Z"⟩
abbrev b_P_countClean : ByteArray := prog_1_method_33_code
def y_P_countClean : MethodName := ⟨R_P, "countClean", "(IIII)I"⟩
abbrev b_P_countLines : ByteArray := prog_1_method_34_code
def y_P_countLines : MethodName := ⟨R_P, "countLines", "(I)I"⟩
abbrev b_P_firstRowOfLine : ByteArray := prog_1_method_35_code
def y_P_firstRowOfLine : MethodName := ⟨R_P, "firstRowOfLine", "(II)I"⟩
abbrev b_P_countRowsOfLine : ByteArray := prog_1_method_36_code
def y_P_countRowsOfLine : MethodName := ⟨R_P, "countRowsOfLine", "(II)I"⟩
abbrev b_P_beginsLine : ByteArray := prog_1_method_37_code
def y_P_beginsLine : MethodName := ⟨R_P, "beginsLine", "(II)Z"⟩
abbrev b_P_hasCleanOf : ByteArray := prog_1_method_38_code
def y_P_hasCleanOf : MethodName := ⟨R_P, "hasCleanOf", "(II)Z"⟩
abbrev b_G_init : ByteArray := prog_3_method_1_code
def y_G_init : MethodName := ⟨R_G, "<init>", "(II)V"⟩
abbrev b_G_find : ByteArray := prog_3_method_2_code
def y_G_find : MethodName := ⟨R_G, "find", "([ZZZ)V"⟩
abbrev b_G_isOpen : ByteArray := prog_3_method_3_code
def y_G_isOpen : MethodName := ⟨R_G, "isOpen", "([ZZII)Z"⟩
abbrev b_G_begin : ByteArray := prog_3_method_4_code
def y_G_begin : MethodName := ⟨R_G, "begin", "(II)V"⟩
abbrev b_G_take : ByteArray := prog_3_method_5_code
def y_G_take : MethodName := ⟨R_G, "take", "(II)V"⟩
abbrev b_G_gather : ByteArray := prog_3_method_6_code
def y_G_gather : MethodName := ⟨R_G, "gather", "([ZZZ)V"⟩
abbrev b_G_dropAtEdge : ByteArray := prog_3_method_7_code
def y_G_dropAtEdge : MethodName := ⟨R_G, "dropAtEdge", "()V"⟩
abbrev b_G_wideOf : ByteArray := prog_3_method_8_code
def y_G_wideOf : MethodName := ⟨R_G, "wideOf", "(I)I"⟩
abbrev b_G_highOf : ByteArray := prog_3_method_9_code
def y_G_highOf : MethodName := ⟨R_G, "highOf", "(I)I"⟩
abbrev b_G_boxOf : ByteArray := prog_3_method_10_code
def y_G_boxOf : MethodName := ⟨R_G, "boxOf", "(II)I"⟩
abbrev b_C_init : ByteArray := prog_2_method_1_code
def y_C_init : MethodName := ⟨R_C, "<init>", "(II)V"⟩
abbrev b_C_find : ByteArray := prog_2_method_2_code
def y_C_find : MethodName := ⟨R_C, "find", "([Z)V"⟩
abbrev b_C_measure : ByteArray := prog_2_method_3_code
def y_C_measure : MethodName := ⟨R_C, "measure", "([Z)V"⟩
abbrev b_C_findGreatest : ByteArray := prog_2_method_4_code
def y_C_findGreatest : MethodName := ⟨R_C, "findGreatest", "(I)V"⟩
abbrev b_C_growFrom : ByteArray := prog_2_method_5_code
def y_C_growFrom : MethodName := ⟨R_C, "growFrom", "(III)V"⟩
abbrev b_C_block : ByteArray := prog_2_method_6_code
def y_C_block : MethodName := ⟨R_C, "block", "(I)V"⟩
abbrev b_C_shortenBefore : ByteArray := prog_2_method_7_code
def y_C_shortenBefore : MethodName := ⟨R_C, "shortenBefore", "(II)V"⟩
abbrev b_R_init : ByteArray := prog_4_method_1_code
def y_R_init : MethodName := ⟨R_R, "<init>", "()V"⟩
abbrev b_R_arrange : ByteArray := prog_4_method_2_code
def y_R_arrange : MethodName := ⟨R_R, "arrange", "(LPageParts$Groups;)V"⟩
abbrev b_R_sortByBoxes : ByteArray := prog_4_method_3_code
def y_R_sortByBoxes : MethodName := ⟨R_R, "sortByBoxes", "(LPageParts$Groups;)V"⟩
abbrev b_R_isBefore : ByteArray := prog_4_method_4_code
def y_R_isBefore : MethodName := ⟨R_R, "isBefore", "(LPageParts$Groups;II)Z"⟩
abbrev b_R_findCut : ByteArray := prog_4_method_5_code
def y_R_findCut : MethodName := ⟨R_R, "findCut", "(LPageParts$Groups;II)Z"⟩
abbrev b_R_lookAlong : ByteArray := prog_4_method_6_code
def y_R_lookAlong : MethodName := ⟨R_R, "lookAlong", "([I[IIIZ)V"⟩
abbrev b_R_bits : ByteArray := prog_4_method_7_code
def y_R_bits : MethodName := ⟨R_R, "bits", "(II)I"⟩
abbrev b_R_hasBit : ByteArray := prog_4_method_8_code
def y_R_hasBit : MethodName := ⟨R_R, "hasBit", "(II)Z"⟩
abbrev b_R_divide : ByteArray := prog_4_method_9_code
def y_R_divide : MethodName := ⟨R_R, "divide", "(LPageParts$Groups;II)I"⟩
abbrev b_M_init : ByteArray := prog_6_method_1_code
def y_M_init : MethodName := ⟨R_M, "<init>", "(II)V"⟩
abbrev b_M_nearest : ByteArray := prog_6_method_2_code
def y_M_nearest : MethodName := ⟨R_M, "nearest", "(I)I"⟩
abbrev b_M_thrown : ByteArray := prog_6_method_3_code
def y_M_thrown : MethodName := ⟨R_M, "thrown", "()I"⟩
abbrev b_M_in : ByteArray := prog_6_method_4_code
def y_M_in : MethodName := ⟨R_M, "in", "(III)Z"⟩
abbrev b_M_isSample : ByteArray := prog_6_method_5_code
def y_M_isSample : MethodName := ⟨R_M, "isSample", "(II)Z"⟩
abbrev b_M_goes : ByteArray := prog_6_method_6_code
def y_M_goes : MethodName := ⟨R_M, "goes", "(ZZZ)Z"⟩
abbrev b_M_put : ByteArray := prog_6_method_7_code
def y_M_put : MethodName := ⟨R_M, "put", "(IIZ)Z"⟩
abbrev b_M_fill : ByteArray := prog_6_method_8_code
def y_M_fill : MethodName := ⟨R_M, "fill", "(IIIIZ)I"⟩
abbrev b_M_noise : ByteArray := prog_6_method_9_code
def y_M_noise : MethodName := ⟨R_M, "noise", "(I)I"⟩
abbrev b_M_clear : ByteArray := prog_6_method_10_code
def y_M_clear : MethodName := ⟨R_M, "clear", "()V"⟩
abbrev b_M_is : ByteArray := prog_6_method_11_code
def y_M_is : MethodName := ⟨R_M, "is", "(II)Z"⟩
abbrev b_M_group : ByteArray := prog_6_method_12_code
def y_M_group : MethodName := ⟨R_M, "group", "(IZ)V"⟩
abbrev b_M_settles : ByteArray := prog_6_method_13_code
def y_M_settles : MethodName := ⟨R_M, "settles", "(IIZ)Z"⟩
abbrev b_M_sizeOf : ByteArray := prog_6_method_14_code
def y_M_sizeOf : MethodName := ⟨R_M, "sizeOf", "(I)I"⟩
abbrev b_M_inGap : ByteArray := prog_6_method_15_code
def y_M_inGap : MethodName := ⟨R_M, "inGap", "(IIIII)Z"⟩
abbrev b_M_takeInk : ByteArray := prog_6_method_16_code
def y_M_takeInk : MethodName := ⟨R_M, "takeInk", "(II)V"⟩
abbrev b_M_cleanIn : ByteArray := prog_6_method_17_code
def y_M_cleanIn : MethodName := ⟨R_M, "cleanIn", "(IIIII)I"⟩
abbrev b_M_takeParts : ByteArray := prog_6_method_18_code
def y_M_takeParts : MethodName := ⟨R_M, "takeParts", "()V"⟩
abbrev b_M_kindOf : ByteArray := prog_6_method_19_code
def y_M_kindOf : MethodName := ⟨R_M, "kindOf", "(IIII)I"⟩
abbrev b_M_takeCover : ByteArray := prog_6_method_20_code
def y_M_takeCover : MethodName := ⟨R_M, "takeCover", "()Z"⟩
abbrev b_M_takeCovers : ByteArray := prog_6_method_21_code
def y_M_takeCovers : MethodName := ⟨R_M, "takeCovers", "()V"⟩
abbrev b_M_takeStrips : ByteArray := prog_6_method_22_code
def y_M_takeStrips : MethodName := ⟨R_M, "takeStrips", "()V"⟩
abbrev b_M_takeCells : ByteArray := prog_6_method_23_code
def y_M_takeCells : MethodName := ⟨R_M, "takeCells", "()V"⟩
abbrev b_M_isClosed : ByteArray := prog_6_method_24_code
def y_M_isClosed : MethodName := ⟨R_M, "isClosed", "(I)Z"⟩
abbrev b_M_low : ByteArray := prog_6_method_25_code
def y_M_low : MethodName := ⟨R_M, "low", "(IZ)I"⟩
abbrev b_M_high : ByteArray := prog_6_method_26_code
def y_M_high : MethodName := ⟨R_M, "high", "(IZ)I"⟩
abbrev b_M_gap : ByteArray := prog_6_method_27_code
def y_M_gap : MethodName := ⟨R_M, "gap", "(IZII)I"⟩
abbrev b_M_swap : ByteArray := prog_6_method_28_code
def y_M_swap : MethodName := ⟨R_M, "swap", "(II)V"⟩
abbrev b_M_isBefore : ByteArray := prog_6_method_29_code
def y_M_isBefore : MethodName := ⟨R_M, "isBefore", "(II)Z"⟩
abbrev b_M_sort : ByteArray := prog_6_method_30_code
def y_M_sort : MethodName := ⟨R_M, "sort", "(II)V"⟩
abbrev b_M_parts : ByteArray := prog_6_method_31_code
def y_M_parts : MethodName := ⟨R_M, "parts", "(II)I"⟩
abbrev b_M_takeOrder : ByteArray := prog_6_method_32_code
def y_M_takeOrder : MethodName := ⟨R_M, "takeOrder", "()V"⟩
abbrev b_M_run : ByteArray := prog_6_method_33_code
def y_M_run : MethodName := ⟨R_M, "run", "(II)I"⟩
abbrev b_M_lines : ByteArray := prog_6_method_34_code
def y_M_lines : MethodName := ⟨R_M, "lines", "(I)I"⟩
abbrev b_M_inkOf : ByteArray := prog_6_method_35_code
def y_M_inkOf : MethodName := ⟨R_M, "inkOf", "(I)I"⟩
abbrev b_M_part : ByteArray := prog_6_method_36_code
def y_M_part : MethodName := ⟨R_M, "part", "(II)I"⟩
abbrev b_M_partOf : ByteArray := prog_6_method_37_code
def y_M_partOf : MethodName := ⟨R_M, "partOf", "(II)I"⟩
abbrev b_M_line : ByteArray := prog_6_method_38_code
def y_M_line : MethodName := ⟨R_M, "line", "(III)I"⟩
abbrev b_M_order : ByteArray := prog_6_method_39_code
def y_M_order : MethodName := ⟨R_M, "order", "(I)I"⟩
abbrev b_M_cover : ByteArray := prog_6_method_40_code
def y_M_cover : MethodName := ⟨R_M, "cover", "(II)I"⟩
abbrev b_M_strip : ByteArray := prog_6_method_41_code
def y_M_strip : MethodName := ⟨R_M, "strip", "(I)I"⟩
abbrev b_M_cell : ByteArray := prog_6_method_42_code
def y_M_cell : MethodName := ⟨R_M, "cell", "(II)I"⟩
abbrev b_M_isSpeck : ByteArray := prog_6_method_43_code
def y_M_isSpeck : MethodName := ⟨R_M, "isSpeck", "(II)Z"⟩
abbrev b_M_told : ByteArray := prog_6_method_44_code
def y_M_told : MethodName := ⟨R_M, "told", "(I)I"⟩
abbrev b_L_cell : ByteArray := method_2_code
def y_L_cell : MethodName := ⟨R_L, "cell", "([II)I"⟩
abbrev b_L_put : ByteArray := method_3_code
def y_L_put : MethodName := ⟨R_L, "put", "(LPageParts;IIZ[J)I"⟩
abbrev b_L_fill : ByteArray := method_4_code
def y_L_fill : MethodName := ⟨R_L, "fill", "(LPageParts;IIIIZ[J)I"⟩
abbrev b_L_noise : ByteArray := method_5_code
def y_L_noise : MethodName := ⟨R_L, "noise", "(LPageParts;I[J)I"⟩
abbrev b_L_run : ByteArray := method_6_code
def y_L_run : MethodName := ⟨R_L, "run", "(LPageParts;II[J)I"⟩
abbrev b_L_part : ByteArray := method_7_code
def y_L_part : MethodName := ⟨R_L, "part", "(LPageParts;II[J)I"⟩
abbrev b_L_partOf : ByteArray := method_8_code
def y_L_partOf : MethodName := ⟨R_L, "partOf", "(LPageParts;II[J)I"⟩
abbrev b_L_line : ByteArray := method_9_code
def y_L_line : MethodName := ⟨R_L, "line", "(LPageParts;III[J)I"⟩
abbrev b_L_order : ByteArray := method_10_code
def y_L_order : MethodName := ⟨R_L, "order", "(LPageParts;I[J)I"⟩
abbrev b_L_cover : ByteArray := method_11_code
def y_L_cover : MethodName := ⟨R_L, "cover", "(LPageParts;II[J)I"⟩
abbrev b_L_strip : ByteArray := method_12_code
def y_L_strip : MethodName := ⟨R_L, "strip", "(LPageParts;I[J)I"⟩
abbrev b_L_cell2 : ByteArray := method_13_code
def y_L_cell2 : MethodName := ⟨R_L, "cell", "(LPageParts;II[J)I"⟩
abbrev b_L_isSpeck : ByteArray := method_14_code
def y_L_isSpeck : MethodName := ⟨R_L, "isSpeck", "(LPageParts;II[J)I"⟩
abbrev b_L_law : ByteArray := code
def y_L_law : MethodName := ⟨R_L, "law", "([I)Z"⟩
def z_gw : List Cond := lw_tbl.filter goodWord
theorem z_gwi {w : Cond} (i : Nat) (h : lw_tbl[i]? = some w) (hg : goodWord w = true) : w ∈ z_gw := List.mem_filter.mpr ⟨List.mem_of_getElem? h, hg⟩
theorem z_gws {ws : List Cond} (h : ∀ w ∈ ws, w ∈ lw_tbl ∧ goodWord w = true) : ∀ w ∈ ws, w ∈ z_gw := fun w hw => List.mem_filter.mpr (h w hw)
theorem iw_P : ∀ w ∈ u_ws R_P F_P 15, w ∈ z_gw := z_gws (by decide +kernel)
theorem ty_P_ok : ∀ k, k < 15 → parseFieldDescriptor (F_P k).2.2.1 = some (ty_P k) := by decide +kernel
theorem n_P : ∀ a, a < 15 → ∀ b, b < 15 → a ≠ b → (F_P a).2.1 ≠ (F_P b).2.1 := by decide +kernel
theorem iw_G : ∀ w ∈ u_ws R_G F_G 10, w ∈ z_gw := z_gws (by decide +kernel)
theorem ty_G_ok : ∀ k, k < 10 → parseFieldDescriptor (F_G k).2.2.1 = some (ty_G k) := by decide +kernel
theorem n_G : ∀ a, a < 10 → ∀ b, b < 10 → a ≠ b → (F_G a).2.1 ≠ (F_G b).2.1 := by decide +kernel
theorem iw_C : ∀ w ∈ u_ws R_C F_C 9, w ∈ z_gw := z_gws (by decide +kernel)
theorem ty_C_ok : ∀ k, k < 9 → parseFieldDescriptor (F_C k).2.2.1 = some (ty_C k) := by decide +kernel
theorem n_C : ∀ a, a < 9 → ∀ b, b < 9 → a ≠ b → (F_C a).2.1 ≠ (F_C b).2.1 := by decide +kernel
theorem iw_R : ∀ w ∈ u_ws R_R F_R 6, w ∈ z_gw := z_gws (by decide +kernel)
theorem ty_R_ok : ∀ k, k < 6 → parseFieldDescriptor (F_R k).2.2.1 = some (ty_R k) := by decide +kernel
theorem n_R : ∀ a, a < 6 → ∀ b, b < 6 → a ≠ b → (F_R a).2.1 ≠ (F_R b).2.1 := by decide +kernel
theorem iw_M : ∀ w ∈ u_ws R_M F_M 27, w ∈ z_gw := z_gws (by decide +kernel)
theorem ty_M_ok : ∀ k, k < 27 → parseFieldDescriptor (F_M k).2.2.1 = some (ty_M k) := by decide +kernel
theorem n_M : ∀ a, a < 27 → ∀ b, b < 27 → a ≠ b → (F_M a).2.1 ≠ (F_M b).2.1 := by decide +kernel
theorem k_fl_C_15 : Cond.fieldLink R_C 15 "PageParts$Covers" "top" "[I" ∈ z_gw := z_gwi 150 (by decide +kernel) (by decide +kernel)
theorem k_fl_C_18 : Cond.fieldLink R_C 18 "PageParts$Covers" "wide" "[I" ∈ z_gw := z_gwi 152 (by decide +kernel) (by decide +kernel)
theorem k_fl_C_21 : Cond.fieldLink R_C 21 "PageParts$Covers" "high" "[I" ∈ z_gw := z_gwi 154 (by decide +kernel) (by decide +kernel)
theorem k_fl_C_24 : Cond.fieldLink R_C 24 "PageParts$Covers" "reach" "[I" ∈ z_gw := z_gwi 158 (by decide +kernel) (by decide +kernel)
theorem k_fl_C_27 : Cond.fieldLink R_C 27 "PageParts$Covers" "width" "I" ∈ z_gw := z_gwi 159 (by decide +kernel) (by decide +kernel)
theorem k_fl_C_31 : Cond.fieldLink R_C 31 "PageParts$Covers" "height" "I" ∈ z_gw := z_gwi 160 (by decide +kernel) (by decide +kernel)
theorem k_fl_C_38 : Cond.fieldLink R_C 38 "PageParts$Covers" "count" "I" ∈ z_gw := z_gwi 156 (by decide +kernel) (by decide +kernel)
theorem k_fl_C_45 : Cond.fieldLink R_C 45 "PageParts$Covers" "greatest" "I" ∈ z_gw := z_gwi 161 (by decide +kernel) (by decide +kernel)
theorem k_fl_C_9 : Cond.fieldLink R_C 9 "PageParts$Covers" "left" "[I" ∈ z_gw := z_gwi 148 (by decide +kernel) (by decide +kernel)
theorem k_fl_G_15 : Cond.fieldLink R_G 15 "PageParts$Groups" "left" "[I" ∈ z_gw := z_gwi 99 (by decide +kernel) (by decide +kernel)
theorem k_fl_G_18 : Cond.fieldLink R_G 18 "PageParts$Groups" "top" "[I" ∈ z_gw := z_gwi 102 (by decide +kernel) (by decide +kernel)
theorem k_fl_G_21 : Cond.fieldLink R_G 21 "PageParts$Groups" "right" "[I" ∈ z_gw := z_gwi 105 (by decide +kernel) (by decide +kernel)
theorem k_fl_G_24 : Cond.fieldLink R_G 24 "PageParts$Groups" "bottom" "[I" ∈ z_gw := z_gwi 108 (by decide +kernel) (by decide +kernel)
theorem k_fl_G_27 : Cond.fieldLink R_G 27 "PageParts$Groups" "size" "[I" ∈ z_gw := z_gwi 111 (by decide +kernel) (by decide +kernel)
theorem k_fl_G_30 : Cond.fieldLink R_G 30 "PageParts$Groups" "queue" "[I" ∈ z_gw := z_gwi 116 (by decide +kernel) (by decide +kernel)
theorem k_fl_G_33 : Cond.fieldLink R_G 33 "PageParts$Groups" "width" "I" ∈ z_gw := z_gwi 117 (by decide +kernel) (by decide +kernel)
theorem k_fl_G_37 : Cond.fieldLink R_G 37 "PageParts$Groups" "height" "I" ∈ z_gw := z_gwi 118 (by decide +kernel) (by decide +kernel)
theorem k_fl_G_46 : Cond.fieldLink R_G 46 "PageParts$Groups" "count" "I" ∈ z_gw := z_gwi 113 (by decide +kernel) (by decide +kernel)
theorem k_fl_G_9 : Cond.fieldLink R_G 9 "PageParts$Groups" "label" "[I" ∈ z_gw := z_gwi 97 (by decide +kernel) (by decide +kernel)
theorem k_fl_M_116 : Cond.fieldLink R_M 116 "PagePartsModel" "parts" "I" ∈ z_gw := z_gwi 661 (by decide +kernel) (by decide +kernel)
theorem k_fl_M_127 : Cond.fieldLink R_M 127 "PagePartsModel" "covers" "I" ∈ z_gw := z_gwi 668 (by decide +kernel) (by decide +kernel)
theorem k_fl_M_13 : Cond.fieldLink R_M 13 "PagePartsModel" "noise" "I" ∈ z_gw := z_gwi 653 (by decide +kernel) (by decide +kernel)
theorem k_fl_M_134 : Cond.fieldLink R_M 134 "PagePartsModel" "strips" "I" ∈ z_gw := z_gwi 670 (by decide +kernel) (by decide +kernel)
theorem k_fl_M_137 : Cond.fieldLink R_M 137 "PagePartsModel" "cells" "I" ∈ z_gw := z_gwi 672 (by decide +kernel) (by decide +kernel)
theorem k_fl_M_17 : Cond.fieldLink R_M 17 "PagePartsModel" "specks" "[Z" ∈ z_gw := z_gwi 655 (by decide +kernel) (by decide +kernel)
theorem k_fl_M_20 : Cond.fieldLink R_M 20 "PagePartsModel" "clean" "[Z" ∈ z_gw := z_gwi 656 (by decide +kernel) (by decide +kernel)
theorem k_fl_M_23 : Cond.fieldLink R_M 23 "PagePartsModel" "ink" "[Z" ∈ z_gw := z_gwi 657 (by decide +kernel) (by decide +kernel)
theorem k_fl_M_26 : Cond.fieldLink R_M 26 "PagePartsModel" "covered" "[Z" ∈ z_gw := z_gwi 658 (by decide +kernel) (by decide +kernel)
theorem k_fl_M_29 : Cond.fieldLink R_M 29 "PagePartsModel" "labels" "[I" ∈ z_gw := z_gwi 659 (by decide +kernel) (by decide +kernel)
theorem k_fl_M_33 : Cond.fieldLink R_M 33 "PagePartsModel" "partOf" "[I" ∈ z_gw := z_gwi 660 (by decide +kernel) (by decide +kernel)
theorem k_fl_M_36 : Cond.fieldLink R_M 36 "PagePartsModel" "lefts" "[I" ∈ z_gw := z_gwi 662 (by decide +kernel) (by decide +kernel)
theorem k_fl_M_39 : Cond.fieldLink R_M 39 "PagePartsModel" "tops" "[I" ∈ z_gw := z_gwi 663 (by decide +kernel) (by decide +kernel)
theorem k_fl_M_42 : Cond.fieldLink R_M 42 "PagePartsModel" "rights" "[I" ∈ z_gw := z_gwi 664 (by decide +kernel) (by decide +kernel)
theorem k_fl_M_45 : Cond.fieldLink R_M 45 "PagePartsModel" "bottoms" "[I" ∈ z_gw := z_gwi 665 (by decide +kernel) (by decide +kernel)
theorem k_fl_M_48 : Cond.fieldLink R_M 48 "PagePartsModel" "kinds" "[I" ∈ z_gw := z_gwi 666 (by decide +kernel) (by decide +kernel)
theorem k_fl_M_51 : Cond.fieldLink R_M 51 "PagePartsModel" "order" "[I" ∈ z_gw := z_gwi 667 (by decide +kernel) (by decide +kernel)
theorem k_fl_M_54 : Cond.fieldLink R_M 54 "PagePartsModel" "coverRows" "[I" ∈ z_gw := z_gwi 669 (by decide +kernel) (by decide +kernel)
theorem k_fl_M_57 : Cond.fieldLink R_M 57 "PagePartsModel" "stripOf" "[I" ∈ z_gw := z_gwi 671 (by decide +kernel) (by decide +kernel)
theorem k_fl_M_60 : Cond.fieldLink R_M 60 "PagePartsModel" "cellOf" "[I" ∈ z_gw := z_gwi 673 (by decide +kernel) (by decide +kernel)
theorem k_fl_M_63 : Cond.fieldLink R_M 63 "PagePartsModel" "from" "[I" ∈ z_gw := z_gwi 674 (by decide +kernel) (by decide +kernel)
theorem k_fl_M_66 : Cond.fieldLink R_M 66 "PagePartsModel" "to" "[I" ∈ z_gw := z_gwi 675 (by decide +kernel) (by decide +kernel)
theorem k_fl_M_7 : Cond.fieldLink R_M 7 "PagePartsModel" "black" "[Z" ∈ z_gw := z_gwi 652 (by decide +kernel) (by decide +kernel)
theorem k_fl_M_73 : Cond.fieldLink R_M 73 "PagePartsModel" "width" "I" ∈ z_gw := z_gwi 650 (by decide +kernel) (by decide +kernel)
theorem k_fl_M_76 : Cond.fieldLink R_M 76 "PagePartsModel" "height" "I" ∈ z_gw := z_gwi 651 (by decide +kernel) (by decide +kernel)
theorem k_fl_M_79 : Cond.fieldLink R_M 79 "PagePartsModel" "thrown" "I" ∈ z_gw := z_gwi 649 (by decide +kernel) (by decide +kernel)
theorem k_fl_M_94 : Cond.fieldLink R_M 94 "PagePartsModel" "parted" "Z" ∈ z_gw := z_gwi 654 (by decide +kernel) (by decide +kernel)
theorem k_fl_P_114 : Cond.fieldLink R_P 114 "PageParts$Groups" "count" "I" ∈ z_gw := z_gwi 115 (by decide +kernel) (by decide +kernel)
theorem k_fl_P_13 : Cond.fieldLink R_P 13 "PageParts" "clean" "[Z" ∈ z_gw := z_gwi 210 (by decide +kernel) (by decide +kernel)
theorem k_fl_P_135 : Cond.fieldLink R_P 135 "PageParts$Groups" "size" "[I" ∈ z_gw := z_gwi 112 (by decide +kernel) (by decide +kernel)
theorem k_fl_P_141 : Cond.fieldLink R_P 141 "PageParts$Groups" "label" "[I" ∈ z_gw := z_gwi 98 (by decide +kernel) (by decide +kernel)
theorem k_fl_P_150 : Cond.fieldLink R_P 150 "PageParts$Reading" "sequence" "[I" ∈ z_gw := z_gwi 188 (by decide +kernel) (by decide +kernel)
theorem k_fl_P_153 : Cond.fieldLink R_P 153 "PageParts$Covers" "count" "I" ∈ z_gw := z_gwi 157 (by decide +kernel) (by decide +kernel)
theorem k_fl_P_154 : Cond.fieldLink R_P 154 "PageParts$Covers" "left" "[I" ∈ z_gw := z_gwi 149 (by decide +kernel) (by decide +kernel)
theorem k_fl_P_157 : Cond.fieldLink R_P 157 "PageParts$Covers" "top" "[I" ∈ z_gw := z_gwi 151 (by decide +kernel) (by decide +kernel)
theorem k_fl_P_16 : Cond.fieldLink R_P 16 "PageParts" "ink" "[Z" ∈ z_gw := z_gwi 211 (by decide +kernel) (by decide +kernel)
theorem k_fl_P_160 : Cond.fieldLink R_P 160 "PageParts$Covers" "wide" "[I" ∈ z_gw := z_gwi 153 (by decide +kernel) (by decide +kernel)
theorem k_fl_P_163 : Cond.fieldLink R_P 163 "PageParts$Covers" "high" "[I" ∈ z_gw := z_gwi 155 (by decide +kernel) (by decide +kernel)
theorem k_fl_P_166 : Cond.fieldLink R_P 166 "PageParts" "blackCount" "I" ∈ z_gw := z_gwi 217 (by decide +kernel) (by decide +kernel)
theorem k_fl_P_189 : Cond.fieldLink R_P 189 "PageParts" "stripCount" "I" ∈ z_gw := z_gwi 219 (by decide +kernel) (by decide +kernel)
theorem k_fl_P_19 : Cond.fieldLink R_P 19 "PageParts" "strips" "[I" ∈ z_gw := z_gwi 212 (by decide +kernel) (by decide +kernel)
theorem k_fl_P_192 : Cond.fieldLink R_P 192 "PageParts" "cleanCount" "I" ∈ z_gw := z_gwi 218 (by decide +kernel) (by decide +kernel)
theorem k_fl_P_219 : Cond.fieldLink R_P 219 "PageParts$Groups" "left" "[I" ∈ z_gw := z_gwi 101 (by decide +kernel) (by decide +kernel)
theorem k_fl_P_220 : Cond.fieldLink R_P 220 "PageParts$Groups" "top" "[I" ∈ z_gw := z_gwi 104 (by decide +kernel) (by decide +kernel)
theorem k_fl_P_225 : Cond.fieldLink R_P 225 "PageParts$Groups" "bottom" "[I" ∈ z_gw := z_gwi 110 (by decide +kernel) (by decide +kernel)
theorem k_fl_P_228 : Cond.fieldLink R_P 228 "PageParts$Groups" "right" "[I" ∈ z_gw := z_gwi 107 (by decide +kernel) (by decide +kernel)
theorem k_fl_P_27 : Cond.fieldLink R_P 27 "PageParts" "width" "I" ∈ z_gw := z_gwi 207 (by decide +kernel) (by decide +kernel)
theorem k_fl_P_31 : Cond.fieldLink R_P 31 "PageParts" "height" "I" ∈ z_gw := z_gwi 208 (by decide +kernel) (by decide +kernel)
theorem k_fl_P_39 : Cond.fieldLink R_P 39 "PageParts" "parts" "LPageParts$Groups;" ∈ z_gw := z_gwi 213 (by decide +kernel) (by decide +kernel)
theorem k_fl_P_43 : Cond.fieldLink R_P 43 "PageParts" "cells" "LPageParts$Groups;" ∈ z_gw := z_gwi 214 (by decide +kernel) (by decide +kernel)
theorem k_fl_P_49 : Cond.fieldLink R_P 49 "PageParts" "covers" "LPageParts$Covers;" ∈ z_gw := z_gwi 215 (by decide +kernel) (by decide +kernel)
theorem k_fl_P_56 : Cond.fieldLink R_P 56 "PageParts" "reading" "LPageParts$Reading;" ∈ z_gw := z_gwi 216 (by decide +kernel) (by decide +kernel)
theorem k_fl_P_60 : Cond.fieldLink R_P 60 "PageParts" "noiseNow" "I" ∈ z_gw := z_gwi 220 (by decide +kernel) (by decide +kernel)
theorem k_fl_P_66 : Cond.fieldLink R_P 66 "PageParts" "parted" "Z" ∈ z_gw := z_gwi 221 (by decide +kernel) (by decide +kernel)
theorem k_fl_P_9 : Cond.fieldLink R_P 9 "PageParts" "black" "[Z" ∈ z_gw := z_gwi 209 (by decide +kernel) (by decide +kernel)
theorem k_fl_R_15 : Cond.fieldLink R_R 15 "PageParts$Reading" "behind" "[I" ∈ z_gw := z_gwi 189 (by decide +kernel) (by decide +kernel)
theorem k_fl_R_18 : Cond.fieldLink R_R 18 "PageParts$Reading" "ends" "[I" ∈ z_gw := z_gwi 190 (by decide +kernel) (by decide +kernel)
theorem k_fl_R_25 : Cond.fieldLink R_R 25 "PageParts$Groups" "count" "I" ∈ z_gw := z_gwi 114 (by decide +kernel) (by decide +kernel)
theorem k_fl_R_42 : Cond.fieldLink R_R 42 "PageParts$Groups" "top" "[I" ∈ z_gw := z_gwi 103 (by decide +kernel) (by decide +kernel)
theorem k_fl_R_45 : Cond.fieldLink R_R 45 "PageParts$Groups" "left" "[I" ∈ z_gw := z_gwi 100 (by decide +kernel) (by decide +kernel)
theorem k_fl_R_48 : Cond.fieldLink R_R 48 "PageParts$Reading" "cutGap" "I" ∈ z_gw := z_gwi 192 (by decide +kernel) (by decide +kernel)
theorem k_fl_R_51 : Cond.fieldLink R_R 51 "PageParts$Groups" "right" "[I" ∈ z_gw := z_gwi 106 (by decide +kernel) (by decide +kernel)
theorem k_fl_R_58 : Cond.fieldLink R_R 58 "PageParts$Groups" "bottom" "[I" ∈ z_gw := z_gwi 109 (by decide +kernel) (by decide +kernel)
theorem k_fl_R_69 : Cond.fieldLink R_R 69 "PageParts$Reading" "cutAt" "I" ∈ z_gw := z_gwi 191 (by decide +kernel) (by decide +kernel)
theorem k_fl_R_72 : Cond.fieldLink R_R 72 "PageParts$Reading" "cutsRows" "Z" ∈ z_gw := z_gwi 193 (by decide +kernel) (by decide +kernel)
theorem k_fl_R_9 : Cond.fieldLink R_R 9 "PageParts$Reading" "sequence" "[I" ∈ z_gw := z_gwi 187 (by decide +kernel) (by decide +kernel)
theorem k_ml_C_3 : Cond.methodLink R_C 3 objectInit ∈ z_gw := z_gwi 147 (by decide +kernel) (by decide +kernel)
theorem k_ml_C_34 : Cond.methodLink R_C 34 y_C_measure ∈ z_gw := z_gwi 433 (by decide +kernel) (by decide +kernel)
theorem k_ml_C_41 : Cond.methodLink R_C 41 y_C_findGreatest ∈ z_gw := z_gwi 437 (by decide +kernel) (by decide +kernel)
theorem k_ml_C_48 : Cond.methodLink R_C 48 y_C_block ∈ z_gw := z_gwi 446 (by decide +kernel) (by decide +kernel)
theorem k_ml_C_51 : Cond.methodLink R_C 51 y_C_growFrom ∈ z_gw := z_gwi 441 (by decide +kernel) (by decide +kernel)
theorem k_ml_C_55 : Cond.methodLink R_C 55 Lib.Math.min.name ∈ z_gw := z_gwi 445 (by decide +kernel) (by decide +kernel)
theorem k_ml_C_61 : Cond.methodLink R_C 61 y_C_shortenBefore ∈ z_gw := z_gwi 450 (by decide +kernel) (by decide +kernel)
theorem k_ml_G_3 : Cond.methodLink R_G 3 objectInit ∈ z_gw := z_gwi 96 (by decide +kernel) (by decide +kernel)
theorem k_ml_G_40 : Cond.methodLink R_G 40 ⟨"java/util/Arrays", "fill", "([II)V"⟩ ∈ z_gw := z_gwi 400 (by decide +kernel) (by decide +kernel)
theorem k_ml_G_49 : Cond.methodLink R_G 49 y_G_isOpen ∈ z_gw := z_gwi 403 (by decide +kernel) (by decide +kernel)
theorem k_ml_G_53 : Cond.methodLink R_G 53 y_G_begin ∈ z_gw := z_gwi 407 (by decide +kernel) (by decide +kernel)
theorem k_ml_G_57 : Cond.methodLink R_G 57 y_G_gather ∈ z_gw := z_gwi 417 (by decide +kernel) (by decide +kernel)
theorem k_ml_G_61 : Cond.methodLink R_G 61 y_G_take ∈ z_gw := z_gwi 411 (by decide +kernel) (by decide +kernel)
theorem k_ml_G_64 : Cond.methodLink R_G 64 Lib.Math.min.name ∈ z_gw := z_gwi 415 (by decide +kernel) (by decide +kernel)
theorem k_ml_G_70 : Cond.methodLink R_G 70 Lib.Math.max.name ∈ z_gw := z_gwi 416 (by decide +kernel) (by decide +kernel)
theorem k_ml_G_73 : Cond.methodLink R_G 73 y_G_wideOf ∈ z_gw := z_gwi 581 (by decide +kernel) (by decide +kernel)
theorem k_ml_G_77 : Cond.methodLink R_G 77 y_G_highOf ∈ z_gw := z_gwi 582 (by decide +kernel) (by decide +kernel)
theorem k_ml_L_100 : Cond.methodLink R_L 100 y_M_order ∈ z_gw := z_gwi 874 (by decide +kernel) (by decide +kernel)
theorem k_ml_L_101 : Cond.methodLink R_L 101 y_L_cover ∈ z_gw := z_gwi 612 (by decide +kernel) (by decide +kernel)
theorem k_ml_L_103 : Cond.methodLink R_L 103 y_M_cover ∈ z_gw := z_gwi 878 (by decide +kernel) (by decide +kernel)
theorem k_ml_L_104 : Cond.methodLink R_L 104 y_L_strip ∈ z_gw := z_gwi 619 (by decide +kernel) (by decide +kernel)
theorem k_ml_L_106 : Cond.methodLink R_L 106 y_M_strip ∈ z_gw := z_gwi 882 (by decide +kernel) (by decide +kernel)
theorem k_ml_L_107 : Cond.methodLink R_L 107 y_L_cell2 ∈ z_gw := z_gwi 626 (by decide +kernel) (by decide +kernel)
theorem k_ml_L_109 : Cond.methodLink R_L 109 y_M_cell ∈ z_gw := z_gwi 886 (by decide +kernel) (by decide +kernel)
theorem k_ml_L_110 : Cond.methodLink R_L 110 y_L_isSpeck ∈ z_gw := z_gwi 633 (by decide +kernel) (by decide +kernel)
theorem k_ml_L_112 : Cond.methodLink R_L 112 y_M_isSpeck ∈ z_gw := z_gwi 890 (by decide +kernel) (by decide +kernel)
theorem k_ml_L_113 : Cond.methodLink R_L 113 y_P_told ∈ z_gw := z_gwi 253 (by decide +kernel) (by decide +kernel)
theorem k_ml_L_116 : Cond.methodLink R_L 116 y_M_told ∈ z_gw := z_gwi 894 (by decide +kernel) (by decide +kernel)
theorem k_ml_L_117 : Cond.methodLink R_L 117 y_P_clear ∈ z_gw := z_gwi 261 (by decide +kernel) (by decide +kernel)
theorem k_ml_L_120 : Cond.methodLink R_L 120 y_M_clear ∈ z_gw := z_gwi 758 (by decide +kernel) (by decide +kernel)
theorem k_ml_L_15 : Cond.methodLink R_L 15 y_P_fill ∈ z_gw := z_gwi 356 (by decide +kernel) (by decide +kernel)
theorem k_ml_L_21 : Cond.methodLink R_L 21 y_P_noise ∈ z_gw := z_gwi 379 (by decide +kernel) (by decide +kernel)
theorem k_ml_L_25 : Cond.methodLink R_L 25 y_P_run ∈ z_gw := z_gwi 387 (by decide +kernel) (by decide +kernel)
theorem k_ml_L_29 : Cond.methodLink R_L 29 y_P_part ∈ z_gw := z_gwi 502 (by decide +kernel) (by decide +kernel)
theorem k_ml_L_34 : Cond.methodLink R_L 34 y_P_partOf ∈ z_gw := z_gwi 586 (by decide +kernel) (by decide +kernel)
theorem k_ml_L_37 : Cond.methodLink R_L 37 y_P_line ∈ z_gw := z_gwi 593 (by decide +kernel) (by decide +kernel)
theorem k_ml_L_41 : Cond.methodLink R_L 41 y_P_order ∈ z_gw := z_gwi 608 (by decide +kernel) (by decide +kernel)
theorem k_ml_L_44 : Cond.methodLink R_L 44 y_P_cover ∈ z_gw := z_gwi 615 (by decide +kernel) (by decide +kernel)
theorem k_ml_L_47 : Cond.methodLink R_L 47 y_P_strip ∈ z_gw := z_gwi 622 (by decide +kernel) (by decide +kernel)
theorem k_ml_L_50 : Cond.methodLink R_L 50 y_P_cell ∈ z_gw := z_gwi 629 (by decide +kernel) (by decide +kernel)
theorem k_ml_L_53 : Cond.methodLink R_L 53 y_P_isSpeck ∈ z_gw := z_gwi 636 (by decide +kernel) (by decide +kernel)
theorem k_ml_L_57 : Cond.methodLink R_L 57 y_L_cell ∈ z_gw := z_gwi 265 (by decide +kernel) (by decide +kernel)
theorem k_ml_L_62 : Cond.methodLink R_L 62 y_P_init ∈ z_gw := z_gwi 76 (by decide +kernel) (by decide +kernel)
theorem k_ml_L_67 : Cond.methodLink R_L 67 y_M_init ∈ z_gw := z_gwi 642 (by decide +kernel) (by decide +kernel)
theorem k_ml_L_68 : Cond.methodLink R_L 68 y_L_put ∈ z_gw := z_gwi 268 (by decide +kernel) (by decide +kernel)
theorem k_ml_L_7 : Cond.methodLink R_L 7 y_P_put ∈ z_gw := z_gwi 272 (by decide +kernel) (by decide +kernel)
theorem k_ml_L_71 : Cond.methodLink R_L 71 y_M_put ∈ z_gw := z_gwi 735 (by decide +kernel) (by decide +kernel)
theorem k_ml_L_72 : Cond.methodLink R_L 72 y_M_thrown ∈ z_gw := z_gwi 731 (by decide +kernel) (by decide +kernel)
theorem k_ml_L_76 : Cond.methodLink R_L 76 y_L_fill ∈ z_gw := z_gwi 352 (by decide +kernel) (by decide +kernel)
theorem k_ml_L_79 : Cond.methodLink R_L 79 y_M_fill ∈ z_gw := z_gwi 750 (by decide +kernel) (by decide +kernel)
theorem k_ml_L_80 : Cond.methodLink R_L 80 y_L_noise ∈ z_gw := z_gwi 376 (by decide +kernel) (by decide +kernel)
theorem k_ml_L_83 : Cond.methodLink R_L 83 y_M_noise ∈ z_gw := z_gwi 754 (by decide +kernel) (by decide +kernel)
theorem k_ml_L_84 : Cond.methodLink R_L 84 y_L_run ∈ z_gw := z_gwi 384 (by decide +kernel) (by decide +kernel)
theorem k_ml_L_87 : Cond.methodLink R_L 87 y_M_run ∈ z_gw := z_gwi 762 (by decide +kernel) (by decide +kernel)
theorem k_ml_L_88 : Cond.methodLink R_L 88 y_L_part ∈ z_gw := z_gwi 498 (by decide +kernel) (by decide +kernel)
theorem k_ml_L_90 : Cond.methodLink R_L 90 y_M_part ∈ z_gw := z_gwi 854 (by decide +kernel) (by decide +kernel)
theorem k_ml_L_91 : Cond.methodLink R_L 91 y_L_partOf ∈ z_gw := z_gwi 583 (by decide +kernel) (by decide +kernel)
theorem k_ml_L_93 : Cond.methodLink R_L 93 y_M_partOf ∈ z_gw := z_gwi 866 (by decide +kernel) (by decide +kernel)
theorem k_ml_L_94 : Cond.methodLink R_L 94 y_L_line ∈ z_gw := z_gwi 590 (by decide +kernel) (by decide +kernel)
theorem k_ml_L_97 : Cond.methodLink R_L 97 y_M_line ∈ z_gw := z_gwi 870 (by decide +kernel) (by decide +kernel)
theorem k_ml_L_98 : Cond.methodLink R_L 98 y_L_order ∈ z_gw := z_gwi 605 (by decide +kernel) (by decide +kernel)
theorem k_ml_M_1 : Cond.methodLink R_M 1 objectInit ∈ z_gw := z_gwi 645 (by decide +kernel) (by decide +kernel)
theorem k_ml_M_101 : Cond.methodLink R_M 101 y_M_settles ∈ z_gw := z_gwi 778 (by decide +kernel) (by decide +kernel)
theorem k_ml_M_105 : Cond.methodLink R_M 105 y_M_group ∈ z_gw := z_gwi 770 (by decide +kernel) (by decide +kernel)
theorem k_ml_M_109 : Cond.methodLink R_M 109 y_M_sizeOf ∈ z_gw := z_gwi 782 (by decide +kernel) (by decide +kernel)
theorem k_ml_M_112 : Cond.methodLink R_M 112 y_M_inGap ∈ z_gw := z_gwi 786 (by decide +kernel) (by decide +kernel)
theorem k_ml_M_119 : Cond.methodLink R_M 119 y_M_kindOf ∈ z_gw := z_gwi 794 (by decide +kernel) (by decide +kernel)
theorem k_ml_M_123 : Cond.methodLink R_M 123 y_M_cleanIn ∈ z_gw := z_gwi 798 (by decide +kernel) (by decide +kernel)
theorem k_ml_M_130 : Cond.methodLink R_M 130 y_M_takeCover ∈ z_gw := z_gwi 806 (by decide +kernel) (by decide +kernel)
theorem k_ml_M_140 : Cond.methodLink R_M 140 y_M_isClosed ∈ z_gw := z_gwi 818 (by decide +kernel) (by decide +kernel)
theorem k_ml_M_144 : Cond.methodLink R_M 144 y_M_low ∈ z_gw := z_gwi 834 (by decide +kernel) (by decide +kernel)
theorem k_ml_M_148 : Cond.methodLink R_M 148 y_M_high ∈ z_gw := z_gwi 838 (by decide +kernel) (by decide +kernel)
theorem k_ml_M_151 : Cond.methodLink R_M 151 y_M_isBefore ∈ z_gw := z_gwi 850 (by decide +kernel) (by decide +kernel)
theorem k_ml_M_154 : Cond.methodLink R_M 154 y_M_swap ∈ z_gw := z_gwi 842 (by decide +kernel) (by decide +kernel)
theorem k_ml_M_158 : Cond.methodLink R_M 158 y_M_gap ∈ z_gw := z_gwi 830 (by decide +kernel) (by decide +kernel)
theorem k_ml_M_162 : Cond.methodLink R_M 162 y_M_parts ∈ z_gw := z_gwi 826 (by decide +kernel) (by decide +kernel)
theorem k_ml_M_165 : Cond.methodLink R_M 165 y_M_sort ∈ z_gw := z_gwi 846 (by decide +kernel) (by decide +kernel)
theorem k_ml_M_168 : Cond.methodLink R_M 168 y_M_takeInk ∈ z_gw := z_gwi 766 (by decide +kernel) (by decide +kernel)
theorem k_ml_M_171 : Cond.methodLink R_M 171 y_M_takeParts ∈ z_gw := z_gwi 790 (by decide +kernel) (by decide +kernel)
theorem k_ml_M_174 : Cond.methodLink R_M 174 y_M_takeCovers ∈ z_gw := z_gwi 802 (by decide +kernel) (by decide +kernel)
theorem k_ml_M_177 : Cond.methodLink R_M 177 y_M_takeStrips ∈ z_gw := z_gwi 810 (by decide +kernel) (by decide +kernel)
theorem k_ml_M_180 : Cond.methodLink R_M 180 y_M_takeCells ∈ z_gw := z_gwi 814 (by decide +kernel) (by decide +kernel)
theorem k_ml_M_183 : Cond.methodLink R_M 183 y_M_takeOrder ∈ z_gw := z_gwi 822 (by decide +kernel) (by decide +kernel)
theorem k_ml_M_186 : Cond.methodLink R_M 186 y_M_lines ∈ z_gw := z_gwi 858 (by decide +kernel) (by decide +kernel)
theorem k_ml_M_189 : Cond.methodLink R_M 189 y_M_inkOf ∈ z_gw := z_gwi 862 (by decide +kernel) (by decide +kernel)
theorem k_ml_M_69 : Cond.methodLink R_M 69 y_M_nearest ∈ z_gw := z_gwi 646 (by decide +kernel) (by decide +kernel)
theorem k_ml_M_82 : Cond.methodLink R_M 82 y_M_in ∈ z_gw := z_gwi 743 (by decide +kernel) (by decide +kernel)
theorem k_ml_M_86 : Cond.methodLink R_M 86 y_M_isSample ∈ z_gw := z_gwi 739 (by decide +kernel) (by decide +kernel)
theorem k_ml_M_90 : Cond.methodLink R_M 90 y_M_goes ∈ z_gw := z_gwi 746 (by decide +kernel) (by decide +kernel)
theorem k_ml_M_98 : Cond.methodLink R_M 98 y_M_is ∈ z_gw := z_gwi 774 (by decide +kernel) (by decide +kernel)
theorem k_ml_P_101 : Cond.methodLink R_P 101 y_C_find ∈ z_gw := z_gwi 429 (by decide +kernel) (by decide +kernel)
theorem k_ml_P_104 : Cond.methodLink R_P 104 y_P_findStrips ∈ z_gw := z_gwi 454 (by decide +kernel) (by decide +kernel)
theorem k_ml_P_107 : Cond.methodLink R_P 107 y_G_dropAtEdge ∈ z_gw := z_gwi 462 (by decide +kernel) (by decide +kernel)
theorem k_ml_P_110 : Cond.methodLink R_P 110 y_R_arrange ∈ z_gw := z_gwi 466 (by decide +kernel) (by decide +kernel)
theorem k_ml_P_117 : Cond.methodLink R_P 117 y_P_mustBeParted ∈ z_gw := z_gwi 506 (by decide +kernel) (by decide +kernel)
theorem k_ml_P_120 : Cond.methodLink R_P 120 y_P_mustBeBelow ∈ z_gw := z_gwi 526 (by decide +kernel) (by decide +kernel)
theorem k_ml_P_123 : Cond.methodLink R_P 123 y_P_mustBeTold ∈ z_gw := z_gwi 530 (by decide +kernel) (by decide +kernel)
theorem k_ml_P_126 : Cond.methodLink R_P 126 y_P_weightOf ∈ z_gw := z_gwi 534 (by decide +kernel) (by decide +kernel)
theorem k_ml_P_129 : Cond.methodLink R_P 129 y_P_kindOf ∈ z_gw := z_gwi 538 (by decide +kernel) (by decide +kernel)
theorem k_ml_P_132 : Cond.methodLink R_P 132 y_P_countLines ∈ z_gw := z_gwi 565 (by decide +kernel) (by decide +kernel)
theorem k_ml_P_138 : Cond.methodLink R_P 138 y_G_boxOf ∈ z_gw := z_gwi 577 (by decide +kernel) (by decide +kernel)
theorem k_ml_P_144 : Cond.methodLink R_P 144 y_P_firstRowOfLine ∈ z_gw := z_gwi 597 (by decide +kernel) (by decide +kernel)
theorem k_ml_P_147 : Cond.methodLink R_P 147 y_P_countRowsOfLine ∈ z_gw := z_gwi 601 (by decide +kernel) (by decide +kernel)
theorem k_ml_P_169 : Cond.methodLink R_P 169 y_P_toldOfParted ∈ z_gw := z_gwi 257 (by decide +kernel) (by decide +kernel)
theorem k_ml_P_172 : Cond.methodLink R_P 172 Lib.Math.max.name ∈ z_gw := z_gwi 88 (by decide +kernel) (by decide +kernel)
theorem k_ml_P_179 : Cond.methodLink R_P 179 ⟨"java/lang/IllegalStateException", "<init>", "(Ljava/lang/String;)V"⟩ ∈ z_gw := z_gwi 520 (by decide +kernel) (by decide +kernel)
theorem k_ml_P_184 : Cond.methodLink R_P 184 ⟨"java/lang/IndexOutOfBoundsException", "<init>", "(Ljava/lang/String;)V"⟩ ∈ z_gw := z_gwi 322 (by decide +kernel) (by decide +kernel)
theorem k_ml_P_195 : Cond.methodLink R_P 195 y_P_smearAlong ∈ z_gw := z_gwi 425 (by decide +kernel) (by decide +kernel)
theorem k_ml_P_199 : Cond.methodLink R_P 199 y_P_hasInk ∈ z_gw := z_gwi 458 (by decide +kernel) (by decide +kernel)
theorem k_ml_P_203 : Cond.methodLink R_P 203 y_G_wideOf ∈ z_gw := z_gwi 542 (by decide +kernel) (by decide +kernel)
theorem k_ml_P_206 : Cond.methodLink R_P 206 y_G_highOf ∈ z_gw := z_gwi 546 (by decide +kernel) (by decide +kernel)
theorem k_ml_P_209 : Cond.methodLink R_P 209 y_P_isThin ∈ z_gw := z_gwi 550 (by decide +kernel) (by decide +kernel)
theorem k_ml_P_213 : Cond.methodLink R_P 213 y_P_isFramed ∈ z_gw := z_gwi 553 (by decide +kernel) (by decide +kernel)
theorem k_ml_P_216 : Cond.methodLink R_P 216 y_P_isMostlyEmptyWithin ∈ z_gw := z_gwi 561 (by decide +kernel) (by decide +kernel)
theorem k_ml_P_221 : Cond.methodLink R_P 221 y_P_countClean ∈ z_gw := z_gwi 557 (by decide +kernel) (by decide +kernel)
theorem k_ml_P_23 : Cond.methodLink R_P 23 y_P_nearestSide ∈ z_gw := z_gwi 82 (by decide +kernel) (by decide +kernel)
theorem k_ml_P_231 : Cond.methodLink R_P 231 y_P_beginsLine ∈ z_gw := z_gwi 569 (by decide +kernel) (by decide +kernel)
theorem k_ml_P_234 : Cond.methodLink R_P 234 y_P_hasCleanOf ∈ z_gw := z_gwi 573 (by decide +kernel) (by decide +kernel)
theorem k_ml_P_3 : Cond.methodLink R_P 3 objectInit ∈ z_gw := z_gwi 79 (by decide +kernel) (by decide +kernel)
theorem k_ml_P_36 : Cond.methodLink R_P 36 y_G_init ∈ z_gw := z_gwi 93 (by decide +kernel) (by decide +kernel)
theorem k_ml_P_48 : Cond.methodLink R_P 48 y_C_init ∈ z_gw := z_gwi 144 (by decide +kernel) (by decide +kernel)
theorem k_ml_P_63 : Cond.methodLink R_P 63 y_P_mustBeSample ∈ z_gw := z_gwi 276 (by decide +kernel) (by decide +kernel)
theorem k_ml_P_70 : Cond.methodLink R_P 70 y_P_paint ∈ z_gw := z_gwi 348 (by decide +kernel) (by decide +kernel)
theorem k_ml_P_78 : Cond.methodLink R_P 78 ⟨"java/lang/IllegalArgumentException", "<init>", "(Ljava/lang/String;)V"⟩ ∈ z_gw := z_gwi 370 (by decide +kernel) (by decide +kernel)
theorem k_ml_P_81 : Cond.methodLink R_P 81 Lib.Math.min.name ∈ z_gw := z_gwi 85 (by decide +kernel) (by decide +kernel)
theorem k_ml_P_91 : Cond.methodLink R_P 91 y_P_findClean ∈ z_gw := z_gwi 392 (by decide +kernel) (by decide +kernel)
theorem k_ml_P_94 : Cond.methodLink R_P 94 y_P_smear ∈ z_gw := z_gwi 421 (by decide +kernel) (by decide +kernel)
theorem k_ml_P_97 : Cond.methodLink R_P 97 y_G_find ∈ z_gw := z_gwi 396 (by decide +kernel) (by decide +kernel)
theorem k_ml_R_21 : Cond.methodLink R_R 21 y_R_sortByBoxes ∈ z_gw := z_gwi 470 (by decide +kernel) (by decide +kernel)
theorem k_ml_R_3 : Cond.methodLink R_R 3 objectInit ∈ z_gw := z_gwi 186 (by decide +kernel) (by decide +kernel)
theorem k_ml_R_31 : Cond.methodLink R_R 31 y_R_findCut ∈ z_gw := z_gwi 477 (by decide +kernel) (by decide +kernel)
theorem k_ml_R_35 : Cond.methodLink R_R 35 y_R_divide ∈ z_gw := z_gwi 491 (by decide +kernel) (by decide +kernel)
theorem k_ml_R_39 : Cond.methodLink R_R 39 y_R_isBefore ∈ z_gw := z_gwi 474 (by decide +kernel) (by decide +kernel)
theorem k_ml_R_54 : Cond.methodLink R_R 54 y_R_lookAlong ∈ z_gw := z_gwi 481 (by decide +kernel) (by decide +kernel)
theorem k_ml_R_61 : Cond.methodLink R_R 61 y_R_bits ∈ z_gw := z_gwi 485 (by decide +kernel) (by decide +kernel)
theorem k_ml_R_65 : Cond.methodLink R_R 65 y_R_hasBit ∈ z_gw := z_gwi 488 (by decide +kernel) (by decide +kernel)
theorem k_ml_R_76 : Cond.methodLink R_R 76 arraycopyName ∈ z_gw := z_gwi 495 (by decide +kernel) (by decide +kernel)
theorem k_st_min : Cond.static Lib.Math.min.name ∈ z_gw := z_gwi 86 (by decide +kernel) (by decide +kernel)
theorem k_st_max : Cond.static Lib.Math.max.name ∈ z_gw := z_gwi 89 (by decide +kernel) (by decide +kernel)
theorem k_st_arraycopy : Cond.static arraycopyName ∈ z_gw := z_gwi 496 (by decide +kernel) (by decide +kernel)
theorem k_in_Math : Cond.initialized "java/lang/Math" ∈ z_gw := z_gwi 61 (by decide +kernel) (by decide +kernel)
theorem k_in_System : Cond.initialized "java/lang/System" ∈ z_gw := z_gwi 72 (by decide +kernel) (by decide +kernel)
theorem k_nt_arraycopy : Cond.native arraycopyName ∈ z_gw := z_gwi 497 (by decide +kernel) (by decide +kernel)
theorem k_co_min : Cond.code Lib.Math.min.name Lib.Math.min.code 2 (some .int) ∈ z_gw := z_gwi 87 (by decide +kernel) (by decide +kernel)
theorem k_co_max : Cond.code Lib.Math.max.name Lib.Math.max.code 2 (some .int) ∈ z_gw := z_gwi 90 (by decide +kernel) (by decide +kernel)
theorem k_in_P : Cond.initialized R_P ∈ z_gw := z_gwi 60 (by decide +kernel) (by decide +kernel)
theorem k_in_G : Cond.initialized R_G ∈ z_gw := z_gwi 62 (by decide +kernel) (by decide +kernel)
theorem k_in_C : Cond.initialized R_C ∈ z_gw := z_gwi 63 (by decide +kernel) (by decide +kernel)
theorem k_in_R : Cond.initialized R_R ∈ z_gw := z_gwi 64 (by decide +kernel) (by decide +kernel)
theorem k_in_M : Cond.initialized R_M ∈ z_gw := z_gwi 65 (by decide +kernel) (by decide +kernel)
theorem k_in_L : Cond.initialized R_L ∈ z_gw := z_gwi 59 (by decide +kernel) (by decide +kernel)
abbrev zS : Type := Nat → Nat → Int32
abbrev zK : Type := (Nat × Nat) ⊕ (Nat × List (Option Nat))
abbrev z_ix (i : Int32) : Nat := i.toNatClampNeg
abbrev z_bo (v : Int32) : Prop := v = 0 ∨ v = 1
def z_kd : Nat → zK
  | 0 => .inr (0, [none, none, some 1, some 2, some 3, some 4, some 5, some 13, some 21, some 27, none, none, none, none, none])
  | 1 => .inl (1, 576)
  | 2 => .inl (1, 576)
  | 3 => .inl (1, 576)
  | 4 => .inl (0, 24)
  | 5 => .inr (1, [some 6, some 7, some 8, some 9, some 10, some 11, none, some 12, none, none])
  | 6 => .inl (0, 576)
  | 7 => .inl (0, 288)
  | 8 => .inl (0, 288)
  | 9 => .inl (0, 288)
  | 10 => .inl (0, 288)
  | 11 => .inl (0, 288)
  | 12 => .inl (0, 576)
  | 13 => .inr (1, [some 14, some 15, some 16, some 17, some 18, some 19, none, some 20, none, none])
  | 14 => .inl (0, 576)
  | 15 => .inl (0, 288)
  | 16 => .inl (0, 288)
  | 17 => .inl (0, 288)
  | 18 => .inl (0, 288)
  | 19 => .inl (0, 288)
  | 20 => .inl (0, 576)
  | 21 => .inr (2, [some 22, some 23, some 24, some 25, none, some 26, none, none, none])
  | 22 => .inl (0, 6)
  | 23 => .inl (0, 6)
  | 24 => .inl (0, 6)
  | 25 => .inl (0, 6)
  | 26 => .inl (0, 576)
  | 27 => .inr (3, [some 28, some 29, some 30, none, none, none])
  | 28 => .inl (0, 288)
  | 29 => .inl (0, 288)
  | 30 => .inl (0, 288)
  | 31 => .inr (4, [none, none, none, some 32, none, none, some 33, some 34, some 35, some 36, some 37, some 38, none, some 39, some 40, some 41, some 42, some 43, some 44, none, some 45, none, some 46, none, some 47, some 48, some 49])
  | 32 => .inl (1, 576)
  | 33 => .inl (1, 576)
  | 34 => .inl (1, 576)
  | 35 => .inl (1, 576)
  | 36 => .inl (1, 576)
  | 37 => .inl (0, 576)
  | 38 => .inl (0, 576)
  | 39 => .inl (0, 300)
  | 40 => .inl (0, 300)
  | 41 => .inl (0, 300)
  | 42 => .inl (0, 300)
  | 43 => .inl (0, 300)
  | 44 => .inl (0, 300)
  | 45 => .inl (0, 24)
  | 46 => .inl (0, 24)
  | 47 => .inl (0, 576)
  | 48 => .inl (0, 300)
  | 49 => .inl (0, 300)
  | 50 => .inl (2, 1)
  | _ => .inl (0, 0)
theorem kd_0 : z_kd 0 = .inr (0, [none, none, some 1, some 2, some 3, some 4, some 5, some 13, some 21, some 27, none, none, none, none, none]) := rfl
theorem kd_1 : z_kd 1 = .inl (1, 576) := rfl
theorem kd_2 : z_kd 2 = .inl (1, 576) := rfl
theorem kd_3 : z_kd 3 = .inl (1, 576) := rfl
theorem kd_4 : z_kd 4 = .inl (0, 24) := rfl
theorem kd_5 : z_kd 5 = .inr (1, [some 6, some 7, some 8, some 9, some 10, some 11, none, some 12, none, none]) := rfl
theorem kd_6 : z_kd 6 = .inl (0, 576) := rfl
theorem kd_7 : z_kd 7 = .inl (0, 288) := rfl
theorem kd_8 : z_kd 8 = .inl (0, 288) := rfl
theorem kd_9 : z_kd 9 = .inl (0, 288) := rfl
theorem kd_10 : z_kd 10 = .inl (0, 288) := rfl
theorem kd_11 : z_kd 11 = .inl (0, 288) := rfl
theorem kd_12 : z_kd 12 = .inl (0, 576) := rfl
theorem kd_13 : z_kd 13 = .inr (1, [some 14, some 15, some 16, some 17, some 18, some 19, none, some 20, none, none]) := rfl
theorem kd_14 : z_kd 14 = .inl (0, 576) := rfl
theorem kd_15 : z_kd 15 = .inl (0, 288) := rfl
theorem kd_16 : z_kd 16 = .inl (0, 288) := rfl
theorem kd_17 : z_kd 17 = .inl (0, 288) := rfl
theorem kd_18 : z_kd 18 = .inl (0, 288) := rfl
theorem kd_19 : z_kd 19 = .inl (0, 288) := rfl
theorem kd_20 : z_kd 20 = .inl (0, 576) := rfl
theorem kd_21 : z_kd 21 = .inr (2, [some 22, some 23, some 24, some 25, none, some 26, none, none, none]) := rfl
theorem kd_22 : z_kd 22 = .inl (0, 6) := rfl
theorem kd_23 : z_kd 23 = .inl (0, 6) := rfl
theorem kd_24 : z_kd 24 = .inl (0, 6) := rfl
theorem kd_25 : z_kd 25 = .inl (0, 6) := rfl
theorem kd_26 : z_kd 26 = .inl (0, 576) := rfl
theorem kd_27 : z_kd 27 = .inr (3, [some 28, some 29, some 30, none, none, none]) := rfl
theorem kd_28 : z_kd 28 = .inl (0, 288) := rfl
theorem kd_29 : z_kd 29 = .inl (0, 288) := rfl
theorem kd_30 : z_kd 30 = .inl (0, 288) := rfl
theorem kd_31 : z_kd 31 = .inr (4, [none, none, none, some 32, none, none, some 33, some 34, some 35, some 36, some 37, some 38, none, some 39, some 40, some 41, some 42, some 43, some 44, none, some 45, none, some 46, none, some 47, some 48, some 49]) := rfl
theorem kd_32 : z_kd 32 = .inl (1, 576) := rfl
theorem kd_33 : z_kd 33 = .inl (1, 576) := rfl
theorem kd_34 : z_kd 34 = .inl (1, 576) := rfl
theorem kd_35 : z_kd 35 = .inl (1, 576) := rfl
theorem kd_36 : z_kd 36 = .inl (1, 576) := rfl
theorem kd_37 : z_kd 37 = .inl (0, 576) := rfl
theorem kd_38 : z_kd 38 = .inl (0, 576) := rfl
theorem kd_39 : z_kd 39 = .inl (0, 300) := rfl
theorem kd_40 : z_kd 40 = .inl (0, 300) := rfl
theorem kd_41 : z_kd 41 = .inl (0, 300) := rfl
theorem kd_42 : z_kd 42 = .inl (0, 300) := rfl
theorem kd_43 : z_kd 43 = .inl (0, 300) := rfl
theorem kd_44 : z_kd 44 = .inl (0, 300) := rfl
theorem kd_45 : z_kd 45 = .inl (0, 24) := rfl
theorem kd_46 : z_kd 46 = .inl (0, 24) := rfl
theorem kd_47 : z_kd 47 = .inl (0, 576) := rfl
theorem kd_48 : z_kd 48 = .inl (0, 300) := rfl
theorem kd_49 : z_kd 49 = .inl (0, 300) := rfl
theorem kd_50 : z_kd 50 = .inl (2, 1) := rfl
/-- a Groups and its arrays from cell g on -/
def z_G (g : Nat) : Prop := g + 7 < 51 ∧ z_kd g = .inr (1, [some (g + 1), some (g + 2), some (g + 3), some (g + 4), some (g + 5), some (g + 6), none, some (g + 7), none, none]) ∧ z_kd (g + 1) = .inl (0, 576) ∧ z_kd (g + 2) = .inl (0, 288) ∧ z_kd (g + 3) = .inl (0, 288) ∧ z_kd (g + 4) = .inl (0, 288) ∧ z_kd (g + 5) = .inl (0, 288) ∧ z_kd (g + 6) = .inl (0, 288) ∧ z_kd (g + 7) = .inl (0, 576)
theorem z_lt0 {g : Nat} (h : z_G g) : g < 51 := by have := h.1; omega
theorem z_lt {g : Nat} (h : z_G g) (k : Nat) (hk : k < 8) : g + k < 51 := by have := h.1; omega
theorem z_G_5 : z_G 5 := ⟨by decide, rfl, rfl, rfl, rfl, rfl, rfl, rfl, rfl⟩
theorem z_G_13 : z_G 13 := ⟨by decide, rfl, rfl, rfl, rfl, rfl, rfl, rfl, rfl⟩
def z_B (k : Nat) : Prop := k < 51 ∧ z_kd k = .inl (1, 576)
theorem z_B_1 : z_B 1 := ⟨by decide, rfl⟩
theorem z_B_2 : z_B 2 := ⟨by decide, rfl⟩
theorem z_B_3 : z_B 3 := ⟨by decide, rfl⟩
def z_A (k : Nat) : Prop := k < 51 ∧ z_kd k = .inl (0, 288)
theorem z_A_7 : z_A 7 := ⟨by decide, rfl⟩
theorem z_A_8 : z_A 8 := ⟨by decide, rfl⟩
theorem z_A_9 : z_A 9 := ⟨by decide, rfl⟩
theorem z_A_10 : z_A 10 := ⟨by decide, rfl⟩
theorem z_A_11 : z_A 11 := ⟨by decide, rfl⟩
end
section
/-! THE WORLD: 51 cells (the class's, the reference's, the law's long array); what they hold is ONE function zS: cell, place -> int.
An object's int fields are its places by slot; its references are fixed (z_kd says which cell each names). -/
section ZA
/-- an array as a function of its place, set at one -/
def z_su (S : zS) (k i : Nat) (v : Int32) : zS := fun a => if a = k then upd (S k) i v else S a
/-- the first n places of an array set -/
def z_sf (S : zS) (k n : Nat) (v : Int32) : zS := fun a => if a = k then (fun j => if j < n then v else S k j) else S a
/-- a stretch of one array copied to another -/
def z_sc (S : zS) (k1 k2 sp dp n : Nat) : zS := fun a => if a = k2 then va_cpy (S k1) (S k2) sp dp n else S a
def z_cp (sp dp n : Int32) (n1 n2 : Nat) : Prop := ¬ sp < 0 ∧ ¬ dp < 0 ∧ ¬ n < 0 ∧ z_ix sp + z_ix n ≤ n1 ∧ z_ix dp + z_ix n ≤ n2
def z_fv (ad : Nat → Nat) (r : Nat → Int32) (j : Nat) (o : Option Nat) : Value := match o with
  | none => .int (r j)
  | some h => .ref (ad h)
def z_fl (ad : Nat → Nat) (r : Nat → Int32) (fl : List (Option Nat)) : List Value := fl.mapIdx (z_fv ad r)
def z_ce (cA : Nat → ClassId) (ad : Nat → Nat) (k : Nat) (r : Nat → Int32) : va_E := match z_kd k with
  | .inl q => if q.1 = 2 then .inl (cA 2, q.2, .inr (.inl fun i => (r i).toInt64)) else .inl (cA q.1, q.2, .inl r)
  | .inr q => .inr (q.1, z_fl ad r q.2)
def z_w (cA : Nat → ClassId) (n : Nat) (ad : Nat → Nat) (S : zS) : va_W := (List.range n).map fun k => (ad k, z_ce cA ad k (S k))
variable {cA : Nat → ClassId} {n : Nat} {ad : Nat → Nat} {S : zS}
theorem z_w_at {k : Nat} (h : k < n) : (z_w cA n ad S)[k]? = some (ad k, z_ce cA ad k (S k)) := by
  simp [z_w, h]
theorem z_w_lt {k : Nat} {q : Nat × va_E} (h : (z_w cA n ad S)[k]? = some q) : k < n := by
  have := (List.getElem?_eq_some_iff.mp h).1
  simpa [z_w] using this
theorem z_w_set {k : Nat} (h : k < n) (r : Nat → Int32) : (z_w cA n ad S).set k (ad k, z_ce cA ad k r) = z_w cA n ad (fun a => if a = k then r else S a) := by
  apply List.ext_getElem?
  intro i
  rw [List.getElem?_set]
  by_cases hi : k = i
  · subst hi
    simp [z_w, h]
  · by_cases hn : i < n
    · simp [z_w, hi, hn, Ne.symm hi]
    · simp [z_w, hi, hn]
theorem z_w_D (hJ : ∀ i j, i < n → j < n → ad i = ad j → i = j) {A : Nat → Prop} (hA : ∀ k, k < n → A (ad k)) : va_D A (z_w cA n ad S) := by
  refine ⟨fun i j p q hp hq e => ?_, fun k q hk => ?_⟩
  · have h1 := z_w_lt hp
    have h2 := z_w_lt hq
    rw [z_w_at h1] at hp
    rw [z_w_at h2] at hq
    cases hp
    cases hq
    exact hJ i j h1 h2 e
  · have h1 := z_w_lt hk
    rw [z_w_at h1] at hk
    cases hk
    exact hA k h1
theorem z_ce_o {k ci : Nat} {fl : List (Option Nat)} {r : Nat → Int32} (h : z_kd k = .inr (ci, fl)) : z_ce cA ad k r = .inr (ci, z_fl ad r fl) := by
  simp [z_ce, h]
theorem z_ce_a {k t n : Nat} {r : Nat → Int32} (h : z_kd k = .inl (t, n)) (ht : t ≠ 2) : z_ce cA ad k r = .inl (cA t, n, .inl r) := by
  simp [z_ce, h, ht]
theorem z_ce_l {k n : Nat} {r : Nat → Int32} (h : z_kd k = .inl (2, n)) : z_ce cA ad k r = .inl (cA 2, n, .inr (.inl fun i => (r i).toInt64)) := by
  simp [z_ce, h]
theorem z_fl_at {fl : List (Option Nat)} {r : Nat → Int32} {j : Nat} {o : Option Nat} (h : fl[j]? = some o) : (z_fl ad r fl)[j]? = some (z_fv ad r j o) := by
  simp [z_fl, h]
theorem z_fl_set {fl : List (Option Nat)} {r : Nat → Int32} {j : Nat} {v : Int32} (h : fl[j]? = some none) : (z_fl ad r fl).set j (.int v) = z_fl ad (upd r j v) fl := by
  apply List.ext_getElem?
  intro i
  rw [List.getElem?_set]
  by_cases hi : j = i
  · subst hi
    have hl : j < fl.length := (List.getElem?_eq_some_iff.mp h).1
    simp only [z_fl, List.length_mapIdx, hl, if_true, List.getElem?_mapIdx, h]
    simp [z_fv, upd]
  · simp only [z_fl, List.getElem?_mapIdx, hi, if_false]
    cases hf : fl[i]? with
    | none => rfl
    | some o => cases o <;> simp [z_fv, upd, Ne.symm hi]
/-- the addresses that a method may change: the world's own and what is new -/
def z_fr (n : Nat) (ad : Nat → Nat) (sz : Nat) : Nat → Prop := fun q => (∃ k, k < n ∧ q = ad k) ∨ sz ≤ q
theorem z_fr_in {k sz : Nat} (h : k < n) : z_fr n ad sz (ad k) := Or.inl ⟨k, h, rfl⟩
theorem z_fr_mono {a b q : Nat} (h : a ≤ b) (hq : z_fr n ad b q) : z_fr n ad a q := hq.elim Or.inl fun z => Or.inr (Nat.le_trans h z)
def z_ty (cA : Nat → ClassId) : List (ClassId × FieldType) := [(cA 0, .int), (cA 1, .boolean), (cA 2, .long)]
def z_I (D : va_G) (cA : Nat → ClassId) (n : Nat) (ad : Nat → Nat) (H0 : Heap) (S : zS) (H : Heap) (locs : List Loc) : Prop := va_P D z_cl (z_w cA n ad S) H ∧ va_S (z_fr n ad H0.size) H0 H locs
def z_CT (p : Program) (s : State) (m : MethodId) (args : Array Value) (c : Code) (own : String) (cc : ByteArray) (nL : Nat) (D : va_G) (cA : Nat → ClassId) (n : Nat) (ad : Nat → Nat) : Prop :=
  p.tables.exec = Jvm.exec ∧ c.code = cc ∧ c.maxLocals = nL ∧ s.vm.findClass own = some m.cls ∧ (∀ w ∈ z_gw, w.before args s = true) ∧ va_K D z_cl (z_ty cA) s ∧ ∀ i j, i < n → j < n → ad i = ad j → i = j
theorem z_nb {v : Int32} (h : z_bo v) : narrow .boolean (.int v) = .int v := by
  rcases h with rfl | rfl <;> decide
theorem z_fb {v : Int32} (h : z_bo v) : fits .boolean (.int v) = true := by
  rcases h with rfl | rfl <;> decide
theorem z_vb {v : Int32} (h : z_bo v) : vp_nar .boolean v = v := by
  rcases h with rfl | rfl <;> decide
end ZA
section ZR
variable {p : Program} {l : Launch} {e : Env} {R : Room} {s : State} {m : MethodId} {args : Array Value} {below : List Frame} {meth : Method} {c : Code} {H : Heap} {locs : List Loc} {cells slots : Nat} {Q : State → Prop}
variable {cc : ByteArray} {pc nL : Nat} {ls : Array Slot} {rest : List Value} {D : va_G} {cA : Nat → ClassId} {n : Nat} {ad : Nat → Nat} {S : zS} {own : String}
theorem z_getI (C : z_CT p s m args c own cc nL D cA n ad) (hI : z_I D cA n ad s.heap S H locs) (k : Nat) (hk : k < n) {ci : Nat} {fl : List (Option Nat)} (hkd : z_kd k = .inr (ci, fl)) {C0 : String} {T : u_T} {N : Nat} (hc : z_cl[ci]? = some (C0, T, N)) (hin : ∀ w ∈ u_ws C0 T N, w ∈ z_gw) (j : Nat) (hj : j < N) {index : Nat} (hlink : Cond.fieldLink own index (T j).1 (T j).2.1 (T j).2.2.1 ∈ z_gw) (ho : fl[j]? = some none) (hdg : decode cc pc = .ok (.getfield index, 3))
    (kk : W p l e R s m args below meth c H locs cells slots Q (F0 m (pc + 3) ls (.int (S k j) :: rest))) : W p l e R s m args below meth c H locs cells slots Q (F0 m pc ls (.ref (ad k) :: rest)) := by
  obtain ⟨hx, hb, hml, hown, hts, hK, hJ⟩ := C
  exact va_get (D := D) (ci := ci) (v := .int (S k j)) hx hb hts hin hown hK hI.1 k (by rw [z_w_at hk, z_ce_o hkd]) hc j hj (hts _ hlink) (fun _ h => h) (z_fl_at ho) hdg kk
theorem z_getR (C : z_CT p s m args c own cc nL D cA n ad) (hI : z_I D cA n ad s.heap S H locs) (k : Nat) (hk : k < n) {ci : Nat} {fl : List (Option Nat)} (hkd : z_kd k = .inr (ci, fl)) {C0 : String} {T : u_T} {N : Nat} (hc : z_cl[ci]? = some (C0, T, N)) (hin : ∀ w ∈ u_ws C0 T N, w ∈ z_gw) (j : Nat) (hj : j < N) {index : Nat} (hlink : Cond.fieldLink own index (T j).1 (T j).2.1 (T j).2.2.1 ∈ z_gw) {q : Nat} (ho : fl[j]? = some (some q)) (hdg : decode cc pc = .ok (.getfield index, 3))
    (kk : W p l e R s m args below meth c H locs cells slots Q (F0 m (pc + 3) ls (.ref (ad q) :: rest))) : W p l e R s m args below meth c H locs cells slots Q (F0 m pc ls (.ref (ad k) :: rest)) := by
  obtain ⟨hx, hb, hml, hown, hts, hK, hJ⟩ := C
  exact va_get (D := D) (ci := ci) (v := .ref (ad q)) hx hb hts hin hown hK hI.1 k (by rw [z_w_at hk, z_ce_o hkd]) hc j hj (hts _ hlink) (fun _ h => h) (z_fl_at ho) hdg kk
theorem z_w_put {k j ci : Nat} {fl : List (Option Nat)} {v : Int32} (hk : k < n) (hkd : z_kd k = .inr (ci, fl)) (ho : fl[j]? = some none) : (z_w cA n ad S).set k (ad k, .inr (ci, (z_fl ad (S k) fl).set j (.int v))) = z_w cA n ad (z_su S k j v) := by
  rw [z_fl_set ho, show (Sum.inr (ci, z_fl ad (upd (S k) j v) fl) : va_E) = z_ce cA ad k (upd (S k) j v) from (z_ce_o hkd).symm, z_w_set hk]
  rfl
theorem z_putI (C : z_CT p s m args c own cc nL D cA n ad) (hI : z_I D cA n ad s.heap S H locs) (k : Nat) (hk : k < n) {ci : Nat} {fl : List (Option Nat)} (hkd : z_kd k = .inr (ci, fl)) {C0 : String} {T : u_T} {N : Nat} (hc : z_cl[ci]? = some (C0, T, N)) (hin : ∀ w ∈ u_ws C0 T N, w ∈ z_gw) (ty0 : Nat → FieldType) (hty : ∀ k, k < N → parseFieldDescriptor (T k).2.2.1 = some (ty0 k)) (hnm : ∀ a, a < N → ∀ b, b < N → a ≠ b → (T a).2.1 ≠ (T b).2.1) (j : Nat) (hj : j < N) {index : Nat} (hlink : Cond.fieldLink own index (T j).1 (T j).2.1 (T j).2.2.1 ∈ z_gw) (ho : fl[j]? = some none) (hfin : (T j).2.2.2 = false) (hd : ty0 j = .int) {v : Int32} (hdg : decode cc pc = .ok (.putfield index, 3))
    (kk : ∀ (S1 : zS) (_ : S1 = z_su S k j v) (H1 : Heap) (locs1 : List Loc), z_I D cA n ad s.heap S1 H1 locs1 → W p l e R s m args below meth c H1 locs1 cells slots Q (F0 m (pc + 3) ls rest)) : W p l e R s m args below meth c H locs cells slots Q (F0 m pc ls (.int v :: .ref (ad k) :: rest)) := by
  obtain ⟨hx, hb, hml, hown, hts, hK, hJ⟩ := C
  refine va_put (D := D) (ci := ci) (v := .int v) (ty := .int) hx hb hts hin ty0 hty hnm hown hK hI.1 (z_w_D hJ (fun k hk => z_fr_in hk)) hI.2 k (by rw [z_w_at hk, z_ce_o hkd]) hc j hj (hts _ hlink) (fun _ h => h) hfin (by rw [hty j hj, hd]) rfl rfl (by simpa [z_fl] using (List.getElem?_eq_some_iff.mp ho).1) hdg (fun H1 locs1 hP hD hS => kk _ rfl H1 locs1 ⟨?_, hS⟩)
  rw [z_w_put hk hkd ho] at hP
  exact hP
theorem z_putZ (C : z_CT p s m args c own cc nL D cA n ad) (hI : z_I D cA n ad s.heap S H locs) (k : Nat) (hk : k < n) {ci : Nat} {fl : List (Option Nat)} (hkd : z_kd k = .inr (ci, fl)) {C0 : String} {T : u_T} {N : Nat} (hc : z_cl[ci]? = some (C0, T, N)) (hin : ∀ w ∈ u_ws C0 T N, w ∈ z_gw) (ty0 : Nat → FieldType) (hty : ∀ k, k < N → parseFieldDescriptor (T k).2.2.1 = some (ty0 k)) (hnm : ∀ a, a < N → ∀ b, b < N → a ≠ b → (T a).2.1 ≠ (T b).2.1) (j : Nat) (hj : j < N) {index : Nat} (hlink : Cond.fieldLink own index (T j).1 (T j).2.1 (T j).2.2.1 ∈ z_gw) (ho : fl[j]? = some none) (hfin : (T j).2.2.2 = false) (hd : ty0 j = .boolean) {v : Int32} (hv : z_bo v) (hdg : decode cc pc = .ok (.putfield index, 3))
    (kk : ∀ (S1 : zS) (_ : S1 = z_su S k j v) (H1 : Heap) (locs1 : List Loc), z_I D cA n ad s.heap S1 H1 locs1 → W p l e R s m args below meth c H1 locs1 cells slots Q (F0 m (pc + 3) ls rest)) : W p l e R s m args below meth c H locs cells slots Q (F0 m pc ls (.int v :: .ref (ad k) :: rest)) := by
  obtain ⟨hx, hb, hml, hown, hts, hK, hJ⟩ := C
  refine va_put (D := D) (ci := ci) (v := .int v) (ty := .boolean) hx hb hts hin ty0 hty hnm hown hK hI.1 (z_w_D hJ (fun k hk => z_fr_in hk)) hI.2 k (by rw [z_w_at hk, z_ce_o hkd]) hc j hj (hts _ hlink) (fun _ h => h) hfin (by rw [hty j hj, hd]) (z_nb hv) (z_fb hv) (by simpa [z_fl] using (List.getElem?_eq_some_iff.mp ho).1) hdg (fun H1 locs1 hP hD hS => kk _ rfl H1 locs1 ⟨?_, hS⟩)
  rw [z_w_put hk hkd ho] at hP
  exact hP
theorem z_ild (C : z_CT p s m args c own cc nL D cA n ad) (hI : z_I D cA n ad s.heap S H locs) (k : Nat) (hk : k < n) {N : Nat} (hkd : z_kd k = .inl (0, N)) {i : Int32} (hin : vp_in i N) (hdg : decode cc pc = .ok (.iaload, 1))
    (kk : W p l e R s m args below meth c H locs cells slots Q (F0 m (pc + 1) ls (.int (S k (z_ix i)) :: rest))) : W p l e R s m args below meth c H locs cells slots Q (F0 m pc ls (.int i :: .ref (ad k) :: rest)) :=
  va_iald C.1 C.2.1 C.2.2.2.2.2.1 hI.1 k 0 (by rw [z_w_at hk, z_ce_a hkd (by decide)]) rfl hin hdg kk
theorem z_zld (C : z_CT p s m args c own cc nL D cA n ad) (hI : z_I D cA n ad s.heap S H locs) (k : Nat) (hk : k < n) {N : Nat} (hkd : z_kd k = .inl (1, N)) {i : Int32} (hin : vp_in i N) (hdg : decode cc pc = .ok (.baload, 1))
    (kk : W p l e R s m args below meth c H locs cells slots Q (F0 m (pc + 1) ls (.int (S k (z_ix i)) :: rest))) : W p l e R s m args below meth c H locs cells slots Q (F0 m pc ls (.int i :: .ref (ad k) :: rest)) :=
  va_zald C.1 C.2.1 C.2.2.2.2.2.1 hI.1 k 1 (by rw [z_w_at hk, z_ce_a hkd (by decide)]) rfl hin hdg kk
theorem z_lld (C : z_CT p s m args c own cc nL D cA n ad) (hI : z_I D cA n ad s.heap S H locs) (k : Nat) (hk : k < n) {N : Nat} (hkd : z_kd k = .inl (2, N)) {i : Int32} (hin : vp_in i N) (hdg : decode cc pc = .ok (.laload, 1))
    (kk : W p l e R s m args below meth c H locs cells slots Q (F0 m (pc + 1) ls (.long (Int32.toInt64 (S k (z_ix i))) :: rest))) : W p l e R s m args below meth c H locs cells slots Q (F0 m pc ls (.int i :: .ref (ad k) :: rest)) :=
  va_lald (f := fun j => (S k j).toInt64) C.1 C.2.1 C.2.2.2.2.2.1 hI.1 k 2 (by rw [z_w_at hk, z_ce_l hkd]) rfl hin hdg kk
theorem z_w_ast {k t N : Nat} {r : Nat → Int32} (hk : k < n) (hkd : z_kd k = .inl (t, N)) (ht : t ≠ 2) : (z_w cA n ad S).set k (ad k, .inl (cA t, N, .inl r)) = z_w cA n ad (fun a => if a = k then r else S a) := by
  rw [show (Sum.inl (cA t, N, .inl r) : va_E) = z_ce cA ad k r from (z_ce_a hkd ht).symm, z_w_set hk]
theorem z_ist (C : z_CT p s m args c own cc nL D cA n ad) (hI : z_I D cA n ad s.heap S H locs) (k : Nat) (hk : k < n) {N : Nat} (hkd : z_kd k = .inl (0, N)) {i v : Int32} (hin : vp_in i N) (hdg : decode cc pc = .ok (.iastore, 1))
    (kk : ∀ (S1 : zS) (_ : S1 = z_su S k (z_ix i) v) (H1 : Heap) (locs1 : List Loc), z_I D cA n ad s.heap S1 H1 locs1 → W p l e R s m args below meth c H1 locs1 cells slots Q (F0 m (pc + 1) ls rest)) : W p l e R s m args below meth c H locs cells slots Q (F0 m pc ls (.int v :: .int i :: .ref (ad k) :: rest)) := by
  obtain ⟨hx, hb, hml, hown, hts, hK, hJ⟩ := C
  refine va_iast hx hb hK hI.1 (z_w_D hJ (fun k hk => z_fr_in hk)) hI.2 k 0 (by rw [z_w_at hk, z_ce_a hkd (by decide)]) rfl hin hdg (fun H1 locs1 hP hD hS => kk _ rfl H1 locs1 ⟨?_, hS⟩)
  rw [z_w_ast hk hkd (by decide)] at hP
  exact hP
theorem z_zst (C : z_CT p s m args c own cc nL D cA n ad) (hI : z_I D cA n ad s.heap S H locs) (k : Nat) (hk : k < n) {N : Nat} (hkd : z_kd k = .inl (1, N)) {i v : Int32} (hin : vp_in i N) (hv : z_bo v) (hdg : decode cc pc = .ok (.bastore, 1))
    (kk : ∀ (S1 : zS) (_ : S1 = z_su S k (z_ix i) v) (H1 : Heap) (locs1 : List Loc), z_I D cA n ad s.heap S1 H1 locs1 → W p l e R s m args below meth c H1 locs1 cells slots Q (F0 m (pc + 1) ls rest)) : W p l e R s m args below meth c H locs cells slots Q (F0 m pc ls (.int v :: .int i :: .ref (ad k) :: rest)) := by
  obtain ⟨hx, hb, hml, hown, hts, hK, hJ⟩ := C
  refine va_zast hx hb hK hI.1 (z_w_D hJ (fun k hk => z_fr_in hk)) hI.2 k 1 (by rw [z_w_at hk, z_ce_a hkd (by decide)]) rfl hin hdg (fun H1 locs1 hP hD hS => kk _ rfl H1 locs1 ⟨?_, hS⟩)
  rw [z_vb hv, z_w_ast hk hkd (by decide)] at hP
  exact hP
theorem z_lst (C : z_CT p s m args c own cc nL D cA n ad) (hI : z_I D cA n ad s.heap S H locs) (k : Nat) (hk : k < n) {N : Nat} (hkd : z_kd k = .inl (2, N)) {i v : Int32} (hin : vp_in i N) (hdg : decode cc pc = .ok (.lastore, 1))
    (kk : ∀ (S1 : zS) (_ : S1 = z_su S k (z_ix i) v) (H1 : Heap) (locs1 : List Loc), z_I D cA n ad s.heap S1 H1 locs1 → W p l e R s m args below meth c H1 locs1 cells slots Q (F0 m (pc + 1) ls rest)) : W p l e R s m args below meth c H locs cells slots Q (F0 m pc ls (.long (Int32.toInt64 v) :: .int i :: .ref (ad k) :: rest)) := by
  obtain ⟨hx, hb, hml, hown, hts, hK, hJ⟩ := C
  refine va_last (f := fun j => (S k j).toInt64) hx hb hK hI.1 (z_w_D hJ (fun k hk => z_fr_in hk)) hI.2 k 2 (by rw [z_w_at hk, z_ce_l hkd]) rfl hin hdg (fun H1 locs1 hP hD hS => kk _ rfl H1 locs1 ⟨?_, hS⟩)
  have e1 : vp_updL (fun j => (S k j).toInt64) i.toNatClampNeg (Int32.toInt64 v) = fun j => (upd (S k) (z_ix i) v j).toInt64 := by
    funext j
    by_cases hj : j = i.toNatClampNeg <;> simp [vp_updL, upd, hj]
  rw [e1, show (Sum.inl (cA 2, N, .inr (.inl fun j => (upd (S k) (z_ix i) v j).toInt64)) : va_E) = z_ce cA ad k (upd (S k) (z_ix i) v) from (z_ce_l hkd).symm, z_w_set hk] at hP
  exact hP
/-- what a caller needs of a callee's words -/
def z_wv (y : MethodName) (bytes : ByteArray) (maxL : Nat) (ret : Option FieldType) (n : Nat) : Prop := Cond.instanceMethod y ∈ z_gw ∧ Cond.selects y.cls y y ∈ z_gw ∧ Cond.initialized y.cls ∈ z_gw ∧ Cond.code y bytes maxL ret ∈ z_gw ∧ y.cls ≠ "java/lang/invoke/MethodHandle" ∧ y.cls ≠ "java/lang/invoke/VarHandle" ∧ (parseMethodDescriptor y.desc).map (fun d => d.parameters.length) = some n
def z_ws (y : MethodName) (bytes : ByteArray) (maxL : Nat) (ret : Option FieldType) (n : Nat) : Prop := Cond.static y ∈ z_gw ∧ Cond.initialized y.cls ∈ z_gw ∧ Cond.code y bytes maxL ret ∈ z_gw ∧ y.cls ≠ "java/lang/invoke/MethodHandle" ∧ y.cls ≠ "java/lang/invoke/VarHandle" ∧ (parseMethodDescriptor y.desc).map (fun d => d.parameters.length) = some n
theorem z_gwg : ∀ w ∈ z_gw, (w.onTables && w.keeps) = true ∨ ∃ ty, w = .arrayClass ty := fun _ h => good_of_word (List.mem_filter.mp h).2
theorem z_GI {ws : List Cond} (h : ∀ w ∈ ws, w ∈ z_gw) : GoodIn z_gw ws := fun w hw => ⟨h w hw, z_gwg w (h w hw)⟩
def z_Pc (D : va_G) (cA : Nat → ClassId) (n : Nat) (ad : Nat → Nat) (av : List Value) (S : zS) (sz : Nat) : Array Value → State → Prop := va_Pc av (fun U => U.heap.size = sz ∧ va_P D z_cl (z_w cA n ad S) U.heap ∧ va_K D z_cl (z_ty cA) U)
theorem z_Pc_b {av : List Value} {sz : Nat} : FrameBlind (z_Pc D cA n ad av S sz) := fun a U g mk q => by
  obtain ⟨q0, q1, qP, qK⟩ := q
  exact ⟨q0, q1, qP, va_K.moved (u := U) (U := U.calling g mk a) (Vm.Alike.refl U.vm) qK⟩
/-- contracts: with an int (or boolean), with nothing -/
def z_cti (l : Launch) (D : va_G) (cA : Nat → ClassId) (n : Nat) (ad : Nat → Nat) (y : MethodName) (cc : ByteArray) (maxL : Nat) (ret : Option FieldType) (rm : Room) (av : List Value) (S : zS) (post : Int32 → zS → Prop) : Prop :=
  ∀ sz : Nat, (∀ i j, i < n → j < n → ad i = ad j → i = j) → Met l y (Cond.code y cc maxL ret :: z_gw) rm (z_Pc D cA n ad av S sz) (va_Qi post (fun S' t => va_P D z_cl (z_w cA n ad S') t.heap) (z_fr n ad sz)) 0 0 (z_fr n ad sz)
def z_ctv (l : Launch) (D : va_G) (cA : Nat → ClassId) (n : Nat) (ad : Nat → Nat) (y : MethodName) (cc : ByteArray) (maxL : Nat) (ret : Option FieldType) (rm : Room) (av : List Value) (S : zS) (post : zS → Prop) : Prop :=
  ∀ sz : Nat, (∀ i j, i < n → j < n → ad i = ad j → i = j) → Met l y (Cond.code y cc maxL ret :: z_gw) rm (z_Pc D cA n ad av S sz) (va_Qv post (fun S' t => va_P D z_cl (z_w cA n ad S') t.heap) (z_fr n ad sz)) 0 0 (z_fr n ad sz)
section ZC
variable {y : MethodName} {bytes : ByteArray} {maxL index : Nat} {ret : Option FieldType} {rm : Room} {As st0 : List Value}
theorem z_hA (hI : z_I D cA n ad s.heap S H locs) : ∀ q, z_fr n ad H.size q → z_fr n ad s.heap.size q := fun _ h => z_fr_mono hI.2.1 h
theorem z_GV (wc : z_wv y bytes maxL ret As.length) (wl : Cond.methodLink own index y ∈ z_gw) : GoodIn z_gw (wsV own index y.cls y (Cond.code y bytes maxL ret :: z_gw)) := z_GI (fun w hw => by
  obtain ⟨w1, w2, w3, w4, -⟩ := wc
  simp only [wsV, List.cons_append, List.nil_append, List.mem_cons] at hw
  rcases hw with rfl | rfl | rfl | rfl | rfl | hw
  · exact wl
  · exact w1
  · exact w2
  · exact w3
  · exact w4
  · exact hw)
theorem z_callVi (C : z_CT p s m args c own cc nL D cA n ad) (hI : z_I D cA n ad s.heap S H locs) (k : Nat) (hk : k < n) {ci : Nat} {fl : List (Option Nat)} (hkd : z_kd k = .inr (ci, fl)) {T : u_T} {N : Nat} (hc : z_cl[ci]? = some (y.cls, T, N)) {post : Int32 → zS → Prop}
    (hM : z_cti l D cA n ad y bytes maxL ret rm (.ref (ad k) :: As) S post) (wc : z_wv y bytes maxL ret As.length) (wl : Cond.methodLink own index y ∈ z_gw) (hr0 : rm.cells = 0) (hr1 : rm.slots = 0) (h1 : rm.frames + 1 ≤ R.frames) (h2 : 8 + (maxL + 11) + rm.locals ≤ R.locals) (hcs : cells ≤ R.cells ∧ slots ≤ R.slots) (hls : ls.size = nL) (hst : (rest.map fun v => v.category).sum ≤ 8) (h0 : st0 = As.reverse ++ .ref (ad k) :: rest) (hdg : decode cc pc = .ok (.invokevirtual index, 3))
    (kk : ∀ (r : Int32) (S1 : zS) (H1 : Heap) (locs1 : List Loc), post r S1 → z_I D cA n ad s.heap S1 H1 locs1 → W p l e R s m args below meth c H1 locs1 cells slots Q (F0 m (pc + 3) ls (.int r :: rest))) : W p l e R s m args below meth c H locs cells slots Q (F0 m pc ls st0) := by
  obtain ⟨hx, hb, hml, hown, hts, hK, hJ⟩ := id C
  have hA := z_hA hI
  refine va_calli (va_runV (b := ad k) (As := As) (rest := rest) ⟨hx, hb, hml, hown, hts⟩ (hM H.size hJ) (cwV As.length hts (z_GV wc wl) rfl hr0 hr1 ⟨rfl, wc.2.2.2.2⟩ ⟨h1, h2⟩) ⟨z_Pc_b, va_recv hK hI.1 (ci := ci) (q0 := k) hc (by rw [z_w_at hk, z_ce_o hkd]), fun U hU hW => ⟨rfl, by rw [hU], by rw [hU]; exact hI.1, va_K.moved hW.alike hK⟩⟩ rfl rfl hls h0 (lv_room hst) hdg ⟨hcs.1, hcs.2⟩) hI.2 (fun q _ h => hA q h) hA (fun r u t H1 locs1 ht hvm hp hB hz1 hk1 hS => kk r u H1 locs1 hp ⟨by rw [← ht]; exact hB, hS⟩)
theorem z_callVv (C : z_CT p s m args c own cc nL D cA n ad) (hI : z_I D cA n ad s.heap S H locs) (k : Nat) (hk : k < n) {ci : Nat} {fl : List (Option Nat)} (hkd : z_kd k = .inr (ci, fl)) {T : u_T} {N : Nat} (hc : z_cl[ci]? = some (y.cls, T, N)) {post : zS → Prop}
    (hM : z_ctv l D cA n ad y bytes maxL ret rm (.ref (ad k) :: As) S post) (wc : z_wv y bytes maxL ret As.length) (wl : Cond.methodLink own index y ∈ z_gw) (hr0 : rm.cells = 0) (hr1 : rm.slots = 0) (h1 : rm.frames + 1 ≤ R.frames) (h2 : 8 + (maxL + 11) + rm.locals ≤ R.locals) (hcs : cells ≤ R.cells ∧ slots ≤ R.slots) (hls : ls.size = nL) (hst : (rest.map fun v => v.category).sum ≤ 8) (h0 : st0 = As.reverse ++ .ref (ad k) :: rest) (hdg : decode cc pc = .ok (.invokevirtual index, 3))
    (kk : ∀ (S1 : zS) (H1 : Heap) (locs1 : List Loc), post S1 → z_I D cA n ad s.heap S1 H1 locs1 → W p l e R s m args below meth c H1 locs1 cells slots Q (F0 m (pc + 3) ls rest)) : W p l e R s m args below meth c H locs cells slots Q (F0 m pc ls st0) := by
  obtain ⟨hx, hb, hml, hown, hts, hK, hJ⟩ := id C
  have hA := z_hA hI
  refine va_callv (va_runV (b := ad k) (As := As) (rest := rest) ⟨hx, hb, hml, hown, hts⟩ (hM H.size hJ) (cwV As.length hts (z_GV wc wl) rfl hr0 hr1 ⟨rfl, wc.2.2.2.2⟩ ⟨h1, h2⟩) ⟨z_Pc_b, va_recv hK hI.1 (ci := ci) (q0 := k) hc (by rw [z_w_at hk, z_ce_o hkd]), fun U hU hW => ⟨rfl, by rw [hU], by rw [hU]; exact hI.1, va_K.moved hW.alike hK⟩⟩ rfl rfl hls h0 (lv_room hst) hdg ⟨hcs.1, hcs.2⟩) hI.2 (fun q _ h => hA q h) hA (fun u t H1 locs1 ht hvm hp hB hz1 hk1 hS => kk u H1 locs1 hp ⟨by rw [← ht]; exact hB, hS⟩)
theorem z_GS (wc : z_ws y bytes maxL ret As.length) (hy : y.cls = own) (wl : Cond.methodLink own index y ∈ z_gw) : GoodIn z_gw (wsS own index y (Cond.code y bytes maxL ret :: z_gw)) := z_GI (fun w hw => by
  obtain ⟨w1, w2, w3, -⟩ := wc
  simp only [wsS, List.cons_append, List.nil_append, List.mem_cons] at hw
  rcases hw with rfl | rfl | rfl | rfl | hw
  · exact wl
  · exact w1
  · rw [← hy]; exact w2
  · exact w3
  · exact hw)
theorem z_callSi (C : z_CT p s m args c own cc nL D cA n ad) (hI : z_I D cA n ad s.heap S H locs) {post : Int32 → zS → Prop}
    (hM : z_cti l D cA n ad y bytes maxL ret rm As S post) (wc : z_ws y bytes maxL ret As.length) (wl : Cond.methodLink own index y ∈ z_gw) (hy : y.cls = own) (hr0 : rm.cells = 0) (hr1 : rm.slots = 0) (h1 : rm.frames + 1 ≤ R.frames) (h2 : 8 + (maxL + 11) + rm.locals ≤ R.locals) (hcs : cells ≤ R.cells ∧ slots ≤ R.slots) (hls : ls.size = nL) (hst : (rest.map fun v => v.category).sum ≤ 8) (h0 : st0 = As.reverse ++ rest) (hdg : decode cc pc = .ok (.invokestatic index, 3))
    (kk : ∀ (r : Int32) (S1 : zS) (H1 : Heap) (locs1 : List Loc), post r S1 → z_I D cA n ad s.heap S1 H1 locs1 → W p l e R s m args below meth c H1 locs1 cells slots Q (F0 m (pc + 3) ls (.int r :: rest))) : W p l e R s m args below meth c H locs cells slots Q (F0 m pc ls st0) := by
  obtain ⟨hx, hb, hml, hown, hts, hK, hJ⟩ := id C
  have hA := z_hA hI
  refine va_calli (va_runS (As := As) (rest := rest) ⟨hx, hb, hml, hown, hts⟩ (hM H.size hJ) (cwS As.length hts (z_GS wc hy wl) rfl hr0 hr1 ⟨hy, wc.2.2.2⟩ ⟨h1, h2⟩) ⟨z_Pc_b, fun U hU hW => ⟨rfl, by rw [hU], by rw [hU]; exact hI.1, va_K.moved hW.alike hK⟩⟩ rfl rfl hls h0 (lv_room hst) hdg ⟨hcs.1, hcs.2⟩) hI.2 (fun q _ h => hA q h) hA (fun r u t H1 locs1 ht hvm hp hB hz1 hk1 hS => kk r u H1 locs1 hp ⟨by rw [← ht]; exact hB, hS⟩)
end ZC
/-- what a method owes at its end -/
def z_Ri (p : Program) (l : Launch) (e : Env) (R : Room) (s : State) (m : MethodId) (args : Array Value) (below : List Frame) (meth : Method) (c : Code) (Q : State → Prop) (cc : ByteArray) (D : va_G) (cA : Nat → ClassId) (n : Nat) (ad : Nat → Nat) (post : Int32 → zS → Prop) : Prop :=
  ∀ (cells slots : Nat), cells ≤ R.cells ∧ slots ≤ R.slots → ∀ (v : Int32) (S : zS) (H : Heap) (locs : List Loc) (pc : Nat) (ls : Array Slot), post v S → z_I D cA n ad s.heap S H locs → decode cc pc = .ok (.ireturn, 1) → W p l e R s m args below meth c H locs cells slots Q (F0 m pc ls [.int v])
def z_Rz (p : Program) (l : Launch) (e : Env) (R : Room) (s : State) (m : MethodId) (args : Array Value) (below : List Frame) (meth : Method) (c : Code) (Q : State → Prop) (cc : ByteArray) (D : va_G) (cA : Nat → ClassId) (n : Nat) (ad : Nat → Nat) (post : Int32 → zS → Prop) : Prop :=
  ∀ (cells slots : Nat), cells ≤ R.cells ∧ slots ≤ R.slots → ∀ (v : Int32) (S : zS) (H : Heap) (locs : List Loc) (pc : Nat) (ls : Array Slot), z_bo v → post v S → z_I D cA n ad s.heap S H locs → decode cc pc = .ok (.ireturn, 1) → W p l e R s m args below meth c H locs cells slots Q (F0 m pc ls [.int v])
def z_Rv (p : Program) (l : Launch) (e : Env) (R : Room) (s : State) (m : MethodId) (args : Array Value) (below : List Frame) (meth : Method) (c : Code) (Q : State → Prop) (cc : ByteArray) (D : va_G) (cA : Nat → ClassId) (n : Nat) (ad : Nat → Nat) (post : zS → Prop) : Prop :=
  ∀ (cells slots : Nat), cells ≤ R.cells ∧ slots ≤ R.slots → ∀ (S : zS) (H : Heap) (locs : List Loc) (pc : Nat) (ls : Array Slot), post S → z_I D cA n ad s.heap S H locs → decode cc pc = .ok (.return_, 1) → W p l e R s m args below meth c H locs cells slots Q (F0 m pc ls [])
end ZR
section ZM
variable {l : Launch} {D : va_G} {cA : Nat → ClassId} {n : Nat} {ad : Nat → Nat} {y : MethodName} {cc : ByteArray} {maxL : Nat} {rm : Room} {av : List Value} {S : zS}
theorem z_meti {post : Int32 → zS → Prop} (hy : plainName y.cls = true) (hav : (lg_sl av).length ≤ maxL) (hr : rm.cells = 0 ∧ rm.slots = 0)
    (body : ∀ (p : Program) (e : Env) (s : State) (m : MethodId) (args : Array Value) (below : List Frame) (meth : Method) (c : Code) (Q : State → Prop) (ls : Array Slot), z_CT p s m args c y.cls cc maxL D cA n ad → 0 ≤ rm.cells ∧ 0 ≤ rm.slots → lv_has ls maxL (lv_args 0 av) → z_I D cA n ad s.heap S s.heap [] → z_Ri p l e rm s m args below meth c Q cc D cA n ad post → W p l e rm s m args below meth c s.heap [] 0 0 Q (F0 m 0 ls [])) :
    z_cti l D cA n ad y cc maxL (some .int) rm av S post := by
  intro sz hJ
  refine Met.ofW (cc := cc) (maxL := maxL) (ret := some .int) hy rfl ?_
  intro p e s m args below meth c s₁ B hml hv
  obtain ⟨rfl, hsz, hP, hK⟩ := hv
  have hts := atoms_spec (ws := Cond.code y cc maxL (some .int) :: z_gw) B.pre
  subst hsz
  have hlocks := B.notSynchronized
  have hr9 := B.returns
  have hx := B.exec
  have hb := B.bytes
  rw [lg_entry_eq]
  refine body p e s m av.toArray below meth c _ _ ⟨hx, hb, hml, findClass_of_methodNamed B.named, fun w hw => hts w (List.mem_cons_of_mem _ hw), hK, hJ⟩ ⟨Nat.zero_le _, Nat.zero_le _⟩ (lv_entry av hav) ⟨hP, va_S.rf⟩ ?_
  intro cells slots hcs v S1 H locs pc ls hp hI hd
  have e1 : cells = 0 := Nat.le_zero.mp (by have := hcs.1; rw [hr.1] at this; exact this)
  have e2 : slots = 0 := Nat.le_zero.mp (by have := hcs.2; rw [hr.2] at this; exact this)
  subst e1
  subst e2
  exact W.iret (v := v) hx hb hr9 (fun t ht hW => ⟨⟨v, S1, rfl, hp, (by show va_P D z_cl _ t.heap; rw [ht]; exact hI.1)⟩, hI.2.F ht⟩) hI.2.2.2 hd
theorem z_metz {post : Int32 → zS → Prop} (hy : plainName y.cls = true) (hav : (lg_sl av).length ≤ maxL) (hr : rm.cells = 0 ∧ rm.slots = 0)
    (body : ∀ (p : Program) (e : Env) (s : State) (m : MethodId) (args : Array Value) (below : List Frame) (meth : Method) (c : Code) (Q : State → Prop) (ls : Array Slot), z_CT p s m args c y.cls cc maxL D cA n ad → 0 ≤ rm.cells ∧ 0 ≤ rm.slots → lv_has ls maxL (lv_args 0 av) → z_I D cA n ad s.heap S s.heap [] → z_Rz p l e rm s m args below meth c Q cc D cA n ad post → W p l e rm s m args below meth c s.heap [] 0 0 Q (F0 m 0 ls [])) :
    z_cti l D cA n ad y cc maxL (some .boolean) rm av S post := by
  intro sz hJ
  refine Met.ofW (cc := cc) (maxL := maxL) (ret := some .boolean) hy rfl ?_
  intro p e s m args below meth c s₁ B hml hv
  obtain ⟨rfl, hsz, hP, hK⟩ := hv
  have hts := atoms_spec (ws := Cond.code y cc maxL (some .boolean) :: z_gw) B.pre
  subst hsz
  have hlocks := B.notSynchronized
  have hr9 := B.returns
  have hx := B.exec
  have hb := B.bytes
  rw [lg_entry_eq]
  refine body p e s m av.toArray below meth c _ _ ⟨hx, hb, hml, findClass_of_methodNamed B.named, fun w hw => hts w (List.mem_cons_of_mem _ hw), hK, hJ⟩ ⟨Nat.zero_le _, Nat.zero_le _⟩ (lv_entry av hav) ⟨hP, va_S.rf⟩ ?_
  intro cells slots hcs v S1 H locs pc ls hv hp hI hd
  have e1 : cells = 0 := Nat.le_zero.mp (by have := hcs.1; rw [hr.1] at this; exact this)
  have e2 : slots = 0 := Nat.le_zero.mp (by have := hcs.2; rw [hr.2] at this; exact this)
  subst e1
  subst e2
  exact W.zret (v := v) hx hb hr9 (z_nb hv) (fun t ht hW => ⟨⟨v, S1, rfl, hp, (by show va_P D z_cl _ t.heap; rw [ht]; exact hI.1)⟩, hI.2.F ht⟩) hI.2.2.2 hd
theorem z_metv {post : zS → Prop} (hy : plainName y.cls = true) (hav : (lg_sl av).length ≤ maxL) (hr : rm.cells = 0 ∧ rm.slots = 0)
    (body : ∀ (p : Program) (e : Env) (s : State) (m : MethodId) (args : Array Value) (below : List Frame) (meth : Method) (c : Code) (Q : State → Prop) (ls : Array Slot), z_CT p s m args c y.cls cc maxL D cA n ad → 0 ≤ rm.cells ∧ 0 ≤ rm.slots → lv_has ls maxL (lv_args 0 av) → z_I D cA n ad s.heap S s.heap [] → z_Rv p l e rm s m args below meth c Q cc D cA n ad post → W p l e rm s m args below meth c s.heap [] 0 0 Q (F0 m 0 ls [])) :
    z_ctv l D cA n ad y cc maxL none rm av S post := by
  intro sz hJ
  refine Met.ofW (cc := cc) (maxL := maxL) (ret := none) hy rfl ?_
  intro p e s m args below meth c s₁ B hml hv
  obtain ⟨rfl, hsz, hP, hK⟩ := hv
  have hts := atoms_spec (ws := Cond.code y cc maxL none :: z_gw) B.pre
  subst hsz
  have hlocks := B.notSynchronized
  have hr9 := B.returns
  have hx := B.exec
  have hb := B.bytes
  rw [lg_entry_eq]
  refine body p e s m av.toArray below meth c _ _ ⟨hx, hb, hml, findClass_of_methodNamed B.named, fun w hw => hts w (List.mem_cons_of_mem _ hw), hK, hJ⟩ ⟨Nat.zero_le _, Nat.zero_le _⟩ (lv_entry av hav) ⟨hP, va_S.rf⟩ ?_
  intro cells slots hcs S1 H locs pc ls hp hI hd
  have e1 : cells = 0 := Nat.le_zero.mp (by have := hcs.1; rw [hr.1] at this; exact this)
  have e2 : slots = 0 := Nat.le_zero.mp (by have := hcs.2; rw [hr.2] at this; exact this)
  subst e1
  subst e2
  exact W.vret hx hb hr9 (fun t ht hW => ⟨⟨S1, rfl, hp, (by show va_P D z_cl _ t.heap; rw [ht]; exact hI.1)⟩, hI.2.F ht⟩) hI.2.2.2 hd
end ZM
end
section
set_option maxRecDepth 20000 in
theorem wc_P_put : z_wv y_P_put b_P_put 4 (some .boolean) 3 := ⟨z_gwi 273 (by decide +kernel) (by decide +kernel), z_gwi 274 (by decide +kernel) (by decide +kernel), z_gwi 60 (by decide +kernel) (by decide +kernel), z_gwi 275 (rfl) (rfl), by decide +kernel, by decide +kernel, by decide +kernel⟩
set_option maxRecDepth 20000 in
theorem wc_P_fill : z_wv y_P_fill b_P_fill 11 (some .int) 5 := ⟨z_gwi 357 (by decide +kernel) (by decide +kernel), z_gwi 358 (by decide +kernel) (by decide +kernel), z_gwi 60 (by decide +kernel) (by decide +kernel), z_gwi 359 (rfl) (rfl), by decide +kernel, by decide +kernel, by decide +kernel⟩
set_option maxRecDepth 20000 in
theorem wc_P_noise : z_wv y_P_noise b_P_noise 3 (some .int) 1 := ⟨z_gwi 380 (by decide +kernel) (by decide +kernel), z_gwi 381 (by decide +kernel) (by decide +kernel), z_gwi 60 (by decide +kernel) (by decide +kernel), z_gwi 382 (rfl) (rfl), by decide +kernel, by decide +kernel, by decide +kernel⟩
set_option maxRecDepth 20000 in
theorem wc_P_run : z_wv y_P_run b_P_run 3 (some .int) 2 := ⟨z_gwi 388 (by decide +kernel) (by decide +kernel), z_gwi 389 (by decide +kernel) (by decide +kernel), z_gwi 60 (by decide +kernel) (by decide +kernel), z_gwi 390 (rfl) (rfl), by decide +kernel, by decide +kernel, by decide +kernel⟩
set_option maxRecDepth 20000 in
theorem wc_P_part : z_wv y_P_part b_P_part 3 (some .int) 2 := ⟨z_gwi 503 (by decide +kernel) (by decide +kernel), z_gwi 504 (by decide +kernel) (by decide +kernel), z_gwi 60 (by decide +kernel) (by decide +kernel), z_gwi 505 (rfl) (rfl), by decide +kernel, by decide +kernel, by decide +kernel⟩
set_option maxRecDepth 20000 in
theorem wc_P_partOf : z_wv y_P_partOf b_P_partOf 3 (some .int) 2 := ⟨z_gwi 587 (by decide +kernel) (by decide +kernel), z_gwi 588 (by decide +kernel) (by decide +kernel), z_gwi 60 (by decide +kernel) (by decide +kernel), z_gwi 589 (rfl) (rfl), by decide +kernel, by decide +kernel, by decide +kernel⟩
set_option maxRecDepth 20000 in
theorem wc_P_line : z_wv y_P_line b_P_line 5 (some .int) 3 := ⟨z_gwi 594 (by decide +kernel) (by decide +kernel), z_gwi 595 (by decide +kernel) (by decide +kernel), z_gwi 60 (by decide +kernel) (by decide +kernel), z_gwi 596 (rfl) (rfl), by decide +kernel, by decide +kernel, by decide +kernel⟩
set_option maxRecDepth 20000 in
theorem wc_P_order : z_wv y_P_order b_P_order 2 (some .int) 1 := ⟨z_gwi 609 (by decide +kernel) (by decide +kernel), z_gwi 610 (by decide +kernel) (by decide +kernel), z_gwi 60 (by decide +kernel) (by decide +kernel), z_gwi 611 (rfl) (rfl), by decide +kernel, by decide +kernel, by decide +kernel⟩
set_option maxRecDepth 20000 in
theorem wc_P_cover : z_wv y_P_cover b_P_cover 3 (some .int) 2 := ⟨z_gwi 616 (by decide +kernel) (by decide +kernel), z_gwi 617 (by decide +kernel) (by decide +kernel), z_gwi 60 (by decide +kernel) (by decide +kernel), z_gwi 618 (rfl) (rfl), by decide +kernel, by decide +kernel, by decide +kernel⟩
set_option maxRecDepth 20000 in
theorem wc_P_strip : z_wv y_P_strip b_P_strip 2 (some .int) 1 := ⟨z_gwi 623 (by decide +kernel) (by decide +kernel), z_gwi 624 (by decide +kernel) (by decide +kernel), z_gwi 60 (by decide +kernel) (by decide +kernel), z_gwi 625 (rfl) (rfl), by decide +kernel, by decide +kernel, by decide +kernel⟩
set_option maxRecDepth 20000 in
theorem wc_P_cell : z_wv y_P_cell b_P_cell 3 (some .int) 2 := ⟨z_gwi 630 (by decide +kernel) (by decide +kernel), z_gwi 631 (by decide +kernel) (by decide +kernel), z_gwi 60 (by decide +kernel) (by decide +kernel), z_gwi 632 (rfl) (rfl), by decide +kernel, by decide +kernel, by decide +kernel⟩
set_option maxRecDepth 20000 in
theorem wc_P_isSpeck : z_wv y_P_isSpeck b_P_isSpeck 4 (some .boolean) 2 := ⟨z_gwi 637 (by decide +kernel) (by decide +kernel), z_gwi 638 (by decide +kernel) (by decide +kernel), z_gwi 60 (by decide +kernel) (by decide +kernel), z_gwi 639 (rfl) (rfl), by decide +kernel, by decide +kernel, by decide +kernel⟩
set_option maxRecDepth 20000 in
theorem wc_P_told : z_wv y_P_told b_P_told 2 (some .int) 1 := ⟨z_gwi 254 (by decide +kernel) (by decide +kernel), z_gwi 255 (by decide +kernel) (by decide +kernel), z_gwi 60 (by decide +kernel) (by decide +kernel), z_gwi 256 (rfl) (rfl), by decide +kernel, by decide +kernel, by decide +kernel⟩
set_option maxRecDepth 20000 in
theorem wc_P_clear : z_wv y_P_clear b_P_clear 2 none 0 := ⟨z_gwi 262 (by decide +kernel) (by decide +kernel), z_gwi 263 (by decide +kernel) (by decide +kernel), z_gwi 60 (by decide +kernel) (by decide +kernel), z_gwi 264 (rfl) (rfl), by decide +kernel, by decide +kernel, by decide +kernel⟩
set_option maxRecDepth 20000 in
theorem wc_P_nearestSide : z_ws y_P_nearestSide b_P_nearestSide 1 (some .int) 1 := ⟨z_gwi 83 (by decide +kernel) (by decide +kernel), z_gwi 60 (by decide +kernel) (by decide +kernel), z_gwi 84 (rfl) (rfl), by decide +kernel, by decide +kernel, by decide +kernel⟩
set_option maxRecDepth 20000 in
theorem wc_P_mustBeParted : z_wv y_P_mustBeParted b_P_mustBeParted 1 none 0 := ⟨z_gwi 508 (by decide +kernel) (by decide +kernel), z_gwi 22 (by decide +kernel) (by decide +kernel), z_gwi 60 (by decide +kernel) (by decide +kernel), z_gwi 509 (rfl) (rfl), by decide +kernel, by decide +kernel, by decide +kernel⟩
set_option maxRecDepth 20000 in
theorem wc_P_mustBeSample : z_wv y_P_mustBeSample b_P_mustBeSample 3 none 2 := ⟨z_gwi 278 (by decide +kernel) (by decide +kernel), z_gwi 1 (by decide +kernel) (by decide +kernel), z_gwi 60 (by decide +kernel) (by decide +kernel), z_gwi 279 (rfl) (rfl), by decide +kernel, by decide +kernel, by decide +kernel⟩
set_option maxRecDepth 20000 in
theorem wc_P_mustBeBelow : z_ws y_P_mustBeBelow b_P_mustBeBelow 2 none 2 := ⟨z_gwi 527 (by decide +kernel) (by decide +kernel), z_gwi 60 (by decide +kernel) (by decide +kernel), z_gwi 528 (rfl) (rfl), by decide +kernel, by decide +kernel, by decide +kernel⟩
set_option maxRecDepth 20000 in
theorem wc_P_mustBeTold : z_ws y_P_mustBeTold b_P_mustBeTold 2 none 2 := ⟨z_gwi 531 (by decide +kernel) (by decide +kernel), z_gwi 60 (by decide +kernel) (by decide +kernel), z_gwi 532 (rfl) (rfl), by decide +kernel, by decide +kernel, by decide +kernel⟩
set_option maxRecDepth 20000 in
theorem wc_P_paint : z_wv y_P_paint b_P_paint 5 (some .boolean) 3 := ⟨z_gwi 350 (by decide +kernel) (by decide +kernel), z_gwi 3 (by decide +kernel) (by decide +kernel), z_gwi 60 (by decide +kernel) (by decide +kernel), z_gwi 351 (rfl) (rfl), by decide +kernel, by decide +kernel, by decide +kernel⟩
set_option maxRecDepth 20000 in
theorem wc_P_toldOfParted : z_wv y_P_toldOfParted b_P_toldOfParted 2 (some .int) 1 := ⟨z_gwi 259 (by decide +kernel) (by decide +kernel), z_gwi 0 (by decide +kernel) (by decide +kernel), z_gwi 60 (by decide +kernel) (by decide +kernel), z_gwi 260 (rfl) (rfl), by decide +kernel, by decide +kernel, by decide +kernel⟩
set_option maxRecDepth 20000 in
theorem wc_P_findClean : z_wv y_P_findClean b_P_findClean 3 none 0 := ⟨z_gwi 394 (by decide +kernel) (by decide +kernel), z_gwi 4 (by decide +kernel) (by decide +kernel), z_gwi 60 (by decide +kernel) (by decide +kernel), z_gwi 395 (rfl) (rfl), by decide +kernel, by decide +kernel, by decide +kernel⟩
set_option maxRecDepth 20000 in
theorem wc_P_smear : z_wv y_P_smear b_P_smear 4 none 2 := ⟨z_gwi 423 (by decide +kernel) (by decide +kernel), z_gwi 9 (by decide +kernel) (by decide +kernel), z_gwi 60 (by decide +kernel) (by decide +kernel), z_gwi 424 (rfl) (rfl), by decide +kernel, by decide +kernel, by decide +kernel⟩
set_option maxRecDepth 20000 in
theorem wc_P_smearAlong : z_wv y_P_smearAlong b_P_smearAlong 8 none 4 := ⟨z_gwi 427 (by decide +kernel) (by decide +kernel), z_gwi 10 (by decide +kernel) (by decide +kernel), z_gwi 60 (by decide +kernel) (by decide +kernel), z_gwi 428 (rfl) (rfl), by decide +kernel, by decide +kernel, by decide +kernel⟩
set_option maxRecDepth 20000 in
theorem wc_P_findStrips : z_wv y_P_findStrips b_P_findStrips 4 none 0 := ⟨z_gwi 456 (by decide +kernel) (by decide +kernel), z_gwi 16 (by decide +kernel) (by decide +kernel), z_gwi 60 (by decide +kernel) (by decide +kernel), z_gwi 457 (rfl) (rfl), by decide +kernel, by decide +kernel, by decide +kernel⟩
set_option maxRecDepth 20000 in
theorem wc_P_hasInk : z_wv y_P_hasInk b_P_hasInk 3 (some .boolean) 1 := ⟨z_gwi 460 (by decide +kernel) (by decide +kernel), z_gwi 17 (by decide +kernel) (by decide +kernel), z_gwi 60 (by decide +kernel) (by decide +kernel), z_gwi 461 (rfl) (rfl), by decide +kernel, by decide +kernel, by decide +kernel⟩
set_option maxRecDepth 20000 in
theorem wc_P_weightOf : z_wv y_P_weightOf b_P_weightOf 4 (some .int) 1 := ⟨z_gwi 536 (by decide +kernel) (by decide +kernel), z_gwi 23 (by decide +kernel) (by decide +kernel), z_gwi 60 (by decide +kernel) (by decide +kernel), z_gwi 537 (rfl) (rfl), by decide +kernel, by decide +kernel, by decide +kernel⟩
set_option maxRecDepth 20000 in
theorem wc_P_kindOf : z_wv y_P_kindOf b_P_kindOf 5 (some .int) 1 := ⟨z_gwi 540 (by decide +kernel) (by decide +kernel), z_gwi 24 (by decide +kernel) (by decide +kernel), z_gwi 60 (by decide +kernel) (by decide +kernel), z_gwi 541 (rfl) (rfl), by decide +kernel, by decide +kernel, by decide +kernel⟩
set_option maxRecDepth 20000 in
theorem wc_P_isThin : z_ws y_P_isThin b_P_isThin 2 (some .boolean) 2 := ⟨z_gwi 551 (by decide +kernel) (by decide +kernel), z_gwi 60 (by decide +kernel) (by decide +kernel), z_gwi 552 (rfl) (rfl), by decide +kernel, by decide +kernel, by decide +kernel⟩
set_option maxRecDepth 20000 in
theorem wc_P_isFramed : z_wv y_P_isFramed b_P_isFramed 6 (some .boolean) 1 := ⟨z_gwi 555 (by decide +kernel) (by decide +kernel), z_gwi 25 (by decide +kernel) (by decide +kernel), z_gwi 60 (by decide +kernel) (by decide +kernel), z_gwi 556 (rfl) (rfl), by decide +kernel, by decide +kernel, by decide +kernel⟩
set_option maxRecDepth 20000 in
theorem wc_P_isMostlyEmptyWithin : z_wv y_P_isMostlyEmptyWithin b_P_isMostlyEmptyWithin 4 (some .boolean) 1 := ⟨z_gwi 563 (by decide +kernel) (by decide +kernel), z_gwi 27 (by decide +kernel) (by decide +kernel), z_gwi 60 (by decide +kernel) (by decide +kernel), z_gwi 564 (rfl) (rfl), by decide +kernel, by decide +kernel, by decide +kernel⟩
set_option maxRecDepth 20000 in
theorem wc_P_countClean : z_wv y_P_countClean b_P_countClean 8 (some .int) 4 := ⟨z_gwi 559 (by decide +kernel) (by decide +kernel), z_gwi 26 (by decide +kernel) (by decide +kernel), z_gwi 60 (by decide +kernel) (by decide +kernel), z_gwi 560 (rfl) (rfl), by decide +kernel, by decide +kernel, by decide +kernel⟩
set_option maxRecDepth 20000 in
theorem wc_P_countLines : z_wv y_P_countLines b_P_countLines 4 (some .int) 1 := ⟨z_gwi 567 (by decide +kernel) (by decide +kernel), z_gwi 28 (by decide +kernel) (by decide +kernel), z_gwi 60 (by decide +kernel) (by decide +kernel), z_gwi 568 (rfl) (rfl), by decide +kernel, by decide +kernel, by decide +kernel⟩
set_option maxRecDepth 20000 in
theorem wc_P_firstRowOfLine : z_wv y_P_firstRowOfLine b_P_firstRowOfLine 5 (some .int) 2 := ⟨z_gwi 599 (by decide +kernel) (by decide +kernel), z_gwi 31 (by decide +kernel) (by decide +kernel), z_gwi 60 (by decide +kernel) (by decide +kernel), z_gwi 600 (rfl) (rfl), by decide +kernel, by decide +kernel, by decide +kernel⟩
set_option maxRecDepth 20000 in
theorem wc_P_countRowsOfLine : z_wv y_P_countRowsOfLine b_P_countRowsOfLine 4 (some .int) 2 := ⟨z_gwi 603 (by decide +kernel) (by decide +kernel), z_gwi 32 (by decide +kernel) (by decide +kernel), z_gwi 60 (by decide +kernel) (by decide +kernel), z_gwi 604 (rfl) (rfl), by decide +kernel, by decide +kernel, by decide +kernel⟩
set_option maxRecDepth 20000 in
theorem wc_P_beginsLine : z_wv y_P_beginsLine b_P_beginsLine 3 (some .boolean) 2 := ⟨z_gwi 571 (by decide +kernel) (by decide +kernel), z_gwi 29 (by decide +kernel) (by decide +kernel), z_gwi 60 (by decide +kernel) (by decide +kernel), z_gwi 572 (rfl) (rfl), by decide +kernel, by decide +kernel, by decide +kernel⟩
set_option maxRecDepth 20000 in
theorem wc_P_hasCleanOf : z_wv y_P_hasCleanOf b_P_hasCleanOf 5 (some .boolean) 2 := ⟨z_gwi 575 (by decide +kernel) (by decide +kernel), z_gwi 30 (by decide +kernel) (by decide +kernel), z_gwi 60 (by decide +kernel) (by decide +kernel), z_gwi 576 (rfl) (rfl), by decide +kernel, by decide +kernel, by decide +kernel⟩
set_option maxRecDepth 20000 in
theorem wc_G_find : z_wv y_G_find b_G_find 6 none 3 := ⟨z_gwi 397 (by decide +kernel) (by decide +kernel), z_gwi 398 (by decide +kernel) (by decide +kernel), z_gwi 62 (by decide +kernel) (by decide +kernel), z_gwi 399 (rfl) (rfl), by decide +kernel, by decide +kernel, by decide +kernel⟩
set_option maxRecDepth 20000 in
theorem wc_G_isOpen : z_wv y_G_isOpen b_G_isOpen 6 (some .boolean) 4 := ⟨z_gwi 405 (by decide +kernel) (by decide +kernel), z_gwi 5 (by decide +kernel) (by decide +kernel), z_gwi 62 (by decide +kernel) (by decide +kernel), z_gwi 406 (rfl) (rfl), by decide +kernel, by decide +kernel, by decide +kernel⟩
set_option maxRecDepth 20000 in
theorem wc_G_begin : z_wv y_G_begin b_G_begin 3 none 2 := ⟨z_gwi 409 (by decide +kernel) (by decide +kernel), z_gwi 6 (by decide +kernel) (by decide +kernel), z_gwi 62 (by decide +kernel) (by decide +kernel), z_gwi 410 (rfl) (rfl), by decide +kernel, by decide +kernel, by decide +kernel⟩
set_option maxRecDepth 20000 in
theorem wc_G_take : z_wv y_G_take b_G_take 4 none 2 := ⟨z_gwi 413 (by decide +kernel) (by decide +kernel), z_gwi 7 (by decide +kernel) (by decide +kernel), z_gwi 62 (by decide +kernel) (by decide +kernel), z_gwi 414 (rfl) (rfl), by decide +kernel, by decide +kernel, by decide +kernel⟩
set_option maxRecDepth 20000 in
theorem wc_G_gather : z_wv y_G_gather b_G_gather 10 none 3 := ⟨z_gwi 419 (by decide +kernel) (by decide +kernel), z_gwi 8 (by decide +kernel) (by decide +kernel), z_gwi 62 (by decide +kernel) (by decide +kernel), z_gwi 420 (rfl) (rfl), by decide +kernel, by decide +kernel, by decide +kernel⟩
set_option maxRecDepth 20000 in
theorem wc_G_dropAtEdge : z_wv y_G_dropAtEdge b_G_dropAtEdge 3 none 0 := ⟨z_gwi 463 (by decide +kernel) (by decide +kernel), z_gwi 464 (by decide +kernel) (by decide +kernel), z_gwi 62 (by decide +kernel) (by decide +kernel), z_gwi 465 (rfl) (rfl), by decide +kernel, by decide +kernel, by decide +kernel⟩
set_option maxRecDepth 20000 in
theorem wc_G_wideOf : z_wv y_G_wideOf b_G_wideOf 2 (some .int) 1 := ⟨z_gwi 543 (by decide +kernel) (by decide +kernel), z_gwi 544 (by decide +kernel) (by decide +kernel), z_gwi 62 (by decide +kernel) (by decide +kernel), z_gwi 545 (rfl) (rfl), by decide +kernel, by decide +kernel, by decide +kernel⟩
set_option maxRecDepth 20000 in
theorem wc_G_highOf : z_wv y_G_highOf b_G_highOf 2 (some .int) 1 := ⟨z_gwi 547 (by decide +kernel) (by decide +kernel), z_gwi 548 (by decide +kernel) (by decide +kernel), z_gwi 62 (by decide +kernel) (by decide +kernel), z_gwi 549 (rfl) (rfl), by decide +kernel, by decide +kernel, by decide +kernel⟩
set_option maxRecDepth 20000 in
theorem wc_G_boxOf : z_wv y_G_boxOf b_G_boxOf 3 (some .int) 2 := ⟨z_gwi 578 (by decide +kernel) (by decide +kernel), z_gwi 579 (by decide +kernel) (by decide +kernel), z_gwi 62 (by decide +kernel) (by decide +kernel), z_gwi 580 (rfl) (rfl), by decide +kernel, by decide +kernel, by decide +kernel⟩
set_option maxRecDepth 20000 in
theorem wc_C_find : z_wv y_C_find b_C_find 3 none 1 := ⟨z_gwi 430 (by decide +kernel) (by decide +kernel), z_gwi 431 (by decide +kernel) (by decide +kernel), z_gwi 63 (by decide +kernel) (by decide +kernel), z_gwi 432 (rfl) (rfl), by decide +kernel, by decide +kernel, by decide +kernel⟩
set_option maxRecDepth 20000 in
theorem wc_C_measure : z_wv y_C_measure b_C_measure 6 none 1 := ⟨z_gwi 435 (by decide +kernel) (by decide +kernel), z_gwi 11 (by decide +kernel) (by decide +kernel), z_gwi 63 (by decide +kernel) (by decide +kernel), z_gwi 436 (rfl) (rfl), by decide +kernel, by decide +kernel, by decide +kernel⟩
set_option maxRecDepth 20000 in
theorem wc_C_findGreatest : z_wv y_C_findGreatest b_C_findGreatest 4 none 1 := ⟨z_gwi 439 (by decide +kernel) (by decide +kernel), z_gwi 12 (by decide +kernel) (by decide +kernel), z_gwi 63 (by decide +kernel) (by decide +kernel), z_gwi 440 (rfl) (rfl), by decide +kernel, by decide +kernel, by decide +kernel⟩
set_option maxRecDepth 20000 in
theorem wc_C_growFrom : z_wv y_C_growFrom b_C_growFrom 6 none 3 := ⟨z_gwi 443 (by decide +kernel) (by decide +kernel), z_gwi 13 (by decide +kernel) (by decide +kernel), z_gwi 63 (by decide +kernel) (by decide +kernel), z_gwi 444 (rfl) (rfl), by decide +kernel, by decide +kernel, by decide +kernel⟩
set_option maxRecDepth 20000 in
theorem wc_C_block : z_wv y_C_block b_C_block 5 none 1 := ⟨z_gwi 448 (by decide +kernel) (by decide +kernel), z_gwi 14 (by decide +kernel) (by decide +kernel), z_gwi 63 (by decide +kernel) (by decide +kernel), z_gwi 449 (rfl) (rfl), by decide +kernel, by decide +kernel, by decide +kernel⟩
set_option maxRecDepth 20000 in
theorem wc_C_shortenBefore : z_wv y_C_shortenBefore b_C_shortenBefore 5 none 2 := ⟨z_gwi 452 (by decide +kernel) (by decide +kernel), z_gwi 15 (by decide +kernel) (by decide +kernel), z_gwi 63 (by decide +kernel) (by decide +kernel), z_gwi 453 (rfl) (rfl), by decide +kernel, by decide +kernel, by decide +kernel⟩
set_option maxRecDepth 20000 in
theorem wc_R_arrange : z_wv y_R_arrange b_R_arrange 6 none 1 := ⟨z_gwi 467 (by decide +kernel) (by decide +kernel), z_gwi 468 (by decide +kernel) (by decide +kernel), z_gwi 64 (by decide +kernel) (by decide +kernel), z_gwi 469 (rfl) (rfl), by decide +kernel, by decide +kernel, by decide +kernel⟩
set_option maxRecDepth 20000 in
theorem wc_R_sortByBoxes : z_wv y_R_sortByBoxes b_R_sortByBoxes 4 none 1 := ⟨z_gwi 472 (by decide +kernel) (by decide +kernel), z_gwi 18 (by decide +kernel) (by decide +kernel), z_gwi 64 (by decide +kernel) (by decide +kernel), z_gwi 473 (rfl) (rfl), by decide +kernel, by decide +kernel, by decide +kernel⟩
set_option maxRecDepth 20000 in
theorem wc_R_isBefore : z_ws y_R_isBefore b_R_isBefore 3 (some .boolean) 3 := ⟨z_gwi 475 (by decide +kernel) (by decide +kernel), z_gwi 64 (by decide +kernel) (by decide +kernel), z_gwi 476 (rfl) (rfl), by decide +kernel, by decide +kernel, by decide +kernel⟩
set_option maxRecDepth 20000 in
theorem wc_R_findCut : z_wv y_R_findCut b_R_findCut 4 (some .boolean) 3 := ⟨z_gwi 479 (by decide +kernel) (by decide +kernel), z_gwi 19 (by decide +kernel) (by decide +kernel), z_gwi 64 (by decide +kernel) (by decide +kernel), z_gwi 480 (rfl) (rfl), by decide +kernel, by decide +kernel, by decide +kernel⟩
set_option maxRecDepth 20000 in
theorem wc_R_lookAlong : z_wv y_R_lookAlong b_R_lookAlong 10 none 5 := ⟨z_gwi 483 (by decide +kernel) (by decide +kernel), z_gwi 20 (by decide +kernel) (by decide +kernel), z_gwi 64 (by decide +kernel) (by decide +kernel), z_gwi 484 (rfl) (rfl), by decide +kernel, by decide +kernel, by decide +kernel⟩
set_option maxRecDepth 20000 in
theorem wc_R_bits : z_ws y_R_bits b_R_bits 2 (some .int) 2 := ⟨z_gwi 486 (by decide +kernel) (by decide +kernel), z_gwi 64 (by decide +kernel) (by decide +kernel), z_gwi 487 (rfl) (rfl), by decide +kernel, by decide +kernel, by decide +kernel⟩
set_option maxRecDepth 20000 in
theorem wc_R_hasBit : z_ws y_R_hasBit b_R_hasBit 2 (some .boolean) 2 := ⟨z_gwi 489 (by decide +kernel) (by decide +kernel), z_gwi 64 (by decide +kernel) (by decide +kernel), z_gwi 490 (rfl) (rfl), by decide +kernel, by decide +kernel, by decide +kernel⟩
set_option maxRecDepth 20000 in
theorem wc_R_divide : z_wv y_R_divide b_R_divide 9 (some .int) 3 := ⟨z_gwi 493 (by decide +kernel) (by decide +kernel), z_gwi 21 (by decide +kernel) (by decide +kernel), z_gwi 64 (by decide +kernel) (by decide +kernel), z_gwi 494 (rfl) (rfl), by decide +kernel, by decide +kernel, by decide +kernel⟩
set_option maxRecDepth 20000 in
theorem wc_M_nearest : z_ws y_M_nearest b_M_nearest 1 (some .int) 1 := ⟨z_gwi 647 (by decide +kernel) (by decide +kernel), z_gwi 65 (by decide +kernel) (by decide +kernel), z_gwi 648 (rfl) (rfl), by decide +kernel, by decide +kernel, by decide +kernel⟩
set_option maxRecDepth 20000 in
theorem wc_M_thrown : z_wv y_M_thrown b_M_thrown 1 (some .int) 0 := ⟨z_gwi 732 (by decide +kernel) (by decide +kernel), z_gwi 733 (by decide +kernel) (by decide +kernel), z_gwi 65 (by decide +kernel) (by decide +kernel), z_gwi 734 (rfl) (rfl), by decide +kernel, by decide +kernel, by decide +kernel⟩
set_option maxRecDepth 20000 in
theorem wc_M_in : z_ws y_M_in b_M_in 3 (some .boolean) 3 := ⟨z_gwi 744 (by decide +kernel) (by decide +kernel), z_gwi 65 (by decide +kernel) (by decide +kernel), z_gwi 745 (rfl) (rfl), by decide +kernel, by decide +kernel, by decide +kernel⟩
set_option maxRecDepth 20000 in
theorem wc_M_isSample : z_wv y_M_isSample b_M_isSample 3 (some .boolean) 2 := ⟨z_gwi 741 (by decide +kernel) (by decide +kernel), z_gwi 33 (by decide +kernel) (by decide +kernel), z_gwi 65 (by decide +kernel) (by decide +kernel), z_gwi 742 (rfl) (rfl), by decide +kernel, by decide +kernel, by decide +kernel⟩
set_option maxRecDepth 20000 in
theorem wc_M_goes : z_wv y_M_goes b_M_goes 4 (some .boolean) 3 := ⟨z_gwi 748 (by decide +kernel) (by decide +kernel), z_gwi 34 (by decide +kernel) (by decide +kernel), z_gwi 65 (by decide +kernel) (by decide +kernel), z_gwi 749 (rfl) (rfl), by decide +kernel, by decide +kernel, by decide +kernel⟩
set_option maxRecDepth 20000 in
theorem wc_M_put : z_wv y_M_put b_M_put 6 (some .boolean) 3 := ⟨z_gwi 736 (by decide +kernel) (by decide +kernel), z_gwi 737 (by decide +kernel) (by decide +kernel), z_gwi 65 (by decide +kernel) (by decide +kernel), z_gwi 738 (rfl) (rfl), by decide +kernel, by decide +kernel, by decide +kernel⟩
set_option maxRecDepth 20000 in
theorem wc_M_fill : z_wv y_M_fill b_M_fill 9 (some .int) 5 := ⟨z_gwi 751 (by decide +kernel) (by decide +kernel), z_gwi 752 (by decide +kernel) (by decide +kernel), z_gwi 65 (by decide +kernel) (by decide +kernel), z_gwi 753 (rfl) (rfl), by decide +kernel, by decide +kernel, by decide +kernel⟩
set_option maxRecDepth 20000 in
theorem wc_M_noise : z_wv y_M_noise b_M_noise 3 (some .int) 1 := ⟨z_gwi 755 (by decide +kernel) (by decide +kernel), z_gwi 756 (by decide +kernel) (by decide +kernel), z_gwi 65 (by decide +kernel) (by decide +kernel), z_gwi 757 (rfl) (rfl), by decide +kernel, by decide +kernel, by decide +kernel⟩
set_option maxRecDepth 20000 in
theorem wc_M_clear : z_wv y_M_clear b_M_clear 2 none 0 := ⟨z_gwi 759 (by decide +kernel) (by decide +kernel), z_gwi 760 (by decide +kernel) (by decide +kernel), z_gwi 65 (by decide +kernel) (by decide +kernel), z_gwi 761 (rfl) (rfl), by decide +kernel, by decide +kernel, by decide +kernel⟩
set_option maxRecDepth 20000 in
theorem wc_M_is : z_wv y_M_is b_M_is 3 (some .boolean) 2 := ⟨z_gwi 776 (by decide +kernel) (by decide +kernel), z_gwi 37 (by decide +kernel) (by decide +kernel), z_gwi 65 (by decide +kernel) (by decide +kernel), z_gwi 777 (rfl) (rfl), by decide +kernel, by decide +kernel, by decide +kernel⟩
set_option maxRecDepth 20000 in
theorem wc_M_group : z_wv y_M_group b_M_group 7 none 2 := ⟨z_gwi 772 (by decide +kernel) (by decide +kernel), z_gwi 36 (by decide +kernel) (by decide +kernel), z_gwi 65 (by decide +kernel) (by decide +kernel), z_gwi 773 (rfl) (rfl), by decide +kernel, by decide +kernel, by decide +kernel⟩
set_option maxRecDepth 20000 in
theorem wc_M_settles : z_wv y_M_settles b_M_settles 10 (some .boolean) 3 := ⟨z_gwi 780 (by decide +kernel) (by decide +kernel), z_gwi 38 (by decide +kernel) (by decide +kernel), z_gwi 65 (by decide +kernel) (by decide +kernel), z_gwi 781 (rfl) (rfl), by decide +kernel, by decide +kernel, by decide +kernel⟩
set_option maxRecDepth 20000 in
theorem wc_M_sizeOf : z_wv y_M_sizeOf b_M_sizeOf 5 (some .int) 1 := ⟨z_gwi 784 (by decide +kernel) (by decide +kernel), z_gwi 39 (by decide +kernel) (by decide +kernel), z_gwi 65 (by decide +kernel) (by decide +kernel), z_gwi 785 (rfl) (rfl), by decide +kernel, by decide +kernel, by decide +kernel⟩
set_option maxRecDepth 20000 in
theorem wc_M_inGap : z_wv y_M_inGap b_M_inGap 9 (some .boolean) 5 := ⟨z_gwi 788 (by decide +kernel) (by decide +kernel), z_gwi 40 (by decide +kernel) (by decide +kernel), z_gwi 65 (by decide +kernel) (by decide +kernel), z_gwi 789 (rfl) (rfl), by decide +kernel, by decide +kernel, by decide +kernel⟩
set_option maxRecDepth 20000 in
theorem wc_M_takeInk : z_wv y_M_takeInk b_M_takeInk 6 none 2 := ⟨z_gwi 768 (by decide +kernel) (by decide +kernel), z_gwi 35 (by decide +kernel) (by decide +kernel), z_gwi 65 (by decide +kernel) (by decide +kernel), z_gwi 769 (rfl) (rfl), by decide +kernel, by decide +kernel, by decide +kernel⟩
set_option maxRecDepth 20000 in
theorem wc_M_cleanIn : z_wv y_M_cleanIn b_M_cleanIn 10 (some .int) 5 := ⟨z_gwi 800 (by decide +kernel) (by decide +kernel), z_gwi 43 (by decide +kernel) (by decide +kernel), z_gwi 65 (by decide +kernel) (by decide +kernel), z_gwi 801 (rfl) (rfl), by decide +kernel, by decide +kernel, by decide +kernel⟩
set_option maxRecDepth 20000 in
theorem wc_M_takeParts : z_wv y_M_takeParts b_M_takeParts 5 none 0 := ⟨z_gwi 792 (by decide +kernel) (by decide +kernel), z_gwi 41 (by decide +kernel) (by decide +kernel), z_gwi 65 (by decide +kernel) (by decide +kernel), z_gwi 793 (rfl) (rfl), by decide +kernel, by decide +kernel, by decide +kernel⟩
set_option maxRecDepth 20000 in
theorem wc_M_kindOf : z_wv y_M_kindOf b_M_kindOf 9 (some .int) 4 := ⟨z_gwi 796 (by decide +kernel) (by decide +kernel), z_gwi 42 (by decide +kernel) (by decide +kernel), z_gwi 65 (by decide +kernel) (by decide +kernel), z_gwi 797 (rfl) (rfl), by decide +kernel, by decide +kernel, by decide +kernel⟩
set_option maxRecDepth 20000 in
theorem wc_M_takeCover : z_wv y_M_takeCover b_M_takeCover 8 (some .boolean) 0 := ⟨z_gwi 808 (by decide +kernel) (by decide +kernel), z_gwi 45 (by decide +kernel) (by decide +kernel), z_gwi 65 (by decide +kernel) (by decide +kernel), z_gwi 809 (rfl) (rfl), by decide +kernel, by decide +kernel, by decide +kernel⟩
set_option maxRecDepth 20000 in
theorem wc_M_takeCovers : z_wv y_M_takeCovers b_M_takeCovers 2 none 0 := ⟨z_gwi 804 (by decide +kernel) (by decide +kernel), z_gwi 44 (by decide +kernel) (by decide +kernel), z_gwi 65 (by decide +kernel) (by decide +kernel), z_gwi 805 (rfl) (rfl), by decide +kernel, by decide +kernel, by decide +kernel⟩
set_option maxRecDepth 20000 in
theorem wc_M_takeStrips : z_wv y_M_takeStrips b_M_takeStrips 4 none 0 := ⟨z_gwi 812 (by decide +kernel) (by decide +kernel), z_gwi 46 (by decide +kernel) (by decide +kernel), z_gwi 65 (by decide +kernel) (by decide +kernel), z_gwi 813 (rfl) (rfl), by decide +kernel, by decide +kernel, by decide +kernel⟩
set_option maxRecDepth 20000 in
theorem wc_M_takeCells : z_wv y_M_takeCells b_M_takeCells 4 none 0 := ⟨z_gwi 816 (by decide +kernel) (by decide +kernel), z_gwi 47 (by decide +kernel) (by decide +kernel), z_gwi 65 (by decide +kernel) (by decide +kernel), z_gwi 817 (rfl) (rfl), by decide +kernel, by decide +kernel, by decide +kernel⟩
set_option maxRecDepth 20000 in
theorem wc_M_isClosed : z_wv y_M_isClosed b_M_isClosed 6 (some .boolean) 1 := ⟨z_gwi 820 (by decide +kernel) (by decide +kernel), z_gwi 48 (by decide +kernel) (by decide +kernel), z_gwi 65 (by decide +kernel) (by decide +kernel), z_gwi 821 (rfl) (rfl), by decide +kernel, by decide +kernel, by decide +kernel⟩
set_option maxRecDepth 20000 in
theorem wc_M_low : z_wv y_M_low b_M_low 3 (some .int) 2 := ⟨z_gwi 836 (by decide +kernel) (by decide +kernel), z_gwi 52 (by decide +kernel) (by decide +kernel), z_gwi 65 (by decide +kernel) (by decide +kernel), z_gwi 837 (rfl) (rfl), by decide +kernel, by decide +kernel, by decide +kernel⟩
set_option maxRecDepth 20000 in
theorem wc_M_high : z_wv y_M_high b_M_high 3 (some .int) 2 := ⟨z_gwi 840 (by decide +kernel) (by decide +kernel), z_gwi 53 (by decide +kernel) (by decide +kernel), z_gwi 65 (by decide +kernel) (by decide +kernel), z_gwi 841 (rfl) (rfl), by decide +kernel, by decide +kernel, by decide +kernel⟩
set_option maxRecDepth 20000 in
theorem wc_M_gap : z_wv y_M_gap b_M_gap 11 (some .int) 4 := ⟨z_gwi 832 (by decide +kernel) (by decide +kernel), z_gwi 51 (by decide +kernel) (by decide +kernel), z_gwi 65 (by decide +kernel) (by decide +kernel), z_gwi 833 (rfl) (rfl), by decide +kernel, by decide +kernel, by decide +kernel⟩
set_option maxRecDepth 20000 in
theorem wc_M_swap : z_wv y_M_swap b_M_swap 4 none 2 := ⟨z_gwi 844 (by decide +kernel) (by decide +kernel), z_gwi 54 (by decide +kernel) (by decide +kernel), z_gwi 65 (by decide +kernel) (by decide +kernel), z_gwi 845 (rfl) (rfl), by decide +kernel, by decide +kernel, by decide +kernel⟩
set_option maxRecDepth 20000 in
theorem wc_M_isBefore : z_wv y_M_isBefore b_M_isBefore 3 (some .boolean) 2 := ⟨z_gwi 852 (by decide +kernel) (by decide +kernel), z_gwi 56 (by decide +kernel) (by decide +kernel), z_gwi 65 (by decide +kernel) (by decide +kernel), z_gwi 853 (rfl) (rfl), by decide +kernel, by decide +kernel, by decide +kernel⟩
set_option maxRecDepth 20000 in
theorem wc_M_sort : z_wv y_M_sort b_M_sort 5 none 2 := ⟨z_gwi 848 (by decide +kernel) (by decide +kernel), z_gwi 55 (by decide +kernel) (by decide +kernel), z_gwi 65 (by decide +kernel) (by decide +kernel), z_gwi 849 (rfl) (rfl), by decide +kernel, by decide +kernel, by decide +kernel⟩
set_option maxRecDepth 20000 in
theorem wc_M_parts : z_wv y_M_parts b_M_parts 9 (some .int) 2 := ⟨z_gwi 828 (by decide +kernel) (by decide +kernel), z_gwi 50 (by decide +kernel) (by decide +kernel), z_gwi 65 (by decide +kernel) (by decide +kernel), z_gwi 829 (rfl) (rfl), by decide +kernel, by decide +kernel, by decide +kernel⟩
set_option maxRecDepth 20000 in
theorem wc_M_takeOrder : z_wv y_M_takeOrder b_M_takeOrder 5 none 0 := ⟨z_gwi 824 (by decide +kernel) (by decide +kernel), z_gwi 49 (by decide +kernel) (by decide +kernel), z_gwi 65 (by decide +kernel) (by decide +kernel), z_gwi 825 (rfl) (rfl), by decide +kernel, by decide +kernel, by decide +kernel⟩
set_option maxRecDepth 20000 in
theorem wc_M_run : z_wv y_M_run b_M_run 3 (some .int) 2 := ⟨z_gwi 763 (by decide +kernel) (by decide +kernel), z_gwi 764 (by decide +kernel) (by decide +kernel), z_gwi 65 (by decide +kernel) (by decide +kernel), z_gwi 765 (rfl) (rfl), by decide +kernel, by decide +kernel, by decide +kernel⟩
set_option maxRecDepth 20000 in
theorem wc_M_lines : z_wv y_M_lines b_M_lines 6 (some .int) 1 := ⟨z_gwi 860 (by decide +kernel) (by decide +kernel), z_gwi 57 (by decide +kernel) (by decide +kernel), z_gwi 65 (by decide +kernel) (by decide +kernel), z_gwi 861 (rfl) (rfl), by decide +kernel, by decide +kernel, by decide +kernel⟩
set_option maxRecDepth 20000 in
theorem wc_M_inkOf : z_wv y_M_inkOf b_M_inkOf 5 (some .int) 1 := ⟨z_gwi 864 (by decide +kernel) (by decide +kernel), z_gwi 58 (by decide +kernel) (by decide +kernel), z_gwi 65 (by decide +kernel) (by decide +kernel), z_gwi 865 (rfl) (rfl), by decide +kernel, by decide +kernel, by decide +kernel⟩
set_option maxRecDepth 20000 in
theorem wc_M_part : z_wv y_M_part b_M_part 3 (some .int) 2 := ⟨z_gwi 855 (by decide +kernel) (by decide +kernel), z_gwi 856 (by decide +kernel) (by decide +kernel), z_gwi 65 (by decide +kernel) (by decide +kernel), z_gwi 857 (rfl) (rfl), by decide +kernel, by decide +kernel, by decide +kernel⟩
set_option maxRecDepth 20000 in
theorem wc_M_partOf : z_wv y_M_partOf b_M_partOf 3 (some .int) 2 := ⟨z_gwi 867 (by decide +kernel) (by decide +kernel), z_gwi 868 (by decide +kernel) (by decide +kernel), z_gwi 65 (by decide +kernel) (by decide +kernel), z_gwi 869 (rfl) (rfl), by decide +kernel, by decide +kernel, by decide +kernel⟩
set_option maxRecDepth 20000 in
theorem wc_M_line : z_wv y_M_line b_M_line 8 (some .int) 3 := ⟨z_gwi 871 (by decide +kernel) (by decide +kernel), z_gwi 872 (by decide +kernel) (by decide +kernel), z_gwi 65 (by decide +kernel) (by decide +kernel), z_gwi 873 (rfl) (rfl), by decide +kernel, by decide +kernel, by decide +kernel⟩
set_option maxRecDepth 20000 in
theorem wc_M_order : z_wv y_M_order b_M_order 2 (some .int) 1 := ⟨z_gwi 875 (by decide +kernel) (by decide +kernel), z_gwi 876 (by decide +kernel) (by decide +kernel), z_gwi 65 (by decide +kernel) (by decide +kernel), z_gwi 877 (rfl) (rfl), by decide +kernel, by decide +kernel, by decide +kernel⟩
set_option maxRecDepth 20000 in
theorem wc_M_cover : z_wv y_M_cover b_M_cover 3 (some .int) 2 := ⟨z_gwi 879 (by decide +kernel) (by decide +kernel), z_gwi 880 (by decide +kernel) (by decide +kernel), z_gwi 65 (by decide +kernel) (by decide +kernel), z_gwi 881 (rfl) (rfl), by decide +kernel, by decide +kernel, by decide +kernel⟩
set_option maxRecDepth 20000 in
theorem wc_M_strip : z_wv y_M_strip b_M_strip 2 (some .int) 1 := ⟨z_gwi 883 (by decide +kernel) (by decide +kernel), z_gwi 884 (by decide +kernel) (by decide +kernel), z_gwi 65 (by decide +kernel) (by decide +kernel), z_gwi 885 (rfl) (rfl), by decide +kernel, by decide +kernel, by decide +kernel⟩
set_option maxRecDepth 20000 in
theorem wc_M_cell : z_wv y_M_cell b_M_cell 10 (some .int) 2 := ⟨z_gwi 887 (by decide +kernel) (by decide +kernel), z_gwi 888 (by decide +kernel) (by decide +kernel), z_gwi 65 (by decide +kernel) (by decide +kernel), z_gwi 889 (rfl) (rfl), by decide +kernel, by decide +kernel, by decide +kernel⟩
set_option maxRecDepth 20000 in
theorem wc_M_isSpeck : z_wv y_M_isSpeck b_M_isSpeck 3 (some .boolean) 2 := ⟨z_gwi 891 (by decide +kernel) (by decide +kernel), z_gwi 892 (by decide +kernel) (by decide +kernel), z_gwi 65 (by decide +kernel) (by decide +kernel), z_gwi 893 (rfl) (rfl), by decide +kernel, by decide +kernel, by decide +kernel⟩
set_option maxRecDepth 20000 in
theorem wc_M_told : z_wv y_M_told b_M_told 6 (some .int) 1 := ⟨z_gwi 895 (by decide +kernel) (by decide +kernel), z_gwi 896 (by decide +kernel) (by decide +kernel), z_gwi 65 (by decide +kernel) (by decide +kernel), z_gwi 897 (rfl) (rfl), by decide +kernel, by decide +kernel, by decide +kernel⟩
end
section
theorem d_G_init_0 : decode b_G_init 0 = .ok (.aload_n 0, 1) := by decide +kernel
theorem d_G_init_1 : decode b_G_init 1 = .ok (.invokespecial 3, 3) := by decide +kernel
theorem d_G_init_4 : decode b_G_init 4 = .ok (.aload_n 0, 1) := by decide +kernel
theorem d_G_init_5 : decode b_G_init 5 = .ok (.sipush 576, 3) := by decide +kernel
theorem d_G_init_8 : decode b_G_init 8 = .ok (.newarray .int, 2) := by decide +kernel
theorem d_G_init_10 : decode b_G_init 10 = .ok (.putfield 9, 3) := by decide +kernel
theorem d_G_init_13 : decode b_G_init 13 = .ok (.aload_n 0, 1) := by decide +kernel
theorem d_G_init_14 : decode b_G_init 14 = .ok (.sipush 288, 3) := by decide +kernel
theorem d_G_init_17 : decode b_G_init 17 = .ok (.newarray .int, 2) := by decide +kernel
theorem d_G_init_19 : decode b_G_init 19 = .ok (.putfield 15, 3) := by decide +kernel
theorem d_G_init_22 : decode b_G_init 22 = .ok (.aload_n 0, 1) := by decide +kernel
theorem d_G_init_23 : decode b_G_init 23 = .ok (.sipush 288, 3) := by decide +kernel
theorem d_G_init_26 : decode b_G_init 26 = .ok (.newarray .int, 2) := by decide +kernel
theorem d_G_init_28 : decode b_G_init 28 = .ok (.putfield 18, 3) := by decide +kernel
theorem d_G_init_31 : decode b_G_init 31 = .ok (.aload_n 0, 1) := by decide +kernel
theorem d_G_init_32 : decode b_G_init 32 = .ok (.sipush 288, 3) := by decide +kernel
theorem d_G_init_35 : decode b_G_init 35 = .ok (.newarray .int, 2) := by decide +kernel
theorem d_G_init_37 : decode b_G_init 37 = .ok (.putfield 21, 3) := by decide +kernel
theorem d_G_init_40 : decode b_G_init 40 = .ok (.aload_n 0, 1) := by decide +kernel
theorem d_G_init_41 : decode b_G_init 41 = .ok (.sipush 288, 3) := by decide +kernel
theorem d_G_init_44 : decode b_G_init 44 = .ok (.newarray .int, 2) := by decide +kernel
theorem d_G_init_46 : decode b_G_init 46 = .ok (.putfield 24, 3) := by decide +kernel
theorem d_G_init_49 : decode b_G_init 49 = .ok (.aload_n 0, 1) := by decide +kernel
theorem d_G_init_50 : decode b_G_init 50 = .ok (.sipush 288, 3) := by decide +kernel
theorem d_G_init_53 : decode b_G_init 53 = .ok (.newarray .int, 2) := by decide +kernel
theorem d_G_init_55 : decode b_G_init 55 = .ok (.putfield 27, 3) := by decide +kernel
theorem d_G_init_58 : decode b_G_init 58 = .ok (.aload_n 0, 1) := by decide +kernel
theorem d_G_init_59 : decode b_G_init 59 = .ok (.sipush 576, 3) := by decide +kernel
theorem d_G_init_62 : decode b_G_init 62 = .ok (.newarray .int, 2) := by decide +kernel
theorem d_G_init_64 : decode b_G_init 64 = .ok (.putfield 30, 3) := by decide +kernel
theorem d_G_init_67 : decode b_G_init 67 = .ok (.aload_n 0, 1) := by decide +kernel
theorem d_G_init_68 : decode b_G_init 68 = .ok (.iload_n 1, 1) := by decide +kernel
theorem d_G_init_69 : decode b_G_init 69 = .ok (.putfield 33, 3) := by decide +kernel
theorem d_G_init_72 : decode b_G_init 72 = .ok (.aload_n 0, 1) := by decide +kernel
theorem d_G_init_73 : decode b_G_init 73 = .ok (.iload_n 2, 1) := by decide +kernel
theorem d_G_init_74 : decode b_G_init 74 = .ok (.putfield 37, 3) := by decide +kernel
theorem d_G_init_77 : decode b_G_init 77 = .ok (.return_, 1) := by decide +kernel
theorem d_G_find_0 : decode b_G_find 0 = .ok (.aload_n 0, 1) := by decide +kernel
theorem d_G_find_1 : decode b_G_find 1 = .ok (.getfield 9, 3) := by decide +kernel
theorem d_G_find_4 : decode b_G_find 4 = .ok (.iconst (-1), 1) := by decide +kernel
theorem d_G_find_5 : decode b_G_find 5 = .ok (.invokestatic 40, 3) := by decide +kernel
theorem d_G_find_8 : decode b_G_find 8 = .ok (.aload_n 0, 1) := by decide +kernel
theorem d_G_find_9 : decode b_G_find 9 = .ok (.iconst 0, 1) := by decide +kernel
theorem d_G_find_10 : decode b_G_find 10 = .ok (.putfield 46, 3) := by decide +kernel
theorem d_G_find_13 : decode b_G_find 13 = .ok (.iconst 0, 1) := by decide +kernel
theorem d_G_find_14 : decode b_G_find 14 = .ok (.istore 4, 2) := by decide +kernel
theorem d_G_find_16 : decode b_G_find 16 = .ok (.iload 4, 2) := by decide +kernel
theorem d_G_find_18 : decode b_G_find 18 = .ok (.aload_n 0, 1) := by decide +kernel
theorem d_G_find_19 : decode b_G_find 19 = .ok (.getfield 37, 3) := by decide +kernel
theorem d_G_find_22 : decode b_G_find 22 = .ok (.if_icmp .ge 75, 3) := by decide +kernel
theorem d_G_find_25 : decode b_G_find 25 = .ok (.iconst 0, 1) := by decide +kernel
theorem d_G_find_26 : decode b_G_find 26 = .ok (.istore 5, 2) := by decide +kernel
theorem d_G_find_28 : decode b_G_find 28 = .ok (.iload 5, 2) := by decide +kernel
theorem d_G_find_30 : decode b_G_find 30 = .ok (.aload_n 0, 1) := by decide +kernel
theorem d_G_find_31 : decode b_G_find 31 = .ok (.getfield 33, 3) := by decide +kernel
theorem d_G_find_34 : decode b_G_find 34 = .ok (.if_icmp .ge 57, 3) := by decide +kernel
theorem d_G_find_37 : decode b_G_find 37 = .ok (.aload_n 0, 1) := by decide +kernel
theorem d_G_find_38 : decode b_G_find 38 = .ok (.aload_n 1, 1) := by decide +kernel
theorem d_G_find_39 : decode b_G_find 39 = .ok (.iload_n 2, 1) := by decide +kernel
theorem d_G_find_40 : decode b_G_find 40 = .ok (.iload 5, 2) := by decide +kernel
theorem d_G_find_42 : decode b_G_find 42 = .ok (.iload 4, 2) := by decide +kernel
theorem d_G_find_44 : decode b_G_find 44 = .ok (.invokevirtual 49, 3) := by decide +kernel
theorem d_G_find_47 : decode b_G_find 47 = .ok (.ifCond .eq 38, 3) := by decide +kernel
theorem d_G_find_50 : decode b_G_find 50 = .ok (.aload_n 0, 1) := by decide +kernel
theorem d_G_find_51 : decode b_G_find 51 = .ok (.getfield 46, 3) := by decide +kernel
theorem d_G_find_54 : decode b_G_find 54 = .ok (.sipush 288, 3) := by decide +kernel
theorem d_G_find_57 : decode b_G_find 57 = .ok (.if_icmp .ge 28, 3) := by decide +kernel
theorem d_G_find_60 : decode b_G_find 60 = .ok (.aload_n 0, 1) := by decide +kernel
theorem d_G_find_61 : decode b_G_find 61 = .ok (.iload 5, 2) := by decide +kernel
theorem d_G_find_63 : decode b_G_find 63 = .ok (.iload 4, 2) := by decide +kernel
theorem d_G_find_65 : decode b_G_find 65 = .ok (.invokevirtual 53, 3) := by decide +kernel
theorem d_G_find_68 : decode b_G_find 68 = .ok (.aload_n 0, 1) := by decide +kernel
theorem d_G_find_69 : decode b_G_find 69 = .ok (.aload_n 1, 1) := by decide +kernel
theorem d_G_find_70 : decode b_G_find 70 = .ok (.iload_n 2, 1) := by decide +kernel
theorem d_G_find_71 : decode b_G_find 71 = .ok (.iload_n 3, 1) := by decide +kernel
theorem d_G_find_72 : decode b_G_find 72 = .ok (.invokevirtual 57, 3) := by decide +kernel
theorem d_G_find_75 : decode b_G_find 75 = .ok (.aload_n 0, 1) := by decide +kernel
theorem d_G_find_76 : decode b_G_find 76 = .ok (.dup, 1) := by decide +kernel
theorem d_G_find_77 : decode b_G_find 77 = .ok (.getfield 46, 3) := by decide +kernel
theorem d_G_find_80 : decode b_G_find 80 = .ok (.iconst 1, 1) := by decide +kernel
theorem d_G_find_81 : decode b_G_find 81 = .ok (.iadd, 1) := by decide +kernel
theorem d_G_find_82 : decode b_G_find 82 = .ok (.putfield 46, 3) := by decide +kernel
theorem d_G_find_85 : decode b_G_find 85 = .ok (.iinc 5 1, 3) := by decide +kernel
theorem d_G_find_88 : decode b_G_find 88 = .ok (.goto (-60), 3) := by decide +kernel
theorem d_G_find_91 : decode b_G_find 91 = .ok (.iinc 4 1, 3) := by decide +kernel
theorem d_G_find_94 : decode b_G_find 94 = .ok (.goto (-78), 3) := by decide +kernel
theorem d_G_find_97 : decode b_G_find 97 = .ok (.return_, 1) := by decide +kernel
theorem d_G_isOpen_0 : decode b_G_isOpen 0 = .ok (.iload_n 3, 1) := by decide +kernel
theorem d_G_isOpen_1 : decode b_G_isOpen 1 = .ok (.ifCond .lt 25, 3) := by decide +kernel
theorem d_G_isOpen_4 : decode b_G_isOpen 4 = .ok (.iload_n 3, 1) := by decide +kernel
theorem d_G_isOpen_5 : decode b_G_isOpen 5 = .ok (.aload_n 0, 1) := by decide +kernel
theorem d_G_isOpen_6 : decode b_G_isOpen 6 = .ok (.getfield 33, 3) := by decide +kernel
theorem d_G_isOpen_9 : decode b_G_isOpen 9 = .ok (.if_icmp .ge 17, 3) := by decide +kernel
theorem d_G_isOpen_12 : decode b_G_isOpen 12 = .ok (.iload 4, 2) := by decide +kernel
theorem d_G_isOpen_14 : decode b_G_isOpen 14 = .ok (.ifCond .lt 12, 3) := by decide +kernel
theorem d_G_isOpen_17 : decode b_G_isOpen 17 = .ok (.iload 4, 2) := by decide +kernel
theorem d_G_isOpen_19 : decode b_G_isOpen 19 = .ok (.aload_n 0, 1) := by decide +kernel
theorem d_G_isOpen_20 : decode b_G_isOpen 20 = .ok (.getfield 37, 3) := by decide +kernel
theorem d_G_isOpen_23 : decode b_G_isOpen 23 = .ok (.if_icmp .lt 5, 3) := by decide +kernel
theorem d_G_isOpen_26 : decode b_G_isOpen 26 = .ok (.iconst 0, 1) := by decide +kernel
theorem d_G_isOpen_27 : decode b_G_isOpen 27 = .ok (.ireturn, 1) := by decide +kernel
theorem d_G_isOpen_28 : decode b_G_isOpen 28 = .ok (.iload 4, 2) := by decide +kernel
theorem d_G_isOpen_30 : decode b_G_isOpen 30 = .ok (.bipush 24, 2) := by decide +kernel
theorem d_G_isOpen_32 : decode b_G_isOpen 32 = .ok (.imul, 1) := by decide +kernel
theorem d_G_isOpen_33 : decode b_G_isOpen 33 = .ok (.iload_n 3, 1) := by decide +kernel
theorem d_G_isOpen_34 : decode b_G_isOpen 34 = .ok (.iadd, 1) := by decide +kernel
theorem d_G_isOpen_35 : decode b_G_isOpen 35 = .ok (.istore 5, 2) := by decide +kernel
theorem d_G_isOpen_37 : decode b_G_isOpen 37 = .ok (.aload_n 1, 1) := by decide +kernel
theorem d_G_isOpen_38 : decode b_G_isOpen 38 = .ok (.iload 5, 2) := by decide +kernel
theorem d_G_isOpen_40 : decode b_G_isOpen 40 = .ok (.baload, 1) := by decide +kernel
theorem d_G_isOpen_41 : decode b_G_isOpen 41 = .ok (.iload_n 2, 1) := by decide +kernel
theorem d_G_isOpen_42 : decode b_G_isOpen 42 = .ok (.if_icmp .ne 18, 3) := by decide +kernel
theorem d_G_isOpen_45 : decode b_G_isOpen 45 = .ok (.aload_n 0, 1) := by decide +kernel
theorem d_G_isOpen_46 : decode b_G_isOpen 46 = .ok (.getfield 9, 3) := by decide +kernel
theorem d_G_isOpen_49 : decode b_G_isOpen 49 = .ok (.iload 5, 2) := by decide +kernel
theorem d_G_isOpen_51 : decode b_G_isOpen 51 = .ok (.iaload, 1) := by decide +kernel
theorem d_G_isOpen_52 : decode b_G_isOpen 52 = .ok (.iconst (-1), 1) := by decide +kernel
theorem d_G_isOpen_53 : decode b_G_isOpen 53 = .ok (.if_icmp .ne 7, 3) := by decide +kernel
theorem d_G_isOpen_56 : decode b_G_isOpen 56 = .ok (.iconst 1, 1) := by decide +kernel
theorem d_G_isOpen_57 : decode b_G_isOpen 57 = .ok (.goto 4, 3) := by decide +kernel
theorem d_G_isOpen_60 : decode b_G_isOpen 60 = .ok (.iconst 0, 1) := by decide +kernel
theorem d_G_isOpen_61 : decode b_G_isOpen 61 = .ok (.ireturn, 1) := by decide +kernel
theorem d_G_begin_0 : decode b_G_begin 0 = .ok (.aload_n 0, 1) := by decide +kernel
theorem d_G_begin_1 : decode b_G_begin 1 = .ok (.getfield 15, 3) := by decide +kernel
theorem d_G_begin_4 : decode b_G_begin 4 = .ok (.aload_n 0, 1) := by decide +kernel
theorem d_G_begin_5 : decode b_G_begin 5 = .ok (.getfield 46, 3) := by decide +kernel
theorem d_G_begin_8 : decode b_G_begin 8 = .ok (.iload_n 1, 1) := by decide +kernel
theorem d_G_begin_9 : decode b_G_begin 9 = .ok (.iastore, 1) := by decide +kernel
theorem d_G_begin_10 : decode b_G_begin 10 = .ok (.aload_n 0, 1) := by decide +kernel
theorem d_G_begin_11 : decode b_G_begin 11 = .ok (.getfield 18, 3) := by decide +kernel
theorem d_G_begin_14 : decode b_G_begin 14 = .ok (.aload_n 0, 1) := by decide +kernel
theorem d_G_begin_15 : decode b_G_begin 15 = .ok (.getfield 46, 3) := by decide +kernel
theorem d_G_begin_18 : decode b_G_begin 18 = .ok (.iload_n 2, 1) := by decide +kernel
theorem d_G_begin_19 : decode b_G_begin 19 = .ok (.iastore, 1) := by decide +kernel
theorem d_G_begin_20 : decode b_G_begin 20 = .ok (.aload_n 0, 1) := by decide +kernel
theorem d_G_begin_21 : decode b_G_begin 21 = .ok (.getfield 21, 3) := by decide +kernel
theorem d_G_begin_24 : decode b_G_begin 24 = .ok (.aload_n 0, 1) := by decide +kernel
theorem d_G_begin_25 : decode b_G_begin 25 = .ok (.getfield 46, 3) := by decide +kernel
theorem d_G_begin_28 : decode b_G_begin 28 = .ok (.iload_n 1, 1) := by decide +kernel
theorem d_G_begin_29 : decode b_G_begin 29 = .ok (.iastore, 1) := by decide +kernel
theorem d_G_begin_30 : decode b_G_begin 30 = .ok (.aload_n 0, 1) := by decide +kernel
theorem d_G_begin_31 : decode b_G_begin 31 = .ok (.getfield 24, 3) := by decide +kernel
theorem d_G_begin_34 : decode b_G_begin 34 = .ok (.aload_n 0, 1) := by decide +kernel
theorem d_G_begin_35 : decode b_G_begin 35 = .ok (.getfield 46, 3) := by decide +kernel
theorem d_G_begin_38 : decode b_G_begin 38 = .ok (.iload_n 2, 1) := by decide +kernel
theorem d_G_begin_39 : decode b_G_begin 39 = .ok (.iastore, 1) := by decide +kernel
theorem d_G_begin_40 : decode b_G_begin 40 = .ok (.aload_n 0, 1) := by decide +kernel
theorem d_G_begin_41 : decode b_G_begin 41 = .ok (.getfield 27, 3) := by decide +kernel
theorem d_G_begin_44 : decode b_G_begin 44 = .ok (.aload_n 0, 1) := by decide +kernel
theorem d_G_begin_45 : decode b_G_begin 45 = .ok (.getfield 46, 3) := by decide +kernel
theorem d_G_begin_48 : decode b_G_begin 48 = .ok (.iconst 0, 1) := by decide +kernel
theorem d_G_begin_49 : decode b_G_begin 49 = .ok (.iastore, 1) := by decide +kernel
theorem d_G_begin_50 : decode b_G_begin 50 = .ok (.aload_n 0, 1) := by decide +kernel
theorem d_G_begin_51 : decode b_G_begin 51 = .ok (.iload_n 1, 1) := by decide +kernel
theorem d_G_begin_52 : decode b_G_begin 52 = .ok (.iload_n 2, 1) := by decide +kernel
theorem d_G_begin_53 : decode b_G_begin 53 = .ok (.invokevirtual 61, 3) := by decide +kernel
theorem d_G_begin_56 : decode b_G_begin 56 = .ok (.return_, 1) := by decide +kernel
theorem d_G_take_0 : decode b_G_take 0 = .ok (.iload_n 2, 1) := by decide +kernel
theorem d_G_take_1 : decode b_G_take 1 = .ok (.bipush 24, 2) := by decide +kernel
theorem d_G_take_3 : decode b_G_take 3 = .ok (.imul, 1) := by decide +kernel
theorem d_G_take_4 : decode b_G_take 4 = .ok (.iload_n 1, 1) := by decide +kernel
theorem d_G_take_5 : decode b_G_take 5 = .ok (.iadd, 1) := by decide +kernel
theorem d_G_take_6 : decode b_G_take 6 = .ok (.istore_n 3, 1) := by decide +kernel
theorem d_G_take_7 : decode b_G_take 7 = .ok (.aload_n 0, 1) := by decide +kernel
theorem d_G_take_8 : decode b_G_take 8 = .ok (.getfield 9, 3) := by decide +kernel
theorem d_G_take_11 : decode b_G_take 11 = .ok (.iload_n 3, 1) := by decide +kernel
theorem d_G_take_12 : decode b_G_take 12 = .ok (.aload_n 0, 1) := by decide +kernel
theorem d_G_take_13 : decode b_G_take 13 = .ok (.getfield 46, 3) := by decide +kernel
theorem d_G_take_16 : decode b_G_take 16 = .ok (.iastore, 1) := by decide +kernel
theorem d_G_take_17 : decode b_G_take 17 = .ok (.aload_n 0, 1) := by decide +kernel
theorem d_G_take_18 : decode b_G_take 18 = .ok (.getfield 30, 3) := by decide +kernel
theorem d_G_take_21 : decode b_G_take 21 = .ok (.aload_n 0, 1) := by decide +kernel
theorem d_G_take_22 : decode b_G_take 22 = .ok (.getfield 27, 3) := by decide +kernel
theorem d_G_take_25 : decode b_G_take 25 = .ok (.aload_n 0, 1) := by decide +kernel
theorem d_G_take_26 : decode b_G_take 26 = .ok (.getfield 46, 3) := by decide +kernel
theorem d_G_take_29 : decode b_G_take 29 = .ok (.iaload, 1) := by decide +kernel
theorem d_G_take_30 : decode b_G_take 30 = .ok (.iload_n 3, 1) := by decide +kernel
theorem d_G_take_31 : decode b_G_take 31 = .ok (.iastore, 1) := by decide +kernel
theorem d_G_take_32 : decode b_G_take 32 = .ok (.aload_n 0, 1) := by decide +kernel
theorem d_G_take_33 : decode b_G_take 33 = .ok (.getfield 27, 3) := by decide +kernel
theorem d_G_take_36 : decode b_G_take 36 = .ok (.aload_n 0, 1) := by decide +kernel
theorem d_G_take_37 : decode b_G_take 37 = .ok (.getfield 46, 3) := by decide +kernel
theorem d_G_take_40 : decode b_G_take 40 = .ok (.dup2, 1) := by decide +kernel
theorem d_G_take_41 : decode b_G_take 41 = .ok (.iaload, 1) := by decide +kernel
theorem d_G_take_42 : decode b_G_take 42 = .ok (.iconst 1, 1) := by decide +kernel
theorem d_G_take_43 : decode b_G_take 43 = .ok (.iadd, 1) := by decide +kernel
theorem d_G_take_44 : decode b_G_take 44 = .ok (.iastore, 1) := by decide +kernel
theorem d_G_take_45 : decode b_G_take 45 = .ok (.aload_n 0, 1) := by decide +kernel
theorem d_G_take_46 : decode b_G_take 46 = .ok (.getfield 15, 3) := by decide +kernel
theorem d_G_take_49 : decode b_G_take 49 = .ok (.aload_n 0, 1) := by decide +kernel
theorem d_G_take_50 : decode b_G_take 50 = .ok (.getfield 46, 3) := by decide +kernel
theorem d_G_take_53 : decode b_G_take 53 = .ok (.aload_n 0, 1) := by decide +kernel
theorem d_G_take_54 : decode b_G_take 54 = .ok (.getfield 15, 3) := by decide +kernel
theorem d_G_take_57 : decode b_G_take 57 = .ok (.aload_n 0, 1) := by decide +kernel
theorem d_G_take_58 : decode b_G_take 58 = .ok (.getfield 46, 3) := by decide +kernel
theorem d_G_take_61 : decode b_G_take 61 = .ok (.iaload, 1) := by decide +kernel
theorem d_G_take_62 : decode b_G_take 62 = .ok (.iload_n 1, 1) := by decide +kernel
theorem d_G_take_63 : decode b_G_take 63 = .ok (.invokestatic 64, 3) := by decide +kernel
theorem d_G_take_66 : decode b_G_take 66 = .ok (.iastore, 1) := by decide +kernel
theorem d_G_take_67 : decode b_G_take 67 = .ok (.aload_n 0, 1) := by decide +kernel
theorem d_G_take_68 : decode b_G_take 68 = .ok (.getfield 21, 3) := by decide +kernel
theorem d_G_take_71 : decode b_G_take 71 = .ok (.aload_n 0, 1) := by decide +kernel
theorem d_G_take_72 : decode b_G_take 72 = .ok (.getfield 46, 3) := by decide +kernel
theorem d_G_take_75 : decode b_G_take 75 = .ok (.aload_n 0, 1) := by decide +kernel
theorem d_G_take_76 : decode b_G_take 76 = .ok (.getfield 21, 3) := by decide +kernel
theorem d_G_take_79 : decode b_G_take 79 = .ok (.aload_n 0, 1) := by decide +kernel
theorem d_G_take_80 : decode b_G_take 80 = .ok (.getfield 46, 3) := by decide +kernel
theorem d_G_take_83 : decode b_G_take 83 = .ok (.iaload, 1) := by decide +kernel
theorem d_G_take_84 : decode b_G_take 84 = .ok (.iload_n 1, 1) := by decide +kernel
theorem d_G_take_85 : decode b_G_take 85 = .ok (.invokestatic 70, 3) := by decide +kernel
theorem d_G_take_88 : decode b_G_take 88 = .ok (.iastore, 1) := by decide +kernel
theorem d_G_take_89 : decode b_G_take 89 = .ok (.aload_n 0, 1) := by decide +kernel
theorem d_G_take_90 : decode b_G_take 90 = .ok (.getfield 24, 3) := by decide +kernel
theorem d_G_take_93 : decode b_G_take 93 = .ok (.aload_n 0, 1) := by decide +kernel
theorem d_G_take_94 : decode b_G_take 94 = .ok (.getfield 46, 3) := by decide +kernel
theorem d_G_take_97 : decode b_G_take 97 = .ok (.aload_n 0, 1) := by decide +kernel
theorem d_G_take_98 : decode b_G_take 98 = .ok (.getfield 24, 3) := by decide +kernel
theorem d_G_take_101 : decode b_G_take 101 = .ok (.aload_n 0, 1) := by decide +kernel
theorem d_G_take_102 : decode b_G_take 102 = .ok (.getfield 46, 3) := by decide +kernel
theorem d_G_take_105 : decode b_G_take 105 = .ok (.iaload, 1) := by decide +kernel
theorem d_G_take_106 : decode b_G_take 106 = .ok (.iload_n 2, 1) := by decide +kernel
theorem d_G_take_107 : decode b_G_take 107 = .ok (.invokestatic 70, 3) := by decide +kernel
theorem d_G_take_110 : decode b_G_take 110 = .ok (.iastore, 1) := by decide +kernel
theorem d_G_take_111 : decode b_G_take 111 = .ok (.return_, 1) := by decide +kernel
theorem d_G_gather_0 : decode b_G_gather 0 = .ok (.iconst 0, 1) := by decide +kernel
theorem d_G_gather_1 : decode b_G_gather 1 = .ok (.istore 4, 2) := by decide +kernel
theorem d_G_gather_3 : decode b_G_gather 3 = .ok (.iload 4, 2) := by decide +kernel
theorem d_G_gather_5 : decode b_G_gather 5 = .ok (.sipush 576, 3) := by decide +kernel
theorem d_G_gather_8 : decode b_G_gather 8 = .ok (.if_icmp .ge 140, 3) := by decide +kernel
theorem d_G_gather_11 : decode b_G_gather 11 = .ok (.iload 4, 2) := by decide +kernel
theorem d_G_gather_13 : decode b_G_gather 13 = .ok (.aload_n 0, 1) := by decide +kernel
theorem d_G_gather_14 : decode b_G_gather 14 = .ok (.getfield 27, 3) := by decide +kernel
theorem d_G_gather_17 : decode b_G_gather 17 = .ok (.aload_n 0, 1) := by decide +kernel
theorem d_G_gather_18 : decode b_G_gather 18 = .ok (.getfield 46, 3) := by decide +kernel
theorem d_G_gather_21 : decode b_G_gather 21 = .ok (.iaload, 1) := by decide +kernel
theorem d_G_gather_22 : decode b_G_gather 22 = .ok (.if_icmp .ge 126, 3) := by decide +kernel
theorem d_G_gather_25 : decode b_G_gather 25 = .ok (.aload_n 0, 1) := by decide +kernel
theorem d_G_gather_26 : decode b_G_gather 26 = .ok (.getfield 30, 3) := by decide +kernel
theorem d_G_gather_29 : decode b_G_gather 29 = .ok (.iload 4, 2) := by decide +kernel
theorem d_G_gather_31 : decode b_G_gather 31 = .ok (.iaload, 1) := by decide +kernel
theorem d_G_gather_32 : decode b_G_gather 32 = .ok (.bipush 24, 2) := by decide +kernel
theorem d_G_gather_34 : decode b_G_gather 34 = .ok (.irem, 1) := by decide +kernel
theorem d_G_gather_35 : decode b_G_gather 35 = .ok (.istore 5, 2) := by decide +kernel
theorem d_G_gather_37 : decode b_G_gather 37 = .ok (.aload_n 0, 1) := by decide +kernel
theorem d_G_gather_38 : decode b_G_gather 38 = .ok (.getfield 30, 3) := by decide +kernel
theorem d_G_gather_41 : decode b_G_gather 41 = .ok (.iload 4, 2) := by decide +kernel
theorem d_G_gather_43 : decode b_G_gather 43 = .ok (.iaload, 1) := by decide +kernel
theorem d_G_gather_44 : decode b_G_gather 44 = .ok (.bipush 24, 2) := by decide +kernel
theorem d_G_gather_46 : decode b_G_gather 46 = .ok (.idiv, 1) := by decide +kernel
theorem d_G_gather_47 : decode b_G_gather 47 = .ok (.istore 6, 2) := by decide +kernel
theorem d_G_gather_49 : decode b_G_gather 49 = .ok (.iload 6, 2) := by decide +kernel
theorem d_G_gather_51 : decode b_G_gather 51 = .ok (.iconst 1, 1) := by decide +kernel
theorem d_G_gather_52 : decode b_G_gather 52 = .ok (.isub, 1) := by decide +kernel
theorem d_G_gather_53 : decode b_G_gather 53 = .ok (.istore 7, 2) := by decide +kernel
theorem d_G_gather_55 : decode b_G_gather 55 = .ok (.iload 7, 2) := by decide +kernel
theorem d_G_gather_57 : decode b_G_gather 57 = .ok (.iload 6, 2) := by decide +kernel
theorem d_G_gather_59 : decode b_G_gather 59 = .ok (.iconst 1, 1) := by decide +kernel
theorem d_G_gather_60 : decode b_G_gather 60 = .ok (.iadd, 1) := by decide +kernel
theorem d_G_gather_61 : decode b_G_gather 61 = .ok (.if_icmp .gt 81, 3) := by decide +kernel
theorem d_G_gather_64 : decode b_G_gather 64 = .ok (.iload 5, 2) := by decide +kernel
theorem d_G_gather_66 : decode b_G_gather 66 = .ok (.iconst 1, 1) := by decide +kernel
theorem d_G_gather_67 : decode b_G_gather 67 = .ok (.isub, 1) := by decide +kernel
theorem d_G_gather_68 : decode b_G_gather 68 = .ok (.istore 8, 2) := by decide +kernel
theorem d_G_gather_70 : decode b_G_gather 70 = .ok (.iload 8, 2) := by decide +kernel
theorem d_G_gather_72 : decode b_G_gather 72 = .ok (.iload 5, 2) := by decide +kernel
theorem d_G_gather_74 : decode b_G_gather 74 = .ok (.iconst 1, 1) := by decide +kernel
theorem d_G_gather_75 : decode b_G_gather 75 = .ok (.iadd, 1) := by decide +kernel
theorem d_G_gather_76 : decode b_G_gather 76 = .ok (.if_icmp .gt 60, 3) := by decide +kernel
theorem d_G_gather_79 : decode b_G_gather 79 = .ok (.iload 8, 2) := by decide +kernel
theorem d_G_gather_81 : decode b_G_gather 81 = .ok (.iload 5, 2) := by decide +kernel
theorem d_G_gather_83 : decode b_G_gather 83 = .ok (.if_icmp .eq 10, 3) := by decide +kernel
theorem d_G_gather_86 : decode b_G_gather 86 = .ok (.iload 7, 2) := by decide +kernel
theorem d_G_gather_88 : decode b_G_gather 88 = .ok (.iload 6, 2) := by decide +kernel
theorem d_G_gather_90 : decode b_G_gather 90 = .ok (.if_icmp .ne 7, 3) := by decide +kernel
theorem d_G_gather_93 : decode b_G_gather 93 = .ok (.iconst 1, 1) := by decide +kernel
theorem d_G_gather_94 : decode b_G_gather 94 = .ok (.goto 4, 3) := by decide +kernel
theorem d_G_gather_97 : decode b_G_gather 97 = .ok (.iconst 0, 1) := by decide +kernel
theorem d_G_gather_98 : decode b_G_gather 98 = .ok (.istore 9, 2) := by decide +kernel
theorem d_G_gather_100 : decode b_G_gather 100 = .ok (.iload 9, 2) := by decide +kernel
theorem d_G_gather_102 : decode b_G_gather 102 = .ok (.ifCond .ne 7, 3) := by decide +kernel
theorem d_G_gather_105 : decode b_G_gather 105 = .ok (.iload_n 3, 1) := by decide +kernel
theorem d_G_gather_106 : decode b_G_gather 106 = .ok (.ifCond .eq 24, 3) := by decide +kernel
theorem d_G_gather_109 : decode b_G_gather 109 = .ok (.aload_n 0, 1) := by decide +kernel
theorem d_G_gather_110 : decode b_G_gather 110 = .ok (.aload_n 1, 1) := by decide +kernel
theorem d_G_gather_111 : decode b_G_gather 111 = .ok (.iload_n 2, 1) := by decide +kernel
theorem d_G_gather_112 : decode b_G_gather 112 = .ok (.iload 8, 2) := by decide +kernel
theorem d_G_gather_114 : decode b_G_gather 114 = .ok (.iload 7, 2) := by decide +kernel
theorem d_G_gather_116 : decode b_G_gather 116 = .ok (.invokevirtual 49, 3) := by decide +kernel
theorem d_G_gather_119 : decode b_G_gather 119 = .ok (.ifCond .eq 11, 3) := by decide +kernel
theorem d_G_gather_122 : decode b_G_gather 122 = .ok (.aload_n 0, 1) := by decide +kernel
theorem d_G_gather_123 : decode b_G_gather 123 = .ok (.iload 8, 2) := by decide +kernel
theorem d_G_gather_125 : decode b_G_gather 125 = .ok (.iload 7, 2) := by decide +kernel
theorem d_G_gather_127 : decode b_G_gather 127 = .ok (.invokevirtual 61, 3) := by decide +kernel
theorem d_G_gather_130 : decode b_G_gather 130 = .ok (.iinc 8 1, 3) := by decide +kernel
theorem d_G_gather_133 : decode b_G_gather 133 = .ok (.goto (-63), 3) := by decide +kernel
theorem d_G_gather_136 : decode b_G_gather 136 = .ok (.iinc 7 1, 3) := by decide +kernel
theorem d_G_gather_139 : decode b_G_gather 139 = .ok (.goto (-84), 3) := by decide +kernel
theorem d_G_gather_142 : decode b_G_gather 142 = .ok (.iinc 4 1, 3) := by decide +kernel
theorem d_G_gather_145 : decode b_G_gather 145 = .ok (.goto (-142), 3) := by decide +kernel
theorem d_G_gather_148 : decode b_G_gather 148 = .ok (.return_, 1) := by decide +kernel
theorem d_G_dropAtEdge_0 : decode b_G_dropAtEdge 0 = .ok (.iconst 0, 1) := by decide +kernel
theorem d_G_dropAtEdge_1 : decode b_G_dropAtEdge 1 = .ok (.istore_n 1, 1) := by decide +kernel
theorem d_G_dropAtEdge_2 : decode b_G_dropAtEdge 2 = .ok (.iconst 0, 1) := by decide +kernel
theorem d_G_dropAtEdge_3 : decode b_G_dropAtEdge 3 = .ok (.istore_n 2, 1) := by decide +kernel
theorem d_G_dropAtEdge_4 : decode b_G_dropAtEdge 4 = .ok (.iload_n 2, 1) := by decide +kernel
theorem d_G_dropAtEdge_5 : decode b_G_dropAtEdge 5 = .ok (.aload_n 0, 1) := by decide +kernel
theorem d_G_dropAtEdge_6 : decode b_G_dropAtEdge 6 = .ok (.getfield 46, 3) := by decide +kernel
theorem d_G_dropAtEdge_9 : decode b_G_dropAtEdge 9 = .ok (.if_icmp .ge 120, 3) := by decide +kernel
theorem d_G_dropAtEdge_12 : decode b_G_dropAtEdge 12 = .ok (.aload_n 0, 1) := by decide +kernel
theorem d_G_dropAtEdge_13 : decode b_G_dropAtEdge 13 = .ok (.getfield 15, 3) := by decide +kernel
theorem d_G_dropAtEdge_16 : decode b_G_dropAtEdge 16 = .ok (.iload_n 2, 1) := by decide +kernel
theorem d_G_dropAtEdge_17 : decode b_G_dropAtEdge 17 = .ok (.iaload, 1) := by decide +kernel
theorem d_G_dropAtEdge_18 : decode b_G_dropAtEdge 18 = .ok (.ifCond .le 105, 3) := by decide +kernel
theorem d_G_dropAtEdge_21 : decode b_G_dropAtEdge 21 = .ok (.aload_n 0, 1) := by decide +kernel
theorem d_G_dropAtEdge_22 : decode b_G_dropAtEdge 22 = .ok (.getfield 18, 3) := by decide +kernel
theorem d_G_dropAtEdge_25 : decode b_G_dropAtEdge 25 = .ok (.iload_n 2, 1) := by decide +kernel
theorem d_G_dropAtEdge_26 : decode b_G_dropAtEdge 26 = .ok (.iaload, 1) := by decide +kernel
theorem d_G_dropAtEdge_27 : decode b_G_dropAtEdge 27 = .ok (.ifCond .le 96, 3) := by decide +kernel
theorem d_G_dropAtEdge_30 : decode b_G_dropAtEdge 30 = .ok (.aload_n 0, 1) := by decide +kernel
theorem d_G_dropAtEdge_31 : decode b_G_dropAtEdge 31 = .ok (.getfield 21, 3) := by decide +kernel
theorem d_G_dropAtEdge_34 : decode b_G_dropAtEdge 34 = .ok (.iload_n 2, 1) := by decide +kernel
theorem d_G_dropAtEdge_35 : decode b_G_dropAtEdge 35 = .ok (.iaload, 1) := by decide +kernel
theorem d_G_dropAtEdge_36 : decode b_G_dropAtEdge 36 = .ok (.aload_n 0, 1) := by decide +kernel
theorem d_G_dropAtEdge_37 : decode b_G_dropAtEdge 37 = .ok (.getfield 33, 3) := by decide +kernel
theorem d_G_dropAtEdge_40 : decode b_G_dropAtEdge 40 = .ok (.iconst 1, 1) := by decide +kernel
theorem d_G_dropAtEdge_41 : decode b_G_dropAtEdge 41 = .ok (.isub, 1) := by decide +kernel
theorem d_G_dropAtEdge_42 : decode b_G_dropAtEdge 42 = .ok (.if_icmp .ge 81, 3) := by decide +kernel
theorem d_G_dropAtEdge_45 : decode b_G_dropAtEdge 45 = .ok (.aload_n 0, 1) := by decide +kernel
theorem d_G_dropAtEdge_46 : decode b_G_dropAtEdge 46 = .ok (.getfield 24, 3) := by decide +kernel
theorem d_G_dropAtEdge_49 : decode b_G_dropAtEdge 49 = .ok (.iload_n 2, 1) := by decide +kernel
theorem d_G_dropAtEdge_50 : decode b_G_dropAtEdge 50 = .ok (.iaload, 1) := by decide +kernel
theorem d_G_dropAtEdge_51 : decode b_G_dropAtEdge 51 = .ok (.aload_n 0, 1) := by decide +kernel
theorem d_G_dropAtEdge_52 : decode b_G_dropAtEdge 52 = .ok (.getfield 37, 3) := by decide +kernel
theorem d_G_dropAtEdge_55 : decode b_G_dropAtEdge 55 = .ok (.iconst 1, 1) := by decide +kernel
theorem d_G_dropAtEdge_56 : decode b_G_dropAtEdge 56 = .ok (.isub, 1) := by decide +kernel
theorem d_G_dropAtEdge_57 : decode b_G_dropAtEdge 57 = .ok (.if_icmp .ge 66, 3) := by decide +kernel
theorem d_G_dropAtEdge_60 : decode b_G_dropAtEdge 60 = .ok (.aload_n 0, 1) := by decide +kernel
theorem d_G_dropAtEdge_61 : decode b_G_dropAtEdge 61 = .ok (.getfield 15, 3) := by decide +kernel
theorem d_G_dropAtEdge_64 : decode b_G_dropAtEdge 64 = .ok (.iload_n 1, 1) := by decide +kernel
theorem d_G_dropAtEdge_65 : decode b_G_dropAtEdge 65 = .ok (.aload_n 0, 1) := by decide +kernel
theorem d_G_dropAtEdge_66 : decode b_G_dropAtEdge 66 = .ok (.getfield 15, 3) := by decide +kernel
theorem d_G_dropAtEdge_69 : decode b_G_dropAtEdge 69 = .ok (.iload_n 2, 1) := by decide +kernel
theorem d_G_dropAtEdge_70 : decode b_G_dropAtEdge 70 = .ok (.iaload, 1) := by decide +kernel
theorem d_G_dropAtEdge_71 : decode b_G_dropAtEdge 71 = .ok (.iastore, 1) := by decide +kernel
theorem d_G_dropAtEdge_72 : decode b_G_dropAtEdge 72 = .ok (.aload_n 0, 1) := by decide +kernel
theorem d_G_dropAtEdge_73 : decode b_G_dropAtEdge 73 = .ok (.getfield 18, 3) := by decide +kernel
theorem d_G_dropAtEdge_76 : decode b_G_dropAtEdge 76 = .ok (.iload_n 1, 1) := by decide +kernel
theorem d_G_dropAtEdge_77 : decode b_G_dropAtEdge 77 = .ok (.aload_n 0, 1) := by decide +kernel
theorem d_G_dropAtEdge_78 : decode b_G_dropAtEdge 78 = .ok (.getfield 18, 3) := by decide +kernel
theorem d_G_dropAtEdge_81 : decode b_G_dropAtEdge 81 = .ok (.iload_n 2, 1) := by decide +kernel
theorem d_G_dropAtEdge_82 : decode b_G_dropAtEdge 82 = .ok (.iaload, 1) := by decide +kernel
theorem d_G_dropAtEdge_83 : decode b_G_dropAtEdge 83 = .ok (.iastore, 1) := by decide +kernel
theorem d_G_dropAtEdge_84 : decode b_G_dropAtEdge 84 = .ok (.aload_n 0, 1) := by decide +kernel
theorem d_G_dropAtEdge_85 : decode b_G_dropAtEdge 85 = .ok (.getfield 21, 3) := by decide +kernel
theorem d_G_dropAtEdge_88 : decode b_G_dropAtEdge 88 = .ok (.iload_n 1, 1) := by decide +kernel
theorem d_G_dropAtEdge_89 : decode b_G_dropAtEdge 89 = .ok (.aload_n 0, 1) := by decide +kernel
theorem d_G_dropAtEdge_90 : decode b_G_dropAtEdge 90 = .ok (.getfield 21, 3) := by decide +kernel
theorem d_G_dropAtEdge_93 : decode b_G_dropAtEdge 93 = .ok (.iload_n 2, 1) := by decide +kernel
theorem d_G_dropAtEdge_94 : decode b_G_dropAtEdge 94 = .ok (.iaload, 1) := by decide +kernel
theorem d_G_dropAtEdge_95 : decode b_G_dropAtEdge 95 = .ok (.iastore, 1) := by decide +kernel
theorem d_G_dropAtEdge_96 : decode b_G_dropAtEdge 96 = .ok (.aload_n 0, 1) := by decide +kernel
theorem d_G_dropAtEdge_97 : decode b_G_dropAtEdge 97 = .ok (.getfield 24, 3) := by decide +kernel
theorem d_G_dropAtEdge_100 : decode b_G_dropAtEdge 100 = .ok (.iload_n 1, 1) := by decide +kernel
theorem d_G_dropAtEdge_101 : decode b_G_dropAtEdge 101 = .ok (.aload_n 0, 1) := by decide +kernel
theorem d_G_dropAtEdge_102 : decode b_G_dropAtEdge 102 = .ok (.getfield 24, 3) := by decide +kernel
theorem d_G_dropAtEdge_105 : decode b_G_dropAtEdge 105 = .ok (.iload_n 2, 1) := by decide +kernel
theorem d_G_dropAtEdge_106 : decode b_G_dropAtEdge 106 = .ok (.iaload, 1) := by decide +kernel
theorem d_G_dropAtEdge_107 : decode b_G_dropAtEdge 107 = .ok (.iastore, 1) := by decide +kernel
theorem d_G_dropAtEdge_108 : decode b_G_dropAtEdge 108 = .ok (.aload_n 0, 1) := by decide +kernel
theorem d_G_dropAtEdge_109 : decode b_G_dropAtEdge 109 = .ok (.getfield 27, 3) := by decide +kernel
theorem d_G_dropAtEdge_112 : decode b_G_dropAtEdge 112 = .ok (.iload_n 1, 1) := by decide +kernel
theorem d_G_dropAtEdge_113 : decode b_G_dropAtEdge 113 = .ok (.aload_n 0, 1) := by decide +kernel
theorem d_G_dropAtEdge_114 : decode b_G_dropAtEdge 114 = .ok (.getfield 27, 3) := by decide +kernel
theorem d_G_dropAtEdge_117 : decode b_G_dropAtEdge 117 = .ok (.iload_n 2, 1) := by decide +kernel
theorem d_G_dropAtEdge_118 : decode b_G_dropAtEdge 118 = .ok (.iaload, 1) := by decide +kernel
theorem d_G_dropAtEdge_119 : decode b_G_dropAtEdge 119 = .ok (.iastore, 1) := by decide +kernel
theorem d_G_dropAtEdge_120 : decode b_G_dropAtEdge 120 = .ok (.iinc 1 1, 3) := by decide +kernel
theorem d_G_dropAtEdge_123 : decode b_G_dropAtEdge 123 = .ok (.iinc 2 1, 3) := by decide +kernel
theorem d_G_dropAtEdge_126 : decode b_G_dropAtEdge 126 = .ok (.goto (-122), 3) := by decide +kernel
theorem d_G_dropAtEdge_129 : decode b_G_dropAtEdge 129 = .ok (.aload_n 0, 1) := by decide +kernel
theorem d_G_dropAtEdge_130 : decode b_G_dropAtEdge 130 = .ok (.iload_n 1, 1) := by decide +kernel
theorem d_G_dropAtEdge_131 : decode b_G_dropAtEdge 131 = .ok (.putfield 46, 3) := by decide +kernel
theorem d_G_dropAtEdge_134 : decode b_G_dropAtEdge 134 = .ok (.return_, 1) := by decide +kernel
theorem d_G_wideOf_0 : decode b_G_wideOf 0 = .ok (.aload_n 0, 1) := by decide +kernel
theorem d_G_wideOf_1 : decode b_G_wideOf 1 = .ok (.getfield 21, 3) := by decide +kernel
theorem d_G_wideOf_4 : decode b_G_wideOf 4 = .ok (.iload_n 1, 1) := by decide +kernel
theorem d_G_wideOf_5 : decode b_G_wideOf 5 = .ok (.iaload, 1) := by decide +kernel
theorem d_G_wideOf_6 : decode b_G_wideOf 6 = .ok (.aload_n 0, 1) := by decide +kernel
theorem d_G_wideOf_7 : decode b_G_wideOf 7 = .ok (.getfield 15, 3) := by decide +kernel
theorem d_G_wideOf_10 : decode b_G_wideOf 10 = .ok (.iload_n 1, 1) := by decide +kernel
theorem d_G_wideOf_11 : decode b_G_wideOf 11 = .ok (.iaload, 1) := by decide +kernel
theorem d_G_wideOf_12 : decode b_G_wideOf 12 = .ok (.isub, 1) := by decide +kernel
theorem d_G_wideOf_13 : decode b_G_wideOf 13 = .ok (.iconst 1, 1) := by decide +kernel
theorem d_G_wideOf_14 : decode b_G_wideOf 14 = .ok (.iadd, 1) := by decide +kernel
theorem d_G_wideOf_15 : decode b_G_wideOf 15 = .ok (.ireturn, 1) := by decide +kernel
theorem d_G_highOf_0 : decode b_G_highOf 0 = .ok (.aload_n 0, 1) := by decide +kernel
theorem d_G_highOf_1 : decode b_G_highOf 1 = .ok (.getfield 24, 3) := by decide +kernel
theorem d_G_highOf_4 : decode b_G_highOf 4 = .ok (.iload_n 1, 1) := by decide +kernel
theorem d_G_highOf_5 : decode b_G_highOf 5 = .ok (.iaload, 1) := by decide +kernel
theorem d_G_highOf_6 : decode b_G_highOf 6 = .ok (.aload_n 0, 1) := by decide +kernel
theorem d_G_highOf_7 : decode b_G_highOf 7 = .ok (.getfield 18, 3) := by decide +kernel
theorem d_G_highOf_10 : decode b_G_highOf 10 = .ok (.iload_n 1, 1) := by decide +kernel
theorem d_G_highOf_11 : decode b_G_highOf 11 = .ok (.iaload, 1) := by decide +kernel
theorem d_G_highOf_12 : decode b_G_highOf 12 = .ok (.isub, 1) := by decide +kernel
theorem d_G_highOf_13 : decode b_G_highOf 13 = .ok (.iconst 1, 1) := by decide +kernel
theorem d_G_highOf_14 : decode b_G_highOf 14 = .ok (.iadd, 1) := by decide +kernel
theorem d_G_highOf_15 : decode b_G_highOf 15 = .ok (.ireturn, 1) := by decide +kernel
theorem d_G_boxOf_0 : decode b_G_boxOf 0 = .ok (.iload_n 2, 1) := by decide +kernel
theorem d_G_boxOf_1 : decode b_G_boxOf 1 = .ok (.tableswitch 47 0 2 #[27, 34, 41], 27) := by decide +kernel
theorem d_G_boxOf_28 : decode b_G_boxOf 28 = .ok (.aload_n 0, 1) := by decide +kernel
theorem d_G_boxOf_29 : decode b_G_boxOf 29 = .ok (.getfield 15, 3) := by decide +kernel
theorem d_G_boxOf_32 : decode b_G_boxOf 32 = .ok (.iload_n 1, 1) := by decide +kernel
theorem d_G_boxOf_33 : decode b_G_boxOf 33 = .ok (.iaload, 1) := by decide +kernel
theorem d_G_boxOf_34 : decode b_G_boxOf 34 = .ok (.ireturn, 1) := by decide +kernel
theorem d_G_boxOf_35 : decode b_G_boxOf 35 = .ok (.aload_n 0, 1) := by decide +kernel
theorem d_G_boxOf_36 : decode b_G_boxOf 36 = .ok (.getfield 18, 3) := by decide +kernel
theorem d_G_boxOf_39 : decode b_G_boxOf 39 = .ok (.iload_n 1, 1) := by decide +kernel
theorem d_G_boxOf_40 : decode b_G_boxOf 40 = .ok (.iaload, 1) := by decide +kernel
theorem d_G_boxOf_41 : decode b_G_boxOf 41 = .ok (.ireturn, 1) := by decide +kernel
theorem d_G_boxOf_42 : decode b_G_boxOf 42 = .ok (.aload_n 0, 1) := by decide +kernel
theorem d_G_boxOf_43 : decode b_G_boxOf 43 = .ok (.iload_n 1, 1) := by decide +kernel
theorem d_G_boxOf_44 : decode b_G_boxOf 44 = .ok (.invokevirtual 73, 3) := by decide +kernel
theorem d_G_boxOf_47 : decode b_G_boxOf 47 = .ok (.ireturn, 1) := by decide +kernel
theorem d_G_boxOf_48 : decode b_G_boxOf 48 = .ok (.aload_n 0, 1) := by decide +kernel
theorem d_G_boxOf_49 : decode b_G_boxOf 49 = .ok (.iload_n 1, 1) := by decide +kernel
theorem d_G_boxOf_50 : decode b_G_boxOf 50 = .ok (.invokevirtual 77, 3) := by decide +kernel
theorem d_G_boxOf_53 : decode b_G_boxOf 53 = .ok (.ireturn, 1) := by decide +kernel
theorem d_C_init_0 : decode b_C_init 0 = .ok (.aload_n 0, 1) := by decide +kernel
theorem d_C_init_1 : decode b_C_init 1 = .ok (.invokespecial 3, 3) := by decide +kernel
theorem d_C_init_4 : decode b_C_init 4 = .ok (.aload_n 0, 1) := by decide +kernel
theorem d_C_init_5 : decode b_C_init 5 = .ok (.bipush 6, 2) := by decide +kernel
theorem d_C_init_7 : decode b_C_init 7 = .ok (.newarray .int, 2) := by decide +kernel
theorem d_C_init_9 : decode b_C_init 9 = .ok (.putfield 9, 3) := by decide +kernel
theorem d_C_init_12 : decode b_C_init 12 = .ok (.aload_n 0, 1) := by decide +kernel
theorem d_C_init_13 : decode b_C_init 13 = .ok (.bipush 6, 2) := by decide +kernel
theorem d_C_init_15 : decode b_C_init 15 = .ok (.newarray .int, 2) := by decide +kernel
theorem d_C_init_17 : decode b_C_init 17 = .ok (.putfield 15, 3) := by decide +kernel
theorem d_C_init_20 : decode b_C_init 20 = .ok (.aload_n 0, 1) := by decide +kernel
theorem d_C_init_21 : decode b_C_init 21 = .ok (.bipush 6, 2) := by decide +kernel
theorem d_C_init_23 : decode b_C_init 23 = .ok (.newarray .int, 2) := by decide +kernel
theorem d_C_init_25 : decode b_C_init 25 = .ok (.putfield 18, 3) := by decide +kernel
theorem d_C_init_28 : decode b_C_init 28 = .ok (.aload_n 0, 1) := by decide +kernel
theorem d_C_init_29 : decode b_C_init 29 = .ok (.bipush 6, 2) := by decide +kernel
theorem d_C_init_31 : decode b_C_init 31 = .ok (.newarray .int, 2) := by decide +kernel
theorem d_C_init_33 : decode b_C_init 33 = .ok (.putfield 21, 3) := by decide +kernel
theorem d_C_init_36 : decode b_C_init 36 = .ok (.aload_n 0, 1) := by decide +kernel
theorem d_C_init_37 : decode b_C_init 37 = .ok (.sipush 576, 3) := by decide +kernel
theorem d_C_init_40 : decode b_C_init 40 = .ok (.newarray .int, 2) := by decide +kernel
theorem d_C_init_42 : decode b_C_init 42 = .ok (.putfield 24, 3) := by decide +kernel
theorem d_C_init_45 : decode b_C_init 45 = .ok (.aload_n 0, 1) := by decide +kernel
theorem d_C_init_46 : decode b_C_init 46 = .ok (.iload_n 1, 1) := by decide +kernel
theorem d_C_init_47 : decode b_C_init 47 = .ok (.putfield 27, 3) := by decide +kernel
theorem d_C_init_50 : decode b_C_init 50 = .ok (.aload_n 0, 1) := by decide +kernel
theorem d_C_init_51 : decode b_C_init 51 = .ok (.iload_n 2, 1) := by decide +kernel
theorem d_C_init_52 : decode b_C_init 52 = .ok (.putfield 31, 3) := by decide +kernel
theorem d_C_init_55 : decode b_C_init 55 = .ok (.return_, 1) := by decide +kernel
theorem d_C_find_0 : decode b_C_find 0 = .ok (.aload_n 0, 1) := by decide +kernel
theorem d_C_find_1 : decode b_C_find 1 = .ok (.aload_n 1, 1) := by decide +kernel
theorem d_C_find_2 : decode b_C_find 2 = .ok (.invokevirtual 34, 3) := by decide +kernel
theorem d_C_find_5 : decode b_C_find 5 = .ok (.aload_n 0, 1) := by decide +kernel
theorem d_C_find_6 : decode b_C_find 6 = .ok (.iconst 0, 1) := by decide +kernel
theorem d_C_find_7 : decode b_C_find 7 = .ok (.putfield 38, 3) := by decide +kernel
theorem d_C_find_10 : decode b_C_find 10 = .ok (.iconst 0, 1) := by decide +kernel
theorem d_C_find_11 : decode b_C_find 11 = .ok (.istore_n 2, 1) := by decide +kernel
theorem d_C_find_12 : decode b_C_find 12 = .ok (.iload_n 2, 1) := by decide +kernel
theorem d_C_find_13 : decode b_C_find 13 = .ok (.bipush 6, 2) := by decide +kernel
theorem d_C_find_15 : decode b_C_find 15 = .ok (.if_icmp .ge 38, 3) := by decide +kernel
theorem d_C_find_18 : decode b_C_find 18 = .ok (.aload_n 0, 1) := by decide +kernel
theorem d_C_find_19 : decode b_C_find 19 = .ok (.iload_n 2, 1) := by decide +kernel
theorem d_C_find_20 : decode b_C_find 20 = .ok (.invokevirtual 41, 3) := by decide +kernel
theorem d_C_find_23 : decode b_C_find 23 = .ok (.aload_n 0, 1) := by decide +kernel
theorem d_C_find_24 : decode b_C_find 24 = .ok (.getfield 45, 3) := by decide +kernel
theorem d_C_find_27 : decode b_C_find 27 = .ok (.iconst 4, 1) := by decide +kernel
theorem d_C_find_28 : decode b_C_find 28 = .ok (.if_icmp .ge 4, 3) := by decide +kernel
theorem d_C_find_31 : decode b_C_find 31 = .ok (.return_, 1) := by decide +kernel
theorem d_C_find_32 : decode b_C_find 32 = .ok (.aload_n 0, 1) := by decide +kernel
theorem d_C_find_33 : decode b_C_find 33 = .ok (.iload_n 2, 1) := by decide +kernel
theorem d_C_find_34 : decode b_C_find 34 = .ok (.invokevirtual 48, 3) := by decide +kernel
theorem d_C_find_37 : decode b_C_find 37 = .ok (.aload_n 0, 1) := by decide +kernel
theorem d_C_find_38 : decode b_C_find 38 = .ok (.dup, 1) := by decide +kernel
theorem d_C_find_39 : decode b_C_find 39 = .ok (.getfield 38, 3) := by decide +kernel
theorem d_C_find_42 : decode b_C_find 42 = .ok (.iconst 1, 1) := by decide +kernel
theorem d_C_find_43 : decode b_C_find 43 = .ok (.iadd, 1) := by decide +kernel
theorem d_C_find_44 : decode b_C_find 44 = .ok (.putfield 38, 3) := by decide +kernel
theorem d_C_find_47 : decode b_C_find 47 = .ok (.iinc 2 1, 3) := by decide +kernel
theorem d_C_find_50 : decode b_C_find 50 = .ok (.goto (-38), 3) := by decide +kernel
theorem d_C_find_53 : decode b_C_find 53 = .ok (.return_, 1) := by decide +kernel
theorem d_C_measure_0 : decode b_C_measure 0 = .ok (.iconst 0, 1) := by decide +kernel
theorem d_C_measure_1 : decode b_C_measure 1 = .ok (.istore_n 2, 1) := by decide +kernel
theorem d_C_measure_2 : decode b_C_measure 2 = .ok (.iload_n 2, 1) := by decide +kernel
theorem d_C_measure_3 : decode b_C_measure 3 = .ok (.aload_n 0, 1) := by decide +kernel
theorem d_C_measure_4 : decode b_C_measure 4 = .ok (.getfield 31, 3) := by decide +kernel
theorem d_C_measure_7 : decode b_C_measure 7 = .ok (.if_icmp .ge 62, 3) := by decide +kernel
theorem d_C_measure_10 : decode b_C_measure 10 = .ok (.iconst 0, 1) := by decide +kernel
theorem d_C_measure_11 : decode b_C_measure 11 = .ok (.istore_n 3, 1) := by decide +kernel
theorem d_C_measure_12 : decode b_C_measure 12 = .ok (.aload_n 0, 1) := by decide +kernel
theorem d_C_measure_13 : decode b_C_measure 13 = .ok (.getfield 27, 3) := by decide +kernel
theorem d_C_measure_16 : decode b_C_measure 16 = .ok (.iconst 1, 1) := by decide +kernel
theorem d_C_measure_17 : decode b_C_measure 17 = .ok (.isub, 1) := by decide +kernel
theorem d_C_measure_18 : decode b_C_measure 18 = .ok (.istore 4, 2) := by decide +kernel
theorem d_C_measure_20 : decode b_C_measure 20 = .ok (.iload 4, 2) := by decide +kernel
theorem d_C_measure_22 : decode b_C_measure 22 = .ok (.ifCond .lt 41, 3) := by decide +kernel
theorem d_C_measure_25 : decode b_C_measure 25 = .ok (.iload_n 2, 1) := by decide +kernel
theorem d_C_measure_26 : decode b_C_measure 26 = .ok (.bipush 24, 2) := by decide +kernel
theorem d_C_measure_28 : decode b_C_measure 28 = .ok (.imul, 1) := by decide +kernel
theorem d_C_measure_29 : decode b_C_measure 29 = .ok (.iload 4, 2) := by decide +kernel
theorem d_C_measure_31 : decode b_C_measure 31 = .ok (.iadd, 1) := by decide +kernel
theorem d_C_measure_32 : decode b_C_measure 32 = .ok (.istore 5, 2) := by decide +kernel
theorem d_C_measure_34 : decode b_C_measure 34 = .ok (.aload_n 1, 1) := by decide +kernel
theorem d_C_measure_35 : decode b_C_measure 35 = .ok (.iload 5, 2) := by decide +kernel
theorem d_C_measure_37 : decode b_C_measure 37 = .ok (.baload, 1) := by decide +kernel
theorem d_C_measure_38 : decode b_C_measure 38 = .ok (.ifCond .eq 7, 3) := by decide +kernel
theorem d_C_measure_41 : decode b_C_measure 41 = .ok (.iconst 0, 1) := by decide +kernel
theorem d_C_measure_42 : decode b_C_measure 42 = .ok (.goto 6, 3) := by decide +kernel
theorem d_C_measure_45 : decode b_C_measure 45 = .ok (.iload_n 3, 1) := by decide +kernel
theorem d_C_measure_46 : decode b_C_measure 46 = .ok (.iconst 1, 1) := by decide +kernel
theorem d_C_measure_47 : decode b_C_measure 47 = .ok (.iadd, 1) := by decide +kernel
theorem d_C_measure_48 : decode b_C_measure 48 = .ok (.istore_n 3, 1) := by decide +kernel
theorem d_C_measure_49 : decode b_C_measure 49 = .ok (.aload_n 0, 1) := by decide +kernel
theorem d_C_measure_50 : decode b_C_measure 50 = .ok (.getfield 24, 3) := by decide +kernel
theorem d_C_measure_53 : decode b_C_measure 53 = .ok (.iload 5, 2) := by decide +kernel
theorem d_C_measure_55 : decode b_C_measure 55 = .ok (.iload_n 3, 1) := by decide +kernel
theorem d_C_measure_56 : decode b_C_measure 56 = .ok (.iastore, 1) := by decide +kernel
theorem d_C_measure_57 : decode b_C_measure 57 = .ok (.iinc 4 (-1), 3) := by decide +kernel
theorem d_C_measure_60 : decode b_C_measure 60 = .ok (.goto (-40), 3) := by decide +kernel
theorem d_C_measure_63 : decode b_C_measure 63 = .ok (.iinc 2 1, 3) := by decide +kernel
theorem d_C_measure_66 : decode b_C_measure 66 = .ok (.goto (-64), 3) := by decide +kernel
theorem d_C_measure_69 : decode b_C_measure 69 = .ok (.return_, 1) := by decide +kernel
theorem d_C_findGreatest_0 : decode b_C_findGreatest 0 = .ok (.aload_n 0, 1) := by decide +kernel
theorem d_C_findGreatest_1 : decode b_C_findGreatest 1 = .ok (.iconst 0, 1) := by decide +kernel
theorem d_C_findGreatest_2 : decode b_C_findGreatest 2 = .ok (.putfield 45, 3) := by decide +kernel
theorem d_C_findGreatest_5 : decode b_C_findGreatest 5 = .ok (.iconst 0, 1) := by decide +kernel
theorem d_C_findGreatest_6 : decode b_C_findGreatest 6 = .ok (.istore_n 2, 1) := by decide +kernel
theorem d_C_findGreatest_7 : decode b_C_findGreatest 7 = .ok (.iload_n 2, 1) := by decide +kernel
theorem d_C_findGreatest_8 : decode b_C_findGreatest 8 = .ok (.aload_n 0, 1) := by decide +kernel
theorem d_C_findGreatest_9 : decode b_C_findGreatest 9 = .ok (.getfield 31, 3) := by decide +kernel
theorem d_C_findGreatest_12 : decode b_C_findGreatest 12 = .ok (.if_icmp .ge 32, 3) := by decide +kernel
theorem d_C_findGreatest_15 : decode b_C_findGreatest 15 = .ok (.iconst 0, 1) := by decide +kernel
theorem d_C_findGreatest_16 : decode b_C_findGreatest 16 = .ok (.istore_n 3, 1) := by decide +kernel
theorem d_C_findGreatest_17 : decode b_C_findGreatest 17 = .ok (.iload_n 3, 1) := by decide +kernel
theorem d_C_findGreatest_18 : decode b_C_findGreatest 18 = .ok (.aload_n 0, 1) := by decide +kernel
theorem d_C_findGreatest_19 : decode b_C_findGreatest 19 = .ok (.getfield 27, 3) := by decide +kernel
theorem d_C_findGreatest_22 : decode b_C_findGreatest 22 = .ok (.if_icmp .ge 16, 3) := by decide +kernel
theorem d_C_findGreatest_25 : decode b_C_findGreatest 25 = .ok (.aload_n 0, 1) := by decide +kernel
theorem d_C_findGreatest_26 : decode b_C_findGreatest 26 = .ok (.iload_n 1, 1) := by decide +kernel
theorem d_C_findGreatest_27 : decode b_C_findGreatest 27 = .ok (.iload_n 3, 1) := by decide +kernel
theorem d_C_findGreatest_28 : decode b_C_findGreatest 28 = .ok (.iload_n 2, 1) := by decide +kernel
theorem d_C_findGreatest_29 : decode b_C_findGreatest 29 = .ok (.invokevirtual 51, 3) := by decide +kernel
theorem d_C_findGreatest_32 : decode b_C_findGreatest 32 = .ok (.iinc 3 1, 3) := by decide +kernel
theorem d_C_findGreatest_35 : decode b_C_findGreatest 35 = .ok (.goto (-18), 3) := by decide +kernel
theorem d_C_findGreatest_38 : decode b_C_findGreatest 38 = .ok (.iinc 2 1, 3) := by decide +kernel
theorem d_C_findGreatest_41 : decode b_C_findGreatest 41 = .ok (.goto (-34), 3) := by decide +kernel
theorem d_C_findGreatest_44 : decode b_C_findGreatest 44 = .ok (.return_, 1) := by decide +kernel
theorem d_C_growFrom_0 : decode b_C_growFrom 0 = .ok (.aload_n 0, 1) := by decide +kernel
theorem d_C_growFrom_1 : decode b_C_growFrom 1 = .ok (.getfield 27, 3) := by decide +kernel
theorem d_C_growFrom_4 : decode b_C_growFrom 4 = .ok (.iload_n 2, 1) := by decide +kernel
theorem d_C_growFrom_5 : decode b_C_growFrom 5 = .ok (.isub, 1) := by decide +kernel
theorem d_C_growFrom_6 : decode b_C_growFrom 6 = .ok (.istore 4, 2) := by decide +kernel
theorem d_C_growFrom_8 : decode b_C_growFrom 8 = .ok (.iconst 1, 1) := by decide +kernel
theorem d_C_growFrom_9 : decode b_C_growFrom 9 = .ok (.istore 5, 2) := by decide +kernel
theorem d_C_growFrom_11 : decode b_C_growFrom 11 = .ok (.iload 5, 2) := by decide +kernel
theorem d_C_growFrom_13 : decode b_C_growFrom 13 = .ok (.aload_n 0, 1) := by decide +kernel
theorem d_C_growFrom_14 : decode b_C_growFrom 14 = .ok (.getfield 31, 3) := by decide +kernel
theorem d_C_growFrom_17 : decode b_C_growFrom 17 = .ok (.iload_n 3, 1) := by decide +kernel
theorem d_C_growFrom_18 : decode b_C_growFrom 18 = .ok (.isub, 1) := by decide +kernel
theorem d_C_growFrom_19 : decode b_C_growFrom 19 = .ok (.if_icmp .gt 100, 3) := by decide +kernel
theorem d_C_growFrom_22 : decode b_C_growFrom 22 = .ok (.iload 4, 2) := by decide +kernel
theorem d_C_growFrom_24 : decode b_C_growFrom 24 = .ok (.aload_n 0, 1) := by decide +kernel
theorem d_C_growFrom_25 : decode b_C_growFrom 25 = .ok (.getfield 24, 3) := by decide +kernel
theorem d_C_growFrom_28 : decode b_C_growFrom 28 = .ok (.iload_n 3, 1) := by decide +kernel
theorem d_C_growFrom_29 : decode b_C_growFrom 29 = .ok (.iload 5, 2) := by decide +kernel
theorem d_C_growFrom_31 : decode b_C_growFrom 31 = .ok (.iadd, 1) := by decide +kernel
theorem d_C_growFrom_32 : decode b_C_growFrom 32 = .ok (.iconst 1, 1) := by decide +kernel
theorem d_C_growFrom_33 : decode b_C_growFrom 33 = .ok (.isub, 1) := by decide +kernel
theorem d_C_growFrom_34 : decode b_C_growFrom 34 = .ok (.bipush 24, 2) := by decide +kernel
theorem d_C_growFrom_36 : decode b_C_growFrom 36 = .ok (.imul, 1) := by decide +kernel
theorem d_C_growFrom_37 : decode b_C_growFrom 37 = .ok (.iload_n 2, 1) := by decide +kernel
theorem d_C_growFrom_38 : decode b_C_growFrom 38 = .ok (.iadd, 1) := by decide +kernel
theorem d_C_growFrom_39 : decode b_C_growFrom 39 = .ok (.iaload, 1) := by decide +kernel
theorem d_C_growFrom_40 : decode b_C_growFrom 40 = .ok (.invokestatic 55, 3) := by decide +kernel
theorem d_C_growFrom_43 : decode b_C_growFrom 43 = .ok (.istore 4, 2) := by decide +kernel
theorem d_C_growFrom_45 : decode b_C_growFrom 45 = .ok (.iload 4, 2) := by decide +kernel
theorem d_C_growFrom_47 : decode b_C_growFrom 47 = .ok (.aload_n 0, 1) := by decide +kernel
theorem d_C_growFrom_48 : decode b_C_growFrom 48 = .ok (.getfield 31, 3) := by decide +kernel
theorem d_C_growFrom_51 : decode b_C_growFrom 51 = .ok (.iload_n 3, 1) := by decide +kernel
theorem d_C_growFrom_52 : decode b_C_growFrom 52 = .ok (.isub, 1) := by decide +kernel
theorem d_C_growFrom_53 : decode b_C_growFrom 53 = .ok (.imul, 1) := by decide +kernel
theorem d_C_growFrom_54 : decode b_C_growFrom 54 = .ok (.aload_n 0, 1) := by decide +kernel
theorem d_C_growFrom_55 : decode b_C_growFrom 55 = .ok (.getfield 45, 3) := by decide +kernel
theorem d_C_growFrom_58 : decode b_C_growFrom 58 = .ok (.if_icmp .gt 4, 3) := by decide +kernel
theorem d_C_growFrom_61 : decode b_C_growFrom 61 = .ok (.return_, 1) := by decide +kernel
theorem d_C_growFrom_62 : decode b_C_growFrom 62 = .ok (.iload 4, 2) := by decide +kernel
theorem d_C_growFrom_64 : decode b_C_growFrom 64 = .ok (.iload 5, 2) := by decide +kernel
theorem d_C_growFrom_66 : decode b_C_growFrom 66 = .ok (.imul, 1) := by decide +kernel
theorem d_C_growFrom_67 : decode b_C_growFrom 67 = .ok (.aload_n 0, 1) := by decide +kernel
theorem d_C_growFrom_68 : decode b_C_growFrom 68 = .ok (.getfield 45, 3) := by decide +kernel
theorem d_C_growFrom_71 : decode b_C_growFrom 71 = .ok (.if_icmp .le 42, 3) := by decide +kernel
theorem d_C_growFrom_74 : decode b_C_growFrom 74 = .ok (.aload_n 0, 1) := by decide +kernel
theorem d_C_growFrom_75 : decode b_C_growFrom 75 = .ok (.iload 4, 2) := by decide +kernel
theorem d_C_growFrom_77 : decode b_C_growFrom 77 = .ok (.iload 5, 2) := by decide +kernel
theorem d_C_growFrom_79 : decode b_C_growFrom 79 = .ok (.imul, 1) := by decide +kernel
theorem d_C_growFrom_80 : decode b_C_growFrom 80 = .ok (.putfield 45, 3) := by decide +kernel
theorem d_C_growFrom_83 : decode b_C_growFrom 83 = .ok (.aload_n 0, 1) := by decide +kernel
theorem d_C_growFrom_84 : decode b_C_growFrom 84 = .ok (.getfield 9, 3) := by decide +kernel
theorem d_C_growFrom_87 : decode b_C_growFrom 87 = .ok (.iload_n 1, 1) := by decide +kernel
theorem d_C_growFrom_88 : decode b_C_growFrom 88 = .ok (.iload_n 2, 1) := by decide +kernel
theorem d_C_growFrom_89 : decode b_C_growFrom 89 = .ok (.iastore, 1) := by decide +kernel
theorem d_C_growFrom_90 : decode b_C_growFrom 90 = .ok (.aload_n 0, 1) := by decide +kernel
theorem d_C_growFrom_91 : decode b_C_growFrom 91 = .ok (.getfield 15, 3) := by decide +kernel
theorem d_C_growFrom_94 : decode b_C_growFrom 94 = .ok (.iload_n 1, 1) := by decide +kernel
theorem d_C_growFrom_95 : decode b_C_growFrom 95 = .ok (.iload_n 3, 1) := by decide +kernel
theorem d_C_growFrom_96 : decode b_C_growFrom 96 = .ok (.iastore, 1) := by decide +kernel
theorem d_C_growFrom_97 : decode b_C_growFrom 97 = .ok (.aload_n 0, 1) := by decide +kernel
theorem d_C_growFrom_98 : decode b_C_growFrom 98 = .ok (.getfield 18, 3) := by decide +kernel
theorem d_C_growFrom_101 : decode b_C_growFrom 101 = .ok (.iload_n 1, 1) := by decide +kernel
theorem d_C_growFrom_102 : decode b_C_growFrom 102 = .ok (.iload 4, 2) := by decide +kernel
theorem d_C_growFrom_104 : decode b_C_growFrom 104 = .ok (.iastore, 1) := by decide +kernel
theorem d_C_growFrom_105 : decode b_C_growFrom 105 = .ok (.aload_n 0, 1) := by decide +kernel
theorem d_C_growFrom_106 : decode b_C_growFrom 106 = .ok (.getfield 21, 3) := by decide +kernel
theorem d_C_growFrom_109 : decode b_C_growFrom 109 = .ok (.iload_n 1, 1) := by decide +kernel
theorem d_C_growFrom_110 : decode b_C_growFrom 110 = .ok (.iload 5, 2) := by decide +kernel
theorem d_C_growFrom_112 : decode b_C_growFrom 112 = .ok (.iastore, 1) := by decide +kernel
theorem d_C_growFrom_113 : decode b_C_growFrom 113 = .ok (.iinc 5 1, 3) := by decide +kernel
theorem d_C_growFrom_116 : decode b_C_growFrom 116 = .ok (.goto (-105), 3) := by decide +kernel
theorem d_C_growFrom_119 : decode b_C_growFrom 119 = .ok (.return_, 1) := by decide +kernel
theorem d_C_block_0 : decode b_C_block 0 = .ok (.aload_n 0, 1) := by decide +kernel
theorem d_C_block_1 : decode b_C_block 1 = .ok (.getfield 9, 3) := by decide +kernel
theorem d_C_block_4 : decode b_C_block 4 = .ok (.iload_n 1, 1) := by decide +kernel
theorem d_C_block_5 : decode b_C_block 5 = .ok (.iaload, 1) := by decide +kernel
theorem d_C_block_6 : decode b_C_block 6 = .ok (.aload_n 0, 1) := by decide +kernel
theorem d_C_block_7 : decode b_C_block 7 = .ok (.getfield 18, 3) := by decide +kernel
theorem d_C_block_10 : decode b_C_block 10 = .ok (.iload_n 1, 1) := by decide +kernel
theorem d_C_block_11 : decode b_C_block 11 = .ok (.iaload, 1) := by decide +kernel
theorem d_C_block_12 : decode b_C_block 12 = .ok (.iadd, 1) := by decide +kernel
theorem d_C_block_13 : decode b_C_block 13 = .ok (.istore_n 2, 1) := by decide +kernel
theorem d_C_block_14 : decode b_C_block 14 = .ok (.aload_n 0, 1) := by decide +kernel
theorem d_C_block_15 : decode b_C_block 15 = .ok (.getfield 15, 3) := by decide +kernel
theorem d_C_block_18 : decode b_C_block 18 = .ok (.iload_n 1, 1) := by decide +kernel
theorem d_C_block_19 : decode b_C_block 19 = .ok (.iaload, 1) := by decide +kernel
theorem d_C_block_20 : decode b_C_block 20 = .ok (.istore_n 3, 1) := by decide +kernel
theorem d_C_block_21 : decode b_C_block 21 = .ok (.iload_n 3, 1) := by decide +kernel
theorem d_C_block_22 : decode b_C_block 22 = .ok (.aload_n 0, 1) := by decide +kernel
theorem d_C_block_23 : decode b_C_block 23 = .ok (.getfield 15, 3) := by decide +kernel
theorem d_C_block_26 : decode b_C_block 26 = .ok (.iload_n 1, 1) := by decide +kernel
theorem d_C_block_27 : decode b_C_block 27 = .ok (.iaload, 1) := by decide +kernel
theorem d_C_block_28 : decode b_C_block 28 = .ok (.aload_n 0, 1) := by decide +kernel
theorem d_C_block_29 : decode b_C_block 29 = .ok (.getfield 21, 3) := by decide +kernel
theorem d_C_block_32 : decode b_C_block 32 = .ok (.iload_n 1, 1) := by decide +kernel
theorem d_C_block_33 : decode b_C_block 33 = .ok (.iaload, 1) := by decide +kernel
theorem d_C_block_34 : decode b_C_block 34 = .ok (.iadd, 1) := by decide +kernel
theorem d_C_block_35 : decode b_C_block 35 = .ok (.if_icmp .ge 53, 3) := by decide +kernel
theorem d_C_block_38 : decode b_C_block 38 = .ok (.aload_n 0, 1) := by decide +kernel
theorem d_C_block_39 : decode b_C_block 39 = .ok (.getfield 9, 3) := by decide +kernel
theorem d_C_block_42 : decode b_C_block 42 = .ok (.iload_n 1, 1) := by decide +kernel
theorem d_C_block_43 : decode b_C_block 43 = .ok (.iaload, 1) := by decide +kernel
theorem d_C_block_44 : decode b_C_block 44 = .ok (.istore 4, 2) := by decide +kernel
theorem d_C_block_46 : decode b_C_block 46 = .ok (.iload 4, 2) := by decide +kernel
theorem d_C_block_48 : decode b_C_block 48 = .ok (.iload_n 2, 1) := by decide +kernel
theorem d_C_block_49 : decode b_C_block 49 = .ok (.if_icmp .ge 22, 3) := by decide +kernel
theorem d_C_block_52 : decode b_C_block 52 = .ok (.aload_n 0, 1) := by decide +kernel
theorem d_C_block_53 : decode b_C_block 53 = .ok (.getfield 24, 3) := by decide +kernel
theorem d_C_block_56 : decode b_C_block 56 = .ok (.iload_n 3, 1) := by decide +kernel
theorem d_C_block_57 : decode b_C_block 57 = .ok (.bipush 24, 2) := by decide +kernel
theorem d_C_block_59 : decode b_C_block 59 = .ok (.imul, 1) := by decide +kernel
theorem d_C_block_60 : decode b_C_block 60 = .ok (.iload 4, 2) := by decide +kernel
theorem d_C_block_62 : decode b_C_block 62 = .ok (.iadd, 1) := by decide +kernel
theorem d_C_block_63 : decode b_C_block 63 = .ok (.iconst 0, 1) := by decide +kernel
theorem d_C_block_64 : decode b_C_block 64 = .ok (.iastore, 1) := by decide +kernel
theorem d_C_block_65 : decode b_C_block 65 = .ok (.iinc 4 1, 3) := by decide +kernel
theorem d_C_block_68 : decode b_C_block 68 = .ok (.goto (-22), 3) := by decide +kernel
theorem d_C_block_71 : decode b_C_block 71 = .ok (.aload_n 0, 1) := by decide +kernel
theorem d_C_block_72 : decode b_C_block 72 = .ok (.aload_n 0, 1) := by decide +kernel
theorem d_C_block_73 : decode b_C_block 73 = .ok (.getfield 9, 3) := by decide +kernel
theorem d_C_block_76 : decode b_C_block 76 = .ok (.iload_n 1, 1) := by decide +kernel
theorem d_C_block_77 : decode b_C_block 77 = .ok (.iaload, 1) := by decide +kernel
theorem d_C_block_78 : decode b_C_block 78 = .ok (.iload_n 3, 1) := by decide +kernel
theorem d_C_block_79 : decode b_C_block 79 = .ok (.invokevirtual 61, 3) := by decide +kernel
theorem d_C_block_82 : decode b_C_block 82 = .ok (.iinc 3 1, 3) := by decide +kernel
theorem d_C_block_85 : decode b_C_block 85 = .ok (.goto (-64), 3) := by decide +kernel
theorem d_C_block_88 : decode b_C_block 88 = .ok (.return_, 1) := by decide +kernel
theorem d_C_shortenBefore_0 : decode b_C_shortenBefore 0 = .ok (.iload_n 1, 1) := by decide +kernel
theorem d_C_shortenBefore_1 : decode b_C_shortenBefore 1 = .ok (.iconst 1, 1) := by decide +kernel
theorem d_C_shortenBefore_2 : decode b_C_shortenBefore 2 = .ok (.isub, 1) := by decide +kernel
theorem d_C_shortenBefore_3 : decode b_C_shortenBefore 3 = .ok (.istore_n 3, 1) := by decide +kernel
theorem d_C_shortenBefore_4 : decode b_C_shortenBefore 4 = .ok (.iload_n 3, 1) := by decide +kernel
theorem d_C_shortenBefore_5 : decode b_C_shortenBefore 5 = .ok (.ifCond .lt 37, 3) := by decide +kernel
theorem d_C_shortenBefore_8 : decode b_C_shortenBefore 8 = .ok (.iload_n 2, 1) := by decide +kernel
theorem d_C_shortenBefore_9 : decode b_C_shortenBefore 9 = .ok (.bipush 24, 2) := by decide +kernel
theorem d_C_shortenBefore_11 : decode b_C_shortenBefore 11 = .ok (.imul, 1) := by decide +kernel
theorem d_C_shortenBefore_12 : decode b_C_shortenBefore 12 = .ok (.iload_n 3, 1) := by decide +kernel
theorem d_C_shortenBefore_13 : decode b_C_shortenBefore 13 = .ok (.iadd, 1) := by decide +kernel
theorem d_C_shortenBefore_14 : decode b_C_shortenBefore 14 = .ok (.istore 4, 2) := by decide +kernel
theorem d_C_shortenBefore_16 : decode b_C_shortenBefore 16 = .ok (.aload_n 0, 1) := by decide +kernel
theorem d_C_shortenBefore_17 : decode b_C_shortenBefore 17 = .ok (.getfield 24, 3) := by decide +kernel
theorem d_C_shortenBefore_20 : decode b_C_shortenBefore 20 = .ok (.iload 4, 2) := by decide +kernel
theorem d_C_shortenBefore_22 : decode b_C_shortenBefore 22 = .ok (.aload_n 0, 1) := by decide +kernel
theorem d_C_shortenBefore_23 : decode b_C_shortenBefore 23 = .ok (.getfield 24, 3) := by decide +kernel
theorem d_C_shortenBefore_26 : decode b_C_shortenBefore 26 = .ok (.iload 4, 2) := by decide +kernel
theorem d_C_shortenBefore_28 : decode b_C_shortenBefore 28 = .ok (.iaload, 1) := by decide +kernel
theorem d_C_shortenBefore_29 : decode b_C_shortenBefore 29 = .ok (.iload_n 1, 1) := by decide +kernel
theorem d_C_shortenBefore_30 : decode b_C_shortenBefore 30 = .ok (.iload_n 3, 1) := by decide +kernel
theorem d_C_shortenBefore_31 : decode b_C_shortenBefore 31 = .ok (.isub, 1) := by decide +kernel
theorem d_C_shortenBefore_32 : decode b_C_shortenBefore 32 = .ok (.invokestatic 55, 3) := by decide +kernel
theorem d_C_shortenBefore_35 : decode b_C_shortenBefore 35 = .ok (.iastore, 1) := by decide +kernel
theorem d_C_shortenBefore_36 : decode b_C_shortenBefore 36 = .ok (.iinc 3 (-1), 3) := by decide +kernel
theorem d_C_shortenBefore_39 : decode b_C_shortenBefore 39 = .ok (.goto (-35), 3) := by decide +kernel
theorem d_C_shortenBefore_42 : decode b_C_shortenBefore 42 = .ok (.return_, 1) := by decide +kernel
end
