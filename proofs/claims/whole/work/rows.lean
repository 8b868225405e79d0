section
-- ===== PART A: goes FIRST, ahead of the names: the tables' words, and 'selects' of the private methods out of them =====
/-- a private method of a class that the tables say can be made, by its rows of tables_1 -/
def lw_okq (q : MethodName × Nat) : Prop := (q.1.cls ≠ "java/lang/invoke/MethodHandle" ∧ q.1.cls ≠ "java/lang/invoke/VarHandle") ∧ Cond.instantiable q.1.cls q.2 ∈ tables_1 ∧ Cond.privateMethod q.1 ∈ tables_1 ∧ Cond.instanceMethod q.1 ∈ tables_1
theorem lw_p0 : lw_okq (⟨"PageParts", "toldOfParted", "(I)I"⟩, 15) := ⟨⟨by decide +kernel, by decide +kernel⟩, List.mem_of_getElem? (i := 16) (by decide +kernel), List.mem_of_getElem? (i := 199) (by decide +kernel), List.mem_of_getElem? (i := 200) (by decide +kernel)⟩
theorem lw_p1 : lw_okq (⟨"PageParts", "mustBeSample", "(II)V"⟩, 15) := ⟨⟨by decide +kernel, by decide +kernel⟩, List.mem_of_getElem? (i := 16) (by decide +kernel), List.mem_of_getElem? (i := 218) (by decide +kernel), List.mem_of_getElem? (i := 219) (by decide +kernel)⟩
theorem lw_p2 : lw_okq (⟨"java/lang/Throwable", "fillInStackTrace", "(I)Ljava/lang/Throwable;"⟩, 6) := ⟨⟨by decide +kernel, by decide +kernel⟩, List.mem_of_getElem? (i := 260) (by decide +kernel), List.mem_of_getElem? (i := 258) (by decide +kernel), List.mem_of_getElem? (i := 259) (by decide +kernel)⟩
theorem lw_p3 : lw_okq (⟨"PageParts", "paint", "(IIZ)Z"⟩, 15) := ⟨⟨by decide +kernel, by decide +kernel⟩, List.mem_of_getElem? (i := 16) (by decide +kernel), List.mem_of_getElem? (i := 290) (by decide +kernel), List.mem_of_getElem? (i := 291) (by decide +kernel)⟩
theorem lw_p4 : lw_okq (⟨"PageParts", "findClean", "()V"⟩, 15) := ⟨⟨by decide +kernel, by decide +kernel⟩, List.mem_of_getElem? (i := 16) (by decide +kernel), List.mem_of_getElem? (i := 334) (by decide +kernel), List.mem_of_getElem? (i := 335) (by decide +kernel)⟩
theorem lw_p5 : lw_okq (⟨"PageParts$Groups", "isOpen", "([ZZII)Z"⟩, 10) := ⟨⟨by decide +kernel, by decide +kernel⟩, List.mem_of_getElem? (i := 33) (by decide +kernel), List.mem_of_getElem? (i := 345) (by decide +kernel), List.mem_of_getElem? (i := 346) (by decide +kernel)⟩
theorem lw_p6 : lw_okq (⟨"PageParts$Groups", "begin", "(II)V"⟩, 10) := ⟨⟨by decide +kernel, by decide +kernel⟩, List.mem_of_getElem? (i := 33) (by decide +kernel), List.mem_of_getElem? (i := 349) (by decide +kernel), List.mem_of_getElem? (i := 350) (by decide +kernel)⟩
theorem lw_p7 : lw_okq (⟨"PageParts$Groups", "take", "(II)V"⟩, 10) := ⟨⟨by decide +kernel, by decide +kernel⟩, List.mem_of_getElem? (i := 33) (by decide +kernel), List.mem_of_getElem? (i := 353) (by decide +kernel), List.mem_of_getElem? (i := 354) (by decide +kernel)⟩
theorem lw_p8 : lw_okq (⟨"PageParts$Groups", "gather", "([ZZZ)V"⟩, 10) := ⟨⟨by decide +kernel, by decide +kernel⟩, List.mem_of_getElem? (i := 33) (by decide +kernel), List.mem_of_getElem? (i := 359) (by decide +kernel), List.mem_of_getElem? (i := 360) (by decide +kernel)⟩
theorem lw_p9 : lw_okq (⟨"PageParts", "smear", "(II)V"⟩, 15) := ⟨⟨by decide +kernel, by decide +kernel⟩, List.mem_of_getElem? (i := 16) (by decide +kernel), List.mem_of_getElem? (i := 363) (by decide +kernel), List.mem_of_getElem? (i := 364) (by decide +kernel)⟩
theorem lw_p10 : lw_okq (⟨"PageParts", "smearAlong", "(IIII)V"⟩, 15) := ⟨⟨by decide +kernel, by decide +kernel⟩, List.mem_of_getElem? (i := 16) (by decide +kernel), List.mem_of_getElem? (i := 367) (by decide +kernel), List.mem_of_getElem? (i := 368) (by decide +kernel)⟩
theorem lw_p11 : lw_okq (⟨"PageParts$Covers", "measure", "([Z)V"⟩, 9) := ⟨⟨by decide +kernel, by decide +kernel⟩, List.mem_of_getElem? (i := 84) (by decide +kernel), List.mem_of_getElem? (i := 375) (by decide +kernel), List.mem_of_getElem? (i := 376) (by decide +kernel)⟩
theorem lw_p12 : lw_okq (⟨"PageParts$Covers", "findGreatest", "(I)V"⟩, 9) := ⟨⟨by decide +kernel, by decide +kernel⟩, List.mem_of_getElem? (i := 84) (by decide +kernel), List.mem_of_getElem? (i := 379) (by decide +kernel), List.mem_of_getElem? (i := 380) (by decide +kernel)⟩
theorem lw_p13 : lw_okq (⟨"PageParts$Covers", "growFrom", "(III)V"⟩, 9) := ⟨⟨by decide +kernel, by decide +kernel⟩, List.mem_of_getElem? (i := 84) (by decide +kernel), List.mem_of_getElem? (i := 383) (by decide +kernel), List.mem_of_getElem? (i := 384) (by decide +kernel)⟩
theorem lw_p14 : lw_okq (⟨"PageParts$Covers", "block", "(I)V"⟩, 9) := ⟨⟨by decide +kernel, by decide +kernel⟩, List.mem_of_getElem? (i := 84) (by decide +kernel), List.mem_of_getElem? (i := 388) (by decide +kernel), List.mem_of_getElem? (i := 389) (by decide +kernel)⟩
theorem lw_p15 : lw_okq (⟨"PageParts$Covers", "shortenBefore", "(II)V"⟩, 9) := ⟨⟨by decide +kernel, by decide +kernel⟩, List.mem_of_getElem? (i := 84) (by decide +kernel), List.mem_of_getElem? (i := 392) (by decide +kernel), List.mem_of_getElem? (i := 393) (by decide +kernel)⟩
def lw_privs_1 : List (MethodName × Nat) := [(⟨"PageParts", "toldOfParted", "(I)I"⟩, 15), (⟨"PageParts", "mustBeSample", "(II)V"⟩, 15), (⟨"java/lang/Throwable", "fillInStackTrace", "(I)Ljava/lang/Throwable;"⟩, 6), (⟨"PageParts", "paint", "(IIZ)Z"⟩, 15), (⟨"PageParts", "findClean", "()V"⟩, 15), (⟨"PageParts$Groups", "isOpen", "([ZZII)Z"⟩, 10), (⟨"PageParts$Groups", "begin", "(II)V"⟩, 10), (⟨"PageParts$Groups", "take", "(II)V"⟩, 10), (⟨"PageParts$Groups", "gather", "([ZZZ)V"⟩, 10), (⟨"PageParts", "smear", "(II)V"⟩, 15), (⟨"PageParts", "smearAlong", "(IIII)V"⟩, 15), (⟨"PageParts$Covers", "measure", "([Z)V"⟩, 9), (⟨"PageParts$Covers", "findGreatest", "(I)V"⟩, 9), (⟨"PageParts$Covers", "growFrom", "(III)V"⟩, 9), (⟨"PageParts$Covers", "block", "(I)V"⟩, 9), (⟨"PageParts$Covers", "shortenBefore", "(II)V"⟩, 9)]
theorem lw_r1 : ∀ q ∈ lw_privs_1, lw_okq q := List.forall_mem_cons.mpr ⟨lw_p0, List.forall_mem_cons.mpr ⟨lw_p1, List.forall_mem_cons.mpr ⟨lw_p2, List.forall_mem_cons.mpr ⟨lw_p3, List.forall_mem_cons.mpr ⟨lw_p4, List.forall_mem_cons.mpr ⟨lw_p5, List.forall_mem_cons.mpr ⟨lw_p6, List.forall_mem_cons.mpr ⟨lw_p7, List.forall_mem_cons.mpr ⟨lw_p8, List.forall_mem_cons.mpr ⟨lw_p9, List.forall_mem_cons.mpr ⟨lw_p10, List.forall_mem_cons.mpr ⟨lw_p11, List.forall_mem_cons.mpr ⟨lw_p12, List.forall_mem_cons.mpr ⟨lw_p13, List.forall_mem_cons.mpr ⟨lw_p14, List.forall_mem_cons.mpr ⟨lw_p15, fun _ h => absurd h List.not_mem_nil⟩⟩⟩⟩⟩⟩⟩⟩⟩⟩⟩⟩⟩⟩⟩⟩
theorem lw_p16 : lw_okq (⟨"PageParts", "findStrips", "()V"⟩, 15) := ⟨⟨by decide +kernel, by decide +kernel⟩, List.mem_of_getElem? (i := 16) (by decide +kernel), List.mem_of_getElem? (i := 396) (by decide +kernel), List.mem_of_getElem? (i := 397) (by decide +kernel)⟩
theorem lw_p17 : lw_okq (⟨"PageParts", "hasInk", "(I)Z"⟩, 15) := ⟨⟨by decide +kernel, by decide +kernel⟩, List.mem_of_getElem? (i := 16) (by decide +kernel), List.mem_of_getElem? (i := 400) (by decide +kernel), List.mem_of_getElem? (i := 401) (by decide +kernel)⟩
theorem lw_p18 : lw_okq (⟨"PageParts$Reading", "sortByBoxes", "(LPageParts$Groups;)V"⟩, 6) := ⟨⟨by decide +kernel, by decide +kernel⟩, List.mem_of_getElem? (i := 123) (by decide +kernel), List.mem_of_getElem? (i := 412) (by decide +kernel), List.mem_of_getElem? (i := 413) (by decide +kernel)⟩
theorem lw_p19 : lw_okq (⟨"PageParts$Reading", "findCut", "(LPageParts$Groups;II)Z"⟩, 6) := ⟨⟨by decide +kernel, by decide +kernel⟩, List.mem_of_getElem? (i := 123) (by decide +kernel), List.mem_of_getElem? (i := 419) (by decide +kernel), List.mem_of_getElem? (i := 420) (by decide +kernel)⟩
theorem lw_p20 : lw_okq (⟨"PageParts$Reading", "lookAlong", "([I[IIIZ)V"⟩, 6) := ⟨⟨by decide +kernel, by decide +kernel⟩, List.mem_of_getElem? (i := 123) (by decide +kernel), List.mem_of_getElem? (i := 423) (by decide +kernel), List.mem_of_getElem? (i := 424) (by decide +kernel)⟩
theorem lw_p21 : lw_okq (⟨"PageParts$Reading", "divide", "(LPageParts$Groups;II)I"⟩, 6) := ⟨⟨by decide +kernel, by decide +kernel⟩, List.mem_of_getElem? (i := 123) (by decide +kernel), List.mem_of_getElem? (i := 433) (by decide +kernel), List.mem_of_getElem? (i := 434) (by decide +kernel)⟩
theorem lw_p22 : lw_okq (⟨"PageParts", "mustBeParted", "()V"⟩, 15) := ⟨⟨by decide +kernel, by decide +kernel⟩, List.mem_of_getElem? (i := 16) (by decide +kernel), List.mem_of_getElem? (i := 448) (by decide +kernel), List.mem_of_getElem? (i := 449) (by decide +kernel)⟩
theorem lw_p23 : lw_okq (⟨"PageParts", "weightOf", "(I)I"⟩, 15) := ⟨⟨by decide +kernel, by decide +kernel⟩, List.mem_of_getElem? (i := 16) (by decide +kernel), List.mem_of_getElem? (i := 476) (by decide +kernel), List.mem_of_getElem? (i := 477) (by decide +kernel)⟩
theorem lw_p24 : lw_okq (⟨"PageParts", "kindOf", "(I)I"⟩, 15) := ⟨⟨by decide +kernel, by decide +kernel⟩, List.mem_of_getElem? (i := 16) (by decide +kernel), List.mem_of_getElem? (i := 480) (by decide +kernel), List.mem_of_getElem? (i := 481) (by decide +kernel)⟩
theorem lw_p25 : lw_okq (⟨"PageParts", "isFramed", "(I)Z"⟩, 15) := ⟨⟨by decide +kernel, by decide +kernel⟩, List.mem_of_getElem? (i := 16) (by decide +kernel), List.mem_of_getElem? (i := 495) (by decide +kernel), List.mem_of_getElem? (i := 496) (by decide +kernel)⟩
theorem lw_p26 : lw_okq (⟨"PageParts", "countClean", "(IIII)I"⟩, 15) := ⟨⟨by decide +kernel, by decide +kernel⟩, List.mem_of_getElem? (i := 16) (by decide +kernel), List.mem_of_getElem? (i := 499) (by decide +kernel), List.mem_of_getElem? (i := 500) (by decide +kernel)⟩
theorem lw_p27 : lw_okq (⟨"PageParts", "isMostlyEmptyWithin", "(I)Z"⟩, 15) := ⟨⟨by decide +kernel, by decide +kernel⟩, List.mem_of_getElem? (i := 16) (by decide +kernel), List.mem_of_getElem? (i := 503) (by decide +kernel), List.mem_of_getElem? (i := 504) (by decide +kernel)⟩
theorem lw_p28 : lw_okq (⟨"PageParts", "countLines", "(I)I"⟩, 15) := ⟨⟨by decide +kernel, by decide +kernel⟩, List.mem_of_getElem? (i := 16) (by decide +kernel), List.mem_of_getElem? (i := 507) (by decide +kernel), List.mem_of_getElem? (i := 508) (by decide +kernel)⟩
theorem lw_p29 : lw_okq (⟨"PageParts", "beginsLine", "(II)Z"⟩, 15) := ⟨⟨by decide +kernel, by decide +kernel⟩, List.mem_of_getElem? (i := 16) (by decide +kernel), List.mem_of_getElem? (i := 511) (by decide +kernel), List.mem_of_getElem? (i := 512) (by decide +kernel)⟩
theorem lw_p30 : lw_okq (⟨"PageParts", "hasCleanOf", "(II)Z"⟩, 15) := ⟨⟨by decide +kernel, by decide +kernel⟩, List.mem_of_getElem? (i := 16) (by decide +kernel), List.mem_of_getElem? (i := 515) (by decide +kernel), List.mem_of_getElem? (i := 516) (by decide +kernel)⟩
theorem lw_p31 : lw_okq (⟨"PageParts", "firstRowOfLine", "(II)I"⟩, 15) := ⟨⟨by decide +kernel, by decide +kernel⟩, List.mem_of_getElem? (i := 16) (by decide +kernel), List.mem_of_getElem? (i := 539) (by decide +kernel), List.mem_of_getElem? (i := 540) (by decide +kernel)⟩
def lw_privs_2 : List (MethodName × Nat) := [(⟨"PageParts", "findStrips", "()V"⟩, 15), (⟨"PageParts", "hasInk", "(I)Z"⟩, 15), (⟨"PageParts$Reading", "sortByBoxes", "(LPageParts$Groups;)V"⟩, 6), (⟨"PageParts$Reading", "findCut", "(LPageParts$Groups;II)Z"⟩, 6), (⟨"PageParts$Reading", "lookAlong", "([I[IIIZ)V"⟩, 6), (⟨"PageParts$Reading", "divide", "(LPageParts$Groups;II)I"⟩, 6), (⟨"PageParts", "mustBeParted", "()V"⟩, 15), (⟨"PageParts", "weightOf", "(I)I"⟩, 15), (⟨"PageParts", "kindOf", "(I)I"⟩, 15), (⟨"PageParts", "isFramed", "(I)Z"⟩, 15), (⟨"PageParts", "countClean", "(IIII)I"⟩, 15), (⟨"PageParts", "isMostlyEmptyWithin", "(I)Z"⟩, 15), (⟨"PageParts", "countLines", "(I)I"⟩, 15), (⟨"PageParts", "beginsLine", "(II)Z"⟩, 15), (⟨"PageParts", "hasCleanOf", "(II)Z"⟩, 15), (⟨"PageParts", "firstRowOfLine", "(II)I"⟩, 15)]
theorem lw_r2 : ∀ q ∈ lw_privs_2, lw_okq q := List.forall_mem_cons.mpr ⟨lw_p16, List.forall_mem_cons.mpr ⟨lw_p17, List.forall_mem_cons.mpr ⟨lw_p18, List.forall_mem_cons.mpr ⟨lw_p19, List.forall_mem_cons.mpr ⟨lw_p20, List.forall_mem_cons.mpr ⟨lw_p21, List.forall_mem_cons.mpr ⟨lw_p22, List.forall_mem_cons.mpr ⟨lw_p23, List.forall_mem_cons.mpr ⟨lw_p24, List.forall_mem_cons.mpr ⟨lw_p25, List.forall_mem_cons.mpr ⟨lw_p26, List.forall_mem_cons.mpr ⟨lw_p27, List.forall_mem_cons.mpr ⟨lw_p28, List.forall_mem_cons.mpr ⟨lw_p29, List.forall_mem_cons.mpr ⟨lw_p30, List.forall_mem_cons.mpr ⟨lw_p31, fun _ h => absurd h List.not_mem_nil⟩⟩⟩⟩⟩⟩⟩⟩⟩⟩⟩⟩⟩⟩⟩⟩
theorem lw_p32 : lw_okq (⟨"PageParts", "countRowsOfLine", "(II)I"⟩, 15) := ⟨⟨by decide +kernel, by decide +kernel⟩, List.mem_of_getElem? (i := 16) (by decide +kernel), List.mem_of_getElem? (i := 543) (by decide +kernel), List.mem_of_getElem? (i := 544) (by decide +kernel)⟩
theorem lw_p33 : lw_okq (⟨"PagePartsModel", "isSample", "(II)Z"⟩, 27) := ⟨⟨by decide +kernel, by decide +kernel⟩, List.mem_of_getElem? (i := 582) (by decide +kernel), List.mem_of_getElem? (i := 681) (by decide +kernel), List.mem_of_getElem? (i := 682) (by decide +kernel)⟩
theorem lw_p34 : lw_okq (⟨"PagePartsModel", "goes", "(ZZZ)Z"⟩, 27) := ⟨⟨by decide +kernel, by decide +kernel⟩, List.mem_of_getElem? (i := 582) (by decide +kernel), List.mem_of_getElem? (i := 688) (by decide +kernel), List.mem_of_getElem? (i := 689) (by decide +kernel)⟩
theorem lw_p35 : lw_okq (⟨"PagePartsModel", "takeInk", "(II)V"⟩, 27) := ⟨⟨by decide +kernel, by decide +kernel⟩, List.mem_of_getElem? (i := 582) (by decide +kernel), List.mem_of_getElem? (i := 708) (by decide +kernel), List.mem_of_getElem? (i := 709) (by decide +kernel)⟩
theorem lw_p36 : lw_okq (⟨"PagePartsModel", "group", "(IZ)V"⟩, 27) := ⟨⟨by decide +kernel, by decide +kernel⟩, List.mem_of_getElem? (i := 582) (by decide +kernel), List.mem_of_getElem? (i := 712) (by decide +kernel), List.mem_of_getElem? (i := 713) (by decide +kernel)⟩
theorem lw_p37 : lw_okq (⟨"PagePartsModel", "is", "(II)Z"⟩, 27) := ⟨⟨by decide +kernel, by decide +kernel⟩, List.mem_of_getElem? (i := 582) (by decide +kernel), List.mem_of_getElem? (i := 716) (by decide +kernel), List.mem_of_getElem? (i := 717) (by decide +kernel)⟩
theorem lw_p38 : lw_okq (⟨"PagePartsModel", "settles", "(IIZ)Z"⟩, 27) := ⟨⟨by decide +kernel, by decide +kernel⟩, List.mem_of_getElem? (i := 582) (by decide +kernel), List.mem_of_getElem? (i := 720) (by decide +kernel), List.mem_of_getElem? (i := 721) (by decide +kernel)⟩
theorem lw_p39 : lw_okq (⟨"PagePartsModel", "sizeOf", "(I)I"⟩, 27) := ⟨⟨by decide +kernel, by decide +kernel⟩, List.mem_of_getElem? (i := 582) (by decide +kernel), List.mem_of_getElem? (i := 724) (by decide +kernel), List.mem_of_getElem? (i := 725) (by decide +kernel)⟩
theorem lw_p40 : lw_okq (⟨"PagePartsModel", "inGap", "(IIIII)Z"⟩, 27) := ⟨⟨by decide +kernel, by decide +kernel⟩, List.mem_of_getElem? (i := 582) (by decide +kernel), List.mem_of_getElem? (i := 728) (by decide +kernel), List.mem_of_getElem? (i := 729) (by decide +kernel)⟩
theorem lw_p41 : lw_okq (⟨"PagePartsModel", "takeParts", "()V"⟩, 27) := ⟨⟨by decide +kernel, by decide +kernel⟩, List.mem_of_getElem? (i := 582) (by decide +kernel), List.mem_of_getElem? (i := 732) (by decide +kernel), List.mem_of_getElem? (i := 733) (by decide +kernel)⟩
theorem lw_p42 : lw_okq (⟨"PagePartsModel", "kindOf", "(IIII)I"⟩, 27) := ⟨⟨by decide +kernel, by decide +kernel⟩, List.mem_of_getElem? (i := 582) (by decide +kernel), List.mem_of_getElem? (i := 736) (by decide +kernel), List.mem_of_getElem? (i := 737) (by decide +kernel)⟩
theorem lw_p43 : lw_okq (⟨"PagePartsModel", "cleanIn", "(IIIII)I"⟩, 27) := ⟨⟨by decide +kernel, by decide +kernel⟩, List.mem_of_getElem? (i := 582) (by decide +kernel), List.mem_of_getElem? (i := 740) (by decide +kernel), List.mem_of_getElem? (i := 741) (by decide +kernel)⟩
theorem lw_p44 : lw_okq (⟨"PagePartsModel", "takeCovers", "()V"⟩, 27) := ⟨⟨by decide +kernel, by decide +kernel⟩, List.mem_of_getElem? (i := 582) (by decide +kernel), List.mem_of_getElem? (i := 744) (by decide +kernel), List.mem_of_getElem? (i := 745) (by decide +kernel)⟩
theorem lw_p45 : lw_okq (⟨"PagePartsModel", "takeCover", "()Z"⟩, 27) := ⟨⟨by decide +kernel, by decide +kernel⟩, List.mem_of_getElem? (i := 582) (by decide +kernel), List.mem_of_getElem? (i := 748) (by decide +kernel), List.mem_of_getElem? (i := 749) (by decide +kernel)⟩
theorem lw_p46 : lw_okq (⟨"PagePartsModel", "takeStrips", "()V"⟩, 27) := ⟨⟨by decide +kernel, by decide +kernel⟩, List.mem_of_getElem? (i := 582) (by decide +kernel), List.mem_of_getElem? (i := 752) (by decide +kernel), List.mem_of_getElem? (i := 753) (by decide +kernel)⟩
theorem lw_p47 : lw_okq (⟨"PagePartsModel", "takeCells", "()V"⟩, 27) := ⟨⟨by decide +kernel, by decide +kernel⟩, List.mem_of_getElem? (i := 582) (by decide +kernel), List.mem_of_getElem? (i := 756) (by decide +kernel), List.mem_of_getElem? (i := 757) (by decide +kernel)⟩
def lw_privs_3 : List (MethodName × Nat) := [(⟨"PageParts", "countRowsOfLine", "(II)I"⟩, 15), (⟨"PagePartsModel", "isSample", "(II)Z"⟩, 27), (⟨"PagePartsModel", "goes", "(ZZZ)Z"⟩, 27), (⟨"PagePartsModel", "takeInk", "(II)V"⟩, 27), (⟨"PagePartsModel", "group", "(IZ)V"⟩, 27), (⟨"PagePartsModel", "is", "(II)Z"⟩, 27), (⟨"PagePartsModel", "settles", "(IIZ)Z"⟩, 27), (⟨"PagePartsModel", "sizeOf", "(I)I"⟩, 27), (⟨"PagePartsModel", "inGap", "(IIIII)Z"⟩, 27), (⟨"PagePartsModel", "takeParts", "()V"⟩, 27), (⟨"PagePartsModel", "kindOf", "(IIII)I"⟩, 27), (⟨"PagePartsModel", "cleanIn", "(IIIII)I"⟩, 27), (⟨"PagePartsModel", "takeCovers", "()V"⟩, 27), (⟨"PagePartsModel", "takeCover", "()Z"⟩, 27), (⟨"PagePartsModel", "takeStrips", "()V"⟩, 27), (⟨"PagePartsModel", "takeCells", "()V"⟩, 27)]
theorem lw_r3 : ∀ q ∈ lw_privs_3, lw_okq q := List.forall_mem_cons.mpr ⟨lw_p32, List.forall_mem_cons.mpr ⟨lw_p33, List.forall_mem_cons.mpr ⟨lw_p34, List.forall_mem_cons.mpr ⟨lw_p35, List.forall_mem_cons.mpr ⟨lw_p36, List.forall_mem_cons.mpr ⟨lw_p37, List.forall_mem_cons.mpr ⟨lw_p38, List.forall_mem_cons.mpr ⟨lw_p39, List.forall_mem_cons.mpr ⟨lw_p40, List.forall_mem_cons.mpr ⟨lw_p41, List.forall_mem_cons.mpr ⟨lw_p42, List.forall_mem_cons.mpr ⟨lw_p43, List.forall_mem_cons.mpr ⟨lw_p44, List.forall_mem_cons.mpr ⟨lw_p45, List.forall_mem_cons.mpr ⟨lw_p46, List.forall_mem_cons.mpr ⟨lw_p47, fun _ h => absurd h List.not_mem_nil⟩⟩⟩⟩⟩⟩⟩⟩⟩⟩⟩⟩⟩⟩⟩⟩
theorem lw_p48 : lw_okq (⟨"PagePartsModel", "isClosed", "(I)Z"⟩, 27) := ⟨⟨by decide +kernel, by decide +kernel⟩, List.mem_of_getElem? (i := 582) (by decide +kernel), List.mem_of_getElem? (i := 760) (by decide +kernel), List.mem_of_getElem? (i := 761) (by decide +kernel)⟩
theorem lw_p49 : lw_okq (⟨"PagePartsModel", "takeOrder", "()V"⟩, 27) := ⟨⟨by decide +kernel, by decide +kernel⟩, List.mem_of_getElem? (i := 582) (by decide +kernel), List.mem_of_getElem? (i := 764) (by decide +kernel), List.mem_of_getElem? (i := 765) (by decide +kernel)⟩
theorem lw_p50 : lw_okq (⟨"PagePartsModel", "parts", "(II)I"⟩, 27) := ⟨⟨by decide +kernel, by decide +kernel⟩, List.mem_of_getElem? (i := 582) (by decide +kernel), List.mem_of_getElem? (i := 768) (by decide +kernel), List.mem_of_getElem? (i := 769) (by decide +kernel)⟩
theorem lw_p51 : lw_okq (⟨"PagePartsModel", "gap", "(IZII)I"⟩, 27) := ⟨⟨by decide +kernel, by decide +kernel⟩, List.mem_of_getElem? (i := 582) (by decide +kernel), List.mem_of_getElem? (i := 772) (by decide +kernel), List.mem_of_getElem? (i := 773) (by decide +kernel)⟩
theorem lw_p52 : lw_okq (⟨"PagePartsModel", "low", "(IZ)I"⟩, 27) := ⟨⟨by decide +kernel, by decide +kernel⟩, List.mem_of_getElem? (i := 582) (by decide +kernel), List.mem_of_getElem? (i := 776) (by decide +kernel), List.mem_of_getElem? (i := 777) (by decide +kernel)⟩
theorem lw_p53 : lw_okq (⟨"PagePartsModel", "high", "(IZ)I"⟩, 27) := ⟨⟨by decide +kernel, by decide +kernel⟩, List.mem_of_getElem? (i := 582) (by decide +kernel), List.mem_of_getElem? (i := 780) (by decide +kernel), List.mem_of_getElem? (i := 781) (by decide +kernel)⟩
theorem lw_p54 : lw_okq (⟨"PagePartsModel", "swap", "(II)V"⟩, 27) := ⟨⟨by decide +kernel, by decide +kernel⟩, List.mem_of_getElem? (i := 582) (by decide +kernel), List.mem_of_getElem? (i := 784) (by decide +kernel), List.mem_of_getElem? (i := 785) (by decide +kernel)⟩
theorem lw_p55 : lw_okq (⟨"PagePartsModel", "sort", "(II)V"⟩, 27) := ⟨⟨by decide +kernel, by decide +kernel⟩, List.mem_of_getElem? (i := 582) (by decide +kernel), List.mem_of_getElem? (i := 788) (by decide +kernel), List.mem_of_getElem? (i := 789) (by decide +kernel)⟩
theorem lw_p56 : lw_okq (⟨"PagePartsModel", "isBefore", "(II)Z"⟩, 27) := ⟨⟨by decide +kernel, by decide +kernel⟩, List.mem_of_getElem? (i := 582) (by decide +kernel), List.mem_of_getElem? (i := 792) (by decide +kernel), List.mem_of_getElem? (i := 793) (by decide +kernel)⟩
theorem lw_p57 : lw_okq (⟨"PagePartsModel", "lines", "(I)I"⟩, 27) := ⟨⟨by decide +kernel, by decide +kernel⟩, List.mem_of_getElem? (i := 582) (by decide +kernel), List.mem_of_getElem? (i := 800) (by decide +kernel), List.mem_of_getElem? (i := 801) (by decide +kernel)⟩
theorem lw_p58 : lw_okq (⟨"PagePartsModel", "inkOf", "(I)I"⟩, 27) := ⟨⟨by decide +kernel, by decide +kernel⟩, List.mem_of_getElem? (i := 582) (by decide +kernel), List.mem_of_getElem? (i := 804) (by decide +kernel), List.mem_of_getElem? (i := 805) (by decide +kernel)⟩
def lw_privs_4 : List (MethodName × Nat) := [(⟨"PagePartsModel", "isClosed", "(I)Z"⟩, 27), (⟨"PagePartsModel", "takeOrder", "()V"⟩, 27), (⟨"PagePartsModel", "parts", "(II)I"⟩, 27), (⟨"PagePartsModel", "gap", "(IZII)I"⟩, 27), (⟨"PagePartsModel", "low", "(IZ)I"⟩, 27), (⟨"PagePartsModel", "high", "(IZ)I"⟩, 27), (⟨"PagePartsModel", "swap", "(II)V"⟩, 27), (⟨"PagePartsModel", "sort", "(II)V"⟩, 27), (⟨"PagePartsModel", "isBefore", "(II)Z"⟩, 27), (⟨"PagePartsModel", "lines", "(I)I"⟩, 27), (⟨"PagePartsModel", "inkOf", "(I)I"⟩, 27)]
theorem lw_r4 : ∀ q ∈ lw_privs_4, lw_okq q := List.forall_mem_cons.mpr ⟨lw_p48, List.forall_mem_cons.mpr ⟨lw_p49, List.forall_mem_cons.mpr ⟨lw_p50, List.forall_mem_cons.mpr ⟨lw_p51, List.forall_mem_cons.mpr ⟨lw_p52, List.forall_mem_cons.mpr ⟨lw_p53, List.forall_mem_cons.mpr ⟨lw_p54, List.forall_mem_cons.mpr ⟨lw_p55, List.forall_mem_cons.mpr ⟨lw_p56, List.forall_mem_cons.mpr ⟨lw_p57, List.forall_mem_cons.mpr ⟨lw_p58, fun _ h => absurd h List.not_mem_nil⟩⟩⟩⟩⟩⟩⟩⟩⟩⟩⟩
def lw_privs : List (MethodName × Nat) := lw_privs_1 ++ (lw_privs_2 ++ (lw_privs_3 ++ (lw_privs_4)))
def lw_tbl : List Cond := k2_sels lw_privs ++ tables_1
theorem lw_privs_ok : ∀ q ∈ lw_privs, lw_okq q := by
  show ∀ q ∈ lw_privs_1 ++ (lw_privs_2 ++ (lw_privs_3 ++ (lw_privs_4))), lw_okq q
  exact List.forall_mem_append.mpr ⟨lw_r1, List.forall_mem_append.mpr ⟨lw_r2, List.forall_mem_append.mpr ⟨lw_r3, lw_r4⟩⟩⟩
end
section
def R_P : String := "PageParts"
def F_P : u_T := fun k => match k with
  | 0 => ("PageParts", "width", "I", true)
  | 1 => ("PageParts", "height", "I", true)
  | 2 => ("PageParts", "black", "[Z", true)
  | 3 => ("PageParts", "clean", "[Z", true)
  | 4 => ("PageParts", "ink", "[Z", true)
  | 5 => ("PageParts", "strips", "[I", true)
  | 6 => ("PageParts", "parts", "LPageParts$Groups;", true)
  | 7 => ("PageParts", "cells", "LPageParts$Groups;", true)
  | 8 => ("PageParts", "covers", "LPageParts$Covers;", true)
  | 9 => ("PageParts", "reading", "LPageParts$Reading;", true)
  | 10 => ("PageParts", "blackCount", "I", false)
  | 11 => ("PageParts", "cleanCount", "I", false)
  | 12 => ("PageParts", "stripCount", "I", false)
  | 13 => ("PageParts", "noiseNow", "I", false)
  | _ => ("PageParts", "parted", "Z", false)
def ty_P : Nat → FieldType := fun k => match k with
  | 0 => .int
  | 1 => .int
  | 2 => .array .boolean
  | 3 => .array .boolean
  | 4 => .array .boolean
  | 5 => .array .int
  | 6 => .object "PageParts$Groups"
  | 7 => .object "PageParts$Groups"
  | 8 => .object "PageParts$Covers"
  | 9 => .object "PageParts$Reading"
  | 10 => .int
  | 11 => .int
  | 12 => .int
  | 13 => .int
  | _ => .boolean
def R_G : String := "PageParts$Groups"
def F_G : u_T := fun k => match k with
  | 0 => ("PageParts$Groups", "label", "[I", true)
  | 1 => ("PageParts$Groups", "left", "[I", true)
  | 2 => ("PageParts$Groups", "top", "[I", true)
  | 3 => ("PageParts$Groups", "right", "[I", true)
  | 4 => ("PageParts$Groups", "bottom", "[I", true)
  | 5 => ("PageParts$Groups", "size", "[I", true)
  | 6 => ("PageParts$Groups", "count", "I", false)
  | 7 => ("PageParts$Groups", "queue", "[I", true)
  | 8 => ("PageParts$Groups", "width", "I", true)
  | _ => ("PageParts$Groups", "height", "I", true)
def ty_G : Nat → FieldType := fun k => match k with
  | 0 => .array .int
  | 1 => .array .int
  | 2 => .array .int
  | 3 => .array .int
  | 4 => .array .int
  | 5 => .array .int
  | 6 => .int
  | 7 => .array .int
  | 8 => .int
  | _ => .int
def R_C : String := "PageParts$Covers"
def F_C : u_T := fun k => match k with
  | 0 => ("PageParts$Covers", "left", "[I", true)
  | 1 => ("PageParts$Covers", "top", "[I", true)
  | 2 => ("PageParts$Covers", "wide", "[I", true)
  | 3 => ("PageParts$Covers", "high", "[I", true)
  | 4 => ("PageParts$Covers", "count", "I", false)
  | 5 => ("PageParts$Covers", "reach", "[I", true)
  | 6 => ("PageParts$Covers", "width", "I", true)
  | 7 => ("PageParts$Covers", "height", "I", true)
  | _ => ("PageParts$Covers", "greatest", "I", false)
def ty_C : Nat → FieldType := fun k => match k with
  | 0 => .array .int
  | 1 => .array .int
  | 2 => .array .int
  | 3 => .array .int
  | 4 => .int
  | 5 => .array .int
  | 6 => .int
  | 7 => .int
  | _ => .int
def R_R : String := "PageParts$Reading"
def F_R : u_T := fun k => match k with
  | 0 => ("PageParts$Reading", "sequence", "[I", true)
  | 1 => ("PageParts$Reading", "behind", "[I", true)
  | 2 => ("PageParts$Reading", "ends", "[I", true)
  | 3 => ("PageParts$Reading", "cutAt", "I", false)
  | 4 => ("PageParts$Reading", "cutGap", "I", false)
  | _ => ("PageParts$Reading", "cutsRows", "Z", false)
def ty_R : Nat → FieldType := fun k => match k with
  | 0 => .array .int
  | 1 => .array .int
  | 2 => .array .int
  | 3 => .int
  | 4 => .int
  | _ => .boolean
def R_M : String := "PagePartsModel"
def F_M : u_T := fun k => match k with
  | 0 => ("PagePartsModel", "thrown", "I", false)
  | 1 => ("PagePartsModel", "width", "I", true)
  | 2 => ("PagePartsModel", "height", "I", true)
  | 3 => ("PagePartsModel", "black", "[Z", true)
  | 4 => ("PagePartsModel", "noise", "I", false)
  | 5 => ("PagePartsModel", "parted", "Z", false)
  | 6 => ("PagePartsModel", "specks", "[Z", true)
  | 7 => ("PagePartsModel", "clean", "[Z", true)
  | 8 => ("PagePartsModel", "ink", "[Z", true)
  | 9 => ("PagePartsModel", "covered", "[Z", true)
  | 10 => ("PagePartsModel", "labels", "[I", true)
  | 11 => ("PagePartsModel", "partOf", "[I", true)
  | 12 => ("PagePartsModel", "parts", "I", false)
  | 13 => ("PagePartsModel", "lefts", "[I", true)
  | 14 => ("PagePartsModel", "tops", "[I", true)
  | 15 => ("PagePartsModel", "rights", "[I", true)
  | 16 => ("PagePartsModel", "bottoms", "[I", true)
  | 17 => ("PagePartsModel", "kinds", "[I", true)
  | 18 => ("PagePartsModel", "order", "[I", true)
  | 19 => ("PagePartsModel", "covers", "I", false)
  | 20 => ("PagePartsModel", "coverRows", "[I", true)
  | 21 => ("PagePartsModel", "strips", "I", false)
  | 22 => ("PagePartsModel", "stripOf", "[I", true)
  | 23 => ("PagePartsModel", "cells", "I", false)
  | 24 => ("PagePartsModel", "cellOf", "[I", true)
  | 25 => ("PagePartsModel", "from", "[I", true)
  | _ => ("PagePartsModel", "to", "[I", true)
def ty_M : Nat → FieldType := fun k => match k with
  | 0 => .int
  | 1 => .int
  | 2 => .int
  | 3 => .array .boolean
  | 4 => .int
  | 5 => .boolean
  | 6 => .array .boolean
  | 7 => .array .boolean
  | 8 => .array .boolean
  | 9 => .array .boolean
  | 10 => .array .int
  | 11 => .array .int
  | 12 => .int
  | 13 => .array .int
  | 14 => .array .int
  | 15 => .array .int
  | 16 => .array .int
  | 17 => .array .int
  | 18 => .array .int
  | 19 => .int
  | 20 => .array .int
  | 21 => .int
  | 22 => .array .int
  | 23 => .int
  | 24 => .array .int
  | 25 => .array .int
  | _ => .array .int
def R_L : String := "PagePartsLaw"
def R_A : String := "java/util/Arrays"
abbrev z_cl : List vw_C := [(R_P, F_P, 15), (R_G, F_G, 10), (R_C, F_C, 9), (R_R, F_R, 6), (R_M, F_M, 27)]
theorem cl_P : z_cl[0]? = some (R_P, F_P, 15) := rfl
theorem cl_G : z_cl[1]? = some (R_G, F_G, 10) := rfl
theorem cl_C : z_cl[2]? = some (R_C, F_C, 9) := rfl
theorem cl_R : z_cl[3]? = some (R_R, F_R, 6) := rfl
theorem cl_M : z_cl[4]? = some (R_M, F_M, 27) := rfl
abbrev b_P_init : ByteArray := prog_1_method_1_code
def y_P_init : MethodName := ⟨R_P, "<init>", "(II)V"⟩
abbrev b_P_put : ByteArray := prog_1_method_2_code
def y_P_put : MethodName := ⟨R_P, "put", "(IIZ)Z"⟩
abbrev b_P_fill : ByteArray := prog_1_method_3_code
def y_P_fill : MethodName := ⟨R_P, "fill", "(IIIIZ)I"⟩
abbrev b_P_noise : ByteArray := prog_1_method_4_code
def y_P_noise : MethodName := ⟨R_P, "noise", "(I)I"⟩
abbrev b_P_run : ByteArray := prog_1_method_5_code
def y_P_run : MethodName := ⟨R_P, "run", "(II)I"⟩
abbrev b_P_part : ByteArray := prog_1_method_6_code
def y_P_part : MethodName := ⟨R_P, "part", "(II)I"⟩
abbrev b_P_partOf : ByteArray := prog_1_method_7_code
def y_P_partOf : MethodName := ⟨R_P, "partOf", "(II)I"⟩
abbrev b_P_line : ByteArray := prog_1_method_8_code
def y_P_line : MethodName := ⟨R_P, "line", "(III)I"⟩
abbrev b_P_order : ByteArray := prog_1_method_9_code
def y_P_order : MethodName := ⟨R_P, "order", "(I)I"⟩
abbrev b_P_cover : ByteArray := prog_1_method_10_code
def y_P_cover : MethodName := ⟨R_P, "cover", "(II)I"⟩
abbrev b_P_strip : ByteArray := prog_1_method_11_code
def y_P_strip : MethodName := ⟨R_P, "strip", "(I)I"⟩
abbrev b_P_cell : ByteArray := prog_1_method_12_code
def y_P_cell : MethodName := ⟨R_P, "cell", "(II)I"⟩
abbrev b_P_isSpeck : ByteArray := prog_1_method_13_code
def y_P_isSpeck : MethodName := ⟨R_P, "isSpeck", "(II)Z"⟩
abbrev b_P_told : ByteArray := prog_1_method_14_code
def y_P_told : MethodName := ⟨R_P, "told", "(I)I"⟩
abbrev b_P_clear : ByteArray := prog_1_method_15_code
def y_P_clear : MethodName := ⟨R_P, "clear", "()V"⟩
abbrev b_P_nearestSide : ByteArray := prog_1_method_16_code
def y_P_nearestSide : MethodName := ⟨R_P, "nearestSide", "(I)I"⟩
abbrev b_P_mustBeParted : ByteArray := prog_1_method_17_code
def y_P_mustBeParted : MethodName := ⟨R_P, "mustBeParted", "()V"⟩
abbrev b_P_mustBeSample : ByteArray := prog_1_method_18_code
def y_P_mustBeSample : MethodName := ⟨R_P, "mustBeSample", "(II)V"⟩
abbrev b_P_mustBeBelow : ByteArray := prog_1_method_19_code
def y_P_mustBeBelow : MethodName := ⟨R_P, "mustBeBelow", "(II)V"⟩
abbrev b_P_mustBeTold : ByteArray := prog_1_method_20_code
def y_P_mustBeTold : MethodName := ⟨R_P, "mustBeTold", "(II)V"⟩
abbrev b_P_paint : ByteArray := prog_1_method_21_code
def y_P_paint : MethodName := ⟨R_P, "paint", "(IIZ)Z"⟩
abbrev b_P_toldOfParted : ByteArray := prog_1_method_22_code
def y_P_toldOfParted : MethodName := ⟨R_P, "toldOfParted", "(I)I"⟩
abbrev b_P_findClean : ByteArray := prog_1_method_23_code
def y_P_findClean : MethodName := ⟨R_P, "findClean", "()V"⟩
abbrev b_P_smear : ByteArray := prog_1_method_24_code
def y_P_smear : MethodName := ⟨R_P, "smear", "(II)V"⟩
abbrev b_P_smearAlong : ByteArray := prog_1_method_25_code
def y_P_smearAlong : MethodName := ⟨R_P, "smearAlong", "(IIII)V"⟩
abbrev b_P_findStrips : ByteArray := prog_1_method_26_code
def y_P_findStrips : MethodName := ⟨R_P, "findStrips", "()V"⟩
abbrev b_P_hasInk : ByteArray := prog_1_method_27_code
def y_P_hasInk : MethodName := ⟨R_P, "hasInk", "(I)Z"⟩
abbrev b_P_weightOf : ByteArray := prog_1_method_28_code
def y_P_weightOf : MethodName := ⟨R_P, "weightOf", "(I)I"⟩
abbrev b_P_kindOf : ByteArray := prog_1_method_29_code
def y_P_kindOf : MethodName := ⟨R_P, "kindOf", "(I)I"⟩
abbrev b_P_isThin : ByteArray := prog_1_method_30_code
def y_P_isThin : MethodName := ⟨R_P, "isThin", "(II)Z"⟩
abbrev b_P_isFramed : ByteArray := prog_1_method_31_code
def y_P_isFramed : MethodName := ⟨R_P, "isFramed", "(I)Z"⟩
abbrev b_P_isMostlyEmptyWithin : ByteArray := prog_1_method_32_code
def y_P_isMostlyEmptyWithin : MethodName := ⟨R_P, "isMostlyEmptyWithin", "(I)Z"⟩
abbrev b_P_countClean : ByteArray := prog_1_method_33_code
def y_P_countClean : MethodName := ⟨R_P, "countClean", "(IIII)I"⟩
abbrev b_P_countLines : ByteArray := prog_1_method_34_code
def y_P_countLines : MethodName := ⟨R_P, "countLines", "(I)I"⟩
abbrev b_P_firstRowOfLine : ByteArray := prog_1_method_35_code
def y_P_firstRowOfLine : MethodName := ⟨R_P, "firstRowOfLine", "(II)I"⟩
abbrev b_P_countRowsOfLine : ByteArray := prog_1_method_36_code
def y_P_countRowsOfLine : MethodName := ⟨R_P, "countRowsOfLine", "(II)I"⟩
abbrev b_P_beginsLine : ByteArray := prog_1_method_37_code
def y_P_beginsLine : MethodName := ⟨R_P, "beginsLine", "(II)Z"⟩
abbrev b_P_hasCleanOf : ByteArray := prog_1_method_38_code
def y_P_hasCleanOf : MethodName := ⟨R_P, "hasCleanOf", "(II)Z"⟩
abbrev b_G_init : ByteArray := prog_3_method_1_code
def y_G_init : MethodName := ⟨R_G, "<init>", "(II)V"⟩
abbrev b_G_find : ByteArray := prog_3_method_2_code
def y_G_find : MethodName := ⟨R_G, "find", "([ZZZ)V"⟩
abbrev b_G_isOpen : ByteArray := prog_3_method_3_code
def y_G_isOpen : MethodName := ⟨R_G, "isOpen", "([ZZII)Z"⟩
abbrev b_G_begin : ByteArray := prog_3_method_4_code
def y_G_begin : MethodName := ⟨R_G, "begin", "(II)V"⟩
abbrev b_G_take : ByteArray := prog_3_method_5_code
def y_G_take : MethodName := ⟨R_G, "take", "(II)V"⟩
abbrev b_G_gather : ByteArray := prog_3_method_6_code
def y_G_gather : MethodName := ⟨R_G, "gather", "([ZZZ)V"⟩
abbrev b_G_dropAtEdge : ByteArray := prog_3_method_7_code
def y_G_dropAtEdge : MethodName := ⟨R_G, "dropAtEdge", "()V"⟩
abbrev b_G_wideOf : ByteArray := prog_3_method_8_code
def y_G_wideOf : MethodName := ⟨R_G, "wideOf", "(I)I"⟩
abbrev b_G_highOf : ByteArray := prog_3_method_9_code
def y_G_highOf : MethodName := ⟨R_G, "highOf", "(I)I"⟩
abbrev b_G_boxOf : ByteArray := prog_3_method_10_code
def y_G_boxOf : MethodName := ⟨R_G, "boxOf", "(II)I"⟩
abbrev b_C_init : ByteArray := prog_2_method_1_code
def y_C_init : MethodName := ⟨R_C, "<init>", "(II)V"⟩
abbrev b_C_find : ByteArray := prog_2_method_2_code
def y_C_find : MethodName := ⟨R_C, "find", "([Z)V"⟩
abbrev b_C_measure : ByteArray := prog_2_method_3_code
def y_C_measure : MethodName := ⟨R_C, "measure", "([Z)V"⟩
abbrev b_C_findGreatest : ByteArray := prog_2_method_4_code
def y_C_findGreatest : MethodName := ⟨R_C, "findGreatest", "(I)V"⟩
abbrev b_C_growFrom : ByteArray := prog_2_method_5_code
def y_C_growFrom : MethodName := ⟨R_C, "growFrom", "(III)V"⟩
abbrev b_C_block : ByteArray := prog_2_method_6_code
def y_C_block : MethodName := ⟨R_C, "block", "(I)V"⟩
abbrev b_C_shortenBefore : ByteArray := prog_2_method_7_code
def y_C_shortenBefore : MethodName := ⟨R_C, "shortenBefore", "(II)V"⟩
abbrev b_R_init : ByteArray := prog_4_method_1_code
def y_R_init : MethodName := ⟨R_R, "<init>", "()V"⟩
abbrev b_R_arrange : ByteArray := prog_4_method_2_code
def y_R_arrange : MethodName := ⟨R_R, "arrange", "(LPageParts$Groups;)V"⟩
abbrev b_R_sortByBoxes : ByteArray := prog_4_method_3_code
def y_R_sortByBoxes : MethodName := ⟨R_R, "sortByBoxes", "(LPageParts$Groups;)V"⟩
abbrev b_R_isBefore : ByteArray := prog_4_method_4_code
def y_R_isBefore : MethodName := ⟨R_R, "isBefore", "(LPageParts$Groups;II)Z"⟩
abbrev b_R_findCut : ByteArray := prog_4_method_5_code
def y_R_findCut : MethodName := ⟨R_R, "findCut", "(LPageParts$Groups;II)Z"⟩
abbrev b_R_lookAlong : ByteArray := prog_4_method_6_code
def y_R_lookAlong : MethodName := ⟨R_R, "lookAlong", "([I[IIIZ)V"⟩
abbrev b_R_bits : ByteArray := prog_4_method_7_code
def y_R_bits : MethodName := ⟨R_R, "bits", "(II)I"⟩
abbrev b_R_hasBit : ByteArray := prog_4_method_8_code
def y_R_hasBit : MethodName := ⟨R_R, "hasBit", "(II)Z"⟩
abbrev b_R_divide : ByteArray := prog_4_method_9_code
def y_R_divide : MethodName := ⟨R_R, "divide", "(LPageParts$Groups;II)I"⟩
abbrev b_M_init : ByteArray := prog_6_method_1_code
def y_M_init : MethodName := ⟨R_M, "<init>", "(II)V"⟩
abbrev b_M_nearest : ByteArray := prog_6_method_2_code
def y_M_nearest : MethodName := ⟨R_M, "nearest", "(I)I"⟩
abbrev b_M_thrown : ByteArray := prog_6_method_3_code
def y_M_thrown : MethodName := ⟨R_M, "thrown", "()I"⟩
abbrev b_M_in : ByteArray := prog_6_method_4_code
def y_M_in : MethodName := ⟨R_M, "in", "(III)Z"⟩
abbrev b_M_isSample : ByteArray := prog_6_method_5_code
def y_M_isSample : MethodName := ⟨R_M, "isSample", "(II)Z"⟩
abbrev b_M_goes : ByteArray := prog_6_method_6_code
def y_M_goes : MethodName := ⟨R_M, "goes", "(ZZZ)Z"⟩
abbrev b_M_put : ByteArray := prog_6_method_7_code
def y_M_put : MethodName := ⟨R_M, "put", "(IIZ)Z"⟩
abbrev b_M_fill : ByteArray := prog_6_method_8_code
def y_M_fill : MethodName := ⟨R_M, "fill", "(IIIIZ)I"⟩
abbrev b_M_noise : ByteArray := prog_6_method_9_code
def y_M_noise : MethodName := ⟨R_M, "noise", "(I)I"⟩
abbrev b_M_clear : ByteArray := prog_6_method_10_code
def y_M_clear : MethodName := ⟨R_M, "clear", "()V"⟩
abbrev b_M_is : ByteArray := prog_6_method_11_code
def y_M_is : MethodName := ⟨R_M, "is", "(II)Z"⟩
abbrev b_M_group : ByteArray := prog_6_method_12_code
def y_M_group : MethodName := ⟨R_M, "group", "(IZ)V"⟩
abbrev b_M_settles : ByteArray := prog_6_method_13_code
def y_M_settles : MethodName := ⟨R_M, "settles", "(IIZ)Z"⟩
abbrev b_M_sizeOf : ByteArray := prog_6_method_14_code
def y_M_sizeOf : MethodName := ⟨R_M, "sizeOf", "(I)I"⟩
abbrev b_M_inGap : ByteArray := prog_6_method_15_code
def y_M_inGap : MethodName := ⟨R_M, "inGap", "(IIIII)Z"⟩
abbrev b_M_takeInk : ByteArray := prog_6_method_16_code
def y_M_takeInk : MethodName := ⟨R_M, "takeInk", "(II)V"⟩
abbrev b_M_cleanIn : ByteArray := prog_6_method_17_code
def y_M_cleanIn : MethodName := ⟨R_M, "cleanIn", "(IIIII)I"⟩
abbrev b_M_takeParts : ByteArray := prog_6_method_18_code
def y_M_takeParts : MethodName := ⟨R_M, "takeParts", "()V"⟩
abbrev b_M_kindOf : ByteArray := prog_6_method_19_code
def y_M_kindOf : MethodName := ⟨R_M, "kindOf", "(IIII)I"⟩
abbrev b_M_takeCover : ByteArray := prog_6_method_20_code
def y_M_takeCover : MethodName := ⟨R_M, "takeCover", "()Z"⟩
abbrev b_M_takeCovers : ByteArray := prog_6_method_21_code
def y_M_takeCovers : MethodName := ⟨R_M, "takeCovers", "()V"⟩
abbrev b_M_takeStrips : ByteArray := prog_6_method_22_code
def y_M_takeStrips : MethodName := ⟨R_M, "takeStrips", "()V"⟩
abbrev b_M_takeCells : ByteArray := prog_6_method_23_code
def y_M_takeCells : MethodName := ⟨R_M, "takeCells", "()V"⟩
abbrev b_M_isClosed : ByteArray := prog_6_method_24_code
def y_M_isClosed : MethodName := ⟨R_M, "isClosed", "(I)Z"⟩
abbrev b_M_low : ByteArray := prog_6_method_25_code
def y_M_low : MethodName := ⟨R_M, "low", "(IZ)I"⟩
abbrev b_M_high : ByteArray := prog_6_method_26_code
def y_M_high : MethodName := ⟨R_M, "high", "(IZ)I"⟩
abbrev b_M_gap : ByteArray := prog_6_method_27_code
def y_M_gap : MethodName := ⟨R_M, "gap", "(IZII)I"⟩
abbrev b_M_swap : ByteArray := prog_6_method_28_code
def y_M_swap : MethodName := ⟨R_M, "swap", "(II)V"⟩
abbrev b_M_isBefore : ByteArray := prog_6_method_29_code
def y_M_isBefore : MethodName := ⟨R_M, "isBefore", "(II)Z"⟩
abbrev b_M_sort : ByteArray := prog_6_method_30_code
def y_M_sort : MethodName := ⟨R_M, "sort", "(II)V"⟩
abbrev b_M_parts : ByteArray := prog_6_method_31_code
def y_M_parts : MethodName := ⟨R_M, "parts", "(II)I"⟩
abbrev b_M_takeOrder : ByteArray := prog_6_method_32_code
def y_M_takeOrder : MethodName := ⟨R_M, "takeOrder", "()V"⟩
abbrev b_M_run : ByteArray := prog_6_method_33_code
def y_M_run : MethodName := ⟨R_M, "run", "(II)I"⟩
abbrev b_M_lines : ByteArray := prog_6_method_34_code
def y_M_lines : MethodName := ⟨R_M, "lines", "(I)I"⟩
abbrev b_M_inkOf : ByteArray := prog_6_method_35_code
def y_M_inkOf : MethodName := ⟨R_M, "inkOf", "(I)I"⟩
abbrev b_M_part : ByteArray := prog_6_method_36_code
def y_M_part : MethodName := ⟨R_M, "part", "(II)I"⟩
abbrev b_M_partOf : ByteArray := prog_6_method_37_code
def y_M_partOf : MethodName := ⟨R_M, "partOf", "(II)I"⟩
abbrev b_M_line : ByteArray := prog_6_method_38_code
def y_M_line : MethodName := ⟨R_M, "line", "(III)I"⟩
abbrev b_M_order : ByteArray := prog_6_method_39_code
def y_M_order : MethodName := ⟨R_M, "order", "(I)I"⟩
abbrev b_M_cover : ByteArray := prog_6_method_40_code
def y_M_cover : MethodName := ⟨R_M, "cover", "(II)I"⟩
abbrev b_M_strip : ByteArray := prog_6_method_41_code
def y_M_strip : MethodName := ⟨R_M, "strip", "(I)I"⟩
abbrev b_M_cell : ByteArray := prog_6_method_42_code
def y_M_cell : MethodName := ⟨R_M, "cell", "(II)I"⟩
abbrev b_M_isSpeck : ByteArray := prog_6_method_43_code
def y_M_isSpeck : MethodName := ⟨R_M, "isSpeck", "(II)Z"⟩
abbrev b_M_told : ByteArray := prog_6_method_44_code
def y_M_told : MethodName := ⟨R_M, "told", "(I)I"⟩
abbrev b_L_cell : ByteArray := method_2_code
def y_L_cell : MethodName := ⟨R_L, "cell", "([II)I"⟩
abbrev b_L_put : ByteArray := method_3_code
def y_L_put : MethodName := ⟨R_L, "put", "(LPageParts;IIZ[J)I"⟩
abbrev b_L_fill : ByteArray := method_4_code
def y_L_fill : MethodName := ⟨R_L, "fill", "(LPageParts;IIIIZ[J)I"⟩
abbrev b_L_noise : ByteArray := method_5_code
def y_L_noise : MethodName := ⟨R_L, "noise", "(LPageParts;I[J)I"⟩
abbrev b_L_run : ByteArray := method_6_code
def y_L_run : MethodName := ⟨R_L, "run", "(LPageParts;II[J)I"⟩
abbrev b_L_part : ByteArray := method_7_code
def y_L_part : MethodName := ⟨R_L, "part", "(LPageParts;II[J)I"⟩
abbrev b_L_partOf : ByteArray := method_8_code
def y_L_partOf : MethodName := ⟨R_L, "partOf", "(LPageParts;II[J)I"⟩
abbrev b_L_line : ByteArray := method_9_code
def y_L_line : MethodName := ⟨R_L, "line", "(LPageParts;III[J)I"⟩
abbrev b_L_order : ByteArray := method_10_code
def y_L_order : MethodName := ⟨R_L, "order", "(LPageParts;I[J)I"⟩
abbrev b_L_cover : ByteArray := method_11_code
def y_L_cover : MethodName := ⟨R_L, "cover", "(LPageParts;II[J)I"⟩
abbrev b_L_strip : ByteArray := method_12_code
def y_L_strip : MethodName := ⟨R_L, "strip", "(LPageParts;I[J)I"⟩
abbrev b_L_cell2 : ByteArray := method_13_code
def y_L_cell2 : MethodName := ⟨R_L, "cell", "(LPageParts;II[J)I"⟩
abbrev b_L_isSpeck : ByteArray := method_14_code
def y_L_isSpeck : MethodName := ⟨R_L, "isSpeck", "(LPageParts;II[J)I"⟩
abbrev b_L_law : ByteArray := code
def y_L_law : MethodName := ⟨R_L, "law", "([I)Z"⟩
abbrev b_A_fill : ByteArray := prog_16_method_103_code
def y_A_fill : MethodName := ⟨R_A, "fill", "([II)V"⟩
def z_gw : List Cond := lw_tbl.filter goodWord
theorem z_gwi {w : Cond} (i : Nat) (h : lw_tbl[i]? = some w) (hg : goodWord w = true) : w ∈ z_gw := List.mem_filter.mpr ⟨List.mem_of_getElem? h, hg⟩
theorem z_gws {ws : List Cond} (h : ∀ w ∈ ws, w ∈ lw_tbl ∧ goodWord w = true) : ∀ w ∈ ws, w ∈ z_gw := fun w hw => List.mem_filter.mpr (h w hw)
theorem iw_P : ∀ w ∈ u_ws R_P F_P 15, w ∈ z_gw := z_gws (by decide +kernel)
theorem ty_P_ok : ∀ k, k < 15 → parseFieldDescriptor (F_P k).2.2.1 = some (ty_P k) := by decide +kernel
theorem n_P : ∀ a, a < 15 → ∀ b, b < 15 → a ≠ b → (F_P a).2.1 ≠ (F_P b).2.1 := by decide +kernel
theorem iw_G : ∀ w ∈ u_ws R_G F_G 10, w ∈ z_gw := z_gws (by decide +kernel)
theorem ty_G_ok : ∀ k, k < 10 → parseFieldDescriptor (F_G k).2.2.1 = some (ty_G k) := by decide +kernel
theorem n_G : ∀ a, a < 10 → ∀ b, b < 10 → a ≠ b → (F_G a).2.1 ≠ (F_G b).2.1 := by decide +kernel
theorem iw_C : ∀ w ∈ u_ws R_C F_C 9, w ∈ z_gw := z_gws (by decide +kernel)
theorem ty_C_ok : ∀ k, k < 9 → parseFieldDescriptor (F_C k).2.2.1 = some (ty_C k) := by decide +kernel
theorem n_C : ∀ a, a < 9 → ∀ b, b < 9 → a ≠ b → (F_C a).2.1 ≠ (F_C b).2.1 := by decide +kernel
theorem iw_R : ∀ w ∈ u_ws R_R F_R 6, w ∈ z_gw := z_gws (by decide +kernel)
theorem ty_R_ok : ∀ k, k < 6 → parseFieldDescriptor (F_R k).2.2.1 = some (ty_R k) := by decide +kernel
theorem n_R : ∀ a, a < 6 → ∀ b, b < 6 → a ≠ b → (F_R a).2.1 ≠ (F_R b).2.1 := by decide +kernel
theorem iw_M : ∀ w ∈ u_ws R_M F_M 27, w ∈ z_gw := z_gws (by decide +kernel)
theorem ty_M_ok : ∀ k, k < 27 → parseFieldDescriptor (F_M k).2.2.1 = some (ty_M k) := by decide +kernel
theorem n_M : ∀ a, a < 27 → ∀ b, b < 27 → a ≠ b → (F_M a).2.1 ≠ (F_M b).2.1 := by decide +kernel
theorem k_fl_C_15 : Cond.fieldLink R_C 15 "PageParts$Covers" "top" "[I" ∈ z_gw := z_gwi 150 (by decide +kernel) (by decide +kernel)
theorem k_fl_C_18 : Cond.fieldLink R_C 18 "PageParts$Covers" "wide" "[I" ∈ z_gw := z_gwi 152 (by decide +kernel) (by decide +kernel)
theorem k_fl_C_21 : Cond.fieldLink R_C 21 "PageParts$Covers" "high" "[I" ∈ z_gw := z_gwi 154 (by decide +kernel) (by decide +kernel)
theorem k_fl_C_24 : Cond.fieldLink R_C 24 "PageParts$Covers" "reach" "[I" ∈ z_gw := z_gwi 158 (by decide +kernel) (by decide +kernel)
theorem k_fl_C_27 : Cond.fieldLink R_C 27 "PageParts$Covers" "width" "I" ∈ z_gw := z_gwi 159 (by decide +kernel) (by decide +kernel)
theorem k_fl_C_31 : Cond.fieldLink R_C 31 "PageParts$Covers" "height" "I" ∈ z_gw := z_gwi 160 (by decide +kernel) (by decide +kernel)
theorem k_fl_C_38 : Cond.fieldLink R_C 38 "PageParts$Covers" "count" "I" ∈ z_gw := z_gwi 156 (by decide +kernel) (by decide +kernel)
theorem k_fl_C_45 : Cond.fieldLink R_C 45 "PageParts$Covers" "greatest" "I" ∈ z_gw := z_gwi 161 (by decide +kernel) (by decide +kernel)
theorem k_fl_C_9 : Cond.fieldLink R_C 9 "PageParts$Covers" "left" "[I" ∈ z_gw := z_gwi 148 (by decide +kernel) (by decide +kernel)
theorem k_fl_G_15 : Cond.fieldLink R_G 15 "PageParts$Groups" "left" "[I" ∈ z_gw := z_gwi 99 (by decide +kernel) (by decide +kernel)
theorem k_fl_G_18 : Cond.fieldLink R_G 18 "PageParts$Groups" "top" "[I" ∈ z_gw := z_gwi 102 (by decide +kernel) (by decide +kernel)
theorem k_fl_G_21 : Cond.fieldLink R_G 21 "PageParts$Groups" "right" "[I" ∈ z_gw := z_gwi 105 (by decide +kernel) (by decide +kernel)
theorem k_fl_G_24 : Cond.fieldLink R_G 24 "PageParts$Groups" "bottom" "[I" ∈ z_gw := z_gwi 108 (by decide +kernel) (by decide +kernel)
theorem k_fl_G_27 : Cond.fieldLink R_G 27 "PageParts$Groups" "size" "[I" ∈ z_gw := z_gwi 111 (by decide +kernel) (by decide +kernel)
theorem k_fl_G_30 : Cond.fieldLink R_G 30 "PageParts$Groups" "queue" "[I" ∈ z_gw := z_gwi 116 (by decide +kernel) (by decide +kernel)
theorem k_fl_G_33 : Cond.fieldLink R_G 33 "PageParts$Groups" "width" "I" ∈ z_gw := z_gwi 117 (by decide +kernel) (by decide +kernel)
theorem k_fl_G_37 : Cond.fieldLink R_G 37 "PageParts$Groups" "height" "I" ∈ z_gw := z_gwi 118 (by decide +kernel) (by decide +kernel)
theorem k_fl_G_46 : Cond.fieldLink R_G 46 "PageParts$Groups" "count" "I" ∈ z_gw := z_gwi 113 (by decide +kernel) (by decide +kernel)
theorem k_fl_G_9 : Cond.fieldLink R_G 9 "PageParts$Groups" "label" "[I" ∈ z_gw := z_gwi 97 (by decide +kernel) (by decide +kernel)
theorem k_fl_M_116 : Cond.fieldLink R_M 116 "PagePartsModel" "parts" "I" ∈ z_gw := z_gwi 661 (by decide +kernel) (by decide +kernel)
theorem k_fl_M_127 : Cond.fieldLink R_M 127 "PagePartsModel" "covers" "I" ∈ z_gw := z_gwi 668 (by decide +kernel) (by decide +kernel)
theorem k_fl_M_13 : Cond.fieldLink R_M 13 "PagePartsModel" "noise" "I" ∈ z_gw := z_gwi 653 (by decide +kernel) (by decide +kernel)
theorem k_fl_M_134 : Cond.fieldLink R_M 134 "PagePartsModel" "strips" "I" ∈ z_gw := z_gwi 670 (by decide +kernel) (by decide +kernel)
theorem k_fl_M_137 : Cond.fieldLink R_M 137 "PagePartsModel" "cells" "I" ∈ z_gw := z_gwi 672 (by decide +kernel) (by decide +kernel)
theorem k_fl_M_17 : Cond.fieldLink R_M 17 "PagePartsModel" "specks" "[Z" ∈ z_gw := z_gwi 655 (by decide +kernel) (by decide +kernel)
theorem k_fl_M_20 : Cond.fieldLink R_M 20 "PagePartsModel" "clean" "[Z" ∈ z_gw := z_gwi 656 (by decide +kernel) (by decide +kernel)
theorem k_fl_M_23 : Cond.fieldLink R_M 23 "PagePartsModel" "ink" "[Z" ∈ z_gw := z_gwi 657 (by decide +kernel) (by decide +kernel)
theorem k_fl_M_26 : Cond.fieldLink R_M 26 "PagePartsModel" "covered" "[Z" ∈ z_gw := z_gwi 658 (by decide +kernel) (by decide +kernel)
theorem k_fl_M_29 : Cond.fieldLink R_M 29 "PagePartsModel" "labels" "[I" ∈ z_gw := z_gwi 659 (by decide +kernel) (by decide +kernel)
theorem k_fl_M_33 : Cond.fieldLink R_M 33 "PagePartsModel" "partOf" "[I" ∈ z_gw := z_gwi 660 (by decide +kernel) (by decide +kernel)
theorem k_fl_M_36 : Cond.fieldLink R_M 36 "PagePartsModel" "lefts" "[I" ∈ z_gw := z_gwi 662 (by decide +kernel) (by decide +kernel)
theorem k_fl_M_39 : Cond.fieldLink R_M 39 "PagePartsModel" "tops" "[I" ∈ z_gw := z_gwi 663 (by decide +kernel) (by decide +kernel)
theorem k_fl_M_42 : Cond.fieldLink R_M 42 "PagePartsModel" "rights" "[I" ∈ z_gw := z_gwi 664 (by decide +kernel) (by decide +kernel)
theorem k_fl_M_45 : Cond.fieldLink R_M 45 "PagePartsModel" "bottoms" "[I" ∈ z_gw := z_gwi 665 (by decide +kernel) (by decide +kernel)
theorem k_fl_M_48 : Cond.fieldLink R_M 48 "PagePartsModel" "kinds" "[I" ∈ z_gw := z_gwi 666 (by decide +kernel) (by decide +kernel)
theorem k_fl_M_51 : Cond.fieldLink R_M 51 "PagePartsModel" "order" "[I" ∈ z_gw := z_gwi 667 (by decide +kernel) (by decide +kernel)
theorem k_fl_M_54 : Cond.fieldLink R_M 54 "PagePartsModel" "coverRows" "[I" ∈ z_gw := z_gwi 669 (by decide +kernel) (by decide +kernel)
theorem k_fl_M_57 : Cond.fieldLink R_M 57 "PagePartsModel" "stripOf" "[I" ∈ z_gw := z_gwi 671 (by decide +kernel) (by decide +kernel)
theorem k_fl_M_60 : Cond.fieldLink R_M 60 "PagePartsModel" "cellOf" "[I" ∈ z_gw := z_gwi 673 (by decide +kernel) (by decide +kernel)
theorem k_fl_M_63 : Cond.fieldLink R_M 63 "PagePartsModel" "from" "[I" ∈ z_gw := z_gwi 674 (by decide +kernel) (by decide +kernel)
theorem k_fl_M_66 : Cond.fieldLink R_M 66 "PagePartsModel" "to" "[I" ∈ z_gw := z_gwi 675 (by decide +kernel) (by decide +kernel)
theorem k_fl_M_7 : Cond.fieldLink R_M 7 "PagePartsModel" "black" "[Z" ∈ z_gw := z_gwi 652 (by decide +kernel) (by decide +kernel)
theorem k_fl_M_73 : Cond.fieldLink R_M 73 "PagePartsModel" "width" "I" ∈ z_gw := z_gwi 650 (by decide +kernel) (by decide +kernel)
theorem k_fl_M_76 : Cond.fieldLink R_M 76 "PagePartsModel" "height" "I" ∈ z_gw := z_gwi 651 (by decide +kernel) (by decide +kernel)
theorem k_fl_M_79 : Cond.fieldLink R_M 79 "PagePartsModel" "thrown" "I" ∈ z_gw := z_gwi 649 (by decide +kernel) (by decide +kernel)
theorem k_fl_M_94 : Cond.fieldLink R_M 94 "PagePartsModel" "parted" "Z" ∈ z_gw := z_gwi 654 (by decide +kernel) (by decide +kernel)
theorem k_fl_P_114 : Cond.fieldLink R_P 114 "PageParts$Groups" "count" "I" ∈ z_gw := z_gwi 115 (by decide +kernel) (by decide +kernel)
theorem k_fl_P_13 : Cond.fieldLink R_P 13 "PageParts" "clean" "[Z" ∈ z_gw := z_gwi 210 (by decide +kernel) (by decide +kernel)
theorem k_fl_P_135 : Cond.fieldLink R_P 135 "PageParts$Groups" "size" "[I" ∈ z_gw := z_gwi 112 (by decide +kernel) (by decide +kernel)
theorem k_fl_P_141 : Cond.fieldLink R_P 141 "PageParts$Groups" "label" "[I" ∈ z_gw := z_gwi 98 (by decide +kernel) (by decide +kernel)
theorem k_fl_P_150 : Cond.fieldLink R_P 150 "PageParts$Reading" "sequence" "[I" ∈ z_gw := z_gwi 188 (by decide +kernel) (by decide +kernel)
theorem k_fl_P_153 : Cond.fieldLink R_P 153 "PageParts$Covers" "count" "I" ∈ z_gw := z_gwi 157 (by decide +kernel) (by decide +kernel)
theorem k_fl_P_154 : Cond.fieldLink R_P 154 "PageParts$Covers" "left" "[I" ∈ z_gw := z_gwi 149 (by decide +kernel) (by decide +kernel)
theorem k_fl_P_157 : Cond.fieldLink R_P 157 "PageParts$Covers" "top" "[I" ∈ z_gw := z_gwi 151 (by decide +kernel) (by decide +kernel)
theorem k_fl_P_16 : Cond.fieldLink R_P 16 "PageParts" "ink" "[Z" ∈ z_gw := z_gwi 211 (by decide +kernel) (by decide +kernel)
theorem k_fl_P_160 : Cond.fieldLink R_P 160 "PageParts$Covers" "wide" "[I" ∈ z_gw := z_gwi 153 (by decide +kernel) (by decide +kernel)
theorem k_fl_P_163 : Cond.fieldLink R_P 163 "PageParts$Covers" "high" "[I" ∈ z_gw := z_gwi 155 (by decide +kernel) (by decide +kernel)
theorem k_fl_P_166 : Cond.fieldLink R_P 166 "PageParts" "blackCount" "I" ∈ z_gw := z_gwi 217 (by decide +kernel) (by decide +kernel)
theorem k_fl_P_189 : Cond.fieldLink R_P 189 "PageParts" "stripCount" "I" ∈ z_gw := z_gwi 219 (by decide +kernel) (by decide +kernel)
theorem k_fl_P_19 : Cond.fieldLink R_P 19 "PageParts" "strips" "[I" ∈ z_gw := z_gwi 212 (by decide +kernel) (by decide +kernel)
theorem k_fl_P_192 : Cond.fieldLink R_P 192 "PageParts" "cleanCount" "I" ∈ z_gw := z_gwi 218 (by decide +kernel) (by decide +kernel)
theorem k_fl_P_219 : Cond.fieldLink R_P 219 "PageParts$Groups" "left" "[I" ∈ z_gw := z_gwi 101 (by decide +kernel) (by decide +kernel)
theorem k_fl_P_220 : Cond.fieldLink R_P 220 "PageParts$Groups" "top" "[I" ∈ z_gw := z_gwi 104 (by decide +kernel) (by decide +kernel)
theorem k_fl_P_225 : Cond.fieldLink R_P 225 "PageParts$Groups" "bottom" "[I" ∈ z_gw := z_gwi 110 (by decide +kernel) (by decide +kernel)
theorem k_fl_P_228 : Cond.fieldLink R_P 228 "PageParts$Groups" "right" "[I" ∈ z_gw := z_gwi 107 (by decide +kernel) (by decide +kernel)
theorem k_fl_P_27 : Cond.fieldLink R_P 27 "PageParts" "width" "I" ∈ z_gw := z_gwi 207 (by decide +kernel) (by decide +kernel)
theorem k_fl_P_31 : Cond.fieldLink R_P 31 "PageParts" "height" "I" ∈ z_gw := z_gwi 208 (by decide +kernel) (by decide +kernel)
theorem k_fl_P_39 : Cond.fieldLink R_P 39 "PageParts" "parts" "LPageParts$Groups;" ∈ z_gw := z_gwi 213 (by decide +kernel) (by decide +kernel)
theorem k_fl_P_43 : Cond.fieldLink R_P 43 "PageParts" "cells" "LPageParts$Groups;" ∈ z_gw := z_gwi 214 (by decide +kernel) (by decide +kernel)
theorem k_fl_P_49 : Cond.fieldLink R_P 49 "PageParts" "covers" "LPageParts$Covers;" ∈ z_gw := z_gwi 215 (by decide +kernel) (by decide +kernel)
theorem k_fl_P_56 : Cond.fieldLink R_P 56 "PageParts" "reading" "LPageParts$Reading;" ∈ z_gw := z_gwi 216 (by decide +kernel) (by decide +kernel)
theorem k_fl_P_60 : Cond.fieldLink R_P 60 "PageParts" "noiseNow" "I" ∈ z_gw := z_gwi 220 (by decide +kernel) (by decide +kernel)
theorem k_fl_P_66 : Cond.fieldLink R_P 66 "PageParts" "parted" "Z" ∈ z_gw := z_gwi 221 (by decide +kernel) (by decide +kernel)
theorem k_fl_P_9 : Cond.fieldLink R_P 9 "PageParts" "black" "[Z" ∈ z_gw := z_gwi 209 (by decide +kernel) (by decide +kernel)
theorem k_fl_R_15 : Cond.fieldLink R_R 15 "PageParts$Reading" "behind" "[I" ∈ z_gw := z_gwi 189 (by decide +kernel) (by decide +kernel)
theorem k_fl_R_18 : Cond.fieldLink R_R 18 "PageParts$Reading" "ends" "[I" ∈ z_gw := z_gwi 190 (by decide +kernel) (by decide +kernel)
theorem k_fl_R_25 : Cond.fieldLink R_R 25 "PageParts$Groups" "count" "I" ∈ z_gw := z_gwi 114 (by decide +kernel) (by decide +kernel)
theorem k_fl_R_42 : Cond.fieldLink R_R 42 "PageParts$Groups" "top" "[I" ∈ z_gw := z_gwi 103 (by decide +kernel) (by decide +kernel)
theorem k_fl_R_45 : Cond.fieldLink R_R 45 "PageParts$Groups" "left" "[I" ∈ z_gw := z_gwi 100 (by decide +kernel) (by decide +kernel)
theorem k_fl_R_48 : Cond.fieldLink R_R 48 "PageParts$Reading" "cutGap" "I" ∈ z_gw := z_gwi 192 (by decide +kernel) (by decide +kernel)
theorem k_fl_R_51 : Cond.fieldLink R_R 51 "PageParts$Groups" "right" "[I" ∈ z_gw := z_gwi 106 (by decide +kernel) (by decide +kernel)
theorem k_fl_R_58 : Cond.fieldLink R_R 58 "PageParts$Groups" "bottom" "[I" ∈ z_gw := z_gwi 109 (by decide +kernel) (by decide +kernel)
theorem k_fl_R_69 : Cond.fieldLink R_R 69 "PageParts$Reading" "cutAt" "I" ∈ z_gw := z_gwi 191 (by decide +kernel) (by decide +kernel)
theorem k_fl_R_72 : Cond.fieldLink R_R 72 "PageParts$Reading" "cutsRows" "Z" ∈ z_gw := z_gwi 193 (by decide +kernel) (by decide +kernel)
theorem k_fl_R_9 : Cond.fieldLink R_R 9 "PageParts$Reading" "sequence" "[I" ∈ z_gw := z_gwi 187 (by decide +kernel) (by decide +kernel)
theorem k_ml_C_3 : Cond.methodLink R_C 3 objectInit ∈ z_gw := z_gwi 147 (by decide +kernel) (by decide +kernel)
theorem k_ml_C_34 : Cond.methodLink R_C 34 y_C_measure ∈ z_gw := z_gwi 433 (by decide +kernel) (by decide +kernel)
theorem k_ml_C_41 : Cond.methodLink R_C 41 y_C_findGreatest ∈ z_gw := z_gwi 437 (by decide +kernel) (by decide +kernel)
theorem k_ml_C_48 : Cond.methodLink R_C 48 y_C_block ∈ z_gw := z_gwi 446 (by decide +kernel) (by decide +kernel)
theorem k_ml_C_51 : Cond.methodLink R_C 51 y_C_growFrom ∈ z_gw := z_gwi 441 (by decide +kernel) (by decide +kernel)
theorem k_ml_C_55 : Cond.methodLink R_C 55 Lib.Math.min.name ∈ z_gw := z_gwi 445 (by decide +kernel) (by decide +kernel)
theorem k_ml_C_61 : Cond.methodLink R_C 61 y_C_shortenBefore ∈ z_gw := z_gwi 450 (by decide +kernel) (by decide +kernel)
theorem k_ml_G_3 : Cond.methodLink R_G 3 objectInit ∈ z_gw := z_gwi 96 (by decide +kernel) (by decide +kernel)
theorem k_ml_G_40 : Cond.methodLink R_G 40 y_A_fill ∈ z_gw := z_gwi 400 (by decide +kernel) (by decide +kernel)
theorem k_ml_G_49 : Cond.methodLink R_G 49 y_G_isOpen ∈ z_gw := z_gwi 403 (by decide +kernel) (by decide +kernel)
theorem k_ml_G_53 : Cond.methodLink R_G 53 y_G_begin ∈ z_gw := z_gwi 407 (by decide +kernel) (by decide +kernel)
theorem k_ml_G_57 : Cond.methodLink R_G 57 y_G_gather ∈ z_gw := z_gwi 417 (by decide +kernel) (by decide +kernel)
theorem k_ml_G_61 : Cond.methodLink R_G 61 y_G_take ∈ z_gw := z_gwi 411 (by decide +kernel) (by decide +kernel)
theorem k_ml_G_64 : Cond.methodLink R_G 64 Lib.Math.min.name ∈ z_gw := z_gwi 415 (by decide +kernel) (by decide +kernel)
theorem k_ml_G_70 : Cond.methodLink R_G 70 Lib.Math.max.name ∈ z_gw := z_gwi 416 (by decide +kernel) (by decide +kernel)
theorem k_ml_G_73 : Cond.methodLink R_G 73 y_G_wideOf ∈ z_gw := z_gwi 581 (by decide +kernel) (by decide +kernel)
theorem k_ml_G_77 : Cond.methodLink R_G 77 y_G_highOf ∈ z_gw := z_gwi 582 (by decide +kernel) (by decide +kernel)
theorem k_ml_L_100 : Cond.methodLink R_L 100 y_M_order ∈ z_gw := z_gwi 874 (by decide +kernel) (by decide +kernel)
theorem k_ml_L_101 : Cond.methodLink R_L 101 y_L_cover ∈ z_gw := z_gwi 612 (by decide +kernel) (by decide +kernel)
theorem k_ml_L_103 : Cond.methodLink R_L 103 y_M_cover ∈ z_gw := z_gwi 878 (by decide +kernel) (by decide +kernel)
theorem k_ml_L_104 : Cond.methodLink R_L 104 y_L_strip ∈ z_gw := z_gwi 619 (by decide +kernel) (by decide +kernel)
theorem k_ml_L_106 : Cond.methodLink R_L 106 y_M_strip ∈ z_gw := z_gwi 882 (by decide +kernel) (by decide +kernel)
theorem k_ml_L_107 : Cond.methodLink R_L 107 y_L_cell2 ∈ z_gw := z_gwi 626 (by decide +kernel) (by decide +kernel)
theorem k_ml_L_109 : Cond.methodLink R_L 109 y_M_cell ∈ z_gw := z_gwi 886 (by decide +kernel) (by decide +kernel)
theorem k_ml_L_110 : Cond.methodLink R_L 110 y_L_isSpeck ∈ z_gw := z_gwi 633 (by decide +kernel) (by decide +kernel)
theorem k_ml_L_112 : Cond.methodLink R_L 112 y_M_isSpeck ∈ z_gw := z_gwi 890 (by decide +kernel) (by decide +kernel)
theorem k_ml_L_113 : Cond.methodLink R_L 113 y_P_told ∈ z_gw := z_gwi 253 (by decide +kernel) (by decide +kernel)
theorem k_ml_L_116 : Cond.methodLink R_L 116 y_M_told ∈ z_gw := z_gwi 894 (by decide +kernel) (by decide +kernel)
theorem k_ml_L_117 : Cond.methodLink R_L 117 y_P_clear ∈ z_gw := z_gwi 261 (by decide +kernel) (by decide +kernel)
theorem k_ml_L_120 : Cond.methodLink R_L 120 y_M_clear ∈ z_gw := z_gwi 758 (by decide +kernel) (by decide +kernel)
theorem k_ml_L_15 : Cond.methodLink R_L 15 y_P_fill ∈ z_gw := z_gwi 356 (by decide +kernel) (by decide +kernel)
theorem k_ml_L_21 : Cond.methodLink R_L 21 y_P_noise ∈ z_gw := z_gwi 379 (by decide +kernel) (by decide +kernel)
theorem k_ml_L_25 : Cond.methodLink R_L 25 y_P_run ∈ z_gw := z_gwi 387 (by decide +kernel) (by decide +kernel)
theorem k_ml_L_29 : Cond.methodLink R_L 29 y_P_part ∈ z_gw := z_gwi 502 (by decide +kernel) (by decide +kernel)
theorem k_ml_L_34 : Cond.methodLink R_L 34 y_P_partOf ∈ z_gw := z_gwi 586 (by decide +kernel) (by decide +kernel)
theorem k_ml_L_37 : Cond.methodLink R_L 37 y_P_line ∈ z_gw := z_gwi 593 (by decide +kernel) (by decide +kernel)
theorem k_ml_L_41 : Cond.methodLink R_L 41 y_P_order ∈ z_gw := z_gwi 608 (by decide +kernel) (by decide +kernel)
theorem k_ml_L_44 : Cond.methodLink R_L 44 y_P_cover ∈ z_gw := z_gwi 615 (by decide +kernel) (by decide +kernel)
theorem k_ml_L_47 : Cond.methodLink R_L 47 y_P_strip ∈ z_gw := z_gwi 622 (by decide +kernel) (by decide +kernel)
theorem k_ml_L_50 : Cond.methodLink R_L 50 y_P_cell ∈ z_gw := z_gwi 629 (by decide +kernel) (by decide +kernel)
theorem k_ml_L_53 : Cond.methodLink R_L 53 y_P_isSpeck ∈ z_gw := z_gwi 636 (by decide +kernel) (by decide +kernel)
theorem k_ml_L_57 : Cond.methodLink R_L 57 y_L_cell ∈ z_gw := z_gwi 265 (by decide +kernel) (by decide +kernel)
theorem k_ml_L_62 : Cond.methodLink R_L 62 y_P_init ∈ z_gw := z_gwi 76 (by decide +kernel) (by decide +kernel)
theorem k_ml_L_67 : Cond.methodLink R_L 67 y_M_init ∈ z_gw := z_gwi 642 (by decide +kernel) (by decide +kernel)
theorem k_ml_L_68 : Cond.methodLink R_L 68 y_L_put ∈ z_gw := z_gwi 268 (by decide +kernel) (by decide +kernel)
theorem k_ml_L_7 : Cond.methodLink R_L 7 y_P_put ∈ z_gw := z_gwi 272 (by decide +kernel) (by decide +kernel)
theorem k_ml_L_71 : Cond.methodLink R_L 71 y_M_put ∈ z_gw := z_gwi 735 (by decide +kernel) (by decide +kernel)
theorem k_ml_L_72 : Cond.methodLink R_L 72 y_M_thrown ∈ z_gw := z_gwi 731 (by decide +kernel) (by decide +kernel)
theorem k_ml_L_76 : Cond.methodLink R_L 76 y_L_fill ∈ z_gw := z_gwi 352 (by decide +kernel) (by decide +kernel)
theorem k_ml_L_79 : Cond.methodLink R_L 79 y_M_fill ∈ z_gw := z_gwi 750 (by decide +kernel) (by decide +kernel)
theorem k_ml_L_80 : Cond.methodLink R_L 80 y_L_noise ∈ z_gw := z_gwi 376 (by decide +kernel) (by decide +kernel)
theorem k_ml_L_83 : Cond.methodLink R_L 83 y_M_noise ∈ z_gw := z_gwi 754 (by decide +kernel) (by decide +kernel)
theorem k_ml_L_84 : Cond.methodLink R_L 84 y_L_run ∈ z_gw := z_gwi 384 (by decide +kernel) (by decide +kernel)
theorem k_ml_L_87 : Cond.methodLink R_L 87 y_M_run ∈ z_gw := z_gwi 762 (by decide +kernel) (by decide +kernel)
theorem k_ml_L_88 : Cond.methodLink R_L 88 y_L_part ∈ z_gw := z_gwi 498 (by decide +kernel) (by decide +kernel)
theorem k_ml_L_90 : Cond.methodLink R_L 90 y_M_part ∈ z_gw := z_gwi 854 (by decide +kernel) (by decide +kernel)
theorem k_ml_L_91 : Cond.methodLink R_L 91 y_L_partOf ∈ z_gw := z_gwi 583 (by decide +kernel) (by decide +kernel)
theorem k_ml_L_93 : Cond.methodLink R_L 93 y_M_partOf ∈ z_gw := z_gwi 866 (by decide +kernel) (by decide +kernel)
theorem k_ml_L_94 : Cond.methodLink R_L 94 y_L_line ∈ z_gw := z_gwi 590 (by decide +kernel) (by decide +kernel)
theorem k_ml_L_97 : Cond.methodLink R_L 97 y_M_line ∈ z_gw := z_gwi 870 (by decide +kernel) (by decide +kernel)
theorem k_ml_L_98 : Cond.methodLink R_L 98 y_L_order ∈ z_gw := z_gwi 605 (by decide +kernel) (by decide +kernel)
theorem k_ml_M_1 : Cond.methodLink R_M 1 objectInit ∈ z_gw := z_gwi 645 (by decide +kernel) (by decide +kernel)
theorem k_ml_M_101 : Cond.methodLink R_M 101 y_M_settles ∈ z_gw := z_gwi 778 (by decide +kernel) (by decide +kernel)
theorem k_ml_M_105 : Cond.methodLink R_M 105 y_M_group ∈ z_gw := z_gwi 770 (by decide +kernel) (by decide +kernel)
theorem k_ml_M_109 : Cond.methodLink R_M 109 y_M_sizeOf ∈ z_gw := z_gwi 782 (by decide +kernel) (by decide +kernel)
theorem k_ml_M_112 : Cond.methodLink R_M 112 y_M_inGap ∈ z_gw := z_gwi 786 (by decide +kernel) (by decide +kernel)
theorem k_ml_M_119 : Cond.methodLink R_M 119 y_M_kindOf ∈ z_gw := z_gwi 794 (by decide +kernel) (by decide +kernel)
theorem k_ml_M_123 : Cond.methodLink R_M 123 y_M_cleanIn ∈ z_gw := z_gwi 798 (by decide +kernel) (by decide +kernel)
theorem k_ml_M_130 : Cond.methodLink R_M 130 y_M_takeCover ∈ z_gw := z_gwi 806 (by decide +kernel) (by decide +kernel)
theorem k_ml_M_140 : Cond.methodLink R_M 140 y_M_isClosed ∈ z_gw := z_gwi 818 (by decide +kernel) (by decide +kernel)
theorem k_ml_M_144 : Cond.methodLink R_M 144 y_M_low ∈ z_gw := z_gwi 834 (by decide +kernel) (by decide +kernel)
theorem k_ml_M_148 : Cond.methodLink R_M 148 y_M_high ∈ z_gw := z_gwi 838 (by decide +kernel) (by decide +kernel)
theorem k_ml_M_151 : Cond.methodLink R_M 151 y_M_isBefore ∈ z_gw := z_gwi 850 (by decide +kernel) (by decide +kernel)
theorem k_ml_M_154 : Cond.methodLink R_M 154 y_M_swap ∈ z_gw := z_gwi 842 (by decide +kernel) (by decide +kernel)
theorem k_ml_M_158 : Cond.methodLink R_M 158 y_M_gap ∈ z_gw := z_gwi 830 (by decide +kernel) (by decide +kernel)
theorem k_ml_M_162 : Cond.methodLink R_M 162 y_M_parts ∈ z_gw := z_gwi 826 (by decide +kernel) (by decide +kernel)
theorem k_ml_M_165 : Cond.methodLink R_M 165 y_M_sort ∈ z_gw := z_gwi 846 (by decide +kernel) (by decide +kernel)
theorem k_ml_M_168 : Cond.methodLink R_M 168 y_M_takeInk ∈ z_gw := z_gwi 766 (by decide +kernel) (by decide +kernel)
theorem k_ml_M_171 : Cond.methodLink R_M 171 y_M_takeParts ∈ z_gw := z_gwi 790 (by decide +kernel) (by decide +kernel)
theorem k_ml_M_174 : Cond.methodLink R_M 174 y_M_takeCovers ∈ z_gw := z_gwi 802 (by decide +kernel) (by decide +kernel)
theorem k_ml_M_177 : Cond.methodLink R_M 177 y_M_takeStrips ∈ z_gw := z_gwi 810 (by decide +kernel) (by decide +kernel)
theorem k_ml_M_180 : Cond.methodLink R_M 180 y_M_takeCells ∈ z_gw := z_gwi 814 (by decide +kernel) (by decide +kernel)
theorem k_ml_M_183 : Cond.methodLink R_M 183 y_M_takeOrder ∈ z_gw := z_gwi 822 (by decide +kernel) (by decide +kernel)
theorem k_ml_M_186 : Cond.methodLink R_M 186 y_M_lines ∈ z_gw := z_gwi 858 (by decide +kernel) (by decide +kernel)
theorem k_ml_M_189 : Cond.methodLink R_M 189 y_M_inkOf ∈ z_gw := z_gwi 862 (by decide +kernel) (by decide +kernel)
theorem k_ml_M_69 : Cond.methodLink R_M 69 y_M_nearest ∈ z_gw := z_gwi 646 (by decide +kernel) (by decide +kernel)
theorem k_ml_M_82 : Cond.methodLink R_M 82 y_M_in ∈ z_gw := z_gwi 743 (by decide +kernel) (by decide +kernel)
theorem k_ml_M_86 : Cond.methodLink R_M 86 y_M_isSample ∈ z_gw := z_gwi 739 (by decide +kernel) (by decide +kernel)
theorem k_ml_M_90 : Cond.methodLink R_M 90 y_M_goes ∈ z_gw := z_gwi 746 (by decide +kernel) (by decide +kernel)
theorem k_ml_M_98 : Cond.methodLink R_M 98 y_M_is ∈ z_gw := z_gwi 774 (by decide +kernel) (by decide +kernel)
theorem k_ml_P_101 : Cond.methodLink R_P 101 y_C_find ∈ z_gw := z_gwi 429 (by decide +kernel) (by decide +kernel)
theorem k_ml_P_104 : Cond.methodLink R_P 104 y_P_findStrips ∈ z_gw := z_gwi 454 (by decide +kernel) (by decide +kernel)
theorem k_ml_P_107 : Cond.methodLink R_P 107 y_G_dropAtEdge ∈ z_gw := z_gwi 462 (by decide +kernel) (by decide +kernel)
theorem k_ml_P_110 : Cond.methodLink R_P 110 y_R_arrange ∈ z_gw := z_gwi 466 (by decide +kernel) (by decide +kernel)
theorem k_ml_P_117 : Cond.methodLink R_P 117 y_P_mustBeParted ∈ z_gw := z_gwi 506 (by decide +kernel) (by decide +kernel)
theorem k_ml_P_120 : Cond.methodLink R_P 120 y_P_mustBeBelow ∈ z_gw := z_gwi 526 (by decide +kernel) (by decide +kernel)
theorem k_ml_P_123 : Cond.methodLink R_P 123 y_P_mustBeTold ∈ z_gw := z_gwi 530 (by decide +kernel) (by decide +kernel)
theorem k_ml_P_126 : Cond.methodLink R_P 126 y_P_weightOf ∈ z_gw := z_gwi 534 (by decide +kernel) (by decide +kernel)
theorem k_ml_P_129 : Cond.methodLink R_P 129 y_P_kindOf ∈ z_gw := z_gwi 538 (by decide +kernel) (by decide +kernel)
theorem k_ml_P_132 : Cond.methodLink R_P 132 y_P_countLines ∈ z_gw := z_gwi 565 (by decide +kernel) (by decide +kernel)
theorem k_ml_P_138 : Cond.methodLink R_P 138 y_G_boxOf ∈ z_gw := z_gwi 577 (by decide +kernel) (by decide +kernel)
theorem k_ml_P_144 : Cond.methodLink R_P 144 y_P_firstRowOfLine ∈ z_gw := z_gwi 597 (by decide +kernel) (by decide +kernel)
theorem k_ml_P_147 : Cond.methodLink R_P 147 y_P_countRowsOfLine ∈ z_gw := z_gwi 601 (by decide +kernel) (by decide +kernel)
theorem k_ml_P_169 : Cond.methodLink R_P 169 y_P_toldOfParted ∈ z_gw := z_gwi 257 (by decide +kernel) (by decide +kernel)
theorem k_ml_P_172 : Cond.methodLink R_P 172 Lib.Math.max.name ∈ z_gw := z_gwi 88 (by decide +kernel) (by decide +kernel)
theorem k_ml_P_179 : Cond.methodLink R_P 179 ⟨"java/lang/IllegalStateException", "<init>", "(Ljava/lang/String;)V"⟩ ∈ z_gw := z_gwi 520 (by decide +kernel) (by decide +kernel)
theorem k_ml_P_184 : Cond.methodLink R_P 184 ⟨"java/lang/IndexOutOfBoundsException", "<init>", "(Ljava/lang/String;)V"⟩ ∈ z_gw := z_gwi 322 (by decide +kernel) (by decide +kernel)
theorem k_ml_P_195 : Cond.methodLink R_P 195 y_P_smearAlong ∈ z_gw := z_gwi 425 (by decide +kernel) (by decide +kernel)
theorem k_ml_P_199 : Cond.methodLink R_P 199 y_P_hasInk ∈ z_gw := z_gwi 458 (by decide +kernel) (by decide +kernel)
theorem k_ml_P_203 : Cond.methodLink R_P 203 y_G_wideOf ∈ z_gw := z_gwi 542 (by decide +kernel) (by decide +kernel)
theorem k_ml_P_206 : Cond.methodLink R_P 206 y_G_highOf ∈ z_gw := z_gwi 546 (by decide +kernel) (by decide +kernel)
theorem k_ml_P_209 : Cond.methodLink R_P 209 y_P_isThin ∈ z_gw := z_gwi 550 (by decide +kernel) (by decide +kernel)
theorem k_ml_P_213 : Cond.methodLink R_P 213 y_P_isFramed ∈ z_gw := z_gwi 553 (by decide +kernel) (by decide +kernel)
theorem k_ml_P_216 : Cond.methodLink R_P 216 y_P_isMostlyEmptyWithin ∈ z_gw := z_gwi 561 (by decide +kernel) (by decide +kernel)
theorem k_ml_P_221 : Cond.methodLink R_P 221 y_P_countClean ∈ z_gw := z_gwi 557 (by decide +kernel) (by decide +kernel)
theorem k_ml_P_23 : Cond.methodLink R_P 23 y_P_nearestSide ∈ z_gw := z_gwi 82 (by decide +kernel) (by decide +kernel)
theorem k_ml_P_231 : Cond.methodLink R_P 231 y_P_beginsLine ∈ z_gw := z_gwi 569 (by decide +kernel) (by decide +kernel)
theorem k_ml_P_234 : Cond.methodLink R_P 234 y_P_hasCleanOf ∈ z_gw := z_gwi 573 (by decide +kernel) (by decide +kernel)
theorem k_ml_P_3 : Cond.methodLink R_P 3 objectInit ∈ z_gw := z_gwi 79 (by decide +kernel) (by decide +kernel)
theorem k_ml_P_36 : Cond.methodLink R_P 36 y_G_init ∈ z_gw := z_gwi 93 (by decide +kernel) (by decide +kernel)
theorem k_ml_P_48 : Cond.methodLink R_P 48 y_C_init ∈ z_gw := z_gwi 144 (by decide +kernel) (by decide +kernel)
theorem k_ml_P_63 : Cond.methodLink R_P 63 y_P_mustBeSample ∈ z_gw := z_gwi 276 (by decide +kernel) (by decide +kernel)
theorem k_ml_P_70 : Cond.methodLink R_P 70 y_P_paint ∈ z_gw := z_gwi 348 (by decide +kernel) (by decide +kernel)
theorem k_ml_P_78 : Cond.methodLink R_P 78 ⟨"java/lang/IllegalArgumentException", "<init>", "(Ljava/lang/String;)V"⟩ ∈ z_gw := z_gwi 370 (by decide +kernel) (by decide +kernel)
theorem k_ml_P_81 : Cond.methodLink R_P 81 Lib.Math.min.name ∈ z_gw := z_gwi 85 (by decide +kernel) (by decide +kernel)
theorem k_ml_P_91 : Cond.methodLink R_P 91 y_P_findClean ∈ z_gw := z_gwi 392 (by decide +kernel) (by decide +kernel)
theorem k_ml_P_94 : Cond.methodLink R_P 94 y_P_smear ∈ z_gw := z_gwi 421 (by decide +kernel) (by decide +kernel)
theorem k_ml_P_97 : Cond.methodLink R_P 97 y_G_find ∈ z_gw := z_gwi 396 (by decide +kernel) (by decide +kernel)
theorem k_ml_R_21 : Cond.methodLink R_R 21 y_R_sortByBoxes ∈ z_gw := z_gwi 470 (by decide +kernel) (by decide +kernel)
theorem k_ml_R_3 : Cond.methodLink R_R 3 objectInit ∈ z_gw := z_gwi 186 (by decide +kernel) (by decide +kernel)
theorem k_ml_R_31 : Cond.methodLink R_R 31 y_R_findCut ∈ z_gw := z_gwi 477 (by decide +kernel) (by decide +kernel)
theorem k_ml_R_35 : Cond.methodLink R_R 35 y_R_divide ∈ z_gw := z_gwi 491 (by decide +kernel) (by decide +kernel)
theorem k_ml_R_39 : Cond.methodLink R_R 39 y_R_isBefore ∈ z_gw := z_gwi 474 (by decide +kernel) (by decide +kernel)
theorem k_ml_R_54 : Cond.methodLink R_R 54 y_R_lookAlong ∈ z_gw := z_gwi 481 (by decide +kernel) (by decide +kernel)
theorem k_ml_R_61 : Cond.methodLink R_R 61 y_R_bits ∈ z_gw := z_gwi 485 (by decide +kernel) (by decide +kernel)
theorem k_ml_R_65 : Cond.methodLink R_R 65 y_R_hasBit ∈ z_gw := z_gwi 488 (by decide +kernel) (by decide +kernel)
theorem k_ml_R_76 : Cond.methodLink R_R 76 arraycopyName ∈ z_gw := z_gwi 495 (by decide +kernel) (by decide +kernel)
theorem k_st_min : Cond.static Lib.Math.min.name ∈ z_gw := z_gwi 86 (by decide +kernel) (by decide +kernel)
theorem k_st_max : Cond.static Lib.Math.max.name ∈ z_gw := z_gwi 89 (by decide +kernel) (by decide +kernel)
theorem k_st_arraycopy : Cond.static arraycopyName ∈ z_gw := z_gwi 496 (by decide +kernel) (by decide +kernel)
theorem k_in_Math : Cond.initialized "java/lang/Math" ∈ z_gw := z_gwi 61 (by decide +kernel) (by decide +kernel)
theorem k_in_System : Cond.initialized "java/lang/System" ∈ z_gw := z_gwi 72 (by decide +kernel) (by decide +kernel)
theorem k_nt_arraycopy : Cond.native arraycopyName ∈ z_gw := z_gwi 497 (by decide +kernel) (by decide +kernel)
theorem k_co_min : Cond.code Lib.Math.min.name Lib.Math.min.code 2 (some .int) ∈ z_gw := z_gwi 87 (by decide +kernel) (by decide +kernel)
theorem k_co_max : Cond.code Lib.Math.max.name Lib.Math.max.code 2 (some .int) ∈ z_gw := z_gwi 90 (by decide +kernel) (by decide +kernel)
theorem k_in_P : Cond.initialized R_P ∈ z_gw := z_gwi 60 (by decide +kernel) (by decide +kernel)
theorem k_in_G : Cond.initialized R_G ∈ z_gw := z_gwi 62 (by decide +kernel) (by decide +kernel)
theorem k_in_C : Cond.initialized R_C ∈ z_gw := z_gwi 63 (by decide +kernel) (by decide +kernel)
theorem k_in_R : Cond.initialized R_R ∈ z_gw := z_gwi 64 (by decide +kernel) (by decide +kernel)
theorem k_in_M : Cond.initialized R_M ∈ z_gw := z_gwi 65 (by decide +kernel) (by decide +kernel)
theorem k_in_L : Cond.initialized R_L ∈ z_gw := z_gwi 59 (by decide +kernel) (by decide +kernel)
abbrev zS : Type := Nat → Nat → Int32
abbrev zK : Type := (Nat × Nat) ⊕ (Nat × List (Option Nat))
abbrev z_ix (i : Int32) : Nat := i.toNatClampNeg
abbrev z_bo (v : Int32) : Prop := v = 0 ∨ v = 1
def z_kd : Nat → zK
  | 0 => .inr (0, [none, none, some 1, some 2, some 3, some 4, some 5, some 13, some 21, some 27, none, none, none, none, none])
  | 1 => .inl (1, 576)
  | 2 => .inl (1, 576)
  | 3 => .inl (1, 576)
  | 4 => .inl (0, 24)
  | 5 => .inr (1, [some 6, some 7, some 8, some 9, some 10, some 11, none, some 12, none, none])
  | 6 => .inl (0, 576)
  | 7 => .inl (0, 288)
  | 8 => .inl (0, 288)
  | 9 => .inl (0, 288)
  | 10 => .inl (0, 288)
  | 11 => .inl (0, 288)
  | 12 => .inl (0, 576)
  | 13 => .inr (1, [some 14, some 15, some 16, some 17, some 18, some 19, none, some 20, none, none])
  | 14 => .inl (0, 576)
  | 15 => .inl (0, 288)
  | 16 => .inl (0, 288)
  | 17 => .inl (0, 288)
  | 18 => .inl (0, 288)
  | 19 => .inl (0, 288)
  | 20 => .inl (0, 576)
  | 21 => .inr (2, [some 22, some 23, some 24, some 25, none, some 26, none, none, none])
  | 22 => .inl (0, 6)
  | 23 => .inl (0, 6)
  | 24 => .inl (0, 6)
  | 25 => .inl (0, 6)
  | 26 => .inl (0, 576)
  | 27 => .inr (3, [some 28, some 29, some 30, none, none, none])
  | 28 => .inl (0, 288)
  | 29 => .inl (0, 288)
  | 30 => .inl (0, 288)
  | 31 => .inr (4, [none, none, none, some 32, none, none, some 33, some 34, some 35, some 36, some 37, some 38, none, some 39, some 40, some 41, some 42, some 43, some 44, none, some 45, none, some 46, none, some 47, some 48, some 49])
  | 32 => .inl (1, 576)
  | 33 => .inl (1, 576)
  | 34 => .inl (1, 576)
  | 35 => .inl (1, 576)
  | 36 => .inl (1, 576)
  | 37 => .inl (0, 576)
  | 38 => .inl (0, 576)
  | 39 => .inl (0, 300)
  | 40 => .inl (0, 300)
  | 41 => .inl (0, 300)
  | 42 => .inl (0, 300)
  | 43 => .inl (0, 300)
  | 44 => .inl (0, 300)
  | 45 => .inl (0, 24)
  | 46 => .inl (0, 24)
  | 47 => .inl (0, 576)
  | 48 => .inl (0, 300)
  | 49 => .inl (0, 300)
  | 50 => .inl (2, 1)
  | _ => .inl (0, 0)
theorem kd_0 : z_kd 0 = .inr (0, [none, none, some 1, some 2, some 3, some 4, some 5, some 13, some 21, some 27, none, none, none, none, none]) := rfl
theorem kd_1 : z_kd 1 = .inl (1, 576) := rfl
theorem kd_2 : z_kd 2 = .inl (1, 576) := rfl
theorem kd_3 : z_kd 3 = .inl (1, 576) := rfl
theorem kd_4 : z_kd 4 = .inl (0, 24) := rfl
theorem kd_5 : z_kd 5 = .inr (1, [some 6, some 7, some 8, some 9, some 10, some 11, none, some 12, none, none]) := rfl
theorem kd_6 : z_kd 6 = .inl (0, 576) := rfl
theorem kd_7 : z_kd 7 = .inl (0, 288) := rfl
theorem kd_8 : z_kd 8 = .inl (0, 288) := rfl
theorem kd_9 : z_kd 9 = .inl (0, 288) := rfl
theorem kd_10 : z_kd 10 = .inl (0, 288) := rfl
theorem kd_11 : z_kd 11 = .inl (0, 288) := rfl
theorem kd_12 : z_kd 12 = .inl (0, 576) := rfl
theorem kd_13 : z_kd 13 = .inr (1, [some 14, some 15, some 16, some 17, some 18, some 19, none, some 20, none, none]) := rfl
theorem kd_14 : z_kd 14 = .inl (0, 576) := rfl
theorem kd_15 : z_kd 15 = .inl (0, 288) := rfl
theorem kd_16 : z_kd 16 = .inl (0, 288) := rfl
theorem kd_17 : z_kd 17 = .inl (0, 288) := rfl
theorem kd_18 : z_kd 18 = .inl (0, 288) := rfl
theorem kd_19 : z_kd 19 = .inl (0, 288) := rfl
theorem kd_20 : z_kd 20 = .inl (0, 576) := rfl
theorem kd_21 : z_kd 21 = .inr (2, [some 22, some 23, some 24, some 25, none, some 26, none, none, none]) := rfl
theorem kd_22 : z_kd 22 = .inl (0, 6) := rfl
theorem kd_23 : z_kd 23 = .inl (0, 6) := rfl
theorem kd_24 : z_kd 24 = .inl (0, 6) := rfl
theorem kd_25 : z_kd 25 = .inl (0, 6) := rfl
theorem kd_26 : z_kd 26 = .inl (0, 576) := rfl
theorem kd_27 : z_kd 27 = .inr (3, [some 28, some 29, some 30, none, none, none]) := rfl
theorem kd_28 : z_kd 28 = .inl (0, 288) := rfl
theorem kd_29 : z_kd 29 = .inl (0, 288) := rfl
theorem kd_30 : z_kd 30 = .inl (0, 288) := rfl
theorem kd_31 : z_kd 31 = .inr (4, [none, none, none, some 32, none, none, some 33, some 34, some 35, some 36, some 37, some 38, none, some 39, some 40, some 41, some 42, some 43, some 44, none, some 45, none, some 46, none, some 47, some 48, some 49]) := rfl
theorem kd_32 : z_kd 32 = .inl (1, 576) := rfl
theorem kd_33 : z_kd 33 = .inl (1, 576) := rfl
theorem kd_34 : z_kd 34 = .inl (1, 576) := rfl
theorem kd_35 : z_kd 35 = .inl (1, 576) := rfl
theorem kd_36 : z_kd 36 = .inl (1, 576) := rfl
theorem kd_37 : z_kd 37 = .inl (0, 576) := rfl
theorem kd_38 : z_kd 38 = .inl (0, 576) := rfl
theorem kd_39 : z_kd 39 = .inl (0, 300) := rfl
theorem kd_40 : z_kd 40 = .inl (0, 300) := rfl
theorem kd_41 : z_kd 41 = .inl (0, 300) := rfl
theorem kd_42 : z_kd 42 = .inl (0, 300) := rfl
theorem kd_43 : z_kd 43 = .inl (0, 300) := rfl
theorem kd_44 : z_kd 44 = .inl (0, 300) := rfl
theorem kd_45 : z_kd 45 = .inl (0, 24) := rfl
theorem kd_46 : z_kd 46 = .inl (0, 24) := rfl
theorem kd_47 : z_kd 47 = .inl (0, 576) := rfl
theorem kd_48 : z_kd 48 = .inl (0, 300) := rfl
theorem kd_49 : z_kd 49 = .inl (0, 300) := rfl
theorem kd_50 : z_kd 50 = .inl (2, 1) := rfl
/-- a Groups and its arrays from cell g on -/
def z_G (g : Nat) : Prop := g + 7 < 51 ∧ z_kd g = .inr (1, [some (g + 1), some (g + 2), some (g + 3), some (g + 4), some (g + 5), some (g + 6), none, some (g + 7), none, none]) ∧ z_kd (g + 1) = .inl (0, 576) ∧ z_kd (g + 2) = .inl (0, 288) ∧ z_kd (g + 3) = .inl (0, 288) ∧ z_kd (g + 4) = .inl (0, 288) ∧ z_kd (g + 5) = .inl (0, 288) ∧ z_kd (g + 6) = .inl (0, 288) ∧ z_kd (g + 7) = .inl (0, 576)
theorem z_lt0 {g : Nat} (h : z_G g) : g < 51 := by have := h.1; omega
theorem z_lt {g : Nat} (h : z_G g) (k : Nat) (hk : k < 8) : g + k < 51 := by have := h.1; omega
theorem z_G_5 : z_G 5 := ⟨by decide, rfl, rfl, rfl, rfl, rfl, rfl, rfl, rfl⟩
theorem z_G_13 : z_G 13 := ⟨by decide, rfl, rfl, rfl, rfl, rfl, rfl, rfl, rfl⟩
def z_B (k : Nat) : Prop := k < 51 ∧ z_kd k = .inl (1, 576)
theorem z_B_1 : z_B 1 := ⟨by decide, rfl⟩
theorem z_B_2 : z_B 2 := ⟨by decide, rfl⟩
theorem z_B_3 : z_B 3 := ⟨by decide, rfl⟩
def z_A (k : Nat) : Prop := k < 51 ∧ z_kd k = .inl (0, 288)
def z_F (k : Nat) : Prop := k < 51 ∧ z_kd k = .inl (0, 576)
theorem z_A_7 : z_A 7 := ⟨by decide, rfl⟩
theorem z_A_8 : z_A 8 := ⟨by decide, rfl⟩
theorem z_A_9 : z_A 9 := ⟨by decide, rfl⟩
theorem z_A_10 : z_A 10 := ⟨by decide, rfl⟩
theorem z_A_11 : z_A 11 := ⟨by decide, rfl⟩
end
section
/-! THE WORLD: 51 cells (the class's, the reference's, the law's long array); what they hold is ONE function zS: cell, place -> int.
An object's int fields are its places by slot; its references are fixed (z_kd says which cell each names). -/
section ZA
/-- an array as a function of its place, set at one -/
def z_su (S : zS) (k i : Nat) (v : Int32) : zS := fun a => if a = k then upd (S k) i v else S a
/-- the first n places of an array set -/
def z_sf (S : zS) (k n : Nat) (v : Int32) : zS := fun a => if a = k then (fun j => if j < n then v else S k j) else S a
/-- a stretch of one array copied to another -/
def z_sc (S : zS) (k1 k2 sp dp n : Nat) : zS := fun a => if a = k2 then va_cpy (S k1) (S k2) sp dp n else S a
def z_cp (sp dp n : Int32) (n1 n2 : Nat) : Prop := ¬ sp < 0 ∧ ¬ dp < 0 ∧ ¬ n < 0 ∧ z_ix sp + z_ix n ≤ n1 ∧ z_ix dp + z_ix n ≤ n2
def z_fv (ad : Nat → Nat) (r : Nat → Int32) (j : Nat) (o : Option Nat) : Value := match o with
  | none => .int (r j)
  | some h => .ref (ad h)
def z_fl (ad : Nat → Nat) (r : Nat → Int32) (fl : List (Option Nat)) : List Value := fl.mapIdx (z_fv ad r)
def z_ce (cA : Nat → ClassId) (ad : Nat → Nat) (k : Nat) (r : Nat → Int32) : va_E := match z_kd k with
  | .inl q => if q.1 = 2 then .inl (cA 2, q.2, .inr (.inl fun i => (r i).toInt64)) else .inl (cA q.1, q.2, .inl r)
  | .inr q => .inr (q.1, z_fl ad r q.2)
def z_w (cA : Nat → ClassId) (n : Nat) (ad : Nat → Nat) (S : zS) : va_W := (List.range n).map fun k => (ad k, z_ce cA ad k (S k))
variable {cA : Nat → ClassId} {n : Nat} {ad : Nat → Nat} {S : zS}
theorem z_w_at {k : Nat} (h : k < n) : (z_w cA n ad S)[k]? = some (ad k, z_ce cA ad k (S k)) := by
  simp [z_w, h]
theorem z_w_lt {k : Nat} {q : Nat × va_E} (h : (z_w cA n ad S)[k]? = some q) : k < n := by
  have := (List.getElem?_eq_some_iff.mp h).1
  simpa [z_w] using this
theorem z_w_set {k : Nat} (h : k < n) (r : Nat → Int32) : (z_w cA n ad S).set k (ad k, z_ce cA ad k r) = z_w cA n ad (fun a => if a = k then r else S a) := by
  apply List.ext_getElem?
  intro i
  rw [List.getElem?_set]
  by_cases hi : k = i
  · subst hi
    simp [z_w, h]
  · by_cases hn : i < n
    · simp [z_w, hi, hn, Ne.symm hi]
    · simp [z_w, hi, hn]
theorem z_w_D (hJ : ∀ i j, i < n → j < n → ad i = ad j → i = j) {A : Nat → Prop} (hA : ∀ k, k < n → A (ad k)) : va_D A (z_w cA n ad S) := by
  refine ⟨fun i j p q hp hq e => ?_, fun k q hk => ?_⟩
  · have h1 := z_w_lt hp
    have h2 := z_w_lt hq
    rw [z_w_at h1] at hp
    rw [z_w_at h2] at hq
    cases hp
    cases hq
    exact hJ i j h1 h2 e
  · have h1 := z_w_lt hk
    rw [z_w_at h1] at hk
    cases hk
    exact hA k h1
theorem z_ce_o {k ci : Nat} {fl : List (Option Nat)} {r : Nat → Int32} (h : z_kd k = .inr (ci, fl)) : z_ce cA ad k r = .inr (ci, z_fl ad r fl) := by
  simp [z_ce, h]
theorem z_ce_a {k t n : Nat} {r : Nat → Int32} (h : z_kd k = .inl (t, n)) (ht : t ≠ 2) : z_ce cA ad k r = .inl (cA t, n, .inl r) := by
  simp [z_ce, h, ht]
theorem z_ce_l {k n : Nat} {r : Nat → Int32} (h : z_kd k = .inl (2, n)) : z_ce cA ad k r = .inl (cA 2, n, .inr (.inl fun i => (r i).toInt64)) := by
  simp [z_ce, h]
theorem z_fl_at {fl : List (Option Nat)} {r : Nat → Int32} {j : Nat} {o : Option Nat} (h : fl[j]? = some o) : (z_fl ad r fl)[j]? = some (z_fv ad r j o) := by
  simp [z_fl, h]
theorem z_fl_set {fl : List (Option Nat)} {r : Nat → Int32} {j : Nat} {v : Int32} (h : fl[j]? = some none) : (z_fl ad r fl).set j (.int v) = z_fl ad (upd r j v) fl := by
  apply List.ext_getElem?
  intro i
  rw [List.getElem?_set]
  by_cases hi : j = i
  · subst hi
    have hl : j < fl.length := (List.getElem?_eq_some_iff.mp h).1
    simp only [z_fl, List.length_mapIdx, hl, if_true, List.getElem?_mapIdx, h]
    simp [z_fv, upd]
  · simp only [z_fl, List.getElem?_mapIdx, hi, if_false]
    cases hf : fl[i]? with
    | none => rfl
    | some o => cases o <;> simp [z_fv, upd, Ne.symm hi]
/-- the addresses that a method may change: the world's own and what is new -/
def z_fr (n : Nat) (ad : Nat → Nat) (sz : Nat) : Nat → Prop := fun q => (∃ k, k < n ∧ q = ad k) ∨ sz ≤ q
theorem z_fr_in {k sz : Nat} (h : k < n) : z_fr n ad sz (ad k) := Or.inl ⟨k, h, rfl⟩
theorem z_fr_mono {a b q : Nat} (h : a ≤ b) (hq : z_fr n ad b q) : z_fr n ad a q := hq.elim Or.inl fun z => Or.inr (Nat.le_trans h z)
def z_ty (cA : Nat → ClassId) : List (ClassId × FieldType) := [(cA 0, .int), (cA 1, .boolean), (cA 2, .long)]
def z_I (D : va_G) (cA : Nat → ClassId) (n : Nat) (ad : Nat → Nat) (H0 : Heap) (S : zS) (H : Heap) (locs : List Loc) : Prop := va_P D z_cl (z_w cA n ad S) H ∧ va_S (z_fr n ad H0.size) H0 H locs
def z_CT (p : Program) (s : State) (m : MethodId) (args : Array Value) (c : Code) (own : String) (cc : ByteArray) (nL : Nat) (D : va_G) (cA : Nat → ClassId) (n : Nat) (ad : Nat → Nat) : Prop :=
  p.tables.exec = Jvm.exec ∧ c.code = cc ∧ c.maxLocals = nL ∧ s.vm.findClass own = some m.cls ∧ (∀ w ∈ z_gw, w.before args s = true) ∧ va_K D z_cl (z_ty cA) s ∧ ∀ i j, i < n → j < n → ad i = ad j → i = j
theorem z_nb {v : Int32} (h : z_bo v) : narrow .boolean (.int v) = .int v := by
  rcases h with rfl | rfl <;> decide
theorem z_fb {v : Int32} (h : z_bo v) : fits .boolean (.int v) = true := by
  rcases h with rfl | rfl <;> decide
theorem z_vb {v : Int32} (h : z_bo v) : vp_nar .boolean v = v := by
  rcases h with rfl | rfl <;> decide
end ZA
section ZR
variable {p : Program} {l : Launch} {e : Env} {R : Room} {s : State} {m : MethodId} {args : Array Value} {below : List Frame} {meth : Method} {c : Code} {H : Heap} {locs : List Loc} {cells slots : Nat} {Q : State → Prop}
variable {cc : ByteArray} {pc nL : Nat} {ls : Array Slot} {rest : List Value} {D : va_G} {cA : Nat → ClassId} {n : Nat} {ad : Nat → Nat} {S : zS} {own : String}
theorem z_getI (C : z_CT p s m args c own cc nL D cA n ad) (hI : z_I D cA n ad s.heap S H locs) (k : Nat) (hk : k < n) {ci : Nat} {fl : List (Option Nat)} (hkd : z_kd k = .inr (ci, fl)) {C0 : String} {T : u_T} {N : Nat} (hc : z_cl[ci]? = some (C0, T, N)) (hin : ∀ w ∈ u_ws C0 T N, w ∈ z_gw) (j : Nat) (hj : j < N) {index : Nat} (hlink : Cond.fieldLink own index (T j).1 (T j).2.1 (T j).2.2.1 ∈ z_gw) (ho : fl[j]? = some none) (hdg : decode cc pc = .ok (.getfield index, 3))
    (kk : W p l e R s m args below meth c H locs cells slots Q (F0 m (pc + 3) ls (.int (S k j) :: rest))) : W p l e R s m args below meth c H locs cells slots Q (F0 m pc ls (.ref (ad k) :: rest)) := by
  obtain ⟨hx, hb, hml, hown, hts, hK, hJ⟩ := C
  exact va_get (D := D) (ci := ci) (v := .int (S k j)) hx hb hts hin hown hK hI.1 k (by rw [z_w_at hk, z_ce_o hkd]) hc j hj (hts _ hlink) (fun _ h => h) (z_fl_at ho) hdg kk
theorem z_getR (C : z_CT p s m args c own cc nL D cA n ad) (hI : z_I D cA n ad s.heap S H locs) (k : Nat) (hk : k < n) {ci : Nat} {fl : List (Option Nat)} (hkd : z_kd k = .inr (ci, fl)) {C0 : String} {T : u_T} {N : Nat} (hc : z_cl[ci]? = some (C0, T, N)) (hin : ∀ w ∈ u_ws C0 T N, w ∈ z_gw) (j : Nat) (hj : j < N) {index : Nat} (hlink : Cond.fieldLink own index (T j).1 (T j).2.1 (T j).2.2.1 ∈ z_gw) {q : Nat} (ho : fl[j]? = some (some q)) (hdg : decode cc pc = .ok (.getfield index, 3))
    (kk : W p l e R s m args below meth c H locs cells slots Q (F0 m (pc + 3) ls (.ref (ad q) :: rest))) : W p l e R s m args below meth c H locs cells slots Q (F0 m pc ls (.ref (ad k) :: rest)) := by
  obtain ⟨hx, hb, hml, hown, hts, hK, hJ⟩ := C
  exact va_get (D := D) (ci := ci) (v := .ref (ad q)) hx hb hts hin hown hK hI.1 k (by rw [z_w_at hk, z_ce_o hkd]) hc j hj (hts _ hlink) (fun _ h => h) (z_fl_at ho) hdg kk
theorem z_w_put {k j ci : Nat} {fl : List (Option Nat)} {v : Int32} (hk : k < n) (hkd : z_kd k = .inr (ci, fl)) (ho : fl[j]? = some none) : (z_w cA n ad S).set k (ad k, .inr (ci, (z_fl ad (S k) fl).set j (.int v))) = z_w cA n ad (z_su S k j v) := by
  rw [z_fl_set ho, show (Sum.inr (ci, z_fl ad (upd (S k) j v) fl) : va_E) = z_ce cA ad k (upd (S k) j v) from (z_ce_o hkd).symm, z_w_set hk]
  rfl
theorem z_putI (C : z_CT p s m args c own cc nL D cA n ad) (hI : z_I D cA n ad s.heap S H locs) (k : Nat) (hk : k < n) {ci : Nat} {fl : List (Option Nat)} (hkd : z_kd k = .inr (ci, fl)) {C0 : String} {T : u_T} {N : Nat} (hc : z_cl[ci]? = some (C0, T, N)) (hin : ∀ w ∈ u_ws C0 T N, w ∈ z_gw) (ty0 : Nat → FieldType) (hty : ∀ k, k < N → parseFieldDescriptor (T k).2.2.1 = some (ty0 k)) (hnm : ∀ a, a < N → ∀ b, b < N → a ≠ b → (T a).2.1 ≠ (T b).2.1) (j : Nat) (hj : j < N) {index : Nat} (hlink : Cond.fieldLink own index (T j).1 (T j).2.1 (T j).2.2.1 ∈ z_gw) (ho : fl[j]? = some none) (hfin : (T j).2.2.2 = false) (hd : ty0 j = .int) {v : Int32} (hdg : decode cc pc = .ok (.putfield index, 3))
    (kk : ∀ (S1 : zS) (_ : S1 = z_su S k j v) (H1 : Heap) (locs1 : List Loc), z_I D cA n ad s.heap S1 H1 locs1 → W p l e R s m args below meth c H1 locs1 cells slots Q (F0 m (pc + 3) ls rest)) : W p l e R s m args below meth c H locs cells slots Q (F0 m pc ls (.int v :: .ref (ad k) :: rest)) := by
  obtain ⟨hx, hb, hml, hown, hts, hK, hJ⟩ := C
  refine va_put (D := D) (ci := ci) (v := .int v) (ty := .int) hx hb hts hin ty0 hty hnm hown hK hI.1 (z_w_D hJ (fun k hk => z_fr_in hk)) hI.2 k (by rw [z_w_at hk, z_ce_o hkd]) hc j hj (hts _ hlink) (fun _ h => h) hfin (by rw [hty j hj, hd]) rfl rfl (by simpa [z_fl] using (List.getElem?_eq_some_iff.mp ho).1) hdg (fun H1 locs1 hP hD hS => kk _ rfl H1 locs1 ⟨?_, hS⟩)
  rw [z_w_put hk hkd ho] at hP
  exact hP
theorem z_putZ (C : z_CT p s m args c own cc nL D cA n ad) (hI : z_I D cA n ad s.heap S H locs) (k : Nat) (hk : k < n) {ci : Nat} {fl : List (Option Nat)} (hkd : z_kd k = .inr (ci, fl)) {C0 : String} {T : u_T} {N : Nat} (hc : z_cl[ci]? = some (C0, T, N)) (hin : ∀ w ∈ u_ws C0 T N, w ∈ z_gw) (ty0 : Nat → FieldType) (hty : ∀ k, k < N → parseFieldDescriptor (T k).2.2.1 = some (ty0 k)) (hnm : ∀ a, a < N → ∀ b, b < N → a ≠ b → (T a).2.1 ≠ (T b).2.1) (j : Nat) (hj : j < N) {index : Nat} (hlink : Cond.fieldLink own index (T j).1 (T j).2.1 (T j).2.2.1 ∈ z_gw) (ho : fl[j]? = some none) (hfin : (T j).2.2.2 = false) (hd : ty0 j = .boolean) {v : Int32} (hv : z_bo v) (hdg : decode cc pc = .ok (.putfield index, 3))
    (kk : ∀ (S1 : zS) (_ : S1 = z_su S k j v) (H1 : Heap) (locs1 : List Loc), z_I D cA n ad s.heap S1 H1 locs1 → W p l e R s m args below meth c H1 locs1 cells slots Q (F0 m (pc + 3) ls rest)) : W p l e R s m args below meth c H locs cells slots Q (F0 m pc ls (.int v :: .ref (ad k) :: rest)) := by
  obtain ⟨hx, hb, hml, hown, hts, hK, hJ⟩ := C
  refine va_put (D := D) (ci := ci) (v := .int v) (ty := .boolean) hx hb hts hin ty0 hty hnm hown hK hI.1 (z_w_D hJ (fun k hk => z_fr_in hk)) hI.2 k (by rw [z_w_at hk, z_ce_o hkd]) hc j hj (hts _ hlink) (fun _ h => h) hfin (by rw [hty j hj, hd]) (z_nb hv) (z_fb hv) (by simpa [z_fl] using (List.getElem?_eq_some_iff.mp ho).1) hdg (fun H1 locs1 hP hD hS => kk _ rfl H1 locs1 ⟨?_, hS⟩)
  rw [z_w_put hk hkd ho] at hP
  exact hP
theorem z_ild (C : z_CT p s m args c own cc nL D cA n ad) (hI : z_I D cA n ad s.heap S H locs) (k : Nat) (hk : k < n) {N : Nat} (hkd : z_kd k = .inl (0, N)) {i : Int32} (hin : vp_in i N) (hdg : decode cc pc = .ok (.iaload, 1))
    (kk : W p l e R s m args below meth c H locs cells slots Q (F0 m (pc + 1) ls (.int (S k (z_ix i)) :: rest))) : W p l e R s m args below meth c H locs cells slots Q (F0 m pc ls (.int i :: .ref (ad k) :: rest)) :=
  va_iald C.1 C.2.1 C.2.2.2.2.2.1 hI.1 k 0 (by rw [z_w_at hk, z_ce_a hkd (by decide)]) rfl hin hdg kk
theorem z_zld (C : z_CT p s m args c own cc nL D cA n ad) (hI : z_I D cA n ad s.heap S H locs) (k : Nat) (hk : k < n) {N : Nat} (hkd : z_kd k = .inl (1, N)) {i : Int32} (hin : vp_in i N) (hdg : decode cc pc = .ok (.baload, 1))
    (kk : W p l e R s m args below meth c H locs cells slots Q (F0 m (pc + 1) ls (.int (S k (z_ix i)) :: rest))) : W p l e R s m args below meth c H locs cells slots Q (F0 m pc ls (.int i :: .ref (ad k) :: rest)) :=
  va_zald C.1 C.2.1 C.2.2.2.2.2.1 hI.1 k 1 (by rw [z_w_at hk, z_ce_a hkd (by decide)]) rfl hin hdg kk
theorem z_lld (C : z_CT p s m args c own cc nL D cA n ad) (hI : z_I D cA n ad s.heap S H locs) (k : Nat) (hk : k < n) {N : Nat} (hkd : z_kd k = .inl (2, N)) {i : Int32} (hin : vp_in i N) (hdg : decode cc pc = .ok (.laload, 1))
    (kk : W p l e R s m args below meth c H locs cells slots Q (F0 m (pc + 1) ls (.long (Int32.toInt64 (S k (z_ix i))) :: rest))) : W p l e R s m args below meth c H locs cells slots Q (F0 m pc ls (.int i :: .ref (ad k) :: rest)) :=
  va_lald (f := fun j => (S k j).toInt64) C.1 C.2.1 C.2.2.2.2.2.1 hI.1 k 2 (by rw [z_w_at hk, z_ce_l hkd]) rfl hin hdg kk
theorem z_w_ast {k t N : Nat} {r : Nat → Int32} (hk : k < n) (hkd : z_kd k = .inl (t, N)) (ht : t ≠ 2) : (z_w cA n ad S).set k (ad k, .inl (cA t, N, .inl r)) = z_w cA n ad (fun a => if a = k then r else S a) := by
  rw [show (Sum.inl (cA t, N, .inl r) : va_E) = z_ce cA ad k r from (z_ce_a hkd ht).symm, z_w_set hk]
theorem z_ist (C : z_CT p s m args c own cc nL D cA n ad) (hI : z_I D cA n ad s.heap S H locs) (k : Nat) (hk : k < n) {N : Nat} (hkd : z_kd k = .inl (0, N)) {i v : Int32} (hin : vp_in i N) (hdg : decode cc pc = .ok (.iastore, 1))
    (kk : ∀ (S1 : zS) (_ : S1 = z_su S k (z_ix i) v) (H1 : Heap) (locs1 : List Loc), z_I D cA n ad s.heap S1 H1 locs1 → W p l e R s m args below meth c H1 locs1 cells slots Q (F0 m (pc + 1) ls rest)) : W p l e R s m args below meth c H locs cells slots Q (F0 m pc ls (.int v :: .int i :: .ref (ad k) :: rest)) := by
  obtain ⟨hx, hb, hml, hown, hts, hK, hJ⟩ := C
  refine va_iast hx hb hK hI.1 (z_w_D hJ (fun k hk => z_fr_in hk)) hI.2 k 0 (by rw [z_w_at hk, z_ce_a hkd (by decide)]) rfl hin hdg (fun H1 locs1 hP hD hS => kk _ rfl H1 locs1 ⟨?_, hS⟩)
  rw [z_w_ast hk hkd (by decide)] at hP
  exact hP
theorem z_zst (C : z_CT p s m args c own cc nL D cA n ad) (hI : z_I D cA n ad s.heap S H locs) (k : Nat) (hk : k < n) {N : Nat} (hkd : z_kd k = .inl (1, N)) {i v : Int32} (hin : vp_in i N) (hv : z_bo v) (hdg : decode cc pc = .ok (.bastore, 1))
    (kk : ∀ (S1 : zS) (_ : S1 = z_su S k (z_ix i) v) (H1 : Heap) (locs1 : List Loc), z_I D cA n ad s.heap S1 H1 locs1 → W p l e R s m args below meth c H1 locs1 cells slots Q (F0 m (pc + 1) ls rest)) : W p l e R s m args below meth c H locs cells slots Q (F0 m pc ls (.int v :: .int i :: .ref (ad k) :: rest)) := by
  obtain ⟨hx, hb, hml, hown, hts, hK, hJ⟩ := C
  refine va_zast hx hb hK hI.1 (z_w_D hJ (fun k hk => z_fr_in hk)) hI.2 k 1 (by rw [z_w_at hk, z_ce_a hkd (by decide)]) rfl hin hdg (fun H1 locs1 hP hD hS => kk _ rfl H1 locs1 ⟨?_, hS⟩)
  rw [z_vb hv, z_w_ast hk hkd (by decide)] at hP
  exact hP
theorem z_lst (C : z_CT p s m args c own cc nL D cA n ad) (hI : z_I D cA n ad s.heap S H locs) (k : Nat) (hk : k < n) {N : Nat} (hkd : z_kd k = .inl (2, N)) {i v : Int32} (hin : vp_in i N) (hdg : decode cc pc = .ok (.lastore, 1))
    (kk : ∀ (S1 : zS) (_ : S1 = z_su S k (z_ix i) v) (H1 : Heap) (locs1 : List Loc), z_I D cA n ad s.heap S1 H1 locs1 → W p l e R s m args below meth c H1 locs1 cells slots Q (F0 m (pc + 1) ls rest)) : W p l e R s m args below meth c H locs cells slots Q (F0 m pc ls (.long (Int32.toInt64 v) :: .int i :: .ref (ad k) :: rest)) := by
  obtain ⟨hx, hb, hml, hown, hts, hK, hJ⟩ := C
  refine va_last (f := fun j => (S k j).toInt64) hx hb hK hI.1 (z_w_D hJ (fun k hk => z_fr_in hk)) hI.2 k 2 (by rw [z_w_at hk, z_ce_l hkd]) rfl hin hdg (fun H1 locs1 hP hD hS => kk _ rfl H1 locs1 ⟨?_, hS⟩)
  have e1 : vp_updL (fun j => (S k j).toInt64) i.toNatClampNeg (Int32.toInt64 v) = fun j => (upd (S k) (z_ix i) v j).toInt64 := by
    funext j
    by_cases hj : j = i.toNatClampNeg <;> simp [vp_updL, upd, hj]
  rw [e1, show (Sum.inl (cA 2, N, .inr (.inl fun j => (upd (S k) (z_ix i) v j).toInt64)) : va_E) = z_ce cA ad k (upd (S k) (z_ix i) v) from (z_ce_l hkd).symm, z_w_set hk] at hP
  exact hP
/-- what a caller needs of a callee's words -/
def z_wv (y : MethodName) (bytes : ByteArray) (maxL : Nat) (ret : Option FieldType) (n : Nat) : Prop := Cond.instanceMethod y ∈ z_gw ∧ Cond.selects y.cls y y ∈ z_gw ∧ Cond.initialized y.cls ∈ z_gw ∧ Cond.code y bytes maxL ret ∈ z_gw ∧ y.cls ≠ "java/lang/invoke/MethodHandle" ∧ y.cls ≠ "java/lang/invoke/VarHandle" ∧ (parseMethodDescriptor y.desc).map (fun d => d.parameters.length) = some n
def z_ws (y : MethodName) (bytes : ByteArray) (maxL : Nat) (ret : Option FieldType) (n : Nat) : Prop := Cond.static y ∈ z_gw ∧ Cond.initialized y.cls ∈ z_gw ∧ Cond.code y bytes maxL ret ∈ z_gw ∧ y.cls ≠ "java/lang/invoke/MethodHandle" ∧ y.cls ≠ "java/lang/invoke/VarHandle" ∧ (parseMethodDescriptor y.desc).map (fun d => d.parameters.length) = some n
theorem z_gwg : ∀ w ∈ z_gw, (w.onTables && w.keeps) = true ∨ ∃ ty, w = .arrayClass ty := fun _ h => good_of_word (List.mem_filter.mp h).2
theorem z_GI {ws : List Cond} (h : ∀ w ∈ ws, w ∈ z_gw) : GoodIn z_gw ws := fun w hw => ⟨h w hw, z_gwg w (h w hw)⟩
def z_Pc (D : va_G) (cA : Nat → ClassId) (n : Nat) (ad : Nat → Nat) (av : List Value) (S : zS) (sz : Nat) : Array Value → State → Prop := va_Pc av (fun U => U.heap.size = sz ∧ va_P D z_cl (z_w cA n ad S) U.heap ∧ va_K D z_cl (z_ty cA) U)
theorem z_Pc_b {av : List Value} {sz : Nat} : FrameBlind (z_Pc D cA n ad av S sz) := fun a U g mk q => by
  obtain ⟨q0, q1, qP, qK⟩ := q
  exact ⟨q0, q1, qP, va_K.moved (u := U) (U := U.calling g mk a) (Vm.Alike.refl U.vm) qK⟩
/-- contracts: with an int (or boolean), with nothing -/
def z_cti (l : Launch) (D : va_G) (cA : Nat → ClassId) (n : Nat) (ad : Nat → Nat) (y : MethodName) (cc : ByteArray) (maxL : Nat) (ret : Option FieldType) (rm : Room) (av : List Value) (S : zS) (post : Int32 → zS → Prop) : Prop :=
  ∀ sz : Nat, (∀ i j, i < n → j < n → ad i = ad j → i = j) → Met l y (Cond.code y cc maxL ret :: z_gw) rm (z_Pc D cA n ad av S sz) (va_Qi post (fun S' t => va_P D z_cl (z_w cA n ad S') t.heap) (z_fr n ad sz)) 0 0 (z_fr n ad sz)
def z_ctv (l : Launch) (D : va_G) (cA : Nat → ClassId) (n : Nat) (ad : Nat → Nat) (y : MethodName) (cc : ByteArray) (maxL : Nat) (ret : Option FieldType) (rm : Room) (av : List Value) (S : zS) (post : zS → Prop) : Prop :=
  ∀ sz : Nat, (∀ i j, i < n → j < n → ad i = ad j → i = j) → Met l y (Cond.code y cc maxL ret :: z_gw) rm (z_Pc D cA n ad av S sz) (va_Qv post (fun S' t => va_P D z_cl (z_w cA n ad S') t.heap) (z_fr n ad sz)) 0 0 (z_fr n ad sz)
section ZC
variable {y : MethodName} {bytes : ByteArray} {maxL index : Nat} {ret : Option FieldType} {rm : Room} {As st0 : List Value}
theorem z_hA (hI : z_I D cA n ad s.heap S H locs) : ∀ q, z_fr n ad H.size q → z_fr n ad s.heap.size q := fun _ h => z_fr_mono hI.2.1 h
theorem z_GV (wc : z_wv y bytes maxL ret As.length) (wl : Cond.methodLink own index y ∈ z_gw) : GoodIn z_gw (wsV own index y.cls y (Cond.code y bytes maxL ret :: z_gw)) := z_GI (fun w hw => by
  obtain ⟨w1, w2, w3, w4, -⟩ := wc
  simp only [wsV, List.cons_append, List.nil_append, List.mem_cons] at hw
  rcases hw with rfl | rfl | rfl | rfl | rfl | hw
  · exact wl
  · exact w1
  · exact w2
  · exact w3
  · exact w4
  · exact hw)
theorem z_callVi (C : z_CT p s m args c own cc nL D cA n ad) (hI : z_I D cA n ad s.heap S H locs) (k : Nat) (hk : k < n) {ci : Nat} {fl : List (Option Nat)} (hkd : z_kd k = .inr (ci, fl)) {T : u_T} {N : Nat} (hc : z_cl[ci]? = some (y.cls, T, N)) {post : Int32 → zS → Prop}
    (hM : z_cti l D cA n ad y bytes maxL ret rm (.ref (ad k) :: As) S post) (wc : z_wv y bytes maxL ret As.length) (wl : Cond.methodLink own index y ∈ z_gw) (hr0 : rm.cells = 0) (hr1 : rm.slots = 0) (h1 : rm.frames + 1 ≤ R.frames) (h2 : 8 + (maxL + 11) + rm.locals ≤ R.locals) (hcs : cells ≤ R.cells ∧ slots ≤ R.slots) (hls : ls.size = nL) (hst : (rest.map fun v => v.category).sum ≤ 8) (h0 : st0 = As.reverse ++ .ref (ad k) :: rest) (hdg : decode cc pc = .ok (.invokevirtual index, 3))
    (kk : ∀ (r : Int32) (S1 : zS) (H1 : Heap) (locs1 : List Loc), post r S1 → z_I D cA n ad s.heap S1 H1 locs1 → W p l e R s m args below meth c H1 locs1 cells slots Q (F0 m (pc + 3) ls (.int r :: rest))) : W p l e R s m args below meth c H locs cells slots Q (F0 m pc ls st0) := by
  obtain ⟨hx, hb, hml, hown, hts, hK, hJ⟩ := id C
  have hA := z_hA hI
  refine va_calli (va_runV (b := ad k) (As := As) (rest := rest) ⟨hx, hb, hml, hown, hts⟩ (hM H.size hJ) (cwV As.length hts (z_GV wc wl) rfl hr0 hr1 ⟨rfl, wc.2.2.2.2⟩ ⟨h1, h2⟩) ⟨z_Pc_b, va_recv hK hI.1 (ci := ci) (q0 := k) hc (by rw [z_w_at hk, z_ce_o hkd]), fun U hU hW => ⟨rfl, by rw [hU], by rw [hU]; exact hI.1, va_K.moved hW.alike hK⟩⟩ rfl rfl hls h0 (lv_room hst) hdg ⟨hcs.1, hcs.2⟩) hI.2 (fun q _ h => hA q h) hA (fun r u t H1 locs1 ht hvm hp hB hz1 hk1 hS => kk r u H1 locs1 hp ⟨by rw [← ht]; exact hB, hS⟩)
theorem z_callVv (C : z_CT p s m args c own cc nL D cA n ad) (hI : z_I D cA n ad s.heap S H locs) (k : Nat) (hk : k < n) {ci : Nat} {fl : List (Option Nat)} (hkd : z_kd k = .inr (ci, fl)) {T : u_T} {N : Nat} (hc : z_cl[ci]? = some (y.cls, T, N)) {post : zS → Prop}
    (hM : z_ctv l D cA n ad y bytes maxL ret rm (.ref (ad k) :: As) S post) (wc : z_wv y bytes maxL ret As.length) (wl : Cond.methodLink own index y ∈ z_gw) (hr0 : rm.cells = 0) (hr1 : rm.slots = 0) (h1 : rm.frames + 1 ≤ R.frames) (h2 : 8 + (maxL + 11) + rm.locals ≤ R.locals) (hcs : cells ≤ R.cells ∧ slots ≤ R.slots) (hls : ls.size = nL) (hst : (rest.map fun v => v.category).sum ≤ 8) (h0 : st0 = As.reverse ++ .ref (ad k) :: rest) (hdg : decode cc pc = .ok (.invokevirtual index, 3))
    (kk : ∀ (S1 : zS) (H1 : Heap) (locs1 : List Loc), post S1 → z_I D cA n ad s.heap S1 H1 locs1 → W p l e R s m args below meth c H1 locs1 cells slots Q (F0 m (pc + 3) ls rest)) : W p l e R s m args below meth c H locs cells slots Q (F0 m pc ls st0) := by
  obtain ⟨hx, hb, hml, hown, hts, hK, hJ⟩ := id C
  have hA := z_hA hI
  refine va_callv (va_runV (b := ad k) (As := As) (rest := rest) ⟨hx, hb, hml, hown, hts⟩ (hM H.size hJ) (cwV As.length hts (z_GV wc wl) rfl hr0 hr1 ⟨rfl, wc.2.2.2.2⟩ ⟨h1, h2⟩) ⟨z_Pc_b, va_recv hK hI.1 (ci := ci) (q0 := k) hc (by rw [z_w_at hk, z_ce_o hkd]), fun U hU hW => ⟨rfl, by rw [hU], by rw [hU]; exact hI.1, va_K.moved hW.alike hK⟩⟩ rfl rfl hls h0 (lv_room hst) hdg ⟨hcs.1, hcs.2⟩) hI.2 (fun q _ h => hA q h) hA (fun u t H1 locs1 ht hvm hp hB hz1 hk1 hS => kk u H1 locs1 hp ⟨by rw [← ht]; exact hB, hS⟩)
theorem z_GS (wc : z_ws y bytes maxL ret As.length) (wl : Cond.methodLink own index y ∈ z_gw) : GoodIn z_gw (va_wsS own index y (Cond.code y bytes maxL ret :: z_gw)) := z_GI (fun w hw => by
  obtain ⟨w1, w2, w3, -⟩ := wc
  simp only [va_wsS, List.cons_append, List.nil_append, List.mem_cons] at hw
  rcases hw with rfl | rfl | rfl | rfl | hw
  · exact wl
  · exact w1
  · exact w2
  · exact w3
  · exact hw)
theorem z_callSi (C : z_CT p s m args c own cc nL D cA n ad) (hI : z_I D cA n ad s.heap S H locs) {post : Int32 → zS → Prop}
    (hM : z_cti l D cA n ad y bytes maxL ret rm As S post) (wc : z_ws y bytes maxL ret As.length) (wl : Cond.methodLink own index y ∈ z_gw) (hr0 : rm.cells = 0) (hr1 : rm.slots = 0) (h1 : rm.frames + 1 ≤ R.frames) (h2 : 8 + (maxL + 11) + rm.locals ≤ R.locals) (hcs : cells ≤ R.cells ∧ slots ≤ R.slots) (hls : ls.size = nL) (hst : (rest.map fun v => v.category).sum ≤ 8) (h0 : st0 = As.reverse ++ rest) (hdg : decode cc pc = .ok (.invokestatic index, 3))
    (kk : ∀ (r : Int32) (S1 : zS) (H1 : Heap) (locs1 : List Loc), post r S1 → z_I D cA n ad s.heap S1 H1 locs1 → W p l e R s m args below meth c H1 locs1 cells slots Q (F0 m (pc + 3) ls (.int r :: rest))) : W p l e R s m args below meth c H locs cells slots Q (F0 m pc ls st0) := by
  obtain ⟨hx, hb, hml, hown, hts, hK, hJ⟩ := id C
  have hA := z_hA hI
  refine va_calli (va_runS (As := As) (rest := rest) ⟨hx, hb, hml, hown, hts⟩ (hM H.size hJ) (va_cwS As.length hts (z_GS wc wl) rfl hr0 hr1 wc.2.2.2 ⟨h1, h2⟩) ⟨z_Pc_b, fun U hU hW => ⟨rfl, by rw [hU], by rw [hU]; exact hI.1, va_K.moved hW.alike hK⟩⟩ rfl rfl hls h0 (lv_room hst) hdg ⟨hcs.1, hcs.2⟩) hI.2 (fun q _ h => hA q h) hA (fun r u t H1 locs1 ht hvm hp hB hz1 hk1 hS => kk r u H1 locs1 hp ⟨by rw [← ht]; exact hB, hS⟩)
theorem z_callSv (C : z_CT p s m args c own cc nL D cA n ad) (hI : z_I D cA n ad s.heap S H locs) {post : zS → Prop}
    (hM : z_ctv l D cA n ad y bytes maxL ret rm As S post) (wc : z_ws y bytes maxL ret As.length) (wl : Cond.methodLink own index y ∈ z_gw) (hr0 : rm.cells = 0) (hr1 : rm.slots = 0) (h1 : rm.frames + 1 ≤ R.frames) (h2 : 8 + (maxL + 11) + rm.locals ≤ R.locals) (hcs : cells ≤ R.cells ∧ slots ≤ R.slots) (hls : ls.size = nL) (hst : (rest.map fun v => v.category).sum ≤ 8) (h0 : st0 = As.reverse ++ rest) (hdg : decode cc pc = .ok (.invokestatic index, 3))
    (kk : ∀ (S1 : zS) (H1 : Heap) (locs1 : List Loc), post S1 → z_I D cA n ad s.heap S1 H1 locs1 → W p l e R s m args below meth c H1 locs1 cells slots Q (F0 m (pc + 3) ls rest)) : W p l e R s m args below meth c H locs cells slots Q (F0 m pc ls st0) := by
  obtain ⟨hx, hb, hml, hown, hts, hK, hJ⟩ := id C
  have hA := z_hA hI
  refine va_callv (va_runS (As := As) (rest := rest) ⟨hx, hb, hml, hown, hts⟩ (hM H.size hJ) (va_cwS As.length hts (z_GS wc wl) rfl hr0 hr1 wc.2.2.2 ⟨h1, h2⟩) ⟨z_Pc_b, fun U hU hW => ⟨rfl, by rw [hU], by rw [hU]; exact hI.1, va_K.moved hW.alike hK⟩⟩ rfl rfl hls h0 (lv_room hst) hdg ⟨hcs.1, hcs.2⟩) hI.2 (fun q _ h => hA q h) hA (fun u t H1 locs1 ht hvm hp hB hz1 hk1 hS => kk u H1 locs1 hp ⟨by rw [← ht]; exact hB, hS⟩)
theorem z_mmin (C : z_CT p s m args c own cc nL D cA n ad) (hls : ls.size = nL) (wl : Cond.methodLink own index Lib.Math.min.name ∈ z_gw) (h1 : 1 ≤ R.frames) (h2 : (rest.map fun v => v.category).sum + 13 ≤ R.locals) (hcs : cells ≤ R.cells ∧ slots ≤ R.slots) {x y : Int32} (hdg : decode cc pc = .ok (.invokestatic index, 3))
    (kk : W p l e R s m args below meth c H locs cells slots Q (F0 m (pc + 3) ls (.int (if y < x then y else x) :: rest))) : W p l e R s m args below meth c H locs cells slots Q (F0 m pc ls (.int y :: .int x :: rest)) := by
  obtain ⟨hx, hb, hml, hown, hts, hK, hJ⟩ := C
  exact va_mmin hx hb (hml.trans hls.symm) hown (hts _ wl) (hts _ k_st_min) (hts _ k_in_Math) (hts _ k_co_min) h1 h2 hcs.1 hcs.2 hdg kk
theorem z_mmax (C : z_CT p s m args c own cc nL D cA n ad) (hls : ls.size = nL) (wl : Cond.methodLink own index Lib.Math.max.name ∈ z_gw) (h1 : 1 ≤ R.frames) (h2 : (rest.map fun v => v.category).sum + 13 ≤ R.locals) (hcs : cells ≤ R.cells ∧ slots ≤ R.slots) {x y : Int32} (hdg : decode cc pc = .ok (.invokestatic index, 3))
    (kk : W p l e R s m args below meth c H locs cells slots Q (F0 m (pc + 3) ls (.int (if x < y then y else x) :: rest))) : W p l e R s m args below meth c H locs cells slots Q (F0 m pc ls (.int y :: .int x :: rest)) := by
  obtain ⟨hx, hb, hml, hown, hts, hK, hJ⟩ := C
  exact va_mmax hx hb (hml.trans hls.symm) hown (hts _ wl) (hts _ k_st_max) (hts _ k_in_Math) (hts _ k_co_max) h1 h2 hcs.1 hcs.2 hdg kk
theorem z_copy (C : z_CT p s m args c own cc nL D cA n ad) (hI : z_I D cA n ad s.heap S H locs) (k1 k2 : Nat) (hk1 : k1 < n) (hk2 : k2 < n) {N1 N2 : Nat} (hd1 : z_kd k1 = .inl (0, N1)) (hd2 : z_kd k2 = .inl (0, N2)) {sp dp q : Int32} (h : z_cp sp dp q N1 N2) (hls : ls.size = nL) (wl : Cond.methodLink own index arraycopyName ∈ z_gw) (h1 : 1 ≤ R.frames) (h2 : (rest.map fun v => v.category).sum + (nativeFrameWords "java/lang/System" "arraycopy" 5 + 11) ≤ R.locals) (hdg : decode cc pc = .ok (.invokestatic index, 3))
    (kk : ∀ (S1 : zS) (_ : S1 = z_sc S k1 k2 (z_ix sp) (z_ix dp) (z_ix q)) (H1 : Heap) (locs1 : List Loc), z_I D cA n ad s.heap S1 H1 locs1 → W p l e R s m args below meth c H1 locs1 cells slots Q (F0 m (pc + 3) ls rest)) : W p l e R s m args below meth c H locs cells slots Q (F0 m pc ls (.int q :: .int dp :: .ref (ad k2) :: .int sp :: .ref (ad k1) :: rest)) := by
  obtain ⟨hx, hb, hml, hown, hts, hK, hJ⟩ := C
  obtain ⟨a1, a2, a3, a4, a5⟩ := h
  refine va_copyi (ty := .int) hx hb (hml.trans hls.symm) hown (hts _ wl) (hts _ k_nt_arraycopy) (hts _ k_st_arraycopy) (hts _ k_in_System) hK hI.1 (z_w_D hJ (fun k hk => z_fr_in hk)) hI.2 k1 k2 0 0 (by rw [z_w_at hk1, z_ce_a hd1 (by decide)]) (by rw [z_w_at hk2, z_ce_a hd2 (by decide)]) rfl rfl rfl a1 a2 a3 a4 a5 (fun _ _ => rfl) h1 h2 hdg (fun H1 locs1 hP hD hS => kk _ rfl H1 locs1 ⟨?_, hS⟩)
  rw [z_w_ast hk2 hd2 (by decide)] at hP
  exact hP
theorem z_alen (C : z_CT p s m args c own cc nL D cA n ad) (hI : z_I D cA n ad s.heap S H locs) (k : Nat) (hk : k < n) {N : Nat} (hkd : z_kd k = .inl (0, N)) {v : Int32} (hv : Int32.ofNat N = v) (hdg : decode cc pc = .ok (.arraylength, 1))
    (kk : W p l e R s m args below meth c H locs cells slots Q (F0 m (pc + 1) ls (.int v :: rest))) : W p l e R s m args below meth c H locs cells slots Q (F0 m pc ls (.ref (ad k) :: rest)) :=
  va_alen C.1 C.2.1 C.2.2.2.2.2.1 hI.1 k 0 (by rw [z_w_at hk, z_ce_a hkd (by decide)]) rfl hv hdg kk
end ZC
/-- what a method owes at its end -/
def z_Ri (p : Program) (l : Launch) (e : Env) (R : Room) (s : State) (m : MethodId) (args : Array Value) (below : List Frame) (meth : Method) (c : Code) (Q : State → Prop) (cc : ByteArray) (D : va_G) (cA : Nat → ClassId) (n : Nat) (ad : Nat → Nat) (post : Int32 → zS → Prop) : Prop :=
  ∀ (cells slots : Nat), cells ≤ R.cells ∧ slots ≤ R.slots → ∀ (v : Int32) (S : zS) (H : Heap) (locs : List Loc) (pc : Nat) (ls : Array Slot), post v S → z_I D cA n ad s.heap S H locs → decode cc pc = .ok (.ireturn, 1) → W p l e R s m args below meth c H locs cells slots Q (F0 m pc ls [.int v])
def z_Rz (p : Program) (l : Launch) (e : Env) (R : Room) (s : State) (m : MethodId) (args : Array Value) (below : List Frame) (meth : Method) (c : Code) (Q : State → Prop) (cc : ByteArray) (D : va_G) (cA : Nat → ClassId) (n : Nat) (ad : Nat → Nat) (post : Int32 → zS → Prop) : Prop :=
  ∀ (cells slots : Nat), cells ≤ R.cells ∧ slots ≤ R.slots → ∀ (v : Int32) (S : zS) (H : Heap) (locs : List Loc) (pc : Nat) (ls : Array Slot), z_bo v → post v S → z_I D cA n ad s.heap S H locs → decode cc pc = .ok (.ireturn, 1) → W p l e R s m args below meth c H locs cells slots Q (F0 m pc ls [.int v])
def z_Rv (p : Program) (l : Launch) (e : Env) (R : Room) (s : State) (m : MethodId) (args : Array Value) (below : List Frame) (meth : Method) (c : Code) (Q : State → Prop) (cc : ByteArray) (D : va_G) (cA : Nat → ClassId) (n : Nat) (ad : Nat → Nat) (post : zS → Prop) : Prop :=
  ∀ (cells slots : Nat), cells ≤ R.cells ∧ slots ≤ R.slots → ∀ (S : zS) (H : Heap) (locs : List Loc) (pc : Nat) (ls : Array Slot), post S → z_I D cA n ad s.heap S H locs → decode cc pc = .ok (.return_, 1) → W p l e R s m args below meth c H locs cells slots Q (F0 m pc ls [])
end ZR
section ZM
variable {l : Launch} {D : va_G} {cA : Nat → ClassId} {n : Nat} {ad : Nat → Nat} {y : MethodName} {cc : ByteArray} {maxL : Nat} {rm : Room} {av : List Value} {S : zS}
theorem z_meti {post : Int32 → zS → Prop} (hy : plainName y.cls = true) (hav : (lg_sl av).length ≤ maxL) (hr : rm.cells = 0 ∧ rm.slots = 0)
    (body : ∀ (p : Program) (e : Env) (s : State) (m : MethodId) (args : Array Value) (below : List Frame) (meth : Method) (c : Code) (Q : State → Prop) (ls : Array Slot), z_CT p s m args c y.cls cc maxL D cA n ad → 0 ≤ rm.cells ∧ 0 ≤ rm.slots → lv_has ls maxL (lv_args 0 av) → z_I D cA n ad s.heap S s.heap [] → z_Ri p l e rm s m args below meth c Q cc D cA n ad post → W p l e rm s m args below meth c s.heap [] 0 0 Q (F0 m 0 ls [])) :
    z_cti l D cA n ad y cc maxL (some .int) rm av S post := by
  intro sz hJ
  refine Met.ofW (cc := cc) (maxL := maxL) (ret := some .int) hy rfl ?_
  intro p e s m args below meth c s₁ B hml hv
  obtain ⟨rfl, hsz, hP, hK⟩ := hv
  have hts := atoms_spec (ws := Cond.code y cc maxL (some .int) :: z_gw) B.pre
  subst hsz
  have hlocks := B.notSynchronized
  have hr9 := B.returns
  have hx := B.exec
  have hb := B.bytes
  rw [lg_entry_eq]
  refine body p e s m av.toArray below meth c _ _ ⟨hx, hb, hml, findClass_of_methodNamed B.named, fun w hw => hts w (List.mem_cons_of_mem _ hw), hK, hJ⟩ ⟨Nat.zero_le _, Nat.zero_le _⟩ (lv_entry av hav) ⟨hP, va_S.rf⟩ ?_
  intro cells slots hcs v S1 H locs pc ls hp hI hd
  have e1 : cells = 0 := Nat.le_zero.mp (by have := hcs.1; rw [hr.1] at this; exact this)
  have e2 : slots = 0 := Nat.le_zero.mp (by have := hcs.2; rw [hr.2] at this; exact this)
  subst e1
  subst e2
  exact W.iret (v := v) hx hb hr9 (fun t ht hW => ⟨⟨v, S1, rfl, hp, (by show va_P D z_cl _ t.heap; rw [ht]; exact hI.1)⟩, hI.2.F ht⟩) hI.2.2.2 hd
theorem z_metz {post : Int32 → zS → Prop} (hy : plainName y.cls = true) (hav : (lg_sl av).length ≤ maxL) (hr : rm.cells = 0 ∧ rm.slots = 0)
    (body : ∀ (p : Program) (e : Env) (s : State) (m : MethodId) (args : Array Value) (below : List Frame) (meth : Method) (c : Code) (Q : State → Prop) (ls : Array Slot), z_CT p s m args c y.cls cc maxL D cA n ad → 0 ≤ rm.cells ∧ 0 ≤ rm.slots → lv_has ls maxL (lv_args 0 av) → z_I D cA n ad s.heap S s.heap [] → z_Rz p l e rm s m args below meth c Q cc D cA n ad post → W p l e rm s m args below meth c s.heap [] 0 0 Q (F0 m 0 ls [])) :
    z_cti l D cA n ad y cc maxL (some .boolean) rm av S post := by
  intro sz hJ
  refine Met.ofW (cc := cc) (maxL := maxL) (ret := some .boolean) hy rfl ?_
  intro p e s m args below meth c s₁ B hml hv
  obtain ⟨rfl, hsz, hP, hK⟩ := hv
  have hts := atoms_spec (ws := Cond.code y cc maxL (some .boolean) :: z_gw) B.pre
  subst hsz
  have hlocks := B.notSynchronized
  have hr9 := B.returns
  have hx := B.exec
  have hb := B.bytes
  rw [lg_entry_eq]
  refine body p e s m av.toArray below meth c _ _ ⟨hx, hb, hml, findClass_of_methodNamed B.named, fun w hw => hts w (List.mem_cons_of_mem _ hw), hK, hJ⟩ ⟨Nat.zero_le _, Nat.zero_le _⟩ (lv_entry av hav) ⟨hP, va_S.rf⟩ ?_
  intro cells slots hcs v S1 H locs pc ls hv hp hI hd
  have e1 : cells = 0 := Nat.le_zero.mp (by have := hcs.1; rw [hr.1] at this; exact this)
  have e2 : slots = 0 := Nat.le_zero.mp (by have := hcs.2; rw [hr.2] at this; exact this)
  subst e1
  subst e2
  exact W.zret (v := v) hx hb hr9 (z_nb hv) (fun t ht hW => ⟨⟨v, S1, rfl, hp, (by show va_P D z_cl _ t.heap; rw [ht]; exact hI.1)⟩, hI.2.F ht⟩) hI.2.2.2 hd
theorem z_metv {post : zS → Prop} (hy : plainName y.cls = true) (hav : (lg_sl av).length ≤ maxL) (hr : rm.cells = 0 ∧ rm.slots = 0)
    (body : ∀ (p : Program) (e : Env) (s : State) (m : MethodId) (args : Array Value) (below : List Frame) (meth : Method) (c : Code) (Q : State → Prop) (ls : Array Slot), z_CT p s m args c y.cls cc maxL D cA n ad → 0 ≤ rm.cells ∧ 0 ≤ rm.slots → lv_has ls maxL (lv_args 0 av) → z_I D cA n ad s.heap S s.heap [] → z_Rv p l e rm s m args below meth c Q cc D cA n ad post → W p l e rm s m args below meth c s.heap [] 0 0 Q (F0 m 0 ls [])) :
    z_ctv l D cA n ad y cc maxL none rm av S post := by
  intro sz hJ
  refine Met.ofW (cc := cc) (maxL := maxL) (ret := none) hy rfl ?_
  intro p e s m args below meth c s₁ B hml hv
  obtain ⟨rfl, hsz, hP, hK⟩ := hv
  have hts := atoms_spec (ws := Cond.code y cc maxL none :: z_gw) B.pre
  subst hsz
  have hlocks := B.notSynchronized
  have hr9 := B.returns
  have hx := B.exec
  have hb := B.bytes
  rw [lg_entry_eq]
  refine body p e s m av.toArray below meth c _ _ ⟨hx, hb, hml, findClass_of_methodNamed B.named, fun w hw => hts w (List.mem_cons_of_mem _ hw), hK, hJ⟩ ⟨Nat.zero_le _, Nat.zero_le _⟩ (lv_entry av hav) ⟨hP, va_S.rf⟩ ?_
  intro cells slots hcs S1 H locs pc ls hp hI hd
  have e1 : cells = 0 := Nat.le_zero.mp (by have := hcs.1; rw [hr.1] at this; exact this)
  have e2 : slots = 0 := Nat.le_zero.mp (by have := hcs.2; rw [hr.2] at this; exact this)
  subst e1
  subst e2
  exact W.vret hx hb hr9 (fun t ht hW => ⟨⟨S1, rfl, hp, (by show va_P D z_cl _ t.heap; rw [ht]; exact hI.1)⟩, hI.2.F ht⟩) hI.2.2.2 hd
end ZM
end
section
set_option maxRecDepth 20000 in
theorem wc_P_put : z_wv y_P_put b_P_put 4 (some .boolean) 3 := ⟨z_gwi 273 (by decide +kernel) (by decide +kernel), z_gwi 274 (by decide +kernel) (by decide +kernel), z_gwi 60 (by decide +kernel) (by decide +kernel), z_gwi 275 (rfl) (rfl), by decide +kernel, by decide +kernel, by decide +kernel⟩
set_option maxRecDepth 20000 in
theorem wc_P_fill : z_wv y_P_fill b_P_fill 11 (some .int) 5 := ⟨z_gwi 357 (by decide +kernel) (by decide +kernel), z_gwi 358 (by decide +kernel) (by decide +kernel), z_gwi 60 (by decide +kernel) (by decide +kernel), z_gwi 359 (rfl) (rfl), by decide +kernel, by decide +kernel, by decide +kernel⟩
set_option maxRecDepth 20000 in
theorem wc_P_noise : z_wv y_P_noise b_P_noise 3 (some .int) 1 := ⟨z_gwi 380 (by decide +kernel) (by decide +kernel), z_gwi 381 (by decide +kernel) (by decide +kernel), z_gwi 60 (by decide +kernel) (by decide +kernel), z_gwi 382 (rfl) (rfl), by decide +kernel, by decide +kernel, by decide +kernel⟩
set_option maxRecDepth 20000 in
theorem wc_P_run : z_wv y_P_run b_P_run 3 (some .int) 2 := ⟨z_gwi 388 (by decide +kernel) (by decide +kernel), z_gwi 389 (by decide +kernel) (by decide +kernel), z_gwi 60 (by decide +kernel) (by decide +kernel), z_gwi 390 (rfl) (rfl), by decide +kernel, by decide +kernel, by decide +kernel⟩
set_option maxRecDepth 20000 in
theorem wc_P_part : z_wv y_P_part b_P_part 3 (some .int) 2 := ⟨z_gwi 503 (by decide +kernel) (by decide +kernel), z_gwi 504 (by decide +kernel) (by decide +kernel), z_gwi 60 (by decide +kernel) (by decide +kernel), z_gwi 505 (rfl) (rfl), by decide +kernel, by decide +kernel, by decide +kernel⟩
set_option maxRecDepth 20000 in
theorem wc_P_partOf : z_wv y_P_partOf b_P_partOf 3 (some .int) 2 := ⟨z_gwi 587 (by decide +kernel) (by decide +kernel), z_gwi 588 (by decide +kernel) (by decide +kernel), z_gwi 60 (by decide +kernel) (by decide +kernel), z_gwi 589 (rfl) (rfl), by decide +kernel, by decide +kernel, by decide +kernel⟩
set_option maxRecDepth 20000 in
theorem wc_P_line : z_wv y_P_line b_P_line 5 (some .int) 3 := ⟨z_gwi 594 (by decide +kernel) (by decide +kernel), z_gwi 595 (by decide +kernel) (by decide +kernel), z_gwi 60 (by decide +kernel) (by decide +kernel), z_gwi 596 (rfl) (rfl), by decide +kernel, by decide +kernel, by decide +kernel⟩
set_option maxRecDepth 20000 in
theorem wc_P_order : z_wv y_P_order b_P_order 2 (some .int) 1 := ⟨z_gwi 609 (by decide +kernel) (by decide +kernel), z_gwi 610 (by decide +kernel) (by decide +kernel), z_gwi 60 (by decide +kernel) (by decide +kernel), z_gwi 611 (rfl) (rfl), by decide +kernel, by decide +kernel, by decide +kernel⟩
set_option maxRecDepth 20000 in
theorem wc_P_cover : z_wv y_P_cover b_P_cover 3 (some .int) 2 := ⟨z_gwi 616 (by decide +kernel) (by decide +kernel), z_gwi 617 (by decide +kernel) (by decide +kernel), z_gwi 60 (by decide +kernel) (by decide +kernel), z_gwi 618 (rfl) (rfl), by decide +kernel, by decide +kernel, by decide +kernel⟩
set_option maxRecDepth 20000 in
theorem wc_P_strip : z_wv y_P_strip b_P_strip 2 (some .int) 1 := ⟨z_gwi 623 (by decide +kernel) (by decide +kernel), z_gwi 624 (by decide +kernel) (by decide +kernel), z_gwi 60 (by decide +kernel) (by decide +kernel), z_gwi 625 (rfl) (rfl), by decide +kernel, by decide +kernel, by decide +kernel⟩
set_option maxRecDepth 20000 in
theorem wc_P_cell : z_wv y_P_cell b_P_cell 3 (some .int) 2 := ⟨z_gwi 630 (by decide +kernel) (by decide +kernel), z_gwi 631 (by decide +kernel) (by decide +kernel), z_gwi 60 (by decide +kernel) (by decide +kernel), z_gwi 632 (rfl) (rfl), by decide +kernel, by decide +kernel, by decide +kernel⟩
set_option maxRecDepth 20000 in
theorem wc_P_isSpeck : z_wv y_P_isSpeck b_P_isSpeck 4 (some .boolean) 2 := ⟨z_gwi 637 (by decide +kernel) (by decide +kernel), z_gwi 638 (by decide +kernel) (by decide +kernel), z_gwi 60 (by decide +kernel) (by decide +kernel), z_gwi 639 (rfl) (rfl), by decide +kernel, by decide +kernel, by decide +kernel⟩
set_option maxRecDepth 20000 in
theorem wc_P_told : z_wv y_P_told b_P_told 2 (some .int) 1 := ⟨z_gwi 254 (by decide +kernel) (by decide +kernel), z_gwi 255 (by decide +kernel) (by decide +kernel), z_gwi 60 (by decide +kernel) (by decide +kernel), z_gwi 256 (rfl) (rfl), by decide +kernel, by decide +kernel, by decide +kernel⟩
set_option maxRecDepth 20000 in
theorem wc_P_clear : z_wv y_P_clear b_P_clear 2 none 0 := ⟨z_gwi 262 (by decide +kernel) (by decide +kernel), z_gwi 263 (by decide +kernel) (by decide +kernel), z_gwi 60 (by decide +kernel) (by decide +kernel), z_gwi 264 (rfl) (rfl), by decide +kernel, by decide +kernel, by decide +kernel⟩
set_option maxRecDepth 20000 in
theorem wc_P_nearestSide : z_ws y_P_nearestSide b_P_nearestSide 1 (some .int) 1 := ⟨z_gwi 83 (by decide +kernel) (by decide +kernel), z_gwi 60 (by decide +kernel) (by decide +kernel), z_gwi 84 (rfl) (rfl), by decide +kernel, by decide +kernel, by decide +kernel⟩
set_option maxRecDepth 20000 in
theorem wc_P_mustBeParted : z_wv y_P_mustBeParted b_P_mustBeParted 1 none 0 := ⟨z_gwi 508 (by decide +kernel) (by decide +kernel), z_gwi 22 (by decide +kernel) (by decide +kernel), z_gwi 60 (by decide +kernel) (by decide +kernel), z_gwi 509 (rfl) (rfl), by decide +kernel, by decide +kernel, by decide +kernel⟩
set_option maxRecDepth 20000 in
theorem wc_P_mustBeSample : z_wv y_P_mustBeSample b_P_mustBeSample 3 none 2 := ⟨z_gwi 278 (by decide +kernel) (by decide +kernel), z_gwi 1 (by decide +kernel) (by decide +kernel), z_gwi 60 (by decide +kernel) (by decide +kernel), z_gwi 279 (rfl) (rfl), by decide +kernel, by decide +kernel, by decide +kernel⟩
set_option maxRecDepth 20000 in
theorem wc_P_mustBeBelow : z_ws y_P_mustBeBelow b_P_mustBeBelow 2 none 2 := ⟨z_gwi 527 (by decide +kernel) (by decide +kernel), z_gwi 60 (by decide +kernel) (by decide +kernel), z_gwi 528 (rfl) (rfl), by decide +kernel, by decide +kernel, by decide +kernel⟩
set_option maxRecDepth 20000 in
theorem wc_P_mustBeTold : z_ws y_P_mustBeTold b_P_mustBeTold 2 none 2 := ⟨z_gwi 531 (by decide +kernel) (by decide +kernel), z_gwi 60 (by decide +kernel) (by decide +kernel), z_gwi 532 (rfl) (rfl), by decide +kernel, by decide +kernel, by decide +kernel⟩
set_option maxRecDepth 20000 in
theorem wc_P_paint : z_wv y_P_paint b_P_paint 5 (some .boolean) 3 := ⟨z_gwi 350 (by decide +kernel) (by decide +kernel), z_gwi 3 (by decide +kernel) (by decide +kernel), z_gwi 60 (by decide +kernel) (by decide +kernel), z_gwi 351 (rfl) (rfl), by decide +kernel, by decide +kernel, by decide +kernel⟩
set_option maxRecDepth 20000 in
theorem wc_P_toldOfParted : z_wv y_P_toldOfParted b_P_toldOfParted 2 (some .int) 1 := ⟨z_gwi 259 (by decide +kernel) (by decide +kernel), z_gwi 0 (by decide +kernel) (by decide +kernel), z_gwi 60 (by decide +kernel) (by decide +kernel), z_gwi 260 (rfl) (rfl), by decide +kernel, by decide +kernel, by decide +kernel⟩
set_option maxRecDepth 20000 in
theorem wc_P_findClean : z_wv y_P_findClean b_P_findClean 3 none 0 := ⟨z_gwi 394 (by decide +kernel) (by decide +kernel), z_gwi 4 (by decide +kernel) (by decide +kernel), z_gwi 60 (by decide +kernel) (by decide +kernel), z_gwi 395 (rfl) (rfl), by decide +kernel, by decide +kernel, by decide +kernel⟩
set_option maxRecDepth 20000 in
theorem wc_P_smear : z_wv y_P_smear b_P_smear 4 none 2 := ⟨z_gwi 423 (by decide +kernel) (by decide +kernel), z_gwi 9 (by decide +kernel) (by decide +kernel), z_gwi 60 (by decide +kernel) (by decide +kernel), z_gwi 424 (rfl) (rfl), by decide +kernel, by decide +kernel, by decide +kernel⟩
set_option maxRecDepth 20000 in
theorem wc_P_smearAlong : z_wv y_P_smearAlong b_P_smearAlong 8 none 4 := ⟨z_gwi 427 (by decide +kernel) (by decide +kernel), z_gwi 10 (by decide +kernel) (by decide +kernel), z_gwi 60 (by decide +kernel) (by decide +kernel), z_gwi 428 (rfl) (rfl), by decide +kernel, by decide +kernel, by decide +kernel⟩
set_option maxRecDepth 20000 in
theorem wc_P_findStrips : z_wv y_P_findStrips b_P_findStrips 4 none 0 := ⟨z_gwi 456 (by decide +kernel) (by decide +kernel), z_gwi 16 (by decide +kernel) (by decide +kernel), z_gwi 60 (by decide +kernel) (by decide +kernel), z_gwi 457 (rfl) (rfl), by decide +kernel, by decide +kernel, by decide +kernel⟩
set_option maxRecDepth 20000 in
theorem wc_P_hasInk : z_wv y_P_hasInk b_P_hasInk 3 (some .boolean) 1 := ⟨z_gwi 460 (by decide +kernel) (by decide +kernel), z_gwi 17 (by decide +kernel) (by decide +kernel), z_gwi 60 (by decide +kernel) (by decide +kernel), z_gwi 461 (rfl) (rfl), by decide +kernel, by decide +kernel, by decide +kernel⟩
set_option maxRecDepth 20000 in
theorem wc_P_weightOf : z_wv y_P_weightOf b_P_weightOf 4 (some .int) 1 := ⟨z_gwi 536 (by decide +kernel) (by decide +kernel), z_gwi 23 (by decide +kernel) (by decide +kernel), z_gwi 60 (by decide +kernel) (by decide +kernel), z_gwi 537 (rfl) (rfl), by decide +kernel, by decide +kernel, by decide +kernel⟩
set_option maxRecDepth 20000 in
theorem wc_P_kindOf : z_wv y_P_kindOf b_P_kindOf 5 (some .int) 1 := ⟨z_gwi 540 (by decide +kernel) (by decide +kernel), z_gwi 24 (by decide +kernel) (by decide +kernel), z_gwi 60 (by decide +kernel) (by decide +kernel), z_gwi 541 (rfl) (rfl), by decide +kernel, by decide +kernel, by decide +kernel⟩
set_option maxRecDepth 20000 in
theorem wc_P_isThin : z_ws y_P_isThin b_P_isThin 2 (some .boolean) 2 := ⟨z_gwi 551 (by decide +kernel) (by decide +kernel), z_gwi 60 (by decide +kernel) (by decide +kernel), z_gwi 552 (rfl) (rfl), by decide +kernel, by decide +kernel, by decide +kernel⟩
set_option maxRecDepth 20000 in
theorem wc_P_isFramed : z_wv y_P_isFramed b_P_isFramed 6 (some .boolean) 1 := ⟨z_gwi 555 (by decide +kernel) (by decide +kernel), z_gwi 25 (by decide +kernel) (by decide +kernel), z_gwi 60 (by decide +kernel) (by decide +kernel), z_gwi 556 (rfl) (rfl), by decide +kernel, by decide +kernel, by decide +kernel⟩
set_option maxRecDepth 20000 in
theorem wc_P_isMostlyEmptyWithin : z_wv y_P_isMostlyEmptyWithin b_P_isMostlyEmptyWithin 4 (some .boolean) 1 := ⟨z_gwi 563 (by decide +kernel) (by decide +kernel), z_gwi 27 (by decide +kernel) (by decide +kernel), z_gwi 60 (by decide +kernel) (by decide +kernel), z_gwi 564 (rfl) (rfl), by decide +kernel, by decide +kernel, by decide +kernel⟩
set_option maxRecDepth 20000 in
theorem wc_P_countClean : z_wv y_P_countClean b_P_countClean 8 (some .int) 4 := ⟨z_gwi 559 (by decide +kernel) (by decide +kernel), z_gwi 26 (by decide +kernel) (by decide +kernel), z_gwi 60 (by decide +kernel) (by decide +kernel), z_gwi 560 (rfl) (rfl), by decide +kernel, by decide +kernel, by decide +kernel⟩
set_option maxRecDepth 20000 in
theorem wc_P_countLines : z_wv y_P_countLines b_P_countLines 4 (some .int) 1 := ⟨z_gwi 567 (by decide +kernel) (by decide +kernel), z_gwi 28 (by decide +kernel) (by decide +kernel), z_gwi 60 (by decide +kernel) (by decide +kernel), z_gwi 568 (rfl) (rfl), by decide +kernel, by decide +kernel, by decide +kernel⟩
set_option maxRecDepth 20000 in
theorem wc_P_firstRowOfLine : z_wv y_P_firstRowOfLine b_P_firstRowOfLine 5 (some .int) 2 := ⟨z_gwi 599 (by decide +kernel) (by decide +kernel), z_gwi 31 (by decide +kernel) (by decide +kernel), z_gwi 60 (by decide +kernel) (by decide +kernel), z_gwi 600 (rfl) (rfl), by decide +kernel, by decide +kernel, by decide +kernel⟩
set_option maxRecDepth 20000 in
theorem wc_P_countRowsOfLine : z_wv y_P_countRowsOfLine b_P_countRowsOfLine 4 (some .int) 2 := ⟨z_gwi 603 (by decide +kernel) (by decide +kernel), z_gwi 32 (by decide +kernel) (by decide +kernel), z_gwi 60 (by decide +kernel) (by decide +kernel), z_gwi 604 (rfl) (rfl), by decide +kernel, by decide +kernel, by decide +kernel⟩
set_option maxRecDepth 20000 in
theorem wc_P_beginsLine : z_wv y_P_beginsLine b_P_beginsLine 3 (some .boolean) 2 := ⟨z_gwi 571 (by decide +kernel) (by decide +kernel), z_gwi 29 (by decide +kernel) (by decide +kernel), z_gwi 60 (by decide +kernel) (by decide +kernel), z_gwi 572 (rfl) (rfl), by decide +kernel, by decide +kernel, by decide +kernel⟩
set_option maxRecDepth 20000 in
theorem wc_P_hasCleanOf : z_wv y_P_hasCleanOf b_P_hasCleanOf 5 (some .boolean) 2 := ⟨z_gwi 575 (by decide +kernel) (by decide +kernel), z_gwi 30 (by decide +kernel) (by decide +kernel), z_gwi 60 (by decide +kernel) (by decide +kernel), z_gwi 576 (rfl) (rfl), by decide +kernel, by decide +kernel, by decide +kernel⟩
set_option maxRecDepth 20000 in
theorem wc_G_find : z_wv y_G_find b_G_find 6 none 3 := ⟨z_gwi 397 (by decide +kernel) (by decide +kernel), z_gwi 398 (by decide +kernel) (by decide +kernel), z_gwi 62 (by decide +kernel) (by decide +kernel), z_gwi 399 (rfl) (rfl), by decide +kernel, by decide +kernel, by decide +kernel⟩
set_option maxRecDepth 20000 in
theorem wc_G_isOpen : z_wv y_G_isOpen b_G_isOpen 6 (some .boolean) 4 := ⟨z_gwi 405 (by decide +kernel) (by decide +kernel), z_gwi 5 (by decide +kernel) (by decide +kernel), z_gwi 62 (by decide +kernel) (by decide +kernel), z_gwi 406 (rfl) (rfl), by decide +kernel, by decide +kernel, by decide +kernel⟩
set_option maxRecDepth 20000 in
theorem wc_G_begin : z_wv y_G_begin b_G_begin 3 none 2 := ⟨z_gwi 409 (by decide +kernel) (by decide +kernel), z_gwi 6 (by decide +kernel) (by decide +kernel), z_gwi 62 (by decide +kernel) (by decide +kernel), z_gwi 410 (rfl) (rfl), by decide +kernel, by decide +kernel, by decide +kernel⟩
set_option maxRecDepth 20000 in
theorem wc_G_take : z_wv y_G_take b_G_take 4 none 2 := ⟨z_gwi 413 (by decide +kernel) (by decide +kernel), z_gwi 7 (by decide +kernel) (by decide +kernel), z_gwi 62 (by decide +kernel) (by decide +kernel), z_gwi 414 (rfl) (rfl), by decide +kernel, by decide +kernel, by decide +kernel⟩
set_option maxRecDepth 20000 in
theorem wc_G_gather : z_wv y_G_gather b_G_gather 10 none 3 := ⟨z_gwi 419 (by decide +kernel) (by decide +kernel), z_gwi 8 (by decide +kernel) (by decide +kernel), z_gwi 62 (by decide +kernel) (by decide +kernel), z_gwi 420 (rfl) (rfl), by decide +kernel, by decide +kernel, by decide +kernel⟩
set_option maxRecDepth 20000 in
theorem wc_G_dropAtEdge : z_wv y_G_dropAtEdge b_G_dropAtEdge 3 none 0 := ⟨z_gwi 463 (by decide +kernel) (by decide +kernel), z_gwi 464 (by decide +kernel) (by decide +kernel), z_gwi 62 (by decide +kernel) (by decide +kernel), z_gwi 465 (rfl) (rfl), by decide +kernel, by decide +kernel, by decide +kernel⟩
set_option maxRecDepth 20000 in
theorem wc_G_wideOf : z_wv y_G_wideOf b_G_wideOf 2 (some .int) 1 := ⟨z_gwi 543 (by decide +kernel) (by decide +kernel), z_gwi 544 (by decide +kernel) (by decide +kernel), z_gwi 62 (by decide +kernel) (by decide +kernel), z_gwi 545 (rfl) (rfl), by decide +kernel, by decide +kernel, by decide +kernel⟩
set_option maxRecDepth 20000 in
theorem wc_G_highOf : z_wv y_G_highOf b_G_highOf 2 (some .int) 1 := ⟨z_gwi 547 (by decide +kernel) (by decide +kernel), z_gwi 548 (by decide +kernel) (by decide +kernel), z_gwi 62 (by decide +kernel) (by decide +kernel), z_gwi 549 (rfl) (rfl), by decide +kernel, by decide +kernel, by decide +kernel⟩
set_option maxRecDepth 20000 in
theorem wc_G_boxOf : z_wv y_G_boxOf b_G_boxOf 3 (some .int) 2 := ⟨z_gwi 578 (by decide +kernel) (by decide +kernel), z_gwi 579 (by decide +kernel) (by decide +kernel), z_gwi 62 (by decide +kernel) (by decide +kernel), z_gwi 580 (rfl) (rfl), by decide +kernel, by decide +kernel, by decide +kernel⟩
set_option maxRecDepth 20000 in
theorem wc_C_find : z_wv y_C_find b_C_find 3 none 1 := ⟨z_gwi 430 (by decide +kernel) (by decide +kernel), z_gwi 431 (by decide +kernel) (by decide +kernel), z_gwi 63 (by decide +kernel) (by decide +kernel), z_gwi 432 (rfl) (rfl), by decide +kernel, by decide +kernel, by decide +kernel⟩
set_option maxRecDepth 20000 in
theorem wc_C_measure : z_wv y_C_measure b_C_measure 6 none 1 := ⟨z_gwi 435 (by decide +kernel) (by decide +kernel), z_gwi 11 (by decide +kernel) (by decide +kernel), z_gwi 63 (by decide +kernel) (by decide +kernel), z_gwi 436 (rfl) (rfl), by decide +kernel, by decide +kernel, by decide +kernel⟩
set_option maxRecDepth 20000 in
theorem wc_C_findGreatest : z_wv y_C_findGreatest b_C_findGreatest 4 none 1 := ⟨z_gwi 439 (by decide +kernel) (by decide +kernel), z_gwi 12 (by decide +kernel) (by decide +kernel), z_gwi 63 (by decide +kernel) (by decide +kernel), z_gwi 440 (rfl) (rfl), by decide +kernel, by decide +kernel, by decide +kernel⟩
set_option maxRecDepth 20000 in
theorem wc_C_growFrom : z_wv y_C_growFrom b_C_growFrom 6 none 3 := ⟨z_gwi 443 (by decide +kernel) (by decide +kernel), z_gwi 13 (by decide +kernel) (by decide +kernel), z_gwi 63 (by decide +kernel) (by decide +kernel), z_gwi 444 (rfl) (rfl), by decide +kernel, by decide +kernel, by decide +kernel⟩
set_option maxRecDepth 20000 in
theorem wc_C_block : z_wv y_C_block b_C_block 5 none 1 := ⟨z_gwi 448 (by decide +kernel) (by decide +kernel), z_gwi 14 (by decide +kernel) (by decide +kernel), z_gwi 63 (by decide +kernel) (by decide +kernel), z_gwi 449 (rfl) (rfl), by decide +kernel, by decide +kernel, by decide +kernel⟩
set_option maxRecDepth 20000 in
theorem wc_C_shortenBefore : z_wv y_C_shortenBefore b_C_shortenBefore 5 none 2 := ⟨z_gwi 452 (by decide +kernel) (by decide +kernel), z_gwi 15 (by decide +kernel) (by decide +kernel), z_gwi 63 (by decide +kernel) (by decide +kernel), z_gwi 453 (rfl) (rfl), by decide +kernel, by decide +kernel, by decide +kernel⟩
set_option maxRecDepth 20000 in
theorem wc_R_arrange : z_wv y_R_arrange b_R_arrange 6 none 1 := ⟨z_gwi 467 (by decide +kernel) (by decide +kernel), z_gwi 468 (by decide +kernel) (by decide +kernel), z_gwi 64 (by decide +kernel) (by decide +kernel), z_gwi 469 (rfl) (rfl), by decide +kernel, by decide +kernel, by decide +kernel⟩
set_option maxRecDepth 20000 in
theorem wc_R_sortByBoxes : z_wv y_R_sortByBoxes b_R_sortByBoxes 4 none 1 := ⟨z_gwi 472 (by decide +kernel) (by decide +kernel), z_gwi 18 (by decide +kernel) (by decide +kernel), z_gwi 64 (by decide +kernel) (by decide +kernel), z_gwi 473 (rfl) (rfl), by decide +kernel, by decide +kernel, by decide +kernel⟩
set_option maxRecDepth 20000 in
theorem wc_R_isBefore : z_ws y_R_isBefore b_R_isBefore 3 (some .boolean) 3 := ⟨z_gwi 475 (by decide +kernel) (by decide +kernel), z_gwi 64 (by decide +kernel) (by decide +kernel), z_gwi 476 (rfl) (rfl), by decide +kernel, by decide +kernel, by decide +kernel⟩
set_option maxRecDepth 20000 in
theorem wc_R_findCut : z_wv y_R_findCut b_R_findCut 4 (some .boolean) 3 := ⟨z_gwi 479 (by decide +kernel) (by decide +kernel), z_gwi 19 (by decide +kernel) (by decide +kernel), z_gwi 64 (by decide +kernel) (by decide +kernel), z_gwi 480 (rfl) (rfl), by decide +kernel, by decide +kernel, by decide +kernel⟩
set_option maxRecDepth 20000 in
theorem wc_R_lookAlong : z_wv y_R_lookAlong b_R_lookAlong 10 none 5 := ⟨z_gwi 483 (by decide +kernel) (by decide +kernel), z_gwi 20 (by decide +kernel) (by decide +kernel), z_gwi 64 (by decide +kernel) (by decide +kernel), z_gwi 484 (rfl) (rfl), by decide +kernel, by decide +kernel, by decide +kernel⟩
set_option maxRecDepth 20000 in
theorem wc_R_bits : z_ws y_R_bits b_R_bits 2 (some .int) 2 := ⟨z_gwi 486 (by decide +kernel) (by decide +kernel), z_gwi 64 (by decide +kernel) (by decide +kernel), z_gwi 487 (rfl) (rfl), by decide +kernel, by decide +kernel, by decide +kernel⟩
set_option maxRecDepth 20000 in
theorem wc_R_hasBit : z_ws y_R_hasBit b_R_hasBit 2 (some .boolean) 2 := ⟨z_gwi 489 (by decide +kernel) (by decide +kernel), z_gwi 64 (by decide +kernel) (by decide +kernel), z_gwi 490 (rfl) (rfl), by decide +kernel, by decide +kernel, by decide +kernel⟩
set_option maxRecDepth 20000 in
theorem wc_R_divide : z_wv y_R_divide b_R_divide 9 (some .int) 3 := ⟨z_gwi 493 (by decide +kernel) (by decide +kernel), z_gwi 21 (by decide +kernel) (by decide +kernel), z_gwi 64 (by decide +kernel) (by decide +kernel), z_gwi 494 (rfl) (rfl), by decide +kernel, by decide +kernel, by decide +kernel⟩
set_option maxRecDepth 20000 in
theorem wc_M_nearest : z_ws y_M_nearest b_M_nearest 1 (some .int) 1 := ⟨z_gwi 647 (by decide +kernel) (by decide +kernel), z_gwi 65 (by decide +kernel) (by decide +kernel), z_gwi 648 (rfl) (rfl), by decide +kernel, by decide +kernel, by decide +kernel⟩
set_option maxRecDepth 20000 in
theorem wc_M_thrown : z_wv y_M_thrown b_M_thrown 1 (some .int) 0 := ⟨z_gwi 732 (by decide +kernel) (by decide +kernel), z_gwi 733 (by decide +kernel) (by decide +kernel), z_gwi 65 (by decide +kernel) (by decide +kernel), z_gwi 734 (rfl) (rfl), by decide +kernel, by decide +kernel, by decide +kernel⟩
set_option maxRecDepth 20000 in
theorem wc_M_in : z_ws y_M_in b_M_in 3 (some .boolean) 3 := ⟨z_gwi 744 (by decide +kernel) (by decide +kernel), z_gwi 65 (by decide +kernel) (by decide +kernel), z_gwi 745 (rfl) (rfl), by decide +kernel, by decide +kernel, by decide +kernel⟩
set_option maxRecDepth 20000 in
theorem wc_M_isSample : z_wv y_M_isSample b_M_isSample 3 (some .boolean) 2 := ⟨z_gwi 741 (by decide +kernel) (by decide +kernel), z_gwi 33 (by decide +kernel) (by decide +kernel), z_gwi 65 (by decide +kernel) (by decide +kernel), z_gwi 742 (rfl) (rfl), by decide +kernel, by decide +kernel, by decide +kernel⟩
set_option maxRecDepth 20000 in
theorem wc_M_goes : z_wv y_M_goes b_M_goes 4 (some .boolean) 3 := ⟨z_gwi 748 (by decide +kernel) (by decide +kernel), z_gwi 34 (by decide +kernel) (by decide +kernel), z_gwi 65 (by decide +kernel) (by decide +kernel), z_gwi 749 (rfl) (rfl), by decide +kernel, by decide +kernel, by decide +kernel⟩
set_option maxRecDepth 20000 in
theorem wc_M_put : z_wv y_M_put b_M_put 6 (some .boolean) 3 := ⟨z_gwi 736 (by decide +kernel) (by decide +kernel), z_gwi 737 (by decide +kernel) (by decide +kernel), z_gwi 65 (by decide +kernel) (by decide +kernel), z_gwi 738 (rfl) (rfl), by decide +kernel, by decide +kernel, by decide +kernel⟩
set_option maxRecDepth 20000 in
theorem wc_M_fill : z_wv y_M_fill b_M_fill 9 (some .int) 5 := ⟨z_gwi 751 (by decide +kernel) (by decide +kernel), z_gwi 752 (by decide +kernel) (by decide +kernel), z_gwi 65 (by decide +kernel) (by decide +kernel), z_gwi 753 (rfl) (rfl), by decide +kernel, by decide +kernel, by decide +kernel⟩
set_option maxRecDepth 20000 in
theorem wc_M_noise : z_wv y_M_noise b_M_noise 3 (some .int) 1 := ⟨z_gwi 755 (by decide +kernel) (by decide +kernel), z_gwi 756 (by decide +kernel) (by decide +kernel), z_gwi 65 (by decide +kernel) (by decide +kernel), z_gwi 757 (rfl) (rfl), by decide +kernel, by decide +kernel, by decide +kernel⟩
set_option maxRecDepth 20000 in
theorem wc_M_clear : z_wv y_M_clear b_M_clear 2 none 0 := ⟨z_gwi 759 (by decide +kernel) (by decide +kernel), z_gwi 760 (by decide +kernel) (by decide +kernel), z_gwi 65 (by decide +kernel) (by decide +kernel), z_gwi 761 (rfl) (rfl), by decide +kernel, by decide +kernel, by decide +kernel⟩
set_option maxRecDepth 20000 in
theorem wc_M_is : z_wv y_M_is b_M_is 3 (some .boolean) 2 := ⟨z_gwi 776 (by decide +kernel) (by decide +kernel), z_gwi 37 (by decide +kernel) (by decide +kernel), z_gwi 65 (by decide +kernel) (by decide +kernel), z_gwi 777 (rfl) (rfl), by decide +kernel, by decide +kernel, by decide +kernel⟩
set_option maxRecDepth 20000 in
theorem wc_M_group : z_wv y_M_group b_M_group 7 none 2 := ⟨z_gwi 772 (by decide +kernel) (by decide +kernel), z_gwi 36 (by decide +kernel) (by decide +kernel), z_gwi 65 (by decide +kernel) (by decide +kernel), z_gwi 773 (rfl) (rfl), by decide +kernel, by decide +kernel, by decide +kernel⟩
set_option maxRecDepth 20000 in
theorem wc_M_settles : z_wv y_M_settles b_M_settles 10 (some .boolean) 3 := ⟨z_gwi 780 (by decide +kernel) (by decide +kernel), z_gwi 38 (by decide +kernel) (by decide +kernel), z_gwi 65 (by decide +kernel) (by decide +kernel), z_gwi 781 (rfl) (rfl), by decide +kernel, by decide +kernel, by decide +kernel⟩
set_option maxRecDepth 20000 in
theorem wc_M_sizeOf : z_wv y_M_sizeOf b_M_sizeOf 5 (some .int) 1 := ⟨z_gwi 784 (by decide +kernel) (by decide +kernel), z_gwi 39 (by decide +kernel) (by decide +kernel), z_gwi 65 (by decide +kernel) (by decide +kernel), z_gwi 785 (rfl) (rfl), by decide +kernel, by decide +kernel, by decide +kernel⟩
set_option maxRecDepth 20000 in
theorem wc_M_inGap : z_wv y_M_inGap b_M_inGap 9 (some .boolean) 5 := ⟨z_gwi 788 (by decide +kernel) (by decide +kernel), z_gwi 40 (by decide +kernel) (by decide +kernel), z_gwi 65 (by decide +kernel) (by decide +kernel), z_gwi 789 (rfl) (rfl), by decide +kernel, by decide +kernel, by decide +kernel⟩
set_option maxRecDepth 20000 in
theorem wc_M_takeInk : z_wv y_M_takeInk b_M_takeInk 6 none 2 := ⟨z_gwi 768 (by decide +kernel) (by decide +kernel), z_gwi 35 (by decide +kernel) (by decide +kernel), z_gwi 65 (by decide +kernel) (by decide +kernel), z_gwi 769 (rfl) (rfl), by decide +kernel, by decide +kernel, by decide +kernel⟩
set_option maxRecDepth 20000 in
theorem wc_M_cleanIn : z_wv y_M_cleanIn b_M_cleanIn 10 (some .int) 5 := ⟨z_gwi 800 (by decide +kernel) (by decide +kernel), z_gwi 43 (by decide +kernel) (by decide +kernel), z_gwi 65 (by decide +kernel) (by decide +kernel), z_gwi 801 (rfl) (rfl), by decide +kernel, by decide +kernel, by decide +kernel⟩
set_option maxRecDepth 20000 in
theorem wc_M_takeParts : z_wv y_M_takeParts b_M_takeParts 5 none 0 := ⟨z_gwi 792 (by decide +kernel) (by decide +kernel), z_gwi 41 (by decide +kernel) (by decide +kernel), z_gwi 65 (by decide +kernel) (by decide +kernel), z_gwi 793 (rfl) (rfl), by decide +kernel, by decide +kernel, by decide +kernel⟩
set_option maxRecDepth 20000 in
theorem wc_M_kindOf : z_wv y_M_kindOf b_M_kindOf 9 (some .int) 4 := ⟨z_gwi 796 (by decide +kernel) (by decide +kernel), z_gwi 42 (by decide +kernel) (by decide +kernel), z_gwi 65 (by decide +kernel) (by decide +kernel), z_gwi 797 (rfl) (rfl), by decide +kernel, by decide +kernel, by decide +kernel⟩
set_option maxRecDepth 20000 in
theorem wc_M_takeCover : z_wv y_M_takeCover b_M_takeCover 8 (some .boolean) 0 := ⟨z_gwi 808 (by decide +kernel) (by decide +kernel), z_gwi 45 (by decide +kernel) (by decide +kernel), z_gwi 65 (by decide +kernel) (by decide +kernel), z_gwi 809 (rfl) (rfl), by decide +kernel, by decide +kernel, by decide +kernel⟩
set_option maxRecDepth 20000 in
theorem wc_M_takeCovers : z_wv y_M_takeCovers b_M_takeCovers 2 none 0 := ⟨z_gwi 804 (by decide +kernel) (by decide +kernel), z_gwi 44 (by decide +kernel) (by decide +kernel), z_gwi 65 (by decide +kernel) (by decide +kernel), z_gwi 805 (rfl) (rfl), by decide +kernel, by decide +kernel, by decide +kernel⟩
set_option maxRecDepth 20000 in
theorem wc_M_takeStrips : z_wv y_M_takeStrips b_M_takeStrips 4 none 0 := ⟨z_gwi 812 (by decide +kernel) (by decide +kernel), z_gwi 46 (by decide +kernel) (by decide +kernel), z_gwi 65 (by decide +kernel) (by decide +kernel), z_gwi 813 (rfl) (rfl), by decide +kernel, by decide +kernel, by decide +kernel⟩
set_option maxRecDepth 20000 in
theorem wc_M_takeCells : z_wv y_M_takeCells b_M_takeCells 4 none 0 := ⟨z_gwi 816 (by decide +kernel) (by decide +kernel), z_gwi 47 (by decide +kernel) (by decide +kernel), z_gwi 65 (by decide +kernel) (by decide +kernel), z_gwi 817 (rfl) (rfl), by decide +kernel, by decide +kernel, by decide +kernel⟩
set_option maxRecDepth 20000 in
theorem wc_M_isClosed : z_wv y_M_isClosed b_M_isClosed 6 (some .boolean) 1 := ⟨z_gwi 820 (by decide +kernel) (by decide +kernel), z_gwi 48 (by decide +kernel) (by decide +kernel), z_gwi 65 (by decide +kernel) (by decide +kernel), z_gwi 821 (rfl) (rfl), by decide +kernel, by decide +kernel, by decide +kernel⟩
set_option maxRecDepth 20000 in
theorem wc_M_low : z_wv y_M_low b_M_low 3 (some .int) 2 := ⟨z_gwi 836 (by decide +kernel) (by decide +kernel), z_gwi 52 (by decide +kernel) (by decide +kernel), z_gwi 65 (by decide +kernel) (by decide +kernel), z_gwi 837 (rfl) (rfl), by decide +kernel, by decide +kernel, by decide +kernel⟩
set_option maxRecDepth 20000 in
theorem wc_M_high : z_wv y_M_high b_M_high 3 (some .int) 2 := ⟨z_gwi 840 (by decide +kernel) (by decide +kernel), z_gwi 53 (by decide +kernel) (by decide +kernel), z_gwi 65 (by decide +kernel) (by decide +kernel), z_gwi 841 (rfl) (rfl), by decide +kernel, by decide +kernel, by decide +kernel⟩
set_option maxRecDepth 20000 in
theorem wc_M_gap : z_wv y_M_gap b_M_gap 11 (some .int) 4 := ⟨z_gwi 832 (by decide +kernel) (by decide +kernel), z_gwi 51 (by decide +kernel) (by decide +kernel), z_gwi 65 (by decide +kernel) (by decide +kernel), z_gwi 833 (rfl) (rfl), by decide +kernel, by decide +kernel, by decide +kernel⟩
set_option maxRecDepth 20000 in
theorem wc_M_swap : z_wv y_M_swap b_M_swap 4 none 2 := ⟨z_gwi 844 (by decide +kernel) (by decide +kernel), z_gwi 54 (by decide +kernel) (by decide +kernel), z_gwi 65 (by decide +kernel) (by decide +kernel), z_gwi 845 (rfl) (rfl), by decide +kernel, by decide +kernel, by decide +kernel⟩
set_option maxRecDepth 20000 in
theorem wc_M_isBefore : z_wv y_M_isBefore b_M_isBefore 3 (some .boolean) 2 := ⟨z_gwi 852 (by decide +kernel) (by decide +kernel), z_gwi 56 (by decide +kernel) (by decide +kernel), z_gwi 65 (by decide +kernel) (by decide +kernel), z_gwi 853 (rfl) (rfl), by decide +kernel, by decide +kernel, by decide +kernel⟩
set_option maxRecDepth 20000 in
theorem wc_M_sort : z_wv y_M_sort b_M_sort 5 none 2 := ⟨z_gwi 848 (by decide +kernel) (by decide +kernel), z_gwi 55 (by decide +kernel) (by decide +kernel), z_gwi 65 (by decide +kernel) (by decide +kernel), z_gwi 849 (rfl) (rfl), by decide +kernel, by decide +kernel, by decide +kernel⟩
set_option maxRecDepth 20000 in
theorem wc_M_parts : z_wv y_M_parts b_M_parts 9 (some .int) 2 := ⟨z_gwi 828 (by decide +kernel) (by decide +kernel), z_gwi 50 (by decide +kernel) (by decide +kernel), z_gwi 65 (by decide +kernel) (by decide +kernel), z_gwi 829 (rfl) (rfl), by decide +kernel, by decide +kernel, by decide +kernel⟩
set_option maxRecDepth 20000 in
theorem wc_M_takeOrder : z_wv y_M_takeOrder b_M_takeOrder 5 none 0 := ⟨z_gwi 824 (by decide +kernel) (by decide +kernel), z_gwi 49 (by decide +kernel) (by decide +kernel), z_gwi 65 (by decide +kernel) (by decide +kernel), z_gwi 825 (rfl) (rfl), by decide +kernel, by decide +kernel, by decide +kernel⟩
set_option maxRecDepth 20000 in
theorem wc_M_run : z_wv y_M_run b_M_run 3 (some .int) 2 := ⟨z_gwi 763 (by decide +kernel) (by decide +kernel), z_gwi 764 (by decide +kernel) (by decide +kernel), z_gwi 65 (by decide +kernel) (by decide +kernel), z_gwi 765 (rfl) (rfl), by decide +kernel, by decide +kernel, by decide +kernel⟩
set_option maxRecDepth 20000 in
theorem wc_M_lines : z_wv y_M_lines b_M_lines 6 (some .int) 1 := ⟨z_gwi 860 (by decide +kernel) (by decide +kernel), z_gwi 57 (by decide +kernel) (by decide +kernel), z_gwi 65 (by decide +kernel) (by decide +kernel), z_gwi 861 (rfl) (rfl), by decide +kernel, by decide +kernel, by decide +kernel⟩
set_option maxRecDepth 20000 in
theorem wc_M_inkOf : z_wv y_M_inkOf b_M_inkOf 5 (some .int) 1 := ⟨z_gwi 864 (by decide +kernel) (by decide +kernel), z_gwi 58 (by decide +kernel) (by decide +kernel), z_gwi 65 (by decide +kernel) (by decide +kernel), z_gwi 865 (rfl) (rfl), by decide +kernel, by decide +kernel, by decide +kernel⟩
set_option maxRecDepth 20000 in
theorem wc_M_part : z_wv y_M_part b_M_part 3 (some .int) 2 := ⟨z_gwi 855 (by decide +kernel) (by decide +kernel), z_gwi 856 (by decide +kernel) (by decide +kernel), z_gwi 65 (by decide +kernel) (by decide +kernel), z_gwi 857 (rfl) (rfl), by decide +kernel, by decide +kernel, by decide +kernel⟩
set_option maxRecDepth 20000 in
theorem wc_M_partOf : z_wv y_M_partOf b_M_partOf 3 (some .int) 2 := ⟨z_gwi 867 (by decide +kernel) (by decide +kernel), z_gwi 868 (by decide +kernel) (by decide +kernel), z_gwi 65 (by decide +kernel) (by decide +kernel), z_gwi 869 (rfl) (rfl), by decide +kernel, by decide +kernel, by decide +kernel⟩
set_option maxRecDepth 20000 in
theorem wc_M_line : z_wv y_M_line b_M_line 8 (some .int) 3 := ⟨z_gwi 871 (by decide +kernel) (by decide +kernel), z_gwi 872 (by decide +kernel) (by decide +kernel), z_gwi 65 (by decide +kernel) (by decide +kernel), z_gwi 873 (rfl) (rfl), by decide +kernel, by decide +kernel, by decide +kernel⟩
set_option maxRecDepth 20000 in
theorem wc_M_order : z_wv y_M_order b_M_order 2 (some .int) 1 := ⟨z_gwi 875 (by decide +kernel) (by decide +kernel), z_gwi 876 (by decide +kernel) (by decide +kernel), z_gwi 65 (by decide +kernel) (by decide +kernel), z_gwi 877 (rfl) (rfl), by decide +kernel, by decide +kernel, by decide +kernel⟩
set_option maxRecDepth 20000 in
theorem wc_M_cover : z_wv y_M_cover b_M_cover 3 (some .int) 2 := ⟨z_gwi 879 (by decide +kernel) (by decide +kernel), z_gwi 880 (by decide +kernel) (by decide +kernel), z_gwi 65 (by decide +kernel) (by decide +kernel), z_gwi 881 (rfl) (rfl), by decide +kernel, by decide +kernel, by decide +kernel⟩
set_option maxRecDepth 20000 in
theorem wc_M_strip : z_wv y_M_strip b_M_strip 2 (some .int) 1 := ⟨z_gwi 883 (by decide +kernel) (by decide +kernel), z_gwi 884 (by decide +kernel) (by decide +kernel), z_gwi 65 (by decide +kernel) (by decide +kernel), z_gwi 885 (rfl) (rfl), by decide +kernel, by decide +kernel, by decide +kernel⟩
set_option maxRecDepth 20000 in
theorem wc_M_cell : z_wv y_M_cell b_M_cell 10 (some .int) 2 := ⟨z_gwi 887 (by decide +kernel) (by decide +kernel), z_gwi 888 (by decide +kernel) (by decide +kernel), z_gwi 65 (by decide +kernel) (by decide +kernel), z_gwi 889 (rfl) (rfl), by decide +kernel, by decide +kernel, by decide +kernel⟩
set_option maxRecDepth 20000 in
theorem wc_M_isSpeck : z_wv y_M_isSpeck b_M_isSpeck 3 (some .boolean) 2 := ⟨z_gwi 891 (by decide +kernel) (by decide +kernel), z_gwi 892 (by decide +kernel) (by decide +kernel), z_gwi 65 (by decide +kernel) (by decide +kernel), z_gwi 893 (rfl) (rfl), by decide +kernel, by decide +kernel, by decide +kernel⟩
set_option maxRecDepth 20000 in
theorem wc_M_told : z_wv y_M_told b_M_told 6 (some .int) 1 := ⟨z_gwi 895 (by decide +kernel) (by decide +kernel), z_gwi 896 (by decide +kernel) (by decide +kernel), z_gwi 65 (by decide +kernel) (by decide +kernel), z_gwi 897 (rfl) (rfl), by decide +kernel, by decide +kernel, by decide +kernel⟩
set_option maxRecDepth 20000 in
theorem wc_A_fill : z_ws y_A_fill b_A_fill 4 none 2 := ⟨z_gwi 401 (by decide +kernel) (by decide +kernel), z_gwi 71 (by decide +kernel) (by decide +kernel), z_gwi 402 (rfl) (rfl), by decide +kernel, by decide +kernel, by decide +kernel⟩
end
section
/-! ===== BEGIN exceptions that leave a method, and their catching by the caller (launches without stack traces) ===== -/
section VXA
/-! The laws vx_back, vx_callV, vx_callS, vx_callSW, vx_throw0, vx_throwS follow proofs of the library, with one case more: JvmDerived/Free/Laws.lean (Back.of_free), Shelf42/LK1.lean (callV, callS), Shelf/KitTraced.lean (throwNew0V, throwNewS). -/
/-- where a method has thrown q: the class by its name, the cell, what was written, the world -/
def vx_T (XC : String → State → State → Prop) (st : State) (q : Addr) (t : State) (mc ms : Nat) (free : Addr → Prop) : Prop :=
  ∃ (E : String) (ce : Cell) (L : List Loc), XC E st t ∧ t.heap[q]? = some ce ∧ ce.vm = .none ∧ st.vm.findClass E = some ce.cls ∧ st.WarmedH t.vm ∧ st.sameButNew ({ t with vm := st.vm } : State) L mc ms ∧ ∀ z ∈ L, free z.base
def vx_Q (Qc : Array Value → State → Outcome → State → Prop) (XC : String → State → State → Prop) (mc ms : Nat) (free : Addr → Prop) : Array Value → State → Outcome → State → Prop := fun a st o t =>
  (Qc a st o t ∧ ∃ L, FrameEnd st o t L mc ms ∧ ∀ q ∈ L, free q.base) ∨ ∃ q, o = .threw q ∧ vx_T XC st q t mc ms free
/-- a callee that returns or throws -/
def vx_Met (l : Launch) (y : MethodName) (ws : List Cond) (rm : Room) (Pc : Array Value → State → Prop) (Qc : Array Value → State → Outcome → State → Prop) (XC : String → State → State → Prop) (mc ms : Nat) (free : Addr → Prop) : Prop :=
  MetFree l y (headSpec ws rm) Pc (fun _ _ _ _ _ => True) (vx_Q Qc XC mc ms free)
def vx_Post (XC : String → State → State → Prop) (mc ms : Nat) (free : Addr → Prop) : Pt → Array Value → Addr → Pt → Prop := fun A a q B =>
  ∃ (g : JFrame) (mk : MethodId) (t : State) (L : List Loc) (E : String) (ce : Cell), B.U.heap = t.heap ∧ B.U.vm = t.vm ∧ XC E (A.U.calling g mk a) t ∧ t.heap[q]? = some ce ∧ ce.vm = .none ∧ A.U.vm.findClass E = some ce.cls ∧ B.locs = A.locs ++ L ∧ (∀ z ∈ L, free z.base) ∧ B.cells = A.cells + mc ∧ B.slots = A.slots + ms
def vx_Back (l : Launch) (R : Room) (p : Program) (e : Env) (below : List Frame) (s : State) (sargs : Array Value) (y : MethodName) (len W9 : Nat)
    (Pre : Pt → Array Value → Prop) (Post : Pt → Array Value → Option Value → Pt → Prop) (PostX : Pt → Array Value → Addr → Pt → Prop) : Prop :=
  ∀ (m : MethodId) (meth : Method) (c : Code) (A : Pt) (g : JFrame) (ig : Instr) (mk : MethodId) (a : Array Value),
    Stand p l e R s m sargs below meth c A.U A.locs A.cells A.slots → g.method = m → g.locals.size = c.maxLocals → decode c.code g.pc = .ok (ig, len) →
    2 * g.monitorRoom + (g.stack.map fun v => v.category).sum ≤ W9 → A.U.methodNamed? y = some mk → Pre A a →
    (∃ (v : Option Value) (B : Pt), Stand p l e R s m sargs below meth c B.U B.locs B.cells B.slots ∧ Post A a v B ∧
      Steps p.tables e below (doInvoke e (A.U.setTop g) [] mk a).1 (B.U.setTop { g with pc := g.pc + len, stack := v.toList ++ g.stack })) ∨
    (∃ (q : Addr) (B : Pt), Stand p l e R s m sargs below meth c B.U B.locs B.cells B.slots ∧ PostX A a q B ∧
      Steps p.tables e below (doInvoke e (A.U.setTop g) [] mk a).1 ((B.U.setTop g).pushFrame (.throwing q)))
section Payer
variable {l : Launch} {R : Room} {p : Program} {e : Env} {below : List Frame} {s : State} {sargs : Array Value} {y : MethodName} {len W9 : Nat}
theorem vx_back {ws : List Cond} {rm : Room} {Pc : Array Value → State → Prop} {Qc : Array Value → State → Outcome → State → Prop} {XC : String → State → State → Prop} {mc ms : Nat} {free : Addr → Prop} {bytes : ByteArray} {maxL : Nat} {ret : Option FieldType}
    (hM : vx_Met l y ws rm Pc Qc XC mc ms free) (hblind : FrameBlind Pc) (hrc : rm.cells = mc) (hrs : rm.slots = ms)
    (hframes : rm.frames + 1 ≤ R.frames) (hlocals : W9 + (maxL + 11) + rm.locals ≤ R.locals)
    (hws : ∀ w ∈ ws, ∀ a' U, s.WarmedH U.vm → w.before a' U = true) (hcode : Cond.code y bytes maxL ret ∈ ws) (hinit : ∀ a' U, s.WarmedH U.vm → (Cond.initialized y.cls).before a' U = true) :
    vx_Back l R p e below s sargs y len W9 (PreOf R mc ms Pc) (PostOf Qc mc ms free) (vx_Post XC mc ms free) := by
  intro m meth c A g ig mk a X hg hsize hdg hW hn hp
  have h1 : (headSpec ws rm).pre.before a A.U = true := atoms_intro fun w hw => hws w hw _ _ X.warmed
  have h2 : (Cond.code y bytes maxL ret).before a A.U = true := hws _ hcode _ _ X.warmed
  have h3 : (Cond.initialized y.cls).before a A.U = true := hinit _ _ X.warmed
  have h4 : A.cells + (headSpec ws rm).room.cells ≤ R.cells := by rw [show (headSpec ws rm).room.cells = mc from hrc]; exact hp.1
  have h5 : A.slots + (headSpec ws rm).room.slots ≤ R.slots := by rw [show (headSpec ws rm).room.slots = ms from hrs]; exact hp.2.1
  have hPc : Pc a (A.U.calling g mk a) := hblind _ _ _ _ hp.2.2
  obtain ⟨U, Ls, c0, s0⟩ := A
  dsimp only [Pt.U, Pt.locs, Pt.cells, Pt.slots] at h1 h2 h3 h4 h5 X hn hPc ⊢
  obtain ⟨methY, cY, hmY, hcY, -, hlY, -, -, -, -⟩ := Cond.code_spec hn h2
  obtain ⟨kY, hkY, -⟩ := className_of_methodNamed hn
  have hinitY : kY.init = .initialized := Cond.initialized_spec (findClass_of_methodNamed hn) hkY h3
  have h : At U g.method c below := by rw [hg]; exact X.here
  have hlocals9 : W9 + (maxL + 11) + (headSpec ws rm).room.locals ≤ R.locals := hlocals
  have happ : (headSpec ws rm).appliesLoose y e.platform (U.calling g mk a) = true :=
    Spec.appliesLoose_calling (g := g) h hdg hn hkY hinitY
      (X.room_calling (g := g) (R' := (headSpec ws rm).room) hsize hmY hcY hframes (by rw [hlY]; omega) h4 h5) h1
  obtain ⟨mid, hmid⟩ := h.above
  have hfr : (U.setTop g).frames = (.java g :: mid) ++ below := by rw [State.frames_setTop' g h.top, hmid]; rfl
  obtain ⟨o, s₂, hsteps, -, hend, hq⟩ := Steps.callFree hM p X.admits X.cas X.clock (acts := []) hfr happ hPc trivial
  have hq' : vx_Q Qc XC mc ms free a (U.calling g mk a) o s₂ := hq
  rw [State.frames_setTop' g h.top] at hend
  obtain ⟨g₀, hg0⟩ := Option.isSome_iff_exists.mp h.top
  obtain ⟨r, hr⟩ := State.topJava?_eq_some.mp hg0
  have hr' : (({ U with heap := s₂.heap, slotsUsed := s₂.slotsUsed } : State).setVm s₂.vm).frames = .java g₀ :: r := hr
  rcases hq' with ⟨hqc, L, hfe, hL⟩ | ⟨q, rfl, E, ce, L, hx, hce, hcv, hcl, hW₂, hsm, hL⟩
  · obtain ⟨⟨v, rfl⟩, hW₂, e2, q2, q3, q4, q5, q6⟩ := id hfe
    have e3 : s₂ = ({ (U.calling g mk a).setFrames s₂.frames with heap := s₂.heap, slotsUsed := s₂.slotsUsed } : State).setVm s₂.vm := by
      have : s₂ = ({ s₂ with vm := (U.calling g mk a).vm } : State).setVm s₂.vm := rfl
      rw [e2] at this
      exact this
    obtain ⟨c₂, i₂, len₂, hc₂, hd₂, hf₂⟩ := hend
    have hW' : U.WarmedH s₂.vm := hW₂
    have hcc : c₂ = c := by
      have h1 : s₂.code? g.method = U.code? g.method := by
        rw [State.code?_eq, State.code?_eq, hW'.alike.method?]
      exact Option.some.inj (hc₂.symm.trans (h1.trans h.code))
    subst hcc
    have hlen : len₂ = len := by rw [hdg] at hd₂; cases hd₂; rfl
    subst hlen
    have hs₂ : s₂ = (({ U with heap := s₂.heap, slotsUsed := s₂.slotsUsed } : State).setVm s₂.vm).setTop { g with pc := g.pc + len₂, stack := v.toList ++ g.stack } := by
      refine e3.trans ?_
      rw [hf₂, State.calling_eq h.top, State.setFrames_setFrames, State.setTop_of_frames _ hr', hr]
      rfl
    have hsame : U.sameButNew ({ U with heap := s₂.heap, slotsUsed := s₂.slotsUsed } : State) L mc ms := by
      refine ⟨?_, q2, q3, q4, q5, q6⟩
      obtain ⟨t, ht, -⟩ := State.frames_cons hr
      show ({ U with heap := s₂.heap, slotsUsed := s₂.slotsUsed } : State) = { U.setFrames U.frames with heap := s₂.heap, slotsUsed := s₂.slotsUsed }
      rw [State.setFrames_self ht]
    subst hg
    refine Or.inl ⟨v, ⟨(({ U with heap := s₂.heap, slotsUsed := s₂.slotsUsed } : State).setVm s₂.vm), Ls ++ L, c0 + mc, s0 + ms⟩,
      ⟨X.admits, X.cas, X.clock, X.frames, X.room, X.hears, X.method, X.code, (X.here.setHeapUsed s₂.heap s₂.slotsUsed).setVm hW'.alike, X.tail, State.WarmedH.trans X.warmed hW', X.limits, X.bytes, X.same.trans (hsame.setVm s.vm)⟩,
      ⟨g, mk, s₂, L, rfl, rfl, hqc, rfl, hL, rfl, rfl⟩, ?_⟩
    show Steps p.tables e below _ ((({ U with heap := s₂.heap, slotsUsed := s₂.slotsUsed } : State).setVm s₂.vm).setTop { g with pc := g.pc + len₂, stack := v.toList ++ g.stack })
    rw [← hs₂]
    exact hsteps
  · obtain ⟨e2, q2, q3, q4, q5, q6⟩ := id hsm
    have e3 : s₂ = ({ (U.calling g mk a).setFrames s₂.frames with heap := s₂.heap, slotsUsed := s₂.slotsUsed } : State).setVm s₂.vm := by
      have : s₂ = ({ s₂ with vm := (U.calling g mk a).vm } : State).setVm s₂.vm := rfl
      rw [e2] at this
      exact this
    have hf₂ : s₂.frames = .throwing q :: .java g :: U.frames.tail := hend
    have hW' : U.WarmedH s₂.vm := hW₂
    have hs₂ : s₂ = ((({ U with heap := s₂.heap, slotsUsed := s₂.slotsUsed } : State).setVm s₂.vm).setTop g).pushFrame (.throwing q) := by
      refine e3.trans ?_
      rw [hf₂, State.calling_eq h.top, State.setFrames_setFrames, State.pushFrame, State.frames_setTop _ hr', State.setTop_of_frames _ hr', State.setFrames_setFrames, hr]
      rfl
    have hsame : U.sameButNew ({ U with heap := s₂.heap, slotsUsed := s₂.slotsUsed } : State) L mc ms := by
      refine ⟨?_, q2, q3, q4, q5, q6⟩
      obtain ⟨t, ht, -⟩ := State.frames_cons hr
      show ({ U with heap := s₂.heap, slotsUsed := s₂.slotsUsed } : State) = { U.setFrames U.frames with heap := s₂.heap, slotsUsed := s₂.slotsUsed }
      rw [State.setFrames_self ht]
    subst hg
    refine Or.inr ⟨q, ⟨(({ U with heap := s₂.heap, slotsUsed := s₂.slotsUsed } : State).setVm s₂.vm), Ls ++ L, c0 + mc, s0 + ms⟩,
      ⟨X.admits, X.cas, X.clock, X.frames, X.room, X.hears, X.method, X.code, (X.here.setHeapUsed s₂.heap s₂.slotsUsed).setVm hW'.alike, X.tail, State.WarmedH.trans X.warmed hW', X.limits, X.bytes, X.same.trans (hsame.setVm s.vm)⟩,
      ⟨g, mk, s₂, L, E, ce, rfl, rfl, hx, hce, hcv, hcl, rfl, hL, rfl, rfl⟩, ?_⟩
    show Steps p.tables e below _ (((({ U with heap := s₂.heap, slotsUsed := s₂.slotsUsed } : State).setVm s₂.vm).setTop g).pushFrame (.throwing q))
    rw [← hs₂]
    exact hsteps
end Payer
section Calls
variable {p : Program} {l : Launch} {e : Env} {R : Room} {s : State} {m : MethodId} {args : Array Value} {below : List Frame} {meth : Method} {c : Code} {T : State} {locs : List Loc} {cells slots : Nat}
theorem vx_callV (X : Stand p l e R s m args below meth c T locs cells slots) (hexec : p.tables.exec = Jvm.exec) {own C : String} {index : Nat} {y : MethodName} {bytes : ByteArray} {maxL : Nat} {ret : Option FieldType}
    (hown : s.vm.findClass own = some m.cls) (hlink : (Cond.methodLink own index y).before args s = true) (hinst : (Cond.instanceMethod y).before args s = true) (hsel : (Cond.selects C y y).before args s = true)
    (hcode : (Cond.code y bytes maxL ret).before args s = true) (hy : y.cls ≠ "java/lang/invoke/MethodHandle" ∧ y.cls ≠ "java/lang/invoke/VarHandle")
    {W9 : Nat} {Pre : Pt → Array Value → Prop} {Post : Pt → Array Value → Option Value → Pt → Prop} {PostX : Pt → Array Value → Addr → Pt → Prop} (hK : vx_Back l R p e below s args y 3 W9 Pre Post PostX)
    {b : Addr} {cellB : Cell} (hcell : T.heap[b]? = some cellB) (hobj : cellB.vm.isStatics = false) (hcls : s.vm.findClass C = some cellB.cls)
    {g : JFrame} (hg : g.method = m) (hsize : g.locals.size = c.maxLocals) {argsL rest : List Value} (hlen : ∀ sig, parseMethodDescriptor y.desc = some sig → argsL.length = sig.parameters.length)
    (hstack : g.stack = argsL.reverse ++ .ref b :: rest) (hW : 2 * g.monitorRoom + (rest.map fun v => v.category).sum ≤ W9) (hdg : decode c.code g.pc = .ok (.invokevirtual index, 3))
    (hpre : ∀ vm₁, s.WarmedH vm₁ → Pre ⟨T.setVm vm₁, locs, cells, slots⟩ (Value.ref b :: argsL).toArray) :
    (∃ (v : Option Value) (vm₁ : Vm) (B : Pt), s.WarmedH vm₁ ∧ Stand p l e R s m args below meth c B.U B.locs B.cells B.slots ∧ Post ⟨T.setVm vm₁, locs, cells, slots⟩ (Value.ref b :: argsL).toArray v B ∧
      ∀ target, Steps p.tables e below (B.U.setTop { g with pc := g.pc + 3, stack := v.toList ++ rest }) target → Steps p.tables e below (T.setTop g) target) ∨
    (∃ (q : Addr) (vm₁ : Vm) (B : Pt), s.WarmedH vm₁ ∧ Stand p l e R s m args below meth c B.U B.locs B.cells B.slots ∧ PostX ⟨T.setVm vm₁, locs, cells, slots⟩ (Value.ref b :: argsL).toArray q B ∧
      Steps p.tables e below (T.setTop g) ((B.U.setTop { g with stack := rest }).pushFrame (.throwing q))) := by
  obtain ⟨mk, methM, hnamed, hmethM, hstM, habM⟩ := Cond.instanceMethod_spec hinst
  obtain ⟨methM', cM, hmethM', -, -, -, -, -, -, hsigM⟩ := Cond.code_spec hnamed hcode
  cases hmethM.symm.trans hmethM'
  obtain ⟨c2, r2, m2, q1, q2, q3, q4, kP, hkP, hkPi⟩ := Cond.selects_spec hsel
  cases hcls.symm.trans q1
  cases (State.methodFound?_of_named hnamed hy).symm.trans q2
  cases hnamed.symm.trans q3
  have hselP : selectMethod e.platform s.vm cellB.cls mk = .method mk := by rw [Launch.admits_selectMethod X.admits]; exact q4
  obtain ⟨vm₁, X₁, hstep₁⟩ := X.invokevirtual hexec hown hlink hnamed hmethM hstM hkP hkPi hy (a := b) (cell := cellB) hcell
    (fun z h => by rw [h] at hobj; cases hobj) hselP hmethM habM hkP hkPi (g := g) hg (argsL := argsL) (rest := rest) (hlen _ hsigM) hstack hdg
  rcases hK m meth c ⟨T.setVm vm₁, locs, cells, slots⟩ { g with stack := rest } (.invokevirtual index) mk (Value.ref b :: argsL).toArray X₁ hg hsize hdg hW (X₁.named hnamed) (hpre vm₁ X₁.warmed) with ⟨v, B, X', hpost, hsteps⟩ | ⟨q, B, X', hpost, hsteps⟩
  · exact Or.inl ⟨v, vm₁, B, X₁.warmed, X', hpost, fun target h => hstep₁ _ fun acts => by rw [doInvoke_state]; exact hsteps.trans h⟩
  · exact Or.inr ⟨q, vm₁, B, X₁.warmed, X', hpost, hstep₁ _ fun acts => by rw [doInvoke_state]; exact hsteps⟩
theorem vx_callS (X : Stand p l e R s m args below meth c T locs cells slots) (hexec : p.tables.exec = Jvm.exec) {own : String} {index : Nat} {y : MethodName} {bytes : ByteArray} {maxL : Nat} {ret : Option FieldType}
    (hown : s.vm.findClass own = some m.cls) (hlink : (Cond.methodLink own index y).before args s = true) (hstat : (Cond.static y).before args s = true) (hinit : (Cond.initialized y.cls).before args s = true)
    (hcode : (Cond.code y bytes maxL ret).before args s = true) (hy : y.cls ≠ "java/lang/invoke/MethodHandle" ∧ y.cls ≠ "java/lang/invoke/VarHandle")
    {W9 : Nat} {Pre : Pt → Array Value → Prop} {Post : Pt → Array Value → Option Value → Pt → Prop} {PostX : Pt → Array Value → Addr → Pt → Prop} (hK : vx_Back l R p e below s args y 3 W9 Pre Post PostX)
    {g : JFrame} (hg : g.method = m) (hsize : g.locals.size = c.maxLocals) {argsL rest : List Value} (hlen : ∀ sig, parseMethodDescriptor y.desc = some sig → argsL.length = sig.parameters.length)
    (hstack : g.stack = argsL.reverse ++ rest) (hW : 2 * g.monitorRoom + (rest.map fun v => v.category).sum ≤ W9) (hdg : decode c.code g.pc = .ok (.invokestatic index, 3))
    (hpre : ∀ vm₁, s.WarmedH vm₁ → Pre ⟨T.setVm vm₁, locs, cells, slots⟩ argsL.toArray) :
    (∃ (v : Option Value) (vm₁ : Vm) (B : Pt), s.WarmedH vm₁ ∧ Stand p l e R s m args below meth c B.U B.locs B.cells B.slots ∧ Post ⟨T.setVm vm₁, locs, cells, slots⟩ argsL.toArray v B ∧
      ∀ target, Steps p.tables e below (B.U.setTop { g with pc := g.pc + 3, stack := v.toList ++ rest }) target → Steps p.tables e below (T.setTop g) target) ∨
    (∃ (q : Addr) (vm₁ : Vm) (B : Pt), s.WarmedH vm₁ ∧ Stand p l e R s m args below meth c B.U B.locs B.cells B.slots ∧ PostX ⟨T.setVm vm₁, locs, cells, slots⟩ argsL.toArray q B ∧
      Steps p.tables e below (T.setTop g) ((B.U.setTop { g with stack := rest }).pushFrame (.throwing q))) := by
  obtain ⟨mk, hnamed⟩ := Cond.code_named hcode
  obtain ⟨methM, cM, hmethM, -, -, -, -, -, -, hsigM⟩ := Cond.code_spec hnamed hcode
  have hstatic : methM.isStatic = true := Cond.static_spec hnamed hmethM hstat
  obtain ⟨kP, hkP, -⟩ := className_of_methodNamed hnamed
  have hinitP : kP.init = .initialized := Cond.initialized_spec (findClass_of_methodNamed hnamed) hkP hinit
  obtain ⟨vm₁, X₁, hstep₁⟩ := X.invokestatic hexec hown hlink hnamed hmethM hstatic hkP hinitP hy (g := g) hg (argsL := argsL) (rest := rest) (hlen _ hsigM) hstack hdg
  rcases hK m meth c ⟨T.setVm vm₁, locs, cells, slots⟩ { g with stack := rest } (.invokestatic index) mk argsL.toArray X₁ hg hsize hdg hW (X₁.named hnamed) (hpre vm₁ X₁.warmed) with ⟨v, B, X', hpost, hsteps⟩ | ⟨q, B, X', hpost, hsteps⟩
  · exact Or.inl ⟨v, vm₁, B, X₁.warmed, X', hpost, fun target h => hstep₁ _ fun acts => by rw [doInvoke_state]; exact hsteps.trans h⟩
  · exact Or.inr ⟨q, vm₁, B, X₁.warmed, X', hpost, hstep₁ _ fun acts => by rw [doInvoke_state]; exact hsteps⟩
end Calls
theorem vx_cls {s : State} {T : State} {vm₁ : Vm} {E : String} {k : ClassId} (hW : s.WarmedH vm₁) (h : (T.setVm vm₁).vm.findClass E = some k) : s.vm.findClass E = some k := by
  have h1 : vm₁.findClass E = some k := h
  rw [hW.alike.findClass] at h1
  exact h1
/-- the method's frame g, with q thrown over it -/
def vx_W (p : Program) (l : Launch) (e : Env) (R : Room) (s : State) (m : MethodId) (args : Array Value) (below : List Frame) (meth : Method) (c : Code) (H : Heap) (locs : List Loc) (cells slots : Nat) (Q : State → Prop) (g : JFrame) (q : Addr) : Prop :=
  ∀ T : State, T.heap = H → Stand p l e R s m args below meth c T locs cells slots → ∃ t, Steps p.tables e below ((T.setTop g).pushFrame (.throwing q)) t ∧ Q t
def vx_Run (p : Program) (l : Launch) (e : Env) (R : Room) (s : State) (m : MethodId) (args : Array Value) (below : List Frame) (meth : Method) (c : Code) (H : Heap) (locs : List Loc) (cells slots mc ms : Nat) (g : JFrame) (rest : List Value) (Qa : State → Outcome → State → Prop) (XC : String → State → State → Prop) (free : Addr → Prop) : Prop :=
  ∀ T : State, T.heap = H → Stand p l e R s m args below meth c T locs cells slots →
    (∃ (v : Option Value) (st₀ t T' : State) (L : List Loc), st₀.heap = H ∧ Stand p l e R s m args below meth c T' (locs ++ L) (cells + mc) (slots + ms) ∧ (∀ q ∈ L, free q.base) ∧ T'.heap = t.heap ∧ T'.vm = t.vm ∧ Qa st₀ (.returned v) t ∧
      Goes p e below T g T' { g with pc := g.pc + 3, stack := v.toList ++ rest }) ∨
    (∃ (q : Addr) (st₀ t T' : State) (L : List Loc) (E : String) (ce : Cell), st₀.heap = H ∧ Stand p l e R s m args below meth c T' (locs ++ L) (cells + mc) (slots + ms) ∧ (∀ z ∈ L, free z.base) ∧ T'.heap = t.heap ∧ T'.vm = t.vm ∧ XC E st₀ t ∧ t.heap[q]? = some ce ∧ ce.vm = .none ∧ s.vm.findClass E = some ce.cls ∧
      Steps p.tables e below (T.setTop g) ((T'.setTop { g with stack := rest }).pushFrame (.throwing q)))
def vx_X {S : Type} (px : S → Prop) (B : String → S → State → Prop) (A : Nat → Prop) : String → State → State → Prop := fun E st t => ∃ u : S, px u ∧ B E u t ∧ va_F A st t
section Runs
variable {p : Program} {l : Launch} {e : Env} {R : Room} {s : State} {m : MethodId} {args : Array Value} {below : List Frame} {meth : Method} {c : Code} {H : Heap} {locs : List Loc} {cells slots : Nat}
variable {y : MethodName} {bytes cc : ByteArray} {maxL nL mc ms n index : Nat} {ret : Option FieldType} {ws : List Cond} {rm : Room} {Pc : Array Value → State → Prop} {Qc : Array Value → State → Outcome → State → Prop} {XC : String → State → State → Prop} {free : Addr → Prop} {Ts : List Cond} {own C : String} {b : Addr} {As rest : List Value} {g : JFrame}
theorem vx_callBack (cb : CallB R s args own index y bytes maxL ret ws rm mc ms n) (hM : vx_Met l y ws rm Pc Qc XC mc ms free) (hbl : FrameBlind Pc) : vx_Back l R p e below s args y 3 8 (PreOf R mc ms Pc) (PostOf Qc mc ms free) (vx_Post XC mc ms free) := by
  obtain ⟨hrc, hrs, hfr, hlo, hws, hcw, -, hini, -⟩ := cb
  exact vx_back (bytes := bytes) (maxL := maxL) (ret := ret) hM hbl hrc hrs hfr hlo hws hcw (fun a' U hW => word_at hW (Or.inl (by first | rfl | simp [Cond.onTables, Cond.keeps, Cond.steady])) hini)
theorem vx_runV (S : CallFix p m c cc nL s args Ts own) (hM : vx_Met l y ws rm Pc Qc XC mc ms free) (cw : CallW R s args own C index y bytes maxL ret ws rm mc ms n) (hp : PreV s H C b Pc As)
    (hg : g.method = m) (hn : As.length = n) (hsize : g.locals.size = nL) (hstack : g.stack = As.reverse ++ .ref b :: rest) (hW : 2 * g.monitorRoom + (rest.map fun v => v.category).sum ≤ 8) (hdg : decode cc g.pc = .ok (.invokevirtual index, 3)) (hf : cells + mc ≤ R.cells ∧ slots + ms ≤ R.slots) :
    vx_Run p l e R s m args below meth c H locs cells slots mc ms g rest (Qc (Value.ref b :: As).toArray) XC free := by
  have hK : vx_Back l R p e below s args y 3 8 (PreOf R mc ms Pc) (PostOf Qc mc ms free) (vx_Post XC mc ms free) := vx_callBack cw.1 hM hp.1
  obtain ⟨⟨-, -, -, -, -, -, hcode, -, hy, hlen, hl⟩, hin, hse⟩ := cw
  obtain ⟨hx, hb, hml, ho, -⟩ := S
  obtain ⟨-, ⟨cellB, hcB, hoB, hclB⟩, hPc⟩ := hp
  intro T hT X
  rcases vx_callV X hx (C := C) (bytes := bytes) (maxL := maxL) (ret := ret) ho hl hin hse hcode hy hK (by rw [hT]; exact hcB) hoB hclB hg (hsize.trans hml.symm) (argsL := As) (rest := rest) (fun sig h => hn.trans (hlen sig h)) hstack hW (by rw [hb]; exact hdg)
    (fun vm₁ hW₁ => ⟨hf.1, hf.2, hPc (T.setVm vm₁) hT hW₁⟩) with ⟨v, vm₁, ⟨U', l2, c2, s2⟩, hW₁, X', ⟨g', mk, t, L, e1, e2, hq, h1, hL, h2, h3⟩, st⟩ | ⟨q, vm₁, ⟨U', l2, c2, s2⟩, hW₁, X', ⟨g', mk, t, L, E, ce, e1, e2, hq, hce, hcv, hcl, h1, hL, h2, h3⟩, st⟩
  · dsimp only [Pt.U, Pt.locs, Pt.cells, Pt.slots] at X' e1 e2 h1 h2 h3 st
    subst h1; subst h2; subst h3
    exact Or.inl ⟨v, (T.setVm vm₁).calling g' mk (Value.ref b :: As).toArray, t, U', L, hT, X', hL, e1, e2, hq, st⟩
  · dsimp only [Pt.U, Pt.locs, Pt.cells, Pt.slots] at X' e1 e2 h1 h2 h3 st hcl
    subst h1; subst h2; subst h3
    exact Or.inr ⟨q, (T.setVm vm₁).calling g' mk (Value.ref b :: As).toArray, t, U', L, E, ce, hT, X', hL, e1, e2, hq, hce, hcv, vx_cls hW₁ hcl, st⟩
theorem vx_runS (S : CallFix p m c cc nL s args Ts own) (hM : vx_Met l y ws rm Pc Qc XC mc ms free) (cw : CallB R s args own index y bytes maxL ret ws rm mc ms n ∧ (Cond.static y).before args s = true) (hp : PreS s H Pc As)
    (hg : g.method = m) (hn : As.length = n) (hsize : g.locals.size = nL) (hstack : g.stack = As.reverse ++ rest) (hW : 2 * g.monitorRoom + (rest.map fun v => v.category).sum ≤ 8) (hdg : decode cc g.pc = .ok (.invokestatic index, 3)) (hf : cells + mc ≤ R.cells ∧ slots + ms ≤ R.slots) :
    vx_Run p l e R s m args below meth c H locs cells slots mc ms g rest (Qc As.toArray) XC free := by
  have hK : vx_Back l R p e below s args y 3 8 (PreOf R mc ms Pc) (PostOf Qc mc ms free) (vx_Post XC mc ms free) := vx_callBack cw.1 hM hp.1
  obtain ⟨⟨-, -, -, -, -, -, hcode, hini, hy, hlen, hl⟩, hstt⟩ := cw
  obtain ⟨hx, hb, hml, ho, -⟩ := S
  intro T hT X
  rcases vx_callS X hx (bytes := bytes) (maxL := maxL) (ret := ret) ho hl hstt hini hcode hy hK hg (hsize.trans hml.symm) (argsL := As) (rest := rest) (fun sig h => hn.trans (hlen sig h)) hstack hW (by rw [hb]; exact hdg)
    (fun vm₁ hW₁ => ⟨hf.1, hf.2, hp.2 (T.setVm vm₁) hT hW₁⟩) with ⟨v, vm₁, ⟨U', l2, c2, s2⟩, hW₁, X', ⟨g', mk, t, L, e1, e2, hq, h1, hL, h2, h3⟩, st⟩ | ⟨q, vm₁, ⟨U', l2, c2, s2⟩, hW₁, X', ⟨g', mk, t, L, E, ce, e1, e2, hq, hce, hcv, hcl, h1, hL, h2, h3⟩, st⟩
  · dsimp only [Pt.U, Pt.locs, Pt.cells, Pt.slots] at X' e1 e2 h1 h2 h3 st
    subst h1; subst h2; subst h3
    exact Or.inl ⟨v, (T.setVm vm₁).calling g' mk As.toArray, t, U', L, hT, X', hL, e1, e2, hq, st⟩
  · dsimp only [Pt.U, Pt.locs, Pt.cells, Pt.slots] at X' e1 e2 h1 h2 h3 st hcl
    subst h1; subst h2; subst h3
    exact Or.inr ⟨q, (T.setVm vm₁).calling g' mk As.toArray, t, U', L, E, ce, hT, X', hL, e1, e2, hq, hce, hcv, vx_cls hW₁ hcl, st⟩
end Runs
section Rows
variable {p : Program} {l : Launch} {e : Env} {R : Room} {s : State} {m : MethodId} {args : Array Value} {below : List Frame} {meth : Method} {c : Code} {H : Heap} {locs : List Loc} {cells slots : Nat} {Q : State → Prop}
variable {mc ms : Nat} {free : Addr → Prop} {A0 A1 : Nat → Prop} {H0 : Heap} {a : Array Value} {pc : Nat} {ls : Array Slot} {st0 rest : List Value}
theorem vx_keep {st₀ t T' : State} {L : List Loc} (h0 : st₀.heap = H) (e1 : T'.heap = t.heap) (hS : va_S A0 H0 H locs) (hA : ∀ q, q < H.size → A1 q → A0 q) (hf : ∀ q, free q → A0 q) (hL : ∀ q ∈ L, free q.base) (hF : va_F A1 st₀ t) :
    H.size ≤ T'.heap.size ∧ (∀ q : Nat, q < H.size → ¬ A1 q → T'.heap[q]? = H[q]?) ∧ va_S A0 H0 T'.heap (locs ++ L) := by
  obtain ⟨hz, hk⟩ := hF
  rw [h0] at hz hk
  exact ⟨by rw [e1]; exact hz, fun q h1 h2 => by rw [e1]; exact hk q h1 h2,
    ⟨Nat.le_trans hS.1 (by rw [e1]; exact hz), fun q h1 h2 => by rw [e1, hk q (Nat.lt_of_lt_of_le h1 hS.1) (fun z => h2 (hA q (Nat.lt_of_lt_of_le h1 hS.1) z))]; exact hS.2.1 q h1 h2, fun q hq => by
      rcases List.mem_append.mp hq with h | h
      · exact hS.2.2 q h
      · exact hf _ (hL q h)⟩⟩
theorem vx_calli {S SX : Type} {post : Int32 → S → Prop} {px : SX → Prop} {B : S → State → Prop} {BX : String → SX → State → Prop} {AX : Nat → Prop} (hr : vx_Run p l e R s m args below meth c H locs cells slots mc ms (F0 m pc ls st0) rest (va_Qi post B A1 a) (vx_X px BX AX) free) (hS : va_S A0 H0 H locs) (hA : ∀ q, q < H.size → A1 q → A0 q) (hf : ∀ q, free q → A0 q) (hAX : ∀ q, q < H.size → AX q → A0 q)
    (kx : ∀ (E : String) (ce : Cell) (q9 : Addr) (u : SX) (t : State) (H1 : Heap) (locs1 : List Loc), t.heap = H1 → s.vm.Alike t.vm → px u → BX E u t → H.size ≤ H1.size → (∀ q : Nat, q < H.size → ¬ AX q → H1[q]? = H[q]?) → va_S A0 H0 H1 locs1 → H1[q9]? = some ce → ce.vm = .none → s.vm.findClass E = some ce.cls → vx_W p l e R s m args below meth c H1 locs1 (cells + mc) (slots + ms) Q (F0 m pc ls rest) q9)
    (kk : ∀ (r : Int32) (u : S) (t : State) (H1 : Heap) (locs1 : List Loc), t.heap = H1 → s.vm.Alike t.vm → post r u → B u t → H.size ≤ H1.size → (∀ q : Nat, q < H.size → ¬ A1 q → H1[q]? = H[q]?) → va_S A0 H0 H1 locs1 → W p l e R s m args below meth c H1 locs1 (cells + mc) (slots + ms) Q (F0 m (pc + 3) ls (.int r :: rest))) : W p l e R s m args below meth c H locs cells slots Q (F0 m pc ls st0) := by
  intro T hT X
  rcases hr T hT X with ⟨v, st₀, t, T', L, h0, X', hL, e1, e2, ⟨⟨r, u, hv, hp, hb⟩, hF⟩, st⟩ | ⟨q, st₀, t, T', L, E, ce, h0, X', hL, e1, e2, ⟨u, hp, hb, hF⟩, hce, hcv, hcl, st⟩
  · cases hv
    obtain ⟨k1, k2, k3⟩ := vx_keep h0 e1 hS hA hf hL hF
    obtain ⟨t2, a1, b1⟩ := kk r u t T'.heap (locs ++ L) e1.symm (by rw [← e2]; exact X'.warmed.alike) hp hb k1 k2 k3 T' rfl X'
    exact ⟨t2, st t2 a1, b1⟩
  · obtain ⟨k1, k2, k3⟩ := vx_keep h0 e1 hS hAX hf hL hF
    obtain ⟨t2, a1, b1⟩ := kx E ce q u t T'.heap (locs ++ L) e1.symm (by rw [← e2]; exact X'.warmed.alike) hp hb k1 k2 k3 (by rw [e1]; exact hce) hcv hcl T' rfl X'
    exact ⟨t2, st.trans a1, b1⟩
theorem vx_calll {S SX : Type} {post : Int64 → S → Prop} {px : SX → Prop} {B : S → State → Prop} {BX : String → SX → State → Prop} {AX : Nat → Prop} (hr : vx_Run p l e R s m args below meth c H locs cells slots mc ms (F0 m pc ls st0) rest (va_Ql post B A1 a) (vx_X px BX AX) free) (hS : va_S A0 H0 H locs) (hA : ∀ q, q < H.size → A1 q → A0 q) (hf : ∀ q, free q → A0 q) (hAX : ∀ q, q < H.size → AX q → A0 q)
    (kx : ∀ (E : String) (ce : Cell) (q9 : Addr) (u : SX) (t : State) (H1 : Heap) (locs1 : List Loc), t.heap = H1 → s.vm.Alike t.vm → px u → BX E u t → H.size ≤ H1.size → (∀ q : Nat, q < H.size → ¬ AX q → H1[q]? = H[q]?) → va_S A0 H0 H1 locs1 → H1[q9]? = some ce → ce.vm = .none → s.vm.findClass E = some ce.cls → vx_W p l e R s m args below meth c H1 locs1 (cells + mc) (slots + ms) Q (F0 m pc ls rest) q9)
    (kk : ∀ (r : Int64) (u : S) (t : State) (H1 : Heap) (locs1 : List Loc), t.heap = H1 → s.vm.Alike t.vm → post r u → B u t → H.size ≤ H1.size → (∀ q : Nat, q < H.size → ¬ A1 q → H1[q]? = H[q]?) → va_S A0 H0 H1 locs1 → W p l e R s m args below meth c H1 locs1 (cells + mc) (slots + ms) Q (F0 m (pc + 3) ls (.long r :: rest))) : W p l e R s m args below meth c H locs cells slots Q (F0 m pc ls st0) := by
  intro T hT X
  rcases hr T hT X with ⟨v, st₀, t, T', L, h0, X', hL, e1, e2, ⟨⟨r, u, hv, hp, hb⟩, hF⟩, st⟩ | ⟨q, st₀, t, T', L, E, ce, h0, X', hL, e1, e2, ⟨u, hp, hb, hF⟩, hce, hcv, hcl, st⟩
  · cases hv
    obtain ⟨k1, k2, k3⟩ := vx_keep h0 e1 hS hA hf hL hF
    obtain ⟨t2, a1, b1⟩ := kk r u t T'.heap (locs ++ L) e1.symm (by rw [← e2]; exact X'.warmed.alike) hp hb k1 k2 k3 T' rfl X'
    exact ⟨t2, st t2 a1, b1⟩
  · obtain ⟨k1, k2, k3⟩ := vx_keep h0 e1 hS hAX hf hL hF
    obtain ⟨t2, a1, b1⟩ := kx E ce q u t T'.heap (locs ++ L) e1.symm (by rw [← e2]; exact X'.warmed.alike) hp hb k1 k2 k3 (by rw [e1]; exact hce) hcv hcl T' rfl X'
    exact ⟨t2, st.trans a1, b1⟩
theorem vx_callf {S SX : Type} {post : UInt32 → S → Prop} {px : SX → Prop} {B : S → State → Prop} {BX : String → SX → State → Prop} {AX : Nat → Prop} (hr : vx_Run p l e R s m args below meth c H locs cells slots mc ms (F0 m pc ls st0) rest (va_Qf post B A1 a) (vx_X px BX AX) free) (hS : va_S A0 H0 H locs) (hA : ∀ q, q < H.size → A1 q → A0 q) (hf : ∀ q, free q → A0 q) (hAX : ∀ q, q < H.size → AX q → A0 q)
    (kx : ∀ (E : String) (ce : Cell) (q9 : Addr) (u : SX) (t : State) (H1 : Heap) (locs1 : List Loc), t.heap = H1 → s.vm.Alike t.vm → px u → BX E u t → H.size ≤ H1.size → (∀ q : Nat, q < H.size → ¬ AX q → H1[q]? = H[q]?) → va_S A0 H0 H1 locs1 → H1[q9]? = some ce → ce.vm = .none → s.vm.findClass E = some ce.cls → vx_W p l e R s m args below meth c H1 locs1 (cells + mc) (slots + ms) Q (F0 m pc ls rest) q9)
    (kk : ∀ (r : UInt32) (u : S) (t : State) (H1 : Heap) (locs1 : List Loc), t.heap = H1 → s.vm.Alike t.vm → post r u → B u t → H.size ≤ H1.size → (∀ q : Nat, q < H.size → ¬ A1 q → H1[q]? = H[q]?) → va_S A0 H0 H1 locs1 → W p l e R s m args below meth c H1 locs1 (cells + mc) (slots + ms) Q (F0 m (pc + 3) ls (.float r :: rest))) : W p l e R s m args below meth c H locs cells slots Q (F0 m pc ls st0) := by
  intro T hT X
  rcases hr T hT X with ⟨v, st₀, t, T', L, h0, X', hL, e1, e2, ⟨⟨r, u, hv, hp, hb⟩, hF⟩, st⟩ | ⟨q, st₀, t, T', L, E, ce, h0, X', hL, e1, e2, ⟨u, hp, hb, hF⟩, hce, hcv, hcl, st⟩
  · cases hv
    obtain ⟨k1, k2, k3⟩ := vx_keep h0 e1 hS hA hf hL hF
    obtain ⟨t2, a1, b1⟩ := kk r u t T'.heap (locs ++ L) e1.symm (by rw [← e2]; exact X'.warmed.alike) hp hb k1 k2 k3 T' rfl X'
    exact ⟨t2, st t2 a1, b1⟩
  · obtain ⟨k1, k2, k3⟩ := vx_keep h0 e1 hS hAX hf hL hF
    obtain ⟨t2, a1, b1⟩ := kx E ce q u t T'.heap (locs ++ L) e1.symm (by rw [← e2]; exact X'.warmed.alike) hp hb k1 k2 k3 (by rw [e1]; exact hce) hcv hcl T' rfl X'
    exact ⟨t2, st.trans a1, b1⟩
theorem vx_calld {S SX : Type} {post : UInt64 → S → Prop} {px : SX → Prop} {B : S → State → Prop} {BX : String → SX → State → Prop} {AX : Nat → Prop} (hr : vx_Run p l e R s m args below meth c H locs cells slots mc ms (F0 m pc ls st0) rest (va_Qd post B A1 a) (vx_X px BX AX) free) (hS : va_S A0 H0 H locs) (hA : ∀ q, q < H.size → A1 q → A0 q) (hf : ∀ q, free q → A0 q) (hAX : ∀ q, q < H.size → AX q → A0 q)
    (kx : ∀ (E : String) (ce : Cell) (q9 : Addr) (u : SX) (t : State) (H1 : Heap) (locs1 : List Loc), t.heap = H1 → s.vm.Alike t.vm → px u → BX E u t → H.size ≤ H1.size → (∀ q : Nat, q < H.size → ¬ AX q → H1[q]? = H[q]?) → va_S A0 H0 H1 locs1 → H1[q9]? = some ce → ce.vm = .none → s.vm.findClass E = some ce.cls → vx_W p l e R s m args below meth c H1 locs1 (cells + mc) (slots + ms) Q (F0 m pc ls rest) q9)
    (kk : ∀ (r : UInt64) (u : S) (t : State) (H1 : Heap) (locs1 : List Loc), t.heap = H1 → s.vm.Alike t.vm → post r u → B u t → H.size ≤ H1.size → (∀ q : Nat, q < H.size → ¬ A1 q → H1[q]? = H[q]?) → va_S A0 H0 H1 locs1 → W p l e R s m args below meth c H1 locs1 (cells + mc) (slots + ms) Q (F0 m (pc + 3) ls (.double r :: rest))) : W p l e R s m args below meth c H locs cells slots Q (F0 m pc ls st0) := by
  intro T hT X
  rcases hr T hT X with ⟨v, st₀, t, T', L, h0, X', hL, e1, e2, ⟨⟨r, u, hv, hp, hb⟩, hF⟩, st⟩ | ⟨q, st₀, t, T', L, E, ce, h0, X', hL, e1, e2, ⟨u, hp, hb, hF⟩, hce, hcv, hcl, st⟩
  · cases hv
    obtain ⟨k1, k2, k3⟩ := vx_keep h0 e1 hS hA hf hL hF
    obtain ⟨t2, a1, b1⟩ := kk r u t T'.heap (locs ++ L) e1.symm (by rw [← e2]; exact X'.warmed.alike) hp hb k1 k2 k3 T' rfl X'
    exact ⟨t2, st t2 a1, b1⟩
  · obtain ⟨k1, k2, k3⟩ := vx_keep h0 e1 hS hAX hf hL hF
    obtain ⟨t2, a1, b1⟩ := kx E ce q u t T'.heap (locs ++ L) e1.symm (by rw [← e2]; exact X'.warmed.alike) hp hb k1 k2 k3 (by rw [e1]; exact hce) hcv hcl T' rfl X'
    exact ⟨t2, st.trans a1, b1⟩
theorem vx_callv {S SX : Type} {post : S → Prop} {px : SX → Prop} {B : S → State → Prop} {BX : String → SX → State → Prop} {AX : Nat → Prop} (hr : vx_Run p l e R s m args below meth c H locs cells slots mc ms (F0 m pc ls st0) rest (va_Qv post B A1 a) (vx_X px BX AX) free) (hS : va_S A0 H0 H locs) (hA : ∀ q, q < H.size → A1 q → A0 q) (hf : ∀ q, free q → A0 q) (hAX : ∀ q, q < H.size → AX q → A0 q)
    (kx : ∀ (E : String) (ce : Cell) (q9 : Addr) (u : SX) (t : State) (H1 : Heap) (locs1 : List Loc), t.heap = H1 → s.vm.Alike t.vm → px u → BX E u t → H.size ≤ H1.size → (∀ q : Nat, q < H.size → ¬ AX q → H1[q]? = H[q]?) → va_S A0 H0 H1 locs1 → H1[q9]? = some ce → ce.vm = .none → s.vm.findClass E = some ce.cls → vx_W p l e R s m args below meth c H1 locs1 (cells + mc) (slots + ms) Q (F0 m pc ls rest) q9)
    (kk : ∀ (u : S) (t : State) (H1 : Heap) (locs1 : List Loc), t.heap = H1 → s.vm.Alike t.vm → post u → B u t → H.size ≤ H1.size → (∀ q : Nat, q < H.size → ¬ A1 q → H1[q]? = H[q]?) → va_S A0 H0 H1 locs1 → W p l e R s m args below meth c H1 locs1 (cells + mc) (slots + ms) Q (F0 m (pc + 3) ls (rest))) : W p l e R s m args below meth c H locs cells slots Q (F0 m pc ls st0) := by
  intro T hT X
  rcases hr T hT X with ⟨v, st₀, t, T', L, h0, X', hL, e1, e2, ⟨⟨u, hv, hp, hb⟩, hF⟩, st⟩ | ⟨q, st₀, t, T', L, E, ce, h0, X', hL, e1, e2, ⟨u, hp, hb, hF⟩, hce, hcv, hcl, st⟩
  · cases hv
    obtain ⟨k1, k2, k3⟩ := vx_keep h0 e1 hS hA hf hL hF
    obtain ⟨t2, a1, b1⟩ := kk u t T'.heap (locs ++ L) e1.symm (by rw [← e2]; exact X'.warmed.alike) hp hb k1 k2 k3 T' rfl X'
    exact ⟨t2, st t2 a1, b1⟩
  · obtain ⟨k1, k2, k3⟩ := vx_keep h0 e1 hS hAX hf hL hF
    obtain ⟨t2, a1, b1⟩ := kx E ce q u t T'.heap (locs ++ L) e1.symm (by rw [← e2]; exact X'.warmed.alike) hp hb k1 k2 k3 (by rw [e1]; exact hce) hcv hcl T' rfl X'
    exact ⟨t2, st.trans a1, b1⟩
/-- caught by the row x of this method's table; the rows ahead don't take it -/
theorem vx_catch {own name : String} {E : String} {ce : Cell} {q : Addr} (hown : s.vm.findClass own = some m.cls) (pre : List ExceptionTableEntry) (x : ExceptionTableEntry) (suf : List ExceptionTableEntry) (hsplit : c.exceptionTable.toList = pre ++ x :: suf)
    (hpass : ∀ z ∈ pre, covers z pc = false ∨ (z.catchType ≠ 0 ∧ ∃ nm : String, (Cond.classLink own z.catchType nm).before args s = true ∧ va_Nc E nm s)) (hx : covers x pc = true) (h0 : x.catchType ≠ 0)
    (hlink : (Cond.classLink own x.catchType name).before args s = true) (hcast : (Cond.castable E name).before args s = true) (hcell : H[q]? = some ce) (hv : ce.vm = .none) (hcl : s.vm.findClass E = some ce.cls)
    (kk : W p l e R s m args below meth c H locs cells slots Q (F0 m x.handlerPc ls [.ref q])) : vx_W p l e R s m args below meth c H locs cells slots Q (F0 m pc ls rest) q := by
  intro T hT X
  have hpl : e.platform.magicAccessors = ({} : Platform).magicAccessors := by rw [X.admits.platform]
  obtain ⟨c3, c4, hc3, hc4, hasg⟩ := Cond.castable_spec hcast
  cases Option.some.inj (hc3.symm.trans hcl)
  obtain ⟨c5, hc5, hcl5⟩ := Cond.classLink_spec hown hlink e.platform hpl
  cases Option.some.inj (hc4.symm.trans hc5)
  obtain ⟨vm', X', st⟩ := X.thenCaughtThrough q (g := F0 m pc ls rest) rfl (Steps.refl _) (by rw [hT]; exact hcell) (by rw [hv]; rfl) (by obtain ⟨k9, h9, -⟩ := Vm.findClass_spec hcl; exact ⟨k9, h9⟩) pre x suf hsplit
    (fun z hz => by
      rcases hpass z hz with h | ⟨hz0, nm, hl1, hn1⟩
      · exact Or.inl h
      · obtain ⟨c6, hc6, hcl6⟩ := Cond.classLink_spec hown hl1 e.platform hpl
        obtain ⟨a8, b8, h1, h2, h3⟩ := hn1
        cases Option.some.inj (h1.symm.trans hcl)
        cases Option.some.inj (h2.symm.trans hc6)
        exact Or.inr ⟨hz0, _, hcl6, h3⟩) hx (Or.inr ⟨h0, c4, hcl5, hasg⟩)
  obtain ⟨t, a1, b1⟩ := kk (T.setVm vm') hT X'
  exact ⟨t, st.trans a1, b1⟩
end Rows
section Ends
variable {p : Program} {l : Launch} {e : Env} {R : Room} {s : State} {m : MethodId} {args : Array Value} {below : List Frame} {meth : Method} {c : Code} {H : Heap} {locs : List Loc} {cells slots : Nat} {Q : State → Prop}
variable {mc ms : Nat} {free : Addr → Prop} {A0 A1 : Nat → Prop} {H0 : Heap} {a : Array Value} {ls : Array Slot} {st0 rest : List Value}
variable {Qc : Array Value → State → Outcome → State → Prop} {XC : String → State → State → Prop}
/-- what a body that may throw owes at its end -/
def vx_MQ (below : List Frame) (Qc : Array Value → State → Outcome → State → Prop) (XC : String → State → State → Prop) (a : Array Value) (s : State) (mc ms : Nat) (free : Addr → Prop) : State → Prop := fun t =>
  ∃ o, t.status = .running ∧ Ended t below o ∧ vx_Q Qc XC mc ms free a s o t
theorem vx_ret {g : JFrame} {mc ms : Nat} (k : W p l e R s m args below meth c H locs cells slots (MQ below Qc args s mc ms free) g) : W p l e R s m args below meth c H locs cells slots (vx_MQ below Qc XC args s mc ms free) g := by
  intro T hT X
  obtain ⟨t, a1, o, b1, b2, b3, b4⟩ := k T hT X
  exact ⟨t, a1, o, b1, b2, Or.inl ⟨b3, b4⟩⟩
/-- not caught here: it goes on to the caller -/
theorem vx_widen {g : JFrame} {q : Addr} {k n : Nat} (h1 : cells ≤ k) (h2 : slots ≤ n) (kk : vx_W p l e R s m args below meth c H locs k n Q g q) : vx_W p l e R s m args below meth c H locs cells slots Q g q := fun T hT X => kk T hT (stand_widen X h1 h2)
theorem vx_out {pc : Nat} {E : String} {ce : Cell} {q : Addr} {mc ms : Nat} (hout : ∀ x ∈ c.exceptionTable.toList, covers x pc = false) (hlocks : meth.locks = false) (hcell : H[q]? = some ce) (hv : ce.vm = .none) (hcl : s.vm.findClass E = some ce.cls)
    (hx : ∀ t : State, t.heap = H → s.vm.Alike t.vm → XC E s t) (hf : ∀ z ∈ locs, free z.base) (hc : cells ≤ mc) (hs : slots ≤ ms) :
    vx_W p l e R s m args below meth c H locs cells slots (vx_MQ below Qc XC args s mc ms free) (F0 m pc ls rest) q := by
  intro T hT X
  obtain ⟨st1, hrun, hend, hW, hsm⟩ := X.leaveThrown q (g := F0 m pc ls rest) rfl rfl rfl hout hlocks
  have hcell9 : (T.setFrames (.throwing q :: below)).heap[q]? = some ce := by
    show T.heap[q]? = some ce
    rw [hT]; exact hcell
  exact ⟨_, st1, .threw q, hrun, hend, Or.inr ⟨q, rfl, E, ce, locs, hx _ hT hW.alike, hcell9, hv, hcl, hW, hsm.mono hc hs, hf⟩⟩
theorem vx_frame {U : State} {k n : Nat} (h : s.sameButNew ({ U with vm := s.vm } : State) locs k n) : s.heap.size ≤ U.heap.size ∧ ∀ q : Nat, q < s.heap.size → (∀ z ∈ locs, z.base ≠ q) → U.heap[q]? = s.heap[q]? := by
  obtain ⟨-, h2, -, -, -, h6⟩ := h
  refine ⟨h2, fun q hq hz => ?_⟩
  obtain ⟨c9, e1, e2, e3, e4⟩ := h6 q _ (Array.getElem?_eq_getElem hq)
  have hs : c9.slots = (s.heap[q]).slots := Array.ext_getElem? fun i => e4 i fun hm => hz _ hm rfl
  have h9 : c9 = s.heap[q] := by
    rw [hs] at e2
    exact e2
  have e5 : U.heap[q]? = some c9 := e1
  rw [e5, h9, Array.getElem?_eq_getElem hq]
/-- the words of a throw but the four that speak of the heap -/
def vx_no (w : Cond) : Bool := decide (w ≠ .isRef (.static Bundle.tN "UNASSIGNED_STACK" Bundle.steD)) && decide (w ≠ .isRef (.static Bundle.tN "SUPPRESSED_SENTINEL" Bundle.listD)) && decide (w ≠ .laysStatic Bundle.tN "UNASSIGNED_STACK" Bundle.steD) && decide (w ≠ .laysStatic Bundle.tN "SUPPRESSED_SENTINEL" Bundle.listD)
def vx_at0 (own : String) (ic : Nat) (X : String) (names : List String) : List Cond := (Bundle.ownAtoms0 own ic X names).filter vx_no
def vx_atS (own : String) (ic : Nat) (X : String) (names : List String) : List Cond := (Bundle.ownAtoms own ic X names).filter vx_no
/-- a word that the tables alone decide, or a good one -/
def vx_ot (w : Cond) : Bool := w.onTables || goodWord w
theorem vx_ot_at {args a' : Array Value} {s U : State} {w : Cond} (hW : s.WarmedH U.vm) (hvm : s.vm = U.vm) (hg : vx_ot w = true) (h : w.before args s = true) : w.before a' U = true := by
  simp only [vx_ot, Bool.or_eq_true] at hg
  rcases hg with hg | hg
  · exact va_tabs hg hvm h
  · exact word_at hW (good_of_word hg) h
/-- a list's words: the good ones out of the method's own list, the others by premises of their own -/
theorem vx_hat {args : Array Value} {s : State} {L B : List Cond} (h1 : ∀ w ∈ L.filter goodWord, w.before args s = true) (h2 : ∀ w ∈ L.filter (fun w => !goodWord w), w ∈ B) (h3 : ∀ w ∈ B, w.before args s = true) : ∀ w ∈ L, w.before args s = true := by
  intro w hw
  by_cases g : goodWord w = true
  · exact h1 w (List.mem_filter.mpr ⟨hw, g⟩)
  · refine h3 w (h2 w (List.mem_filter.mpr ⟨hw, ?_⟩))
    show (!goodWord w) = true
    cases hgw : goodWord w
    · rfl
    · exact absurd hgw g
theorem vx_c {args : Array Value} {s : State} {w : Cond} {B : List Cond} (h : w.before args s = true) (t : ∀ w ∈ B, w.before args s = true) : ∀ w' ∈ w :: B, w'.before args s = true := fun w' h' => (List.mem_cons.mp h').elim (fun e => by rw [e]; exact h) (t w')
theorem vx_n {args : Array Value} {s : State} : ∀ w ∈ ([] : List Cond), w.before args s = true := fun _ h => nomatch h
theorem vx_own {args : Array Value} {s : State} {L : List Cond} (h1 : ∀ w ∈ L.filter vx_no, w.before args s = true)
    (hU : (Cond.isRef (.static Bundle.tN "UNASSIGNED_STACK" Bundle.steD)).before args s = true) (hN : (Cond.isRef (.static Bundle.tN "SUPPRESSED_SENTINEL" Bundle.listD)).before args s = true)
    (lU : (Cond.laysStatic Bundle.tN "UNASSIGNED_STACK" Bundle.steD).before args s = true) (lN : (Cond.laysStatic Bundle.tN "SUPPRESSED_SENTINEL" Bundle.listD).before args s = true) : ∀ w ∈ L, w.before args s = true := by
  intro w hw
  by_cases e1 : w = .isRef (.static Bundle.tN "UNASSIGNED_STACK" Bundle.steD)
  · rw [e1]; exact hU
  · by_cases e2 : w = .isRef (.static Bundle.tN "SUPPRESSED_SENTINEL" Bundle.listD)
    · rw [e2]; exact hN
    · by_cases e3 : w = .laysStatic Bundle.tN "UNASSIGNED_STACK" Bundle.steD
      · rw [e3]; exact lU
      · by_cases e4 : w = .laysStatic Bundle.tN "SUPPRESSED_SENTINEL" Bundle.listD
        · rw [e4]; exact lN
        · exact h1 w (List.mem_filter.mpr ⟨hw, by unfold vx_no; rw [decide_eq_true e1, decide_eq_true e2, decide_eq_true e3, decide_eq_true e4]; rfl⟩)
/-- where a static field lies, its class's statics cell in H -/
def vx_L (C n d : String) (A : Nat → Prop) (U : State) (H : Heap) : Prop := ∃ (c : ClassId) (k : Class) (i : Nat) (f : Field) (a : Nat) (cell : Cell), U.vm.findClass C = some c ∧ U.fieldFound? C n d = some (c, k, i, f) ∧ f.isStatic = true ∧ k.statics = some a ∧ H[a]? = some cell ∧ cell.vm.isStatics = true ∧ cell.cls = c ∧ f.slot < cell.slots.size ∧ k.staticTypes[f.slot]? = some f.type ∧ ¬ A a
theorem vx_L.moved {C n d : String} {A : Nat → Prop} {u U : State} {H : Heap} (hvm : u.vm.Alike U.vm) (h : vx_L C n d A u H) : vx_L C n d A U H := by
  obtain ⟨c, k, i, f, a, cell, h1, h2, h3, h4, h5, h6, h7, h8, h9, h10⟩ := h
  obtain ⟨k', hi', he⟩ := State.fieldFound?_setVm hvm h2
  exact ⟨c, k', i, f, a, cell, by rw [hvm.findClass]; exact h1, hi', h3, by rw [he]; exact h4, h5, h6, h7, h8, by rw [he]; exact h9, h10⟩
theorem vx_L.kept {C n d : String} {A : Nat → Prop} {U : State} {H H1 : Heap} (h : vx_L C n d A U H) (hq : ∀ a : Nat, a < H.size → ¬ A a → H1[a]? = H[a]?) : vx_L C n d A U H1 := by
  obtain ⟨c, k, i, f, a, cell, h1, h2, h3, h4, h5, h6, h7, h8, h9, h10⟩ := h
  exact ⟨c, k, i, f, a, cell, h1, h2, h3, h4, by rw [hq a (Array.getElem?_eq_some_iff.mp h5).1 h10]; exact h5, h6, h7, h8, h9, h10⟩
theorem vx_L.narrow {C n d : String} {A B : Nat → Prop} {U : State} {H : Heap} (h : vx_L C n d A U H) (hAB : ∀ q, B q → A q) : vx_L C n d B U H := by
  obtain ⟨c, k, i, f, a, cell, h1, h2, h3, h4, h5, h6, h7, h8, h9, h10⟩ := h
  exact ⟨c, k, i, f, a, cell, h1, h2, h3, h4, h5, h6, h7, h8, h9, fun z => h10 (hAB _ z)⟩
theorem vx_L.word {C n d : String} {A : Nat → Prop} {s : State} {args : Array Value} (h : vx_L C n d A s s.heap) : (Cond.laysStatic C n d).before args s = true := by
  obtain ⟨c, k, i, f, a, cell, h1, h2, h3, h4, h5, h6, h7, h8, h9, -⟩ := h
  show (Cond.laysStatic C n d).holds args s none s [] = true
  exact Cond.laysStatic_of h1 h2 h3 h4 h5 h6 h7 h8 h9
/-- .. and what it holds: null or some reference -/
def vx_Zq (C n d : String) (A : Nat → Prop) (U : State) (H : Heap) : Prop := va_Zq C n d A U H ∧ vx_L C n d A U H
theorem vx_Zq.moved {C n d : String} {A : Nat → Prop} {u U : State} {H : Heap} (hvm : u.vm.Alike U.vm) (h : vx_Zq C n d A u H) : vx_Zq C n d A U H := ⟨va_Zq.moved hvm h.1, vx_L.moved hvm h.2⟩
theorem vx_Zq.kept {C n d : String} {A : Nat → Prop} {U : State} {H H1 : Heap} (h : vx_Zq C n d A U H) (hq : ∀ a : Nat, a < H.size → ¬ A a → H1[a]? = H[a]?) : vx_Zq C n d A U H1 := ⟨va_Zq.kept h.1 hq, vx_L.kept h.2 hq⟩
theorem vx_Zq.narrow {C n d : String} {A B : Nat → Prop} {U : State} {H : Heap} (h : vx_Zq C n d A U H) (hAB : ∀ q, B q → A q) : vx_Zq C n d B U H := ⟨va_Zq.narrow h.1 hAB, vx_L.narrow h.2 hAB⟩
theorem vx_Zqof {args : Array Value} {s : State} {C n d : String} {A : Nat → Prop} (hl : (Cond.laysStatic C n d).before args s = true) (hini : (Cond.initialized C).before args s = true) (h : (Cond.isRef (.static C n d)).before args s = true) (hA : ∀ a : Nat, a < s.heap.size → ¬ A a) : vx_Zq C n d A s s.heap := by
  refine ⟨va_Zqof hl hini h hA, ?_⟩
  obtain ⟨c, k, i, f, a, cell, h1, h2, h3, h4, h5, h6, h7, h8, h9⟩ := Cond.laysStatic_spec hl
  exact ⟨c, k, i, f, a, cell, h1, h2, h3, h4, h5, h6, h7, h8, h9, hA a (Array.getElem?_eq_some_iff.mp h5).1⟩
theorem vx_isRef {C n d : String} {v : Value} {A : Nat → Prop} {s : State} {args : Array Value} (h : va_Z C n d v A s s.heap) (hv : v.isRef = true) : (Cond.isRef (.static C n d)).before args s = true := by
  obtain ⟨cf, kf, fi, f, a, cell, h1, h2, h3, h4, h5, h6, h7, -⟩ := h
  have he : (Term.static C n d).eval args s none [] s = some v := by
    simp [Term.eval, State.fieldNamed?, h1, h2, h4, h5, h6, h7]
  simp only [Cond.before, Cond.holds, Cond.value, he]
  cases v <;> simp_all [Value.isRef]
theorem vx_isRefq {C n d : String} {A : Nat → Prop} {s : State} {args : Array Value} (h : va_Zq C n d A s s.heap) : (Cond.isRef (.static C n d)).before args s = true := by
  rcases h with h | ⟨t, h⟩
  · exact vx_isRef h rfl
  · exact vx_isRef h rfl
/-- the same frame, seen from here: as if the method were called anew in this heap -/
theorem vx_rebase {T : State} (X : Stand p l e R s m args below meth c T locs cells slots) {R' : Room} (hf : R'.frames ≤ R.frames) (hl : R'.locals ≤ R.locals) (hc : cells + R'.cells ≤ R.cells) (hs : slots + R'.slots ≤ R.slots) :
    Stand p l e R' ((T.setVm s.vm).setFrames (.invoking m args :: below)) m args below meth c T [] 0 0 := by
  have htop : (T.setVm s.vm).topJava?.isSome := X.here.top
  have hF : ((T.setVm s.vm).setFrames (.invoking m args :: below)).frames = .invoking m args :: below := State.frames_setFrames _ (State.cur_lt_of_top htop)
  obtain ⟨g₀, hg0⟩ := Option.isSome_iff_exists.mp htop
  obtain ⟨r, hr⟩ := State.topJava?_eq_some.mp hg0
  have hl9 : e.platform.stackLimits (T.setVm s.vm).me = e.platform.stackLimits s.me := X.limits
  have hb9 : (T.setVm s.vm).me.stackBytes = s.me.stackBytes := X.bytes
  refine ⟨X.admits, X.cas, X.clock, hF, ?_, X.hears, X.method, X.code, X.here, X.tail, X.warmed, ?_, ?_, ?_⟩
  · have h := X.room
    have hU : ((T.setVm s.vm).setFrames (.invoking m args :: below)).localsInUse = s.localsInUse := by
      rw [State.localsInUse_invoking hF (meth := meth) (c := c) X.method X.code, State.localsInUse_invoking X.frames X.method X.code]
    simp only [State.hasRoom, Bool.and_eq_true, decide_eq_true_eq] at h ⊢
    obtain ⟨⟨⟨⟨h1, h2, h3, h4, h5, h6⟩, h7⟩, h8⟩, h9⟩ := h
    rw [X.frames, List.length_cons] at h2 h3
    have q1 := X.heapSize
    have q2 := X.used
    simp only [hF, hU, List.length_cons, State.stackLimits_setFrames, State.stackBytes_setFrames, hl9, hb9]
    refine ⟨⟨⟨⟨by omega, by omega, by omega, by omega, by omega, h6⟩, ?_⟩, ?_⟩, X.book⟩
    · show T.heap.size + R'.cells ≤ e.platform.maxCells
      omega
    · show T.slotsUsed + R'.slots ≤ e.platform.maxSlots
      omega
  · rw [State.stackLimits_setFrames]; rfl
  · rw [State.stackBytes_setFrames]; rfl
  · refine ⟨?_, Nat.le_refl _, Nat.le_refl _, ?_, ?_, fun a c9 h9 => ⟨c9, h9, rfl, rfl, fun _ _ => rfl⟩⟩
    · obtain ⟨t, ht, -⟩ := State.frames_cons hr
      show T.setVm s.vm = { ((T.setVm s.vm).setFrames (.invoking m args :: below)).setFrames (T.setVm s.vm).frames with heap := T.heap, slotsUsed := T.slotsUsed }
      rw [State.setFrames_setFrames, State.setFrames_self ht]
      rfl
    · show T.slotsUsed = T.slotsUsed + ((T.heap.toList.drop T.heap.size).map (·.slots.size)).sum
      rw [List.drop_eq_nil_of_le (Nat.le_of_eq Array.length_toList)]
      rfl
    · show ((T.heap.toList.drop T.heap.size).map (·.slots.size)).sum ≤ 0
      rw [List.drop_eq_nil_of_le (Nat.le_of_eq Array.length_toList)]
      exact Nat.le_refl _
/-- 'throw new E()': new; dup; invokespecial; athrow -/
theorem vx_throw0 {cc : ByteArray} {pc : Nat} (hexec : p.tables.exec = Jvm.exec) (hb : c.code = cc) (hl : l.stackTraces = false) {own cls : String} {names : List String} {ik ic mc ms : Nat} {A : Nat → Prop}
    (hown : s.vm.findClass own = some m.cls) (hcls : Bundle.fit cls = true) (hnames : ∀ n ∈ names, Bundle.fit n = true)
    (hk : (Cond.classLink own ik cls).before args s = true) (hini : (Cond.initialized cls).before args s = true) (hat : ∀ w ∈ vx_at0 own ic cls names, w.before args s = true)
    (hgood : ∀ w ∈ Cond.classLink own ik cls :: Cond.initialized cls :: vx_at0 own ic cls names, vx_ot w = true)
    (hU : vx_Zq Bundle.tN "UNASSIGNED_STACK" Bundle.steD A s s.heap) (hN : vx_Zq Bundle.tN "SUPPRESSED_SENTINEL" Bundle.listD A s s.heap) (hS : va_S A s.heap H locs) (hsize : ls.size = c.maxLocals)
    (d0 : decode cc pc = .ok (.new ik, 3)) (d3 : decode cc (pc + 3) = .ok (.dup, 1)) (d4 : decode cc (pc + 4) = .ok (.invokespecial ic, 3)) (d7 : decode cc (pc + 7) = .ok (.athrow, 1))
    (hout : ∀ x ∈ c.exceptionTable.toList, covers x (pc + 7) = false)
    (hRframes : names.length + 3 < R.frames) (hRlocals : (rest.map fun v => v.category).sum + (13 * (names.length + 1) + 42) ≤ R.locals) (hRcells : cells + 1 ≤ R.cells) (hRslots : slots + 6 ≤ R.slots) (hlocks : meth.locks = false)
    (hx : ∀ t : State, s.vm.Alike t.vm → H.size ≤ t.heap.size → (∀ q : Nat, q < H.size → t.heap[q]? = H[q]?) → XC cls s t)
    (hf : ∀ z ∈ locs, free z.base) (hc : cells + 1 ≤ mc) (hs : slots + 6 ≤ ms) :
    W p l e R s m args below meth c H locs cells slots (vx_MQ below Qc XC args s mc ms free) (F0 m pc ls rest) := by
  intro T hT X
  have htr : e.platform.stackTraces = false := (show e.platform.stackTraces = l.stackTraces by rw [X.admits.platform]).trans hl
  have Y := vx_rebase X (R' := { frames := R.frames, locals := R.locals, cells := 1, slots := 6 }) (Nat.le_refl _) (Nat.le_refl _) hRcells hRslots
  obtain ⟨s', hA⟩ : ∃ z, z = (T.setVm s.vm).setFrames (.invoking m args :: below) := ⟨_, rfl⟩
  rw [← hA] at Y
  have hvm : s'.vm = s.vm := by rw [hA]; rfl
  have hhp : s'.heap = H := by rw [hA]; exact hT
  have hW0 : s.WarmedH s'.vm := by rw [hvm]; exact State.WarmedH.refl s
  have hat' : ∀ w ∈ vx_at0 own ic cls names, w.before args s' = true := fun w hw => vx_ot_at hW0 hvm.symm (hgood w (List.mem_cons_of_mem _ (List.mem_cons_of_mem _ hw))) (hat w hw)
  have hk' : (Cond.classLink own ik cls).before args s' = true := vx_ot_at hW0 hvm.symm (hgood _ List.mem_cons_self) hk
  have hini' : (Cond.initialized cls).before args s' = true := vx_ot_at hW0 hvm.symm (hgood _ (List.mem_cons_of_mem _ List.mem_cons_self)) hini
  have hU' : vx_Zq Bundle.tN "UNASSIGNED_STACK" Bundle.steD A s' s'.heap := by rw [hhp]; exact vx_Zq.moved hW0.alike (hU.kept hS.2.1)
  have hN' : vx_Zq Bundle.tN "SUPPRESSED_SENTINEL" Bundle.listD A s' s'.heap := by rw [hhp]; exact vx_Zq.moved hW0.alike (hN.kept hS.2.1)
  have h : ∀ w ∈ Bundle.ownAtoms0 own ic cls names, w.before args s' = true := vx_own hat' (vx_isRefq hU'.1) (vx_isRefq hN'.1) hU'.2.word hN'.2.word
  have hown' : s'.vm.findClass own = some m.cls := by rw [hvm]; exact hown
  have hins : (Cond.instantiable cls 6).before args s' = true := h _ (by simp [Bundle.ownAtoms0])
  obtain ⟨vm₁, cX, kX, hfX, hkX, -, -, X₁, st1⟩ := Y.newCold hexec (own := own) (C := cls) (index := ik) (n := 6) hown' hk' hins hini'
    (g := F0 m pc ls rest) rfl (by rw [hb]; exact d0) (Nat.le_refl _) (Nat.le_refl _)
  generalize hT1 : (T.setVm vm₁).pushCell { cls := cX, slots := kX.instanceTypes.map defaultValue, vm := .none } = T1 at X₁ st1
  have hcat : (Value.ref T.heap.size).category = 1 := rfl
  have hcellA : T1.heap[T.heap.size]? = some (freshCell cX kX) := by rw [← hT1]; exact State.heap_pushCell_size _ _
  have d3' : decode c.code (pc + 3) = .ok (.dup, 1) := by rw [hb]; exact d3
  obtain ⟨U, hsteps, hrun, hend, hW, hsame, ce, hce, hO⟩ := X₁.ctorThrow0 hexec htr (own := own) (cls := cls) (names := names) (ic := ic) hown' hcls hnames h (fun x hx => nomatch hx) hfX hkX hcellA (by rw [hhp, hT]; exact Nat.le_refl _)
    (g := { method := m, pc := pc + 4, locals := ls, stack := .ref T.heap.size :: .ref T.heap.size :: rest, locked := none }) rfl hsize rfl rfl (rest := rest) rfl
    (by rw [hb]; exact d4) (by rw [hb]; exact d7) hout hRframes (by simp only [List.map_cons, List.sum_cons, hcat]; omega) hlocks
  obtain ⟨f1, f2⟩ := vx_frame hsame
  rw [hhp] at f1 f2
  have hWs : s.WarmedH U.vm := State.WarmedH.trans hW0 hW
  have hcl : s.vm.findClass cls = some ce.cls := by
    have h9 := hO.cls
    rw [hvm] at h9
    exact h9
  have hall : s.sameButNew ({ U with vm := s.vm } : State) locs mc ms := by
    subst hA
    obtain ⟨e1, e2⟩ := hsame
    rw [State.setFrames_setFrames] at e1
    have h2 : (T.setVm s.vm).sameButNew ({ U with vm := s.vm } : State) [] (0 + 1) (0 + 6) := ⟨e1, e2⟩
    have h3 := X.same.trans h2
    rw [List.append_nil] at h3
    exact h3.mono hc hs
  refine ⟨U, ?_, .threw T.heap.size, hrun, hend, Or.inr ⟨T.heap.size, rfl, cls, ce, locs, hx U hWs.alike f1 (fun q hq => f2 q hq (fun z hz => nomatch hz)), hce, hO.vm, hcl, hWs, hall, hf⟩⟩
  refine st1 _ ?_
  show Steps p.tables e below (T1.setTop { method := m, pc := pc + 3, locals := ls, stack := .ref T.heap.size :: rest, locked := none }) _
  jvm_step X₁.here [X₁.here.top, hexec, d3', Value.category]
  exact hsteps
/-- 'throw new E("text")': new; dup; ldc; invokespecial; athrow -/
theorem vx_throwS {cc : ByteArray} {pc : Nat} (hexec : p.tables.exec = Jvm.exec) (hb : c.code = cc) (hl : l.stackTraces = false) {own cls text : String} {names : List String} {ik is ic mc ms sa : Nat} {A : Nat → Prop}
    (hown : s.vm.findClass own = some m.cls) (hcls : Bundle.fit cls = true) (hnames : ∀ n ∈ names, Bundle.fit n = true)
    (hk : (Cond.classLink own ik cls).before args s = true) (hini : (Cond.initialized cls).before args s = true) (hstr : vk_R own is text sa s) (hat : ∀ w ∈ vx_atS own ic cls names, w.before args s = true)
    (hgood : ∀ w ∈ Cond.classLink own ik cls :: Cond.initialized cls :: vx_atS own ic cls names, vx_ot w = true)
    (hU : vx_Zq Bundle.tN "UNASSIGNED_STACK" Bundle.steD A s s.heap) (hN : vx_Zq Bundle.tN "SUPPRESSED_SENTINEL" Bundle.listD A s s.heap) (hS : va_S A s.heap H locs) (hsize : ls.size = c.maxLocals)
    (d0 : decode cc pc = .ok (.new ik, 3)) (d3 : decode cc (pc + 3) = .ok (.dup, 1)) (d4 : decode cc (pc + 4) = .ok (.ldc is, 2)) (d6 : decode cc (pc + 6) = .ok (.invokespecial ic, 3)) (d9 : decode cc (pc + 9) = .ok (.athrow, 1))
    (hout : ∀ x ∈ c.exceptionTable.toList, covers x (pc + 9) = false)
    (hRframes : names.length + 3 < R.frames) (hRlocals : (rest.map fun v => v.category).sum + (13 * (names.length + 1) + 43) ≤ R.locals) (hRcells : cells + 1 ≤ R.cells) (hRslots : slots + 6 ≤ R.slots) (hlocks : meth.locks = false)
    (hx : ∀ t : State, s.vm.Alike t.vm → H.size ≤ t.heap.size → (∀ q : Nat, q < H.size → t.heap[q]? = H[q]?) → XC cls s t)
    (hf : ∀ z ∈ locs, free z.base) (hc : cells + 1 ≤ mc) (hs : slots + 6 ≤ ms) :
    W p l e R s m args below meth c H locs cells slots (vx_MQ below Qc XC args s mc ms free) (F0 m pc ls rest) := by
  intro T hT X
  have htr : e.platform.stackTraces = false := (show e.platform.stackTraces = l.stackTraces by rw [X.admits.platform]).trans hl
  have Y := vx_rebase X (R' := { frames := R.frames, locals := R.locals, cells := 1, slots := 6 }) (Nat.le_refl _) (Nat.le_refl _) hRcells hRslots
  obtain ⟨s', hA⟩ : ∃ z, z = (T.setVm s.vm).setFrames (.invoking m args :: below) := ⟨_, rfl⟩
  rw [← hA] at Y
  have hvm : s'.vm = s.vm := by rw [hA]; rfl
  have hhp : s'.heap = H := by rw [hA]; exact hT
  have hW0 : s.WarmedH s'.vm := by rw [hvm]; exact State.WarmedH.refl s
  have hat' : ∀ w ∈ vx_atS own ic cls names, w.before args s' = true := fun w hw => vx_ot_at hW0 hvm.symm (hgood w (List.mem_cons_of_mem _ (List.mem_cons_of_mem _ hw))) (hat w hw)
  have hk' : (Cond.classLink own ik cls).before args s' = true := vx_ot_at hW0 hvm.symm (hgood _ List.mem_cons_self) hk
  have hini' : (Cond.initialized cls).before args s' = true := vx_ot_at hW0 hvm.symm (hgood _ (List.mem_cons_of_mem _ List.mem_cons_self)) hini
  have hU' : vx_Zq Bundle.tN "UNASSIGNED_STACK" Bundle.steD A s' s'.heap := by rw [hhp]; exact vx_Zq.moved hW0.alike (hU.kept hS.2.1)
  have hN' : vx_Zq Bundle.tN "SUPPRESSED_SENTINEL" Bundle.listD A s' s'.heap := by rw [hhp]; exact vx_Zq.moved hW0.alike (hN.kept hS.2.1)
  have h : ∀ w ∈ Bundle.ownAtoms own ic cls names, w.before args s' = true := vx_own hat' (vx_isRefq hU'.1) (vx_isRefq hN'.1) hU'.2.word hN'.2.word
  have hown' : s'.vm.findClass own = some m.cls := by rw [hvm]; exact hown
  have hins : (Cond.instantiable cls 6).before args s' = true := h _ (by simp [Bundle.ownAtoms])
  obtain ⟨vm₁, cX, kX, hfX, hkX, -, -, X₁, st1⟩ := Y.newCold hexec (own := own) (C := cls) (index := ik) (n := 6) hown' hk' hins hini'
    (g := F0 m pc ls rest) rfl (by rw [hb]; exact d0) (Nat.le_refl _) (Nat.le_refl _)
  generalize hT1 : (T.setVm vm₁).pushCell { cls := cX, slots := kX.instanceTypes.map defaultValue, vm := .none } = T1 at X₁ st1
  have hcat : (Value.ref T.heap.size).category = 1 := rfl
  have hcellA : T1.heap[T.heap.size]? = some (freshCell cX kX) := by rw [← hT1]; exact State.heap_pushCell_size _ _
  have d3' : decode c.code (pc + 3) = .ok (.dup, 1) := by rw [hb]; exact d3
  have d4' : decode c.code (pc + 4) = .ok (.ldc is, 2) := by rw [hb]; exact d4
  have hstr' : vk_R own is text sa s' := vk_R.warm hW0 hstr
  obtain ⟨U, hsteps, hrun, hend, hW, hsame, ce, hce, hO⟩ := X₁.ctorThrowS hexec htr (own := own) (cls := cls) (names := names) (ic := ic) hown' hcls hnames h (fun x hx => nomatch hx) hfX hkX hcellA (by rw [hhp, hT]; exact Nat.le_refl _) (msg := .ref sa) rfl
    (g := { method := m, pc := pc + 6, locals := ls, stack := .ref sa :: .ref T.heap.size :: .ref T.heap.size :: rest, locked := none }) rfl hsize rfl rfl (rest := rest) rfl
    (by rw [hb]; exact d6) (by rw [hb]; exact d9) hout hRframes (by simp only [List.map_cons, List.sum_cons, hcat]; omega) hlocks
  obtain ⟨f1, f2⟩ := vx_frame hsame
  rw [hhp] at f1 f2
  have hWs : s.WarmedH U.vm := State.WarmedH.trans hW0 hW
  have hcl : s.vm.findClass cls = some ce.cls := by
    have h9 := hO.cls
    rw [hvm] at h9
    exact h9
  have hall : s.sameButNew ({ U with vm := s.vm } : State) locs mc ms := by
    subst hA
    obtain ⟨e1, e2⟩ := hsame
    rw [State.setFrames_setFrames] at e1
    have h2 : (T.setVm s.vm).sameButNew ({ U with vm := s.vm } : State) [] (0 + 1) (0 + 6) := ⟨e1, e2⟩
    have h3 := X.same.trans h2
    rw [List.append_nil] at h3
    exact h3.mono hc hs
  refine ⟨U, ?_, .threw T.heap.size, hrun, hend, Or.inr ⟨T.heap.size, rfl, cls, ce, locs, hx U hWs.alike f1 (fun q hq => f2 q hq (fun z hz => nomatch hz)), hce, hO.vm, hcl, hWs, hall, hf⟩⟩
  refine st1 _ ?_
  show Steps p.tables e below (T1.setTop { method := m, pc := pc + 3, locals := ls, stack := .ref T.heap.size :: rest, locked := none }) _
  jvm_step X₁.here [X₁.here.top, hexec, d3', Value.category]
  exact X₁.ldcString hexec (own := own) (text := text) (index := is) (a := sa) hown' hstr'.1 hstr'.2
    (g := { method := m, pc := pc + 4, locals := ls, stack := .ref T.heap.size :: .ref T.heap.size :: rest, locked := none }) rfl d4' _ hsteps
/-- 'throw new E("text")', the text by a wide index -/
theorem vx_throwSW {cc : ByteArray} {pc : Nat} (hexec : p.tables.exec = Jvm.exec) (hb : c.code = cc) (hl : l.stackTraces = false) {own cls text : String} {names : List String} {ik is ic mc ms sa : Nat} {A : Nat → Prop}
    (hown : s.vm.findClass own = some m.cls) (hcls : Bundle.fit cls = true) (hnames : ∀ n ∈ names, Bundle.fit n = true)
    (hk : (Cond.classLink own ik cls).before args s = true) (hini : (Cond.initialized cls).before args s = true) (hstr : vk_R own is text sa s) (hat : ∀ w ∈ vx_atS own ic cls names, w.before args s = true)
    (hgood : ∀ w ∈ Cond.classLink own ik cls :: Cond.initialized cls :: vx_atS own ic cls names, vx_ot w = true)
    (hU : vx_Zq Bundle.tN "UNASSIGNED_STACK" Bundle.steD A s s.heap) (hN : vx_Zq Bundle.tN "SUPPRESSED_SENTINEL" Bundle.listD A s s.heap) (hS : va_S A s.heap H locs) (hsize : ls.size = c.maxLocals)
    (d0 : decode cc pc = .ok (.new ik, 3)) (d3 : decode cc (pc + 3) = .ok (.dup, 1)) (d4 : decode cc (pc + 4) = .ok (.ldc_w is, 3)) (d7 : decode cc (pc + 7) = .ok (.invokespecial ic, 3)) (d10 : decode cc (pc + 10) = .ok (.athrow, 1))
    (hout : ∀ x ∈ c.exceptionTable.toList, covers x (pc + 10) = false)
    (hRframes : names.length + 3 < R.frames) (hRlocals : (rest.map fun v => v.category).sum + (13 * (names.length + 1) + 43) ≤ R.locals) (hRcells : cells + 1 ≤ R.cells) (hRslots : slots + 6 ≤ R.slots) (hlocks : meth.locks = false)
    (hx : ∀ t : State, s.vm.Alike t.vm → H.size ≤ t.heap.size → (∀ q : Nat, q < H.size → t.heap[q]? = H[q]?) → XC cls s t)
    (hf : ∀ z ∈ locs, free z.base) (hc : cells + 1 ≤ mc) (hs : slots + 6 ≤ ms) :
    W p l e R s m args below meth c H locs cells slots (vx_MQ below Qc XC args s mc ms free) (F0 m pc ls rest) := by
  intro T hT X
  have htr : e.platform.stackTraces = false := (show e.platform.stackTraces = l.stackTraces by rw [X.admits.platform]).trans hl
  have Y := vx_rebase X (R' := { frames := R.frames, locals := R.locals, cells := 1, slots := 6 }) (Nat.le_refl _) (Nat.le_refl _) hRcells hRslots
  obtain ⟨s', hA⟩ : ∃ z, z = (T.setVm s.vm).setFrames (.invoking m args :: below) := ⟨_, rfl⟩
  rw [← hA] at Y
  have hvm : s'.vm = s.vm := by rw [hA]; rfl
  have hhp : s'.heap = H := by rw [hA]; exact hT
  have hW0 : s.WarmedH s'.vm := by rw [hvm]; exact State.WarmedH.refl s
  have hat' : ∀ w ∈ vx_atS own ic cls names, w.before args s' = true := fun w hw => vx_ot_at hW0 hvm.symm (hgood w (List.mem_cons_of_mem _ (List.mem_cons_of_mem _ hw))) (hat w hw)
  have hk' : (Cond.classLink own ik cls).before args s' = true := vx_ot_at hW0 hvm.symm (hgood _ List.mem_cons_self) hk
  have hini' : (Cond.initialized cls).before args s' = true := vx_ot_at hW0 hvm.symm (hgood _ (List.mem_cons_of_mem _ List.mem_cons_self)) hini
  have hU' : vx_Zq Bundle.tN "UNASSIGNED_STACK" Bundle.steD A s' s'.heap := by rw [hhp]; exact vx_Zq.moved hW0.alike (hU.kept hS.2.1)
  have hN' : vx_Zq Bundle.tN "SUPPRESSED_SENTINEL" Bundle.listD A s' s'.heap := by rw [hhp]; exact vx_Zq.moved hW0.alike (hN.kept hS.2.1)
  have h : ∀ w ∈ Bundle.ownAtoms own ic cls names, w.before args s' = true := vx_own hat' (vx_isRefq hU'.1) (vx_isRefq hN'.1) hU'.2.word hN'.2.word
  have hown' : s'.vm.findClass own = some m.cls := by rw [hvm]; exact hown
  have hins : (Cond.instantiable cls 6).before args s' = true := h _ (by simp [Bundle.ownAtoms])
  obtain ⟨vm₁, cX, kX, hfX, hkX, -, -, X₁, st1⟩ := Y.newCold hexec (own := own) (C := cls) (index := ik) (n := 6) hown' hk' hins hini'
    (g := F0 m pc ls rest) rfl (by rw [hb]; exact d0) (Nat.le_refl _) (Nat.le_refl _)
  generalize hT1 : (T.setVm vm₁).pushCell { cls := cX, slots := kX.instanceTypes.map defaultValue, vm := .none } = T1 at X₁ st1
  have hcat : (Value.ref T.heap.size).category = 1 := rfl
  have hcellA : T1.heap[T.heap.size]? = some (freshCell cX kX) := by rw [← hT1]; exact State.heap_pushCell_size _ _
  have d3' : decode c.code (pc + 3) = .ok (.dup, 1) := by rw [hb]; exact d3
  have d4' : decode c.code (pc + 4) = .ok (.ldc_w is, 3) := by rw [hb]; exact d4
  have hstr' : vk_R own is text sa s' := vk_R.warm hW0 hstr
  obtain ⟨U, hsteps, hrun, hend, hW, hsame, ce, hce, hO⟩ := X₁.ctorThrowS hexec htr (own := own) (cls := cls) (names := names) (ic := ic) hown' hcls hnames h (fun x hx => nomatch hx) hfX hkX hcellA (by rw [hhp, hT]; exact Nat.le_refl _) (msg := .ref sa) rfl
    (g := { method := m, pc := pc + 7, locals := ls, stack := .ref sa :: .ref T.heap.size :: .ref T.heap.size :: rest, locked := none }) rfl hsize rfl rfl (rest := rest) rfl
    (by rw [hb]; exact d7) (by rw [hb]; exact d10) hout hRframes (by simp only [List.map_cons, List.sum_cons, hcat]; omega) hlocks
  obtain ⟨f1, f2⟩ := vx_frame hsame
  rw [hhp] at f1 f2
  have hWs : s.WarmedH U.vm := State.WarmedH.trans hW0 hW
  have hcl : s.vm.findClass cls = some ce.cls := by
    have h9 := hO.cls
    rw [hvm] at h9
    exact h9
  have hall : s.sameButNew ({ U with vm := s.vm } : State) locs mc ms := by
    subst hA
    obtain ⟨e1, e2⟩ := hsame
    rw [State.setFrames_setFrames] at e1
    have h2 : (T.setVm s.vm).sameButNew ({ U with vm := s.vm } : State) [] (0 + 1) (0 + 6) := ⟨e1, e2⟩
    have h3 := X.same.trans h2
    rw [List.append_nil] at h3
    exact h3.mono hc hs
  refine ⟨U, ?_, .threw T.heap.size, hrun, hend, Or.inr ⟨T.heap.size, rfl, cls, ce, locs, hx U hWs.alike f1 (fun q hq => f2 q hq (fun z hz => nomatch hz)), hce, hO.vm, hcl, hWs, hall, hf⟩⟩
  refine st1 _ ?_
  show Steps p.tables e below (T1.setTop { method := m, pc := pc + 3, locals := ls, stack := .ref T.heap.size :: rest, locked := none }) _
  jvm_step X₁.here [X₁.here.top, hexec, d3', Value.category]
  exact X₁.ldcStringW hexec (own := own) (text := text) (index := is) (a := sa) hown' hstr'.1 hstr'.2
    (g := { method := m, pc := pc + 4, locals := ls, stack := .ref T.heap.size :: .ref T.heap.size :: rest, locked := none }) rfl d4' _ hsteps
end Ends
section Bodies
variable {l : Launch}
theorem vx_ofW {y : MethodName} {ws ws' : List Cond} {rm : Room} {Pc : Array Value → State → Prop} {Qc : Array Value → State → Outcome → State → Prop} {XC : String → State → State → Prop} {mc ms : Nat} {free : Addr → Prop} {cc : ByteArray} {maxL : Nat} {ret : Option FieldType}
    (hy : plainName y.cls = true) (hw : ws = Cond.code y cc maxL ret :: ws')
    (body : ∀ p e s m args below meth c s₁, BodyLoose p l y (headSpec ws rm) cc maxL ret e s m args below meth c s₁ → c.maxLocals = maxL → (∀ x ∈ c.exceptionTable.toList, False) → Pc args s →
      W p l e (headSpec ws rm).room s m args below meth c s.heap [] 0 0 (vx_MQ below Qc XC args s mc ms free) (entryFrame m args maxL)) : vx_Met l y ws rm Pc Qc XC mc ms free := by
  refine MetFree.of_bodyS (code := cc) (maxLocals := maxL) (ret := ret) hy ?_ ?_
  · intro args s m h hn
    obtain ⟨meth, c, h1, h2, h3, h4, h5, h6, -, -⟩ := Cond.code_spec hn (atoms_spec (ws := ws) h _ (by rw [hw]; exact List.mem_cons_self))
    exact ⟨meth, c, h1, h2, h3, h4, h5, h6⟩
  · intro p e s m args below meth c s₁ B hml hP _
    have hh0 : s₁.heap = s.heap := by rw [B.state]; rfl
    have ht : ∀ x ∈ c.exceptionTable.toList, False := by
      obtain ⟨meth9, c9, h1, h2, -, -, -, -, h7, -⟩ := Cond.code_spec B.named (atoms_spec (ws := ws) B.pre _ (by rw [hw]; exact List.mem_cons_self))
      cases Option.some.inj (h1.symm.trans B.method)
      cases Option.some.inj (h2.symm.trans (Stand.of_body B).code)
      intro x hx
      rw [Array.isEmpty_iff.mp h7] at hx
      cases hx
    obtain ⟨t, a1, o, b1, b2, b3⟩ := body p e s m args below meth c s₁ B hml ht hP s₁ hh0 (Stand.of_body B)
    exact ⟨t, o, a1, b1, b2, b3⟩
/-- the table of a body with handlers -/
theorem vx_table {p : Program} {x y : MethodName} {S : Spec} {cc bytes : ByteArray} {maxL maxL' : Nat} {ret ret' : Option FieldType} {e : Env} {s s₁ : State} {m : MethodId} {args : Array Value} {below : List Frame} {meth : Method} {c : Code} {hh : List (Nat × Nat × Nat × Nat)}
    (B : BodyLoose p l y S cc maxL ret e s m args below meth c s₁) (h : (Cond.codeWith y bytes maxL' ret' hh).before args s = true) : c.exceptionTable.toList = tableOf hh := by
  obtain ⟨m9, meth9, c9, hn9, h1, h2, -, -, h6, -⟩ := Cond.codeWith_spec h
  cases Option.some.inj (hn9.symm.trans B.named)
  cases Option.some.inj (h1.symm.trans B.method)
  cases Option.some.inj (h2.symm.trans (Stand.of_body B).code)
  rw [← h6, table_eq]
end Bodies
end VXA
/-! ===== END ===== -/
/-! ===== BEGIN a static call of a method with an exception table ===== -/
section VXS
variable {p : Program} {l : Launch} {e : Env} {R : Room} {s : State} {m : MethodId} {args : Array Value} {below : List Frame} {meth : Method} {c : Code} {T : State} {H : Heap} {locs : List Loc} {cells slots : Nat}
abbrev vx_CSW (R : Room) (s : State) (args : Array Value) (own : String) (index : Nat) (y : MethodName) (bytes : ByteArray) (maxL : Nat) (ret : Option FieldType) (hh : List (Nat × Nat × Nat × Nat)) (ws : List Cond) (rm : Room) (mc ms n : Nat) : Prop :=
  (rm.cells = mc ∧ rm.slots = ms ∧ rm.frames + 1 ≤ R.frames ∧ 8 + (maxL + 11) + rm.locals ≤ R.locals ∧ (∀ w ∈ ws, ∀ (a' : Array Value) (U : State), s.WarmedH U.vm → w.before a' U = true) ∧ Cond.codeWith y bytes maxL ret hh ∈ ws) ∧
  (Cond.codeWith y bytes maxL ret hh).before args s = true ∧ (Cond.initialized y.cls).before args s = true ∧ (y.cls ≠ "java/lang/invoke/MethodHandle" ∧ y.cls ≠ "java/lang/invoke/VarHandle") ∧
  (∀ sig, parseMethodDescriptor y.desc = some sig → n = sig.parameters.length) ∧ (Cond.methodLink own index y).before args s = true ∧ (Cond.static y).before args s = true
theorem vx_cwSW {own : String} {index maxL mc ms : Nat} {y : MethodName} {bytes : ByteArray} {ret : Option FieldType} {hh : List (Nat × Nat × Nat × Nat)} {Ts ws ws' : List Cond} {rm : Room} (n : Nat) (ht : ∀ w ∈ Ts, w.before args s = true) (hT : GoodIn Ts (va_wsS own index y ws)) (hw : ws = Cond.codeWith y bytes maxL ret hh :: ws') (hrc : rm.cells = mc) (hrs : rm.slots = ms)
    (hd : y.cls ≠ "java/lang/invoke/MethodHandle" ∧ y.cls ≠ "java/lang/invoke/VarHandle" ∧ (parseMethodDescriptor y.desc).map (fun d => d.parameters.length) = some n) (hR : rm.frames + 1 ≤ R.frames ∧ 8 + (maxL + 11) + rm.locals ≤ R.locals) :
    vx_CSW R s args own index y bytes maxL ret hh ws rm mc ms n := by
  have ok : ∀ w ∈ va_wsS own index y ws, w.before args s = true := fun w h => ht w (hT w h).1
  have hG : GoodIn Ts ws := fun w h => hT w (by unfold va_wsS; exact List.mem_append_right _ h)
  have hc : Cond.codeWith y bytes maxL ret hh ∈ ws := by rw [hw]; exact List.mem_cons_self
  refine ⟨⟨hrc, hrs, hR.1, hR.2, pay_in ht hG, hc⟩, ht _ (hG _ hc).1, ok _ (by simp [va_wsS]), ⟨hd.1, hd.2.1⟩, fun sig h => ?_, ok _ (by simp [va_wsS]), ok _ (by simp [va_wsS])⟩
  have h2 := hd.2.2
  rw [h] at h2
  exact (Option.some.inj h2).symm
theorem vx_callSW (X : Stand p l e R s m args below meth c T locs cells slots) (hexec : p.tables.exec = Jvm.exec) {own : String} {index : Nat} {y : MethodName} {bytes : ByteArray} {maxL : Nat} {ret : Option FieldType} {hh : List (Nat × Nat × Nat × Nat)}
    (hown : s.vm.findClass own = some m.cls) (hlink : (Cond.methodLink own index y).before args s = true) (hstat : (Cond.static y).before args s = true) (hinit : (Cond.initialized y.cls).before args s = true)
    (hcode : (Cond.codeWith y bytes maxL ret hh).before args s = true) (hy : y.cls ≠ "java/lang/invoke/MethodHandle" ∧ y.cls ≠ "java/lang/invoke/VarHandle")
    {W9 : Nat} {Pre : Pt → Array Value → Prop} {Post : Pt → Array Value → Option Value → Pt → Prop} (hK : Back l R p e below s args y 3 W9 Pre Post)
    {g : JFrame} (hg : g.method = m) (hsize : g.locals.size = c.maxLocals) {argsL rest : List Value} (hlen : ∀ sig, parseMethodDescriptor y.desc = some sig → argsL.length = sig.parameters.length)
    (hstack : g.stack = argsL.reverse ++ rest) (hW : 2 * g.monitorRoom + (rest.map fun v => v.category).sum ≤ W9) (hdg : decode c.code g.pc = .ok (.invokestatic index, 3))
    (hpre : ∀ vm₁, s.WarmedH vm₁ → Pre ⟨T.setVm vm₁, locs, cells, slots⟩ argsL.toArray) :
    ∃ (v : Option Value) (vm₁ : Vm) (B : Pt), s.WarmedH vm₁ ∧ Stand p l e R s m args below meth c B.U B.locs B.cells B.slots ∧ Post ⟨T.setVm vm₁, locs, cells, slots⟩ argsL.toArray v B ∧
      ∀ target, Steps p.tables e below (B.U.setTop { g with pc := g.pc + 3, stack := v.toList ++ rest }) target → Steps p.tables e below (T.setTop g) target := by
  obtain ⟨mk, methM, cM, hnamed, hmethM, -, -, -, -, -, -, hsigM⟩ := Cond.codeWith_spec hcode
  have hstatic : methM.isStatic = true := Cond.static_spec hnamed hmethM hstat
  obtain ⟨kP, hkP, -⟩ := className_of_methodNamed hnamed
  have hinitP : kP.init = .initialized := Cond.initialized_spec (findClass_of_methodNamed hnamed) hkP hinit
  obtain ⟨vm₁, X₁, hstep₁⟩ := X.invokestatic hexec hown hlink hnamed hmethM hstatic hkP hinitP hy (g := g) hg (argsL := argsL) (rest := rest) (hlen _ hsigM) hstack hdg
  obtain ⟨v, B, X', hpost, hsteps⟩ := hK m meth c ⟨T.setVm vm₁, locs, cells, slots⟩ { g with stack := rest } (.invokestatic index) mk argsL.toArray X₁ hg hsize hdg hW (X₁.named hnamed) (hpre vm₁ X₁.warmed)
  exact ⟨v, vm₁, B, X₁.warmed, X', hpost, fun target h => hstep₁ _ fun acts => by rw [doInvoke_state]; exact hsteps.trans h⟩
theorem vx_runSW {y : MethodName} {bytes cc : ByteArray} {maxL nL mc ms n index : Nat} {ret : Option FieldType} {hh : List (Nat × Nat × Nat × Nat)} {ws : List Cond} {rm : Room} {Pc : Array Value → State → Prop} {Qc : Array Value → State → Outcome → State → Prop} {free : Addr → Prop} {Ts : List Cond} {own : String} {As rest : List Value} {g : JFrame}
    (S : CallFix p m c cc nL s args Ts own) (hM : Met l y ws rm Pc Qc mc ms free) (cw : vx_CSW R s args own index y bytes maxL ret hh ws rm mc ms n) (hp : PreS s H Pc As)
    (hg : g.method = m) (hn : As.length = n) (hsize : g.locals.size = nL) (hstack : g.stack = As.reverse ++ rest) (hW : 2 * g.monitorRoom + (rest.map fun v => v.category).sum ≤ 8) (hdg : decode cc g.pc = .ok (.invokestatic index, 3)) (hf : cells + mc ≤ R.cells ∧ slots + ms ≤ R.slots) :
    va_Run p l e R s m args below meth c H locs cells slots mc ms g rest (Qc As.toArray) (free) := by
  obtain ⟨⟨hrc, hrs, hfr, hlo, hws, hcw⟩, hcode, hini, hy, hlen, hl, hstt⟩ := cw
  have hK : Back l R p e below s args y 3 8 (PreOf R mc ms Pc) (PostOf Qc mc ms free) := va_backW (hh := hh) (bytes := bytes) (maxL := maxL) (ret := ret) hM hp.1 hrc hrs hfr hlo hws hcw (fun a' U hW => word_at hW (Or.inl (by first | rfl | simp [Cond.onTables, Cond.keeps, Cond.steady])) hini)
  obtain ⟨hx, hb, hml, ho, -⟩ := S
  intro T hT X
  obtain ⟨v, vm₁, ⟨U', l2, c2, s2⟩, hW₁, X', ⟨g', mk, t, L, e1, e2, hq, h1, hL, h2, h3⟩, st⟩ := vx_callSW X hx (hh := hh) (bytes := bytes) (maxL := maxL) (ret := ret) ho hl hstt hini hcode hy hK hg (hsize.trans hml.symm) (argsL := As) (rest := rest) (fun sig h => hn.trans (hlen sig h)) hstack hW (by rw [hb]; exact hdg)
    (fun vm₁ hW₁ => ⟨hf.1, hf.2, hp.2 (T.setVm vm₁) hT hW₁⟩)
  dsimp only [Pt.U, Pt.locs, Pt.cells, Pt.slots] at X' e1 e2 h1 h2 h3 st
  subst h1; subst h2; subst h3
  exact ⟨v, (T.setVm vm₁).calling g' mk As.toArray, t, U', L, hT, X', hL, e1, e2, hq, st⟩
/-- not caught here, past rows that name other classes: it goes on to the caller -/
theorem vx_outP {p : Program} {l : Launch} {e : Env} {R : Room} {s : State} {m : MethodId} {args : Array Value} {below : List Frame} {meth : Method} {c : Code} {H : Heap} {locs : List Loc} {cells slots : Nat} {free : Addr → Prop} {ls : Array Slot} {rest : List Value} {Qc : Array Value → State → Outcome → State → Prop} {XC : String → State → State → Prop}
    {pc : Nat} {own E : String} {ce : Cell} {q : Addr} {mc ms : Nat} (hown : s.vm.findClass own = some m.cls) (hlocks : meth.locks = false)
    (hpass : ∀ z ∈ c.exceptionTable.toList, covers z pc = false ∨ (z.catchType ≠ 0 ∧ ∃ nm : String, (Cond.classLink own z.catchType nm).before args s = true ∧ va_Nc E nm s)) (hcell : H[q]? = some ce) (hv : ce.vm = .none) (hcl : s.vm.findClass E = some ce.cls)
    (hx : ∀ t : State, t.heap = H → s.vm.Alike t.vm → XC E s t) (hf : ∀ z ∈ locs, free z.base) (hc : cells ≤ mc) (hs : slots ≤ ms) :
    vx_W p l e R s m args below meth c H locs cells slots (vx_MQ below Qc XC args s mc ms free) (F0 m pc ls rest) q := by
  intro T hT X
  have hpl : e.platform.magicAccessors = ({} : Platform).magicAccessors := by rw [X.admits.platform]
  obtain ⟨vm', hW', X', st⟩ := X.outThrough hlocks q (g := F0 m pc ls rest) rfl rfl rfl (cell := ce) (by rw [hT]; exact hcell) (by rw [hv]; rfl)
    (by obtain ⟨k9, h9, -⟩ := Vm.findClass_spec hcl; exact ⟨k9, h9⟩) (fun z hz => by
      rcases hpass z hz with h | ⟨hz0, nm, hl1, hn1⟩
      · exact Or.inl h
      · obtain ⟨c6, hc6, hcl6⟩ := Cond.classLink_spec hown hl1 e.platform hpl
        obtain ⟨a8, b8, h1, h2, h3⟩ := hn1
        cases Option.some.inj (h1.symm.trans hcl)
        cases Option.some.inj (h2.symm.trans hc6)
        exact Or.inr ⟨hz0, _, hcl6, h3⟩)
  obtain ⟨g₀, hfr⟩ := X'.frames_eq
  have hcell9 : ((T.setVm vm').setFrames (.throwing q :: below)).heap[q]? = some ce := by
    show T.heap[q]? = some ce
    rw [hT]; exact hcell
  have hend : Ended ((T.setVm vm').setFrames (.throwing q :: below)) below (.threw q) := State.frames_setFrames _ (State.cur_lt_of_frames hfr)
  refine ⟨(T.setVm vm').setFrames (.throwing q :: below), ?_, .threw q, X'.here.running, hend, Or.inr ⟨q, rfl, E, ce, locs, hx _ hT (X'.ends _).1.alike, hcell9, hv, hcl, (X'.ends _).1, (X'.ends _).2.mono hc hs, hf⟩⟩
  rw [X.pushThrowing_eq]
  exact st
/-- a thing of a world lies in the heap -/
theorem vx_lt {D : va_G} {cl : List vw_C} {ws : va_W} {H1 : Heap} (h : va_P D cl ws H1) {k : Nat} {q : Nat × va_E} (hk : ws[k]? = some q) : q.1 < H1.size := (h k q hk).lt
end VXS
/-! ===== END ===== -/
end
section
def z_str : List (Nat × String) := [(182, "no such sample"), (76, "a rectangle is at least 1 wide and 1 high"), (87, "noise is 0 .. 100"), (89, "a gap is 0 .. 24"), (177, "the page was not parted, or changed since"), (185, "there is none of this number"), (187, "nothing is told by this number")]
/-! THROWS: a method that may throw has two contracts: it returns (as any other), or it throws (z_ctX: one cell of six slots is new). -/
section ZT
abbrev z_nm : List String := ["java/lang/RuntimeException", "java/lang/Exception"]
def z_ex : Nat → String
  | 0 => "java/lang/IllegalStateException"
  | 1 => "java/lang/IndexOutOfBoundsException"
  | _ => "java/lang/IllegalArgumentException"
def z_cd (w : Cond) : Bool := match w with
  | .castable .. => true
  | .declares .. => true
  | _ => false
def z_bw : List Cond := lw_tbl.filter z_cd
/-- what a throw needs of the start: statics of Throwable, the texts, words that are not kept by calls of themselves -/
def z_T (l : Launch) (A : Nat → Prop) (U : State) : Prop :=
  l.stackTraces = false ∧ vx_Zq Bundle.tN "UNASSIGNED_STACK" Bundle.steD A U U.heap ∧ vx_Zq Bundle.tN "SUPPRESSED_SENTINEL" Bundle.listD A U U.heap ∧ (∀ w ∈ z_bw, va_Nw w U) ∧ (∀ q ∈ z_str, ∃ sa, vk_R R_P q.1 q.2 sa U) ∧ ∀ i j, i < 3 → j < 3 → i ≠ j → va_Nc (z_ex i) (z_ex j) U
theorem z_cd_warm {w : Cond} (h : z_cd w = true) {s U : State} (hW : s.WarmedH U.vm) (hZ : va_Nw w s) : va_Nw w U := by
  cases w <;> first | (simp [z_cd] at h; done) | exact va_Nw.warmC hW hZ | exact va_Nw.warmD hW hZ
theorem z_cd_tab {w : Cond} (h : z_cd w = true) : w.onTables = true := by
  cases w <;> first | (simp [z_cd] at h; done) | rfl
theorem z_bw_cd {w : Cond} (h : w ∈ z_bw) : z_cd w = true := (List.mem_filter.mp h).2
theorem z_T_mv {l : Launch} {A B : Nat → Prop} {s U : State} {H : Heap} {locs : List Loc} (h : z_T l A s) (hW : s.WarmedH U.vm) (hU : U.heap = H) (hS : va_S A s.heap H locs) (hA : ∀ q, B q → A q) : z_T l B U := by
  obtain ⟨h1, h2, h3, h4, h5, h6⟩ := h
  refine ⟨h1, ?_, ?_, fun w hw => z_cd_warm (z_bw_cd hw) hW (h4 w hw), fun q hq => ?_, fun i j hi hj hn => va_Nc.moved hW.alike (h6 i j hi hj hn)⟩
  · exact ((h2.moved hW.alike).kept (fun a ha hn => by rw [hU]; exact hS.2.1 a ha hn)).narrow hA
  · exact ((h3.moved hW.alike).kept (fun a ha hn => by rw [hU]; exact hS.2.1 a ha hn)).narrow hA
  · obtain ⟨sa, hs⟩ := h5 q hq
    exact ⟨sa, hs.warm hW⟩
theorem z_T_same {l : Launch} {A : Nat → Prop} {s U : State} (h : z_T l A s) (hv : U.vm = s.vm) (hh : U.heap = s.heap) : z_T l A U := by
  have hW : s.WarmedH U.vm := by rw [hv]; exact State.WarmedH.refl s
  exact z_T_mv h hW hh va_S.rf (fun _ h => h)
def z_PX (l : Launch) (D : va_G) (cA : Nat → ClassId) (n : Nat) (ad : Nat → Nat) (av : List Value) (S : zS) (sz : Nat) : Array Value → State → Prop := va_Pc av (fun U => U.heap.size = sz ∧ va_P D z_cl (z_w cA n ad S) U.heap ∧ va_K D z_cl (z_ty cA) U ∧ z_T l (z_fr n ad sz) U)
theorem z_PX_b {l : Launch} {D : va_G} {cA : Nat → ClassId} {n : Nat} {ad : Nat → Nat} {av : List Value} {S : zS} {sz : Nat} : FrameBlind (z_PX l D cA n ad av S sz) := fun a U g mk q => by
  obtain ⟨q0, q1, qP, qK, qT⟩ := q
  exact ⟨q0, q1, qP, va_K.moved (u := U) (U := U.calling g mk a) (Vm.Alike.refl U.vm) qK, z_T_same qT rfl rfl⟩
abbrev z_XC (D : va_G) (cA : Nat → ClassId) (n : Nat) (ad : Nat → Nat) (px : Nat → zS → Prop) (sz : Nat) : String → State → State → Prop := vx_X (fun u : Nat × zS => px u.1 u.2) (fun E u t => E = z_ex u.1 ∧ va_P D z_cl (z_w cA n ad u.2) t.heap) (z_fr n ad sz)
def z_ctX (l : Launch) (D : va_G) (cA : Nat → ClassId) (n : Nat) (ad : Nat → Nat) (y : MethodName) (cc : ByteArray) (maxL : Nat) (ret : Option FieldType) (rm : Room) (av : List Value) (S : zS) (px : Nat → zS → Prop) : Prop :=
  ∀ sz : Nat, (∀ i j, i < n → j < n → ad i = ad j → i = j) → vx_Met l y (Cond.code y cc maxL ret :: z_gw) rm (z_PX l D cA n ad av S sz) (fun _ _ _ _ => False) (z_XC D cA n ad px sz) 1 6 (z_fr n ad sz)
variable {p : Program} {l : Launch} {e : Env} {R : Room} {s : State} {m : MethodId} {args : Array Value} {below : List Frame} {meth : Method} {c : Code} {H : Heap} {locs : List Loc} {cells slots : Nat} {Q : State → Prop}
variable {cc : ByteArray} {pc nL : Nat} {ls : Array Slot} {rest : List Value} {D : va_G} {cA : Nat → ClassId} {n : Nat} {ad : Nat → Nat} {S : zS} {own : String}
variable {y : MethodName} {bytes : ByteArray} {maxL index : Nat} {ret : Option FieldType} {rm : Room} {As st0 : List Value}
/-- a call that throws, with what comes then -/
theorem z_thrown {px : Nat → zS → Prop} (hI : z_I D cA n ad s.heap S H locs) (hr : vx_Run p l e R s m args below meth c H locs cells slots 1 6 (F0 m pc ls st0) rest (fun _ _ _ => False) (z_XC D cA n ad px H.size) (z_fr n ad H.size))
    (kx : ∀ (cd : Nat) (S1 : zS) (H1 : Heap) (locs1 : List Loc) (q : Addr) (ce : Cell), px cd S1 → z_I D cA n ad s.heap S1 H1 locs1 → H1[q]? = some ce → ce.vm = .none → s.vm.findClass (z_ex cd) = some ce.cls → vx_W p l e R s m args below meth c H1 locs1 (cells + 1) (slots + 6) Q (F0 m pc ls rest) q) : W p l e R s m args below meth c H locs cells slots Q (F0 m pc ls st0) := by
  have hA := z_hA hI
  intro T hT X
  rcases hr T hT X with ⟨v, st₀, t, T', L, h0, X', hL, e1, e2, hF, st⟩ | ⟨q, st₀, t, T', L, E, ce, h0, X', hL, e1, e2, ⟨u, hp, ⟨hE, hB⟩, hF⟩, hce, hcv, hcl, st⟩
  · exact hF.elim
  · obtain ⟨k1, k2, k3⟩ := vx_keep h0 e1 hI.2 (fun q _ h => hA q h) hA hL hF
    subst hE
    obtain ⟨t2, a1, b1⟩ := kx u.1 u.2 T'.heap (locs ++ L) q ce hp ⟨by rw [e1]; exact hB, k3⟩ (by rw [e1]; exact hce) hcv hcl T' rfl X'
    exact ⟨t2, st.trans a1, b1⟩
theorem z_callVXc {px : Nat → zS → Prop} (C : z_CT p s m args c own cc nL D cA n ad) (hT : z_T l (z_fr n ad s.heap.size) s) (hI : z_I D cA n ad s.heap S H locs) (k : Nat) (hk : k < n) {ci : Nat} {fl : List (Option Nat)} (hkd : z_kd k = .inr (ci, fl)) {T : u_T} {N : Nat} (hc : z_cl[ci]? = some (y.cls, T, N))
    (hM : z_ctX l D cA n ad y bytes maxL ret rm (.ref (ad k) :: As) S px) (wc : z_wv y bytes maxL ret As.length) (wl : Cond.methodLink own index y ∈ z_gw) (hr0 : rm.cells = 1) (hr1 : rm.slots = 6) (h1 : rm.frames + 1 ≤ R.frames) (h2 : 8 + (maxL + 11) + rm.locals ≤ R.locals) (hcs : cells + 1 ≤ R.cells ∧ slots + 6 ≤ R.slots) (hls : ls.size = nL) (hst : (rest.map fun v => v.category).sum ≤ 8) (h0 : st0 = As.reverse ++ .ref (ad k) :: rest) (hdg : decode cc pc = .ok (.invokevirtual index, 3))
    (kx : ∀ (cd : Nat) (S1 : zS) (H1 : Heap) (locs1 : List Loc) (q : Addr) (ce : Cell), px cd S1 → z_I D cA n ad s.heap S1 H1 locs1 → H1[q]? = some ce → ce.vm = .none → s.vm.findClass (z_ex cd) = some ce.cls → vx_W p l e R s m args below meth c H1 locs1 (cells + 1) (slots + 6) Q (F0 m pc ls rest) q) : W p l e R s m args below meth c H locs cells slots Q (F0 m pc ls st0) := by
  obtain ⟨hx, hb, hml, hown, hts, hK, hJ⟩ := id C
  exact z_thrown hI (vx_runV (b := ad k) (As := As) (rest := rest) ⟨hx, hb, hml, hown, hts⟩ (hM H.size hJ) (cwV As.length hts (z_GV wc wl) rfl hr0 hr1 ⟨rfl, wc.2.2.2.2⟩ ⟨h1, h2⟩) ⟨z_PX_b, va_recv hK hI.1 (ci := ci) (q0 := k) hc (by rw [z_w_at hk, z_ce_o hkd]), fun U hU hW => ⟨rfl, by rw [hU], by rw [hU]; exact hI.1, va_K.moved hW.alike hK, z_T_mv hT hW hU hI.2 (fun q h => z_hA hI q h)⟩⟩ rfl rfl hls h0 (lv_room hst) hdg hcs) kx
theorem z_callSXc {px : Nat → zS → Prop} (C : z_CT p s m args c own cc nL D cA n ad) (hT : z_T l (z_fr n ad s.heap.size) s) (hI : z_I D cA n ad s.heap S H locs)
    (hM : z_ctX l D cA n ad y bytes maxL ret rm As S px) (wc : z_ws y bytes maxL ret As.length) (wl : Cond.methodLink own index y ∈ z_gw) (hr0 : rm.cells = 1) (hr1 : rm.slots = 6) (h1 : rm.frames + 1 ≤ R.frames) (h2 : 8 + (maxL + 11) + rm.locals ≤ R.locals) (hcs : cells + 1 ≤ R.cells ∧ slots + 6 ≤ R.slots) (hls : ls.size = nL) (hst : (rest.map fun v => v.category).sum ≤ 8) (h0 : st0 = As.reverse ++ rest) (hdg : decode cc pc = .ok (.invokestatic index, 3))
    (kx : ∀ (cd : Nat) (S1 : zS) (H1 : Heap) (locs1 : List Loc) (q : Addr) (ce : Cell), px cd S1 → z_I D cA n ad s.heap S1 H1 locs1 → H1[q]? = some ce → ce.vm = .none → s.vm.findClass (z_ex cd) = some ce.cls → vx_W p l e R s m args below meth c H1 locs1 (cells + 1) (slots + 6) Q (F0 m pc ls rest) q) : W p l e R s m args below meth c H locs cells slots Q (F0 m pc ls st0) := by
  obtain ⟨hx, hb, hml, hown, hts, hK, hJ⟩ := id C
  exact z_thrown hI (vx_runS (As := As) (rest := rest) ⟨hx, hb, hml, hown, hts⟩ (hM H.size hJ) (va_cwS As.length hts (z_GS wc wl) rfl hr0 hr1 wc.2.2.2 ⟨h1, h2⟩) ⟨z_PX_b, fun U hU hW => ⟨rfl, by rw [hU], by rw [hU]; exact hI.1, va_K.moved hW.alike hK, z_T_mv hT hW hU hI.2 (fun q h => z_hA hI q h)⟩⟩ rfl rfl hls h0 (lv_room hst) hdg hcs) kx
abbrev z_QX (below : List Frame) (D : va_G) (cA : Nat → ClassId) (n : Nat) (ad : Nat → Nat) (px : Nat → zS → Prop) (args : Array Value) (s : State) : State → Prop := vx_MQ below (fun _ _ _ _ => False) (z_XC D cA n ad px s.heap.size) args s 1 6 (z_fr n ad s.heap.size)
/-- it goes on to the caller -/
theorem z_goes {px : Nat → zS → Prop} (hout : ∀ x ∈ c.exceptionTable.toList, False) (hlocks : meth.locks = false) {cd : Nat} {q : Addr} {ce : Cell} (hp : px cd S) (hI : z_I D cA n ad s.heap S H locs) (hce : H[q]? = some ce) (hcv : ce.vm = .none) (hcl : s.vm.findClass (z_ex cd) = some ce.cls) : vx_W p l e R s m args below meth c H locs (0 + 1) (0 + 6) (z_QX below D cA n ad px args s) (F0 m pc ls rest) q :=
  vx_out (E := z_ex cd) (fun x hx => (hout x hx).elim) hlocks hce hcv hcl (fun t ht ha => ⟨(cd, S), hp, ⟨rfl, by show va_P D z_cl _ t.heap; rw [ht]; exact hI.1⟩, hI.2.F ht⟩) hI.2.2.2 (Nat.le_refl _) (Nat.le_refl _)
theorem z_callVX {px : Nat → zS → Prop} (C : z_CT p s m args c own cc nL D cA n ad) (hT : z_T l (z_fr n ad s.heap.size) s) (hout : ∀ x ∈ c.exceptionTable.toList, False) (hlocks : meth.locks = false) (hI : z_I D cA n ad s.heap S H locs) (k : Nat) (hk : k < n) {ci : Nat} {fl : List (Option Nat)} (hkd : z_kd k = .inr (ci, fl)) {T : u_T} {N : Nat} (hc : z_cl[ci]? = some (y.cls, T, N))
    (hM : z_ctX l D cA n ad y bytes maxL ret rm (.ref (ad k) :: As) S px) (wc : z_wv y bytes maxL ret As.length) (wl : Cond.methodLink own index y ∈ z_gw) (hr0 : rm.cells = 1) (hr1 : rm.slots = 6) (h1 : rm.frames + 1 ≤ R.frames) (h2 : 8 + (maxL + 11) + rm.locals ≤ R.locals) (hcs : 0 + 1 ≤ R.cells ∧ 0 + 6 ≤ R.slots) (hls : ls.size = nL) (hst : (rest.map fun v => v.category).sum ≤ 8) (h0 : st0 = As.reverse ++ .ref (ad k) :: rest) (hdg : decode cc pc = .ok (.invokevirtual index, 3)) : W p l e R s m args below meth c H locs 0 0 (z_QX below D cA n ad px args s) (F0 m pc ls st0) :=
  z_callVXc C hT hI k hk hkd hc hM wc wl hr0 hr1 h1 h2 hcs hls hst h0 hdg (fun _ _ _ _ _ _ hp hI h1 h2 h3 => z_goes hout hlocks hp hI h1 h2 h3)
theorem z_callSX {px : Nat → zS → Prop} (C : z_CT p s m args c own cc nL D cA n ad) (hT : z_T l (z_fr n ad s.heap.size) s) (hout : ∀ x ∈ c.exceptionTable.toList, False) (hlocks : meth.locks = false) (hI : z_I D cA n ad s.heap S H locs)
    (hM : z_ctX l D cA n ad y bytes maxL ret rm As S px) (wc : z_ws y bytes maxL ret As.length) (wl : Cond.methodLink own index y ∈ z_gw) (hr0 : rm.cells = 1) (hr1 : rm.slots = 6) (h1 : rm.frames + 1 ≤ R.frames) (h2 : 8 + (maxL + 11) + rm.locals ≤ R.locals) (hcs : 0 + 1 ≤ R.cells ∧ 0 + 6 ≤ R.slots) (hls : ls.size = nL) (hst : (rest.map fun v => v.category).sum ≤ 8) (h0 : st0 = As.reverse ++ rest) (hdg : decode cc pc = .ok (.invokestatic index, 3)) : W p l e R s m args below meth c H locs 0 0 (z_QX below D cA n ad px args s) (F0 m pc ls st0) :=
  z_callSXc C hT hI hM wc wl hr0 hr1 h1 h2 hcs hls hst h0 hdg (fun _ _ _ _ _ _ hp hI h1 h2 h3 => z_goes hout hlocks hp hI h1 h2 h3)
/-- 'throw new E("text")' -/
theorem z_throw {px : Nat → zS → Prop} (C : z_CT p s m args c R_P cc nL D cA n ad) (hT : z_T l (z_fr n ad s.heap.size) s) (hout : ∀ x ∈ c.exceptionTable.toList, False) (hlocks : meth.locks = false) (hI : z_I D cA n ad s.heap S H locs) (cd : Nat) {ik is ic : Nat} {text : String} (wk : Cond.classLink R_P ik (z_ex cd) ∈ z_gw) (wi : Cond.initialized (z_ex cd) ∈ z_gw) (ws : (is, text) ∈ z_str) (wa : ∀ w ∈ vx_atS R_P ic (z_ex cd) z_nm, w ∈ lw_tbl ∧ (goodWord w || z_cd w) = true) (hfit : Bundle.fit (z_ex cd) = true)
    (d0 : decode cc pc = .ok (.new ik, 3)) (d3 : decode cc (pc + 3) = .ok (.dup, 1)) (d4 : decode cc (pc + 4) = .ok (.ldc is, 2)) (d6 : decode cc (pc + 6) = .ok (.invokespecial ic, 3)) (d9 : decode cc (pc + 9) = .ok (.athrow, 1)) (hls : ls.size = nL) (h1 : 5 < R.frames) (h2 : (rest.map fun v => v.category).sum + 82 ≤ R.locals) (hcs : 0 + 1 ≤ R.cells ∧ 0 + 6 ≤ R.slots) (hp : px cd S) : W p l e R s m args below meth c H locs 0 0 (z_QX below D cA n ad px args s) (F0 m pc ls rest) := by
  obtain ⟨hx, hb, hml, hown, hts, hK, hJ⟩ := id C
  obtain ⟨t1, t2, t3, t4, t5, t6⟩ := hT
  obtain ⟨sa, hs⟩ := t5 _ ws
  refine vx_throwS (names := z_nm) (own := R_P) (cls := z_ex cd) (text := text) (sa := sa) hx hb t1 hown hfit (by decide +kernel) (hts _ wk) (hts _ wi) hs (fun w hw => ?_) (fun w hw => ?_) t2 t3 hI.2 (hls.trans hml.symm) d0 d3 d4 d6 d9 (fun x hx => (hout x hx).elim) h1 h2 hcs.1 hcs.2 hlocks (fun t ha hz hk => ?_) hI.2.2.2 (Nat.le_refl _) (Nat.le_refl _)
  · obtain ⟨a, b⟩ := wa w hw
    rcases Bool.or_eq_true_iff.mp b with g | g
    · exact hts w (List.mem_filter.mpr ⟨a, g⟩)
    · exact va_Nw.use (z_cd_tab g) (t4 w (List.mem_filter.mpr ⟨a, g⟩))
  · rcases List.mem_cons.mp hw with rfl | hw
    · exact Bool.or_eq_true_iff.mpr (Or.inr rfl)
    · rcases List.mem_cons.mp hw with rfl | hw
      · exact Bool.or_eq_true_iff.mpr (Or.inr rfl)
      · rcases Bool.or_eq_true_iff.mp (wa w hw).2 with g | g
        · exact Bool.or_eq_true_iff.mpr (Or.inr g)
        · exact Bool.or_eq_true_iff.mpr (Or.inl (z_cd_tab g))
  · refine ⟨(cd, S), hp, ⟨rfl, hI.1.kept (fun k q hq => hk _ (hI.1 k q hq).lt)⟩, Nat.le_trans hI.2.1 hz, fun q h3 h4 => ?_⟩
    rw [hk q (Nat.lt_of_lt_of_le h3 hI.2.1)]
    exact hI.2.2.1 q h3 h4
theorem z_metX {av : List Value} {px : Nat → zS → Prop} (hy : plainName y.cls = true) (hav : (lg_sl av).length ≤ maxL)
    (body : ∀ (p : Program) (e : Env) (s : State) (m : MethodId) (args : Array Value) (below : List Frame) (meth : Method) (c : Code) (ls : Array Slot), z_CT p s m args c y.cls cc maxL D cA n ad → z_T l (z_fr n ad s.heap.size) s → (∀ x ∈ c.exceptionTable.toList, False) → meth.locks = false → lv_has ls maxL (lv_args 0 av) → z_I D cA n ad s.heap S s.heap [] → W p l e rm s m args below meth c s.heap [] 0 0 (z_QX below D cA n ad px args s) (F0 m 0 ls [])) :
    z_ctX l D cA n ad y cc maxL ret rm av S px := by
  intro sz hJ
  refine vx_ofW (cc := cc) (maxL := maxL) (ret := ret) hy rfl ?_
  intro p e s m args below meth c s₁ B hml hout hv
  obtain ⟨rfl, hsz, hP, hK, hT⟩ := hv
  have hts := atoms_spec (ws := Cond.code y cc maxL ret :: z_gw) B.pre
  subst hsz
  rw [lg_entry_eq]
  exact body p e s m av.toArray below meth c _ ⟨B.exec, B.bytes, hml, findClass_of_methodNamed B.named, fun w hw => hts w (List.mem_cons_of_mem _ hw), hK, hJ⟩ hT hout B.notSynchronized (lv_entry av hav) ⟨hP, va_S.rf⟩
end ZT

theorem k_cl_180 : Cond.classLink R_P 180 (z_ex 1) ∈ z_gw := z_gwi 280 (by decide +kernel) (by decide +kernel)
theorem wa_184 : ∀ w ∈ vx_atS R_P 184 (z_ex 1) z_nm, w ∈ lw_tbl ∧ (goodWord w || z_cd w) = true := by decide +kernel
theorem k_cl_74 : Cond.classLink R_P 74 (z_ex 2) ∈ z_gw := z_gwi 360 (by decide +kernel) (by decide +kernel)
theorem wa_78 : ∀ w ∈ vx_atS R_P 78 (z_ex 2) z_nm, w ∈ lw_tbl ∧ (goodWord w || z_cd w) = true := by decide +kernel
theorem k_cl_175 : Cond.classLink R_P 175 (z_ex 0) ∈ z_gw := z_gwi 510 (by decide +kernel) (by decide +kernel)
theorem wa_179 : ∀ w ∈ vx_atS R_P 179 (z_ex 0) z_nm, w ∈ lw_tbl ∧ (goodWord w || z_cd w) = true := by decide +kernel
theorem k_ie_0 : Cond.initialized (z_ex 0) ∈ z_gw := z_gwi 73 (by decide +kernel) (by decide +kernel)
theorem k_ie_1 : Cond.initialized (z_ex 1) ∈ z_gw := z_gwi 69 (by decide +kernel) (by decide +kernel)
theorem k_ie_2 : Cond.initialized (z_ex 2) ∈ z_gw := z_gwi 70 (by decide +kernel) (by decide +kernel)
end
section
theorem d_A_fill_0 : decode b_A_fill 0 = .ok (.iconst 0, 1) := by decide +kernel
theorem d_A_fill_1 : decode b_A_fill 1 = .ok (.istore_n 2, 1) := by decide +kernel
theorem d_A_fill_2 : decode b_A_fill 2 = .ok (.aload_n 0, 1) := by decide +kernel
theorem d_A_fill_3 : decode b_A_fill 3 = .ok (.arraylength, 1) := by decide +kernel
theorem d_A_fill_4 : decode b_A_fill 4 = .ok (.istore_n 3, 1) := by decide +kernel
theorem d_A_fill_5 : decode b_A_fill 5 = .ok (.iload_n 2, 1) := by decide +kernel
theorem d_A_fill_6 : decode b_A_fill 6 = .ok (.iload_n 3, 1) := by decide +kernel
theorem d_A_fill_7 : decode b_A_fill 7 = .ok (.if_icmp .ge 13, 3) := by decide +kernel
theorem d_A_fill_10 : decode b_A_fill 10 = .ok (.aload_n 0, 1) := by decide +kernel
theorem d_A_fill_11 : decode b_A_fill 11 = .ok (.iload_n 2, 1) := by decide +kernel
theorem d_A_fill_12 : decode b_A_fill 12 = .ok (.iload_n 1, 1) := by decide +kernel
theorem d_A_fill_13 : decode b_A_fill 13 = .ok (.iastore, 1) := by decide +kernel
theorem d_A_fill_14 : decode b_A_fill 14 = .ok (.iinc 2 1, 3) := by decide +kernel
theorem d_A_fill_17 : decode b_A_fill 17 = .ok (.goto (-12), 3) := by decide +kernel
theorem d_A_fill_20 : decode b_A_fill 20 = .ok (.return_, 1) := by decide +kernel
theorem d_G_init_0 : decode b_G_init 0 = .ok (.aload_n 0, 1) := by decide +kernel
theorem d_G_init_1 : decode b_G_init 1 = .ok (.invokespecial 3, 3) := by decide +kernel
theorem d_G_init_4 : decode b_G_init 4 = .ok (.aload_n 0, 1) := by decide +kernel
theorem d_G_init_5 : decode b_G_init 5 = .ok (.sipush 576, 3) := by decide +kernel
theorem d_G_init_8 : decode b_G_init 8 = .ok (.newarray .int, 2) := by decide +kernel
theorem d_G_init_10 : decode b_G_init 10 = .ok (.putfield 9, 3) := by decide +kernel
theorem d_G_init_13 : decode b_G_init 13 = .ok (.aload_n 0, 1) := by decide +kernel
theorem d_G_init_14 : decode b_G_init 14 = .ok (.sipush 288, 3) := by decide +kernel
theorem d_G_init_17 : decode b_G_init 17 = .ok (.newarray .int, 2) := by decide +kernel
theorem d_G_init_19 : decode b_G_init 19 = .ok (.putfield 15, 3) := by decide +kernel
theorem d_G_init_22 : decode b_G_init 22 = .ok (.aload_n 0, 1) := by decide +kernel
theorem d_G_init_23 : decode b_G_init 23 = .ok (.sipush 288, 3) := by decide +kernel
theorem d_G_init_26 : decode b_G_init 26 = .ok (.newarray .int, 2) := by decide +kernel
theorem d_G_init_28 : decode b_G_init 28 = .ok (.putfield 18, 3) := by decide +kernel
theorem d_G_init_31 : decode b_G_init 31 = .ok (.aload_n 0, 1) := by decide +kernel
theorem d_G_init_32 : decode b_G_init 32 = .ok (.sipush 288, 3) := by decide +kernel
theorem d_G_init_35 : decode b_G_init 35 = .ok (.newarray .int, 2) := by decide +kernel
theorem d_G_init_37 : decode b_G_init 37 = .ok (.putfield 21, 3) := by decide +kernel
theorem d_G_init_40 : decode b_G_init 40 = .ok (.aload_n 0, 1) := by decide +kernel
theorem d_G_init_41 : decode b_G_init 41 = .ok (.sipush 288, 3) := by decide +kernel
theorem d_G_init_44 : decode b_G_init 44 = .ok (.newarray .int, 2) := by decide +kernel
theorem d_G_init_46 : decode b_G_init 46 = .ok (.putfield 24, 3) := by decide +kernel
theorem d_G_init_49 : decode b_G_init 49 = .ok (.aload_n 0, 1) := by decide +kernel
theorem d_G_init_50 : decode b_G_init 50 = .ok (.sipush 288, 3) := by decide +kernel
theorem d_G_init_53 : decode b_G_init 53 = .ok (.newarray .int, 2) := by decide +kernel
theorem d_G_init_55 : decode b_G_init 55 = .ok (.putfield 27, 3) := by decide +kernel
theorem d_G_init_58 : decode b_G_init 58 = .ok (.aload_n 0, 1) := by decide +kernel
theorem d_G_init_59 : decode b_G_init 59 = .ok (.sipush 576, 3) := by decide +kernel
theorem d_G_init_62 : decode b_G_init 62 = .ok (.newarray .int, 2) := by decide +kernel
theorem d_G_init_64 : decode b_G_init 64 = .ok (.putfield 30, 3) := by decide +kernel
theorem d_G_init_67 : decode b_G_init 67 = .ok (.aload_n 0, 1) := by decide +kernel
theorem d_G_init_68 : decode b_G_init 68 = .ok (.iload_n 1, 1) := by decide +kernel
theorem d_G_init_69 : decode b_G_init 69 = .ok (.putfield 33, 3) := by decide +kernel
theorem d_G_init_72 : decode b_G_init 72 = .ok (.aload_n 0, 1) := by decide +kernel
theorem d_G_init_73 : decode b_G_init 73 = .ok (.iload_n 2, 1) := by decide +kernel
theorem d_G_init_74 : decode b_G_init 74 = .ok (.putfield 37, 3) := by decide +kernel
theorem d_G_init_77 : decode b_G_init 77 = .ok (.return_, 1) := by decide +kernel
theorem d_G_find_0 : decode b_G_find 0 = .ok (.aload_n 0, 1) := by decide +kernel
theorem d_G_find_1 : decode b_G_find 1 = .ok (.getfield 9, 3) := by decide +kernel
theorem d_G_find_4 : decode b_G_find 4 = .ok (.iconst (-1), 1) := by decide +kernel
theorem d_G_find_5 : decode b_G_find 5 = .ok (.invokestatic 40, 3) := by decide +kernel
theorem d_G_find_8 : decode b_G_find 8 = .ok (.aload_n 0, 1) := by decide +kernel
theorem d_G_find_9 : decode b_G_find 9 = .ok (.iconst 0, 1) := by decide +kernel
theorem d_G_find_10 : decode b_G_find 10 = .ok (.putfield 46, 3) := by decide +kernel
theorem d_G_find_13 : decode b_G_find 13 = .ok (.iconst 0, 1) := by decide +kernel
theorem d_G_find_14 : decode b_G_find 14 = .ok (.istore 4, 2) := by decide +kernel
theorem d_G_find_16 : decode b_G_find 16 = .ok (.iload 4, 2) := by decide +kernel
theorem d_G_find_18 : decode b_G_find 18 = .ok (.aload_n 0, 1) := by decide +kernel
theorem d_G_find_19 : decode b_G_find 19 = .ok (.getfield 37, 3) := by decide +kernel
theorem d_G_find_22 : decode b_G_find 22 = .ok (.if_icmp .ge 75, 3) := by decide +kernel
theorem d_G_find_25 : decode b_G_find 25 = .ok (.iconst 0, 1) := by decide +kernel
theorem d_G_find_26 : decode b_G_find 26 = .ok (.istore 5, 2) := by decide +kernel
theorem d_G_find_28 : decode b_G_find 28 = .ok (.iload 5, 2) := by decide +kernel
theorem d_G_find_30 : decode b_G_find 30 = .ok (.aload_n 0, 1) := by decide +kernel
theorem d_G_find_31 : decode b_G_find 31 = .ok (.getfield 33, 3) := by decide +kernel
theorem d_G_find_34 : decode b_G_find 34 = .ok (.if_icmp .ge 57, 3) := by decide +kernel
theorem d_G_find_37 : decode b_G_find 37 = .ok (.aload_n 0, 1) := by decide +kernel
theorem d_G_find_38 : decode b_G_find 38 = .ok (.aload_n 1, 1) := by decide +kernel
theorem d_G_find_39 : decode b_G_find 39 = .ok (.iload_n 2, 1) := by decide +kernel
theorem d_G_find_40 : decode b_G_find 40 = .ok (.iload 5, 2) := by decide +kernel
theorem d_G_find_42 : decode b_G_find 42 = .ok (.iload 4, 2) := by decide +kernel
theorem d_G_find_44 : decode b_G_find 44 = .ok (.invokevirtual 49, 3) := by decide +kernel
theorem d_G_find_47 : decode b_G_find 47 = .ok (.ifCond .eq 38, 3) := by decide +kernel
theorem d_G_find_50 : decode b_G_find 50 = .ok (.aload_n 0, 1) := by decide +kernel
theorem d_G_find_51 : decode b_G_find 51 = .ok (.getfield 46, 3) := by decide +kernel
theorem d_G_find_54 : decode b_G_find 54 = .ok (.sipush 288, 3) := by decide +kernel
theorem d_G_find_57 : decode b_G_find 57 = .ok (.if_icmp .ge 28, 3) := by decide +kernel
theorem d_G_find_60 : decode b_G_find 60 = .ok (.aload_n 0, 1) := by decide +kernel
theorem d_G_find_61 : decode b_G_find 61 = .ok (.iload 5, 2) := by decide +kernel
theorem d_G_find_63 : decode b_G_find 63 = .ok (.iload 4, 2) := by decide +kernel
theorem d_G_find_65 : decode b_G_find 65 = .ok (.invokevirtual 53, 3) := by decide +kernel
theorem d_G_find_68 : decode b_G_find 68 = .ok (.aload_n 0, 1) := by decide +kernel
theorem d_G_find_69 : decode b_G_find 69 = .ok (.aload_n 1, 1) := by decide +kernel
theorem d_G_find_70 : decode b_G_find 70 = .ok (.iload_n 2, 1) := by decide +kernel
theorem d_G_find_71 : decode b_G_find 71 = .ok (.iload_n 3, 1) := by decide +kernel
theorem d_G_find_72 : decode b_G_find 72 = .ok (.invokevirtual 57, 3) := by decide +kernel
theorem d_G_find_75 : decode b_G_find 75 = .ok (.aload_n 0, 1) := by decide +kernel
theorem d_G_find_76 : decode b_G_find 76 = .ok (.dup, 1) := by decide +kernel
theorem d_G_find_77 : decode b_G_find 77 = .ok (.getfield 46, 3) := by decide +kernel
theorem d_G_find_80 : decode b_G_find 80 = .ok (.iconst 1, 1) := by decide +kernel
theorem d_G_find_81 : decode b_G_find 81 = .ok (.iadd, 1) := by decide +kernel
theorem d_G_find_82 : decode b_G_find 82 = .ok (.putfield 46, 3) := by decide +kernel
theorem d_G_find_85 : decode b_G_find 85 = .ok (.iinc 5 1, 3) := by decide +kernel
theorem d_G_find_88 : decode b_G_find 88 = .ok (.goto (-60), 3) := by decide +kernel
theorem d_G_find_91 : decode b_G_find 91 = .ok (.iinc 4 1, 3) := by decide +kernel
theorem d_G_find_94 : decode b_G_find 94 = .ok (.goto (-78), 3) := by decide +kernel
theorem d_G_find_97 : decode b_G_find 97 = .ok (.return_, 1) := by decide +kernel
theorem d_G_isOpen_0 : decode b_G_isOpen 0 = .ok (.iload_n 3, 1) := by decide +kernel
theorem d_G_isOpen_1 : decode b_G_isOpen 1 = .ok (.ifCond .lt 25, 3) := by decide +kernel
theorem d_G_isOpen_4 : decode b_G_isOpen 4 = .ok (.iload_n 3, 1) := by decide +kernel
theorem d_G_isOpen_5 : decode b_G_isOpen 5 = .ok (.aload_n 0, 1) := by decide +kernel
theorem d_G_isOpen_6 : decode b_G_isOpen 6 = .ok (.getfield 33, 3) := by decide +kernel
theorem d_G_isOpen_9 : decode b_G_isOpen 9 = .ok (.if_icmp .ge 17, 3) := by decide +kernel
theorem d_G_isOpen_12 : decode b_G_isOpen 12 = .ok (.iload 4, 2) := by decide +kernel
theorem d_G_isOpen_14 : decode b_G_isOpen 14 = .ok (.ifCond .lt 12, 3) := by decide +kernel
theorem d_G_isOpen_17 : decode b_G_isOpen 17 = .ok (.iload 4, 2) := by decide +kernel
theorem d_G_isOpen_19 : decode b_G_isOpen 19 = .ok (.aload_n 0, 1) := by decide +kernel
theorem d_G_isOpen_20 : decode b_G_isOpen 20 = .ok (.getfield 37, 3) := by decide +kernel
theorem d_G_isOpen_23 : decode b_G_isOpen 23 = .ok (.if_icmp .lt 5, 3) := by decide +kernel
theorem d_G_isOpen_26 : decode b_G_isOpen 26 = .ok (.iconst 0, 1) := by decide +kernel
theorem d_G_isOpen_27 : decode b_G_isOpen 27 = .ok (.ireturn, 1) := by decide +kernel
theorem d_G_isOpen_28 : decode b_G_isOpen 28 = .ok (.iload 4, 2) := by decide +kernel
theorem d_G_isOpen_30 : decode b_G_isOpen 30 = .ok (.bipush 24, 2) := by decide +kernel
theorem d_G_isOpen_32 : decode b_G_isOpen 32 = .ok (.imul, 1) := by decide +kernel
theorem d_G_isOpen_33 : decode b_G_isOpen 33 = .ok (.iload_n 3, 1) := by decide +kernel
theorem d_G_isOpen_34 : decode b_G_isOpen 34 = .ok (.iadd, 1) := by decide +kernel
theorem d_G_isOpen_35 : decode b_G_isOpen 35 = .ok (.istore 5, 2) := by decide +kernel
theorem d_G_isOpen_37 : decode b_G_isOpen 37 = .ok (.aload_n 1, 1) := by decide +kernel
theorem d_G_isOpen_38 : decode b_G_isOpen 38 = .ok (.iload 5, 2) := by decide +kernel
theorem d_G_isOpen_40 : decode b_G_isOpen 40 = .ok (.baload, 1) := by decide +kernel
theorem d_G_isOpen_41 : decode b_G_isOpen 41 = .ok (.iload_n 2, 1) := by decide +kernel
theorem d_G_isOpen_42 : decode b_G_isOpen 42 = .ok (.if_icmp .ne 18, 3) := by decide +kernel
theorem d_G_isOpen_45 : decode b_G_isOpen 45 = .ok (.aload_n 0, 1) := by decide +kernel
theorem d_G_isOpen_46 : decode b_G_isOpen 46 = .ok (.getfield 9, 3) := by decide +kernel
theorem d_G_isOpen_49 : decode b_G_isOpen 49 = .ok (.iload 5, 2) := by decide +kernel
theorem d_G_isOpen_51 : decode b_G_isOpen 51 = .ok (.iaload, 1) := by decide +kernel
theorem d_G_isOpen_52 : decode b_G_isOpen 52 = .ok (.iconst (-1), 1) := by decide +kernel
theorem d_G_isOpen_53 : decode b_G_isOpen 53 = .ok (.if_icmp .ne 7, 3) := by decide +kernel
theorem d_G_isOpen_56 : decode b_G_isOpen 56 = .ok (.iconst 1, 1) := by decide +kernel
theorem d_G_isOpen_57 : decode b_G_isOpen 57 = .ok (.goto 4, 3) := by decide +kernel
theorem d_G_isOpen_60 : decode b_G_isOpen 60 = .ok (.iconst 0, 1) := by decide +kernel
theorem d_G_isOpen_61 : decode b_G_isOpen 61 = .ok (.ireturn, 1) := by decide +kernel
theorem d_G_begin_0 : decode b_G_begin 0 = .ok (.aload_n 0, 1) := by decide +kernel
theorem d_G_begin_1 : decode b_G_begin 1 = .ok (.getfield 15, 3) := by decide +kernel
theorem d_G_begin_4 : decode b_G_begin 4 = .ok (.aload_n 0, 1) := by decide +kernel
theorem d_G_begin_5 : decode b_G_begin 5 = .ok (.getfield 46, 3) := by decide +kernel
theorem d_G_begin_8 : decode b_G_begin 8 = .ok (.iload_n 1, 1) := by decide +kernel
theorem d_G_begin_9 : decode b_G_begin 9 = .ok (.iastore, 1) := by decide +kernel
theorem d_G_begin_10 : decode b_G_begin 10 = .ok (.aload_n 0, 1) := by decide +kernel
theorem d_G_begin_11 : decode b_G_begin 11 = .ok (.getfield 18, 3) := by decide +kernel
theorem d_G_begin_14 : decode b_G_begin 14 = .ok (.aload_n 0, 1) := by decide +kernel
theorem d_G_begin_15 : decode b_G_begin 15 = .ok (.getfield 46, 3) := by decide +kernel
theorem d_G_begin_18 : decode b_G_begin 18 = .ok (.iload_n 2, 1) := by decide +kernel
theorem d_G_begin_19 : decode b_G_begin 19 = .ok (.iastore, 1) := by decide +kernel
theorem d_G_begin_20 : decode b_G_begin 20 = .ok (.aload_n 0, 1) := by decide +kernel
theorem d_G_begin_21 : decode b_G_begin 21 = .ok (.getfield 21, 3) := by decide +kernel
theorem d_G_begin_24 : decode b_G_begin 24 = .ok (.aload_n 0, 1) := by decide +kernel
theorem d_G_begin_25 : decode b_G_begin 25 = .ok (.getfield 46, 3) := by decide +kernel
theorem d_G_begin_28 : decode b_G_begin 28 = .ok (.iload_n 1, 1) := by decide +kernel
theorem d_G_begin_29 : decode b_G_begin 29 = .ok (.iastore, 1) := by decide +kernel
theorem d_G_begin_30 : decode b_G_begin 30 = .ok (.aload_n 0, 1) := by decide +kernel
theorem d_G_begin_31 : decode b_G_begin 31 = .ok (.getfield 24, 3) := by decide +kernel
theorem d_G_begin_34 : decode b_G_begin 34 = .ok (.aload_n 0, 1) := by decide +kernel
theorem d_G_begin_35 : decode b_G_begin 35 = .ok (.getfield 46, 3) := by decide +kernel
theorem d_G_begin_38 : decode b_G_begin 38 = .ok (.iload_n 2, 1) := by decide +kernel
theorem d_G_begin_39 : decode b_G_begin 39 = .ok (.iastore, 1) := by decide +kernel
theorem d_G_begin_40 : decode b_G_begin 40 = .ok (.aload_n 0, 1) := by decide +kernel
theorem d_G_begin_41 : decode b_G_begin 41 = .ok (.getfield 27, 3) := by decide +kernel
theorem d_G_begin_44 : decode b_G_begin 44 = .ok (.aload_n 0, 1) := by decide +kernel
theorem d_G_begin_45 : decode b_G_begin 45 = .ok (.getfield 46, 3) := by decide +kernel
theorem d_G_begin_48 : decode b_G_begin 48 = .ok (.iconst 0, 1) := by decide +kernel
theorem d_G_begin_49 : decode b_G_begin 49 = .ok (.iastore, 1) := by decide +kernel
theorem d_G_begin_50 : decode b_G_begin 50 = .ok (.aload_n 0, 1) := by decide +kernel
theorem d_G_begin_51 : decode b_G_begin 51 = .ok (.iload_n 1, 1) := by decide +kernel
theorem d_G_begin_52 : decode b_G_begin 52 = .ok (.iload_n 2, 1) := by decide +kernel
theorem d_G_begin_53 : decode b_G_begin 53 = .ok (.invokevirtual 61, 3) := by decide +kernel
theorem d_G_begin_56 : decode b_G_begin 56 = .ok (.return_, 1) := by decide +kernel
theorem d_G_take_0 : decode b_G_take 0 = .ok (.iload_n 2, 1) := by decide +kernel
theorem d_G_take_1 : decode b_G_take 1 = .ok (.bipush 24, 2) := by decide +kernel
theorem d_G_take_3 : decode b_G_take 3 = .ok (.imul, 1) := by decide +kernel
theorem d_G_take_4 : decode b_G_take 4 = .ok (.iload_n 1, 1) := by decide +kernel
theorem d_G_take_5 : decode b_G_take 5 = .ok (.iadd, 1) := by decide +kernel
theorem d_G_take_6 : decode b_G_take 6 = .ok (.istore_n 3, 1) := by decide +kernel
theorem d_G_take_7 : decode b_G_take 7 = .ok (.aload_n 0, 1) := by decide +kernel
theorem d_G_take_8 : decode b_G_take 8 = .ok (.getfield 9, 3) := by decide +kernel
theorem d_G_take_11 : decode b_G_take 11 = .ok (.iload_n 3, 1) := by decide +kernel
theorem d_G_take_12 : decode b_G_take 12 = .ok (.aload_n 0, 1) := by decide +kernel
theorem d_G_take_13 : decode b_G_take 13 = .ok (.getfield 46, 3) := by decide +kernel
theorem d_G_take_16 : decode b_G_take 16 = .ok (.iastore, 1) := by decide +kernel
theorem d_G_take_17 : decode b_G_take 17 = .ok (.aload_n 0, 1) := by decide +kernel
theorem d_G_take_18 : decode b_G_take 18 = .ok (.getfield 30, 3) := by decide +kernel
theorem d_G_take_21 : decode b_G_take 21 = .ok (.aload_n 0, 1) := by decide +kernel
theorem d_G_take_22 : decode b_G_take 22 = .ok (.getfield 27, 3) := by decide +kernel
theorem d_G_take_25 : decode b_G_take 25 = .ok (.aload_n 0, 1) := by decide +kernel
theorem d_G_take_26 : decode b_G_take 26 = .ok (.getfield 46, 3) := by decide +kernel
theorem d_G_take_29 : decode b_G_take 29 = .ok (.iaload, 1) := by decide +kernel
theorem d_G_take_30 : decode b_G_take 30 = .ok (.iload_n 3, 1) := by decide +kernel
theorem d_G_take_31 : decode b_G_take 31 = .ok (.iastore, 1) := by decide +kernel
theorem d_G_take_32 : decode b_G_take 32 = .ok (.aload_n 0, 1) := by decide +kernel
theorem d_G_take_33 : decode b_G_take 33 = .ok (.getfield 27, 3) := by decide +kernel
theorem d_G_take_36 : decode b_G_take 36 = .ok (.aload_n 0, 1) := by decide +kernel
theorem d_G_take_37 : decode b_G_take 37 = .ok (.getfield 46, 3) := by decide +kernel
theorem d_G_take_40 : decode b_G_take 40 = .ok (.dup2, 1) := by decide +kernel
theorem d_G_take_41 : decode b_G_take 41 = .ok (.iaload, 1) := by decide +kernel
theorem d_G_take_42 : decode b_G_take 42 = .ok (.iconst 1, 1) := by decide +kernel
theorem d_G_take_43 : decode b_G_take 43 = .ok (.iadd, 1) := by decide +kernel
theorem d_G_take_44 : decode b_G_take 44 = .ok (.iastore, 1) := by decide +kernel
theorem d_G_take_45 : decode b_G_take 45 = .ok (.aload_n 0, 1) := by decide +kernel
theorem d_G_take_46 : decode b_G_take 46 = .ok (.getfield 15, 3) := by decide +kernel
theorem d_G_take_49 : decode b_G_take 49 = .ok (.aload_n 0, 1) := by decide +kernel
theorem d_G_take_50 : decode b_G_take 50 = .ok (.getfield 46, 3) := by decide +kernel
theorem d_G_take_53 : decode b_G_take 53 = .ok (.aload_n 0, 1) := by decide +kernel
theorem d_G_take_54 : decode b_G_take 54 = .ok (.getfield 15, 3) := by decide +kernel
theorem d_G_take_57 : decode b_G_take 57 = .ok (.aload_n 0, 1) := by decide +kernel
theorem d_G_take_58 : decode b_G_take 58 = .ok (.getfield 46, 3) := by decide +kernel
theorem d_G_take_61 : decode b_G_take 61 = .ok (.iaload, 1) := by decide +kernel
theorem d_G_take_62 : decode b_G_take 62 = .ok (.iload_n 1, 1) := by decide +kernel
theorem d_G_take_63 : decode b_G_take 63 = .ok (.invokestatic 64, 3) := by decide +kernel
theorem d_G_take_66 : decode b_G_take 66 = .ok (.iastore, 1) := by decide +kernel
theorem d_G_take_67 : decode b_G_take 67 = .ok (.aload_n 0, 1) := by decide +kernel
theorem d_G_take_68 : decode b_G_take 68 = .ok (.getfield 21, 3) := by decide +kernel
theorem d_G_take_71 : decode b_G_take 71 = .ok (.aload_n 0, 1) := by decide +kernel
theorem d_G_take_72 : decode b_G_take 72 = .ok (.getfield 46, 3) := by decide +kernel
theorem d_G_take_75 : decode b_G_take 75 = .ok (.aload_n 0, 1) := by decide +kernel
theorem d_G_take_76 : decode b_G_take 76 = .ok (.getfield 21, 3) := by decide +kernel
theorem d_G_take_79 : decode b_G_take 79 = .ok (.aload_n 0, 1) := by decide +kernel
theorem d_G_take_80 : decode b_G_take 80 = .ok (.getfield 46, 3) := by decide +kernel
theorem d_G_take_83 : decode b_G_take 83 = .ok (.iaload, 1) := by decide +kernel
theorem d_G_take_84 : decode b_G_take 84 = .ok (.iload_n 1, 1) := by decide +kernel
theorem d_G_take_85 : decode b_G_take 85 = .ok (.invokestatic 70, 3) := by decide +kernel
theorem d_G_take_88 : decode b_G_take 88 = .ok (.iastore, 1) := by decide +kernel
theorem d_G_take_89 : decode b_G_take 89 = .ok (.aload_n 0, 1) := by decide +kernel
theorem d_G_take_90 : decode b_G_take 90 = .ok (.getfield 24, 3) := by decide +kernel
theorem d_G_take_93 : decode b_G_take 93 = .ok (.aload_n 0, 1) := by decide +kernel
theorem d_G_take_94 : decode b_G_take 94 = .ok (.getfield 46, 3) := by decide +kernel
theorem d_G_take_97 : decode b_G_take 97 = .ok (.aload_n 0, 1) := by decide +kernel
theorem d_G_take_98 : decode b_G_take 98 = .ok (.getfield 24, 3) := by decide +kernel
theorem d_G_take_101 : decode b_G_take 101 = .ok (.aload_n 0, 1) := by decide +kernel
theorem d_G_take_102 : decode b_G_take 102 = .ok (.getfield 46, 3) := by decide +kernel
theorem d_G_take_105 : decode b_G_take 105 = .ok (.iaload, 1) := by decide +kernel
theorem d_G_take_106 : decode b_G_take 106 = .ok (.iload_n 2, 1) := by decide +kernel
theorem d_G_take_107 : decode b_G_take 107 = .ok (.invokestatic 70, 3) := by decide +kernel
theorem d_G_take_110 : decode b_G_take 110 = .ok (.iastore, 1) := by decide +kernel
theorem d_G_take_111 : decode b_G_take 111 = .ok (.return_, 1) := by decide +kernel
theorem d_G_gather_0 : decode b_G_gather 0 = .ok (.iconst 0, 1) := by decide +kernel
theorem d_G_gather_1 : decode b_G_gather 1 = .ok (.istore 4, 2) := by decide +kernel
theorem d_G_gather_3 : decode b_G_gather 3 = .ok (.iload 4, 2) := by decide +kernel
theorem d_G_gather_5 : decode b_G_gather 5 = .ok (.sipush 576, 3) := by decide +kernel
theorem d_G_gather_8 : decode b_G_gather 8 = .ok (.if_icmp .ge 140, 3) := by decide +kernel
theorem d_G_gather_11 : decode b_G_gather 11 = .ok (.iload 4, 2) := by decide +kernel
theorem d_G_gather_13 : decode b_G_gather 13 = .ok (.aload_n 0, 1) := by decide +kernel
theorem d_G_gather_14 : decode b_G_gather 14 = .ok (.getfield 27, 3) := by decide +kernel
theorem d_G_gather_17 : decode b_G_gather 17 = .ok (.aload_n 0, 1) := by decide +kernel
theorem d_G_gather_18 : decode b_G_gather 18 = .ok (.getfield 46, 3) := by decide +kernel
theorem d_G_gather_21 : decode b_G_gather 21 = .ok (.iaload, 1) := by decide +kernel
theorem d_G_gather_22 : decode b_G_gather 22 = .ok (.if_icmp .ge 126, 3) := by decide +kernel
theorem d_G_gather_25 : decode b_G_gather 25 = .ok (.aload_n 0, 1) := by decide +kernel
theorem d_G_gather_26 : decode b_G_gather 26 = .ok (.getfield 30, 3) := by decide +kernel
theorem d_G_gather_29 : decode b_G_gather 29 = .ok (.iload 4, 2) := by decide +kernel
theorem d_G_gather_31 : decode b_G_gather 31 = .ok (.iaload, 1) := by decide +kernel
theorem d_G_gather_32 : decode b_G_gather 32 = .ok (.bipush 24, 2) := by decide +kernel
theorem d_G_gather_34 : decode b_G_gather 34 = .ok (.irem, 1) := by decide +kernel
theorem d_G_gather_35 : decode b_G_gather 35 = .ok (.istore 5, 2) := by decide +kernel
theorem d_G_gather_37 : decode b_G_gather 37 = .ok (.aload_n 0, 1) := by decide +kernel
theorem d_G_gather_38 : decode b_G_gather 38 = .ok (.getfield 30, 3) := by decide +kernel
theorem d_G_gather_41 : decode b_G_gather 41 = .ok (.iload 4, 2) := by decide +kernel
theorem d_G_gather_43 : decode b_G_gather 43 = .ok (.iaload, 1) := by decide +kernel
theorem d_G_gather_44 : decode b_G_gather 44 = .ok (.bipush 24, 2) := by decide +kernel
theorem d_G_gather_46 : decode b_G_gather 46 = .ok (.idiv, 1) := by decide +kernel
theorem d_G_gather_47 : decode b_G_gather 47 = .ok (.istore 6, 2) := by decide +kernel
theorem d_G_gather_49 : decode b_G_gather 49 = .ok (.iload 6, 2) := by decide +kernel
theorem d_G_gather_51 : decode b_G_gather 51 = .ok (.iconst 1, 1) := by decide +kernel
theorem d_G_gather_52 : decode b_G_gather 52 = .ok (.isub, 1) := by decide +kernel
theorem d_G_gather_53 : decode b_G_gather 53 = .ok (.istore 7, 2) := by decide +kernel
theorem d_G_gather_55 : decode b_G_gather 55 = .ok (.iload 7, 2) := by decide +kernel
theorem d_G_gather_57 : decode b_G_gather 57 = .ok (.iload 6, 2) := by decide +kernel
theorem d_G_gather_59 : decode b_G_gather 59 = .ok (.iconst 1, 1) := by decide +kernel
theorem d_G_gather_60 : decode b_G_gather 60 = .ok (.iadd, 1) := by decide +kernel
theorem d_G_gather_61 : decode b_G_gather 61 = .ok (.if_icmp .gt 81, 3) := by decide +kernel
theorem d_G_gather_64 : decode b_G_gather 64 = .ok (.iload 5, 2) := by decide +kernel
theorem d_G_gather_66 : decode b_G_gather 66 = .ok (.iconst 1, 1) := by decide +kernel
theorem d_G_gather_67 : decode b_G_gather 67 = .ok (.isub, 1) := by decide +kernel
theorem d_G_gather_68 : decode b_G_gather 68 = .ok (.istore 8, 2) := by decide +kernel
theorem d_G_gather_70 : decode b_G_gather 70 = .ok (.iload 8, 2) := by decide +kernel
theorem d_G_gather_72 : decode b_G_gather 72 = .ok (.iload 5, 2) := by decide +kernel
theorem d_G_gather_74 : decode b_G_gather 74 = .ok (.iconst 1, 1) := by decide +kernel
theorem d_G_gather_75 : decode b_G_gather 75 = .ok (.iadd, 1) := by decide +kernel
theorem d_G_gather_76 : decode b_G_gather 76 = .ok (.if_icmp .gt 60, 3) := by decide +kernel
theorem d_G_gather_79 : decode b_G_gather 79 = .ok (.iload 8, 2) := by decide +kernel
theorem d_G_gather_81 : decode b_G_gather 81 = .ok (.iload 5, 2) := by decide +kernel
theorem d_G_gather_83 : decode b_G_gather 83 = .ok (.if_icmp .eq 10, 3) := by decide +kernel
theorem d_G_gather_86 : decode b_G_gather 86 = .ok (.iload 7, 2) := by decide +kernel
theorem d_G_gather_88 : decode b_G_gather 88 = .ok (.iload 6, 2) := by decide +kernel
theorem d_G_gather_90 : decode b_G_gather 90 = .ok (.if_icmp .ne 7, 3) := by decide +kernel
theorem d_G_gather_93 : decode b_G_gather 93 = .ok (.iconst 1, 1) := by decide +kernel
theorem d_G_gather_94 : decode b_G_gather 94 = .ok (.goto 4, 3) := by decide +kernel
theorem d_G_gather_97 : decode b_G_gather 97 = .ok (.iconst 0, 1) := by decide +kernel
theorem d_G_gather_98 : decode b_G_gather 98 = .ok (.istore 9, 2) := by decide +kernel
theorem d_G_gather_100 : decode b_G_gather 100 = .ok (.iload 9, 2) := by decide +kernel
theorem d_G_gather_102 : decode b_G_gather 102 = .ok (.ifCond .ne 7, 3) := by decide +kernel
theorem d_G_gather_105 : decode b_G_gather 105 = .ok (.iload_n 3, 1) := by decide +kernel
theorem d_G_gather_106 : decode b_G_gather 106 = .ok (.ifCond .eq 24, 3) := by decide +kernel
theorem d_G_gather_109 : decode b_G_gather 109 = .ok (.aload_n 0, 1) := by decide +kernel
theorem d_G_gather_110 : decode b_G_gather 110 = .ok (.aload_n 1, 1) := by decide +kernel
theorem d_G_gather_111 : decode b_G_gather 111 = .ok (.iload_n 2, 1) := by decide +kernel
theorem d_G_gather_112 : decode b_G_gather 112 = .ok (.iload 8, 2) := by decide +kernel
theorem d_G_gather_114 : decode b_G_gather 114 = .ok (.iload 7, 2) := by decide +kernel
theorem d_G_gather_116 : decode b_G_gather 116 = .ok (.invokevirtual 49, 3) := by decide +kernel
theorem d_G_gather_119 : decode b_G_gather 119 = .ok (.ifCond .eq 11, 3) := by decide +kernel
theorem d_G_gather_122 : decode b_G_gather 122 = .ok (.aload_n 0, 1) := by decide +kernel
theorem d_G_gather_123 : decode b_G_gather 123 = .ok (.iload 8, 2) := by decide +kernel
theorem d_G_gather_125 : decode b_G_gather 125 = .ok (.iload 7, 2) := by decide +kernel
theorem d_G_gather_127 : decode b_G_gather 127 = .ok (.invokevirtual 61, 3) := by decide +kernel
theorem d_G_gather_130 : decode b_G_gather 130 = .ok (.iinc 8 1, 3) := by decide +kernel
theorem d_G_gather_133 : decode b_G_gather 133 = .ok (.goto (-63), 3) := by decide +kernel
theorem d_G_gather_136 : decode b_G_gather 136 = .ok (.iinc 7 1, 3) := by decide +kernel
theorem d_G_gather_139 : decode b_G_gather 139 = .ok (.goto (-84), 3) := by decide +kernel
theorem d_G_gather_142 : decode b_G_gather 142 = .ok (.iinc 4 1, 3) := by decide +kernel
theorem d_G_gather_145 : decode b_G_gather 145 = .ok (.goto (-142), 3) := by decide +kernel
theorem d_G_gather_148 : decode b_G_gather 148 = .ok (.return_, 1) := by decide +kernel
theorem d_G_dropAtEdge_0 : decode b_G_dropAtEdge 0 = .ok (.iconst 0, 1) := by decide +kernel
theorem d_G_dropAtEdge_1 : decode b_G_dropAtEdge 1 = .ok (.istore_n 1, 1) := by decide +kernel
theorem d_G_dropAtEdge_2 : decode b_G_dropAtEdge 2 = .ok (.iconst 0, 1) := by decide +kernel
theorem d_G_dropAtEdge_3 : decode b_G_dropAtEdge 3 = .ok (.istore_n 2, 1) := by decide +kernel
theorem d_G_dropAtEdge_4 : decode b_G_dropAtEdge 4 = .ok (.iload_n 2, 1) := by decide +kernel
theorem d_G_dropAtEdge_5 : decode b_G_dropAtEdge 5 = .ok (.aload_n 0, 1) := by decide +kernel
theorem d_G_dropAtEdge_6 : decode b_G_dropAtEdge 6 = .ok (.getfield 46, 3) := by decide +kernel
theorem d_G_dropAtEdge_9 : decode b_G_dropAtEdge 9 = .ok (.if_icmp .ge 120, 3) := by decide +kernel
theorem d_G_dropAtEdge_12 : decode b_G_dropAtEdge 12 = .ok (.aload_n 0, 1) := by decide +kernel
theorem d_G_dropAtEdge_13 : decode b_G_dropAtEdge 13 = .ok (.getfield 15, 3) := by decide +kernel
theorem d_G_dropAtEdge_16 : decode b_G_dropAtEdge 16 = .ok (.iload_n 2, 1) := by decide +kernel
theorem d_G_dropAtEdge_17 : decode b_G_dropAtEdge 17 = .ok (.iaload, 1) := by decide +kernel
theorem d_G_dropAtEdge_18 : decode b_G_dropAtEdge 18 = .ok (.ifCond .le 105, 3) := by decide +kernel
theorem d_G_dropAtEdge_21 : decode b_G_dropAtEdge 21 = .ok (.aload_n 0, 1) := by decide +kernel
theorem d_G_dropAtEdge_22 : decode b_G_dropAtEdge 22 = .ok (.getfield 18, 3) := by decide +kernel
theorem d_G_dropAtEdge_25 : decode b_G_dropAtEdge 25 = .ok (.iload_n 2, 1) := by decide +kernel
theorem d_G_dropAtEdge_26 : decode b_G_dropAtEdge 26 = .ok (.iaload, 1) := by decide +kernel
theorem d_G_dropAtEdge_27 : decode b_G_dropAtEdge 27 = .ok (.ifCond .le 96, 3) := by decide +kernel
theorem d_G_dropAtEdge_30 : decode b_G_dropAtEdge 30 = .ok (.aload_n 0, 1) := by decide +kernel
theorem d_G_dropAtEdge_31 : decode b_G_dropAtEdge 31 = .ok (.getfield 21, 3) := by decide +kernel
theorem d_G_dropAtEdge_34 : decode b_G_dropAtEdge 34 = .ok (.iload_n 2, 1) := by decide +kernel
theorem d_G_dropAtEdge_35 : decode b_G_dropAtEdge 35 = .ok (.iaload, 1) := by decide +kernel
theorem d_G_dropAtEdge_36 : decode b_G_dropAtEdge 36 = .ok (.aload_n 0, 1) := by decide +kernel
theorem d_G_dropAtEdge_37 : decode b_G_dropAtEdge 37 = .ok (.getfield 33, 3) := by decide +kernel
theorem d_G_dropAtEdge_40 : decode b_G_dropAtEdge 40 = .ok (.iconst 1, 1) := by decide +kernel
theorem d_G_dropAtEdge_41 : decode b_G_dropAtEdge 41 = .ok (.isub, 1) := by decide +kernel
theorem d_G_dropAtEdge_42 : decode b_G_dropAtEdge 42 = .ok (.if_icmp .ge 81, 3) := by decide +kernel
theorem d_G_dropAtEdge_45 : decode b_G_dropAtEdge 45 = .ok (.aload_n 0, 1) := by decide +kernel
theorem d_G_dropAtEdge_46 : decode b_G_dropAtEdge 46 = .ok (.getfield 24, 3) := by decide +kernel
theorem d_G_dropAtEdge_49 : decode b_G_dropAtEdge 49 = .ok (.iload_n 2, 1) := by decide +kernel
theorem d_G_dropAtEdge_50 : decode b_G_dropAtEdge 50 = .ok (.iaload, 1) := by decide +kernel
theorem d_G_dropAtEdge_51 : decode b_G_dropAtEdge 51 = .ok (.aload_n 0, 1) := by decide +kernel
theorem d_G_dropAtEdge_52 : decode b_G_dropAtEdge 52 = .ok (.getfield 37, 3) := by decide +kernel
theorem d_G_dropAtEdge_55 : decode b_G_dropAtEdge 55 = .ok (.iconst 1, 1) := by decide +kernel
theorem d_G_dropAtEdge_56 : decode b_G_dropAtEdge 56 = .ok (.isub, 1) := by decide +kernel
theorem d_G_dropAtEdge_57 : decode b_G_dropAtEdge 57 = .ok (.if_icmp .ge 66, 3) := by decide +kernel
theorem d_G_dropAtEdge_60 : decode b_G_dropAtEdge 60 = .ok (.aload_n 0, 1) := by decide +kernel
theorem d_G_dropAtEdge_61 : decode b_G_dropAtEdge 61 = .ok (.getfield 15, 3) := by decide +kernel
theorem d_G_dropAtEdge_64 : decode b_G_dropAtEdge 64 = .ok (.iload_n 1, 1) := by decide +kernel
theorem d_G_dropAtEdge_65 : decode b_G_dropAtEdge 65 = .ok (.aload_n 0, 1) := by decide +kernel
theorem d_G_dropAtEdge_66 : decode b_G_dropAtEdge 66 = .ok (.getfield 15, 3) := by decide +kernel
theorem d_G_dropAtEdge_69 : decode b_G_dropAtEdge 69 = .ok (.iload_n 2, 1) := by decide +kernel
theorem d_G_dropAtEdge_70 : decode b_G_dropAtEdge 70 = .ok (.iaload, 1) := by decide +kernel
theorem d_G_dropAtEdge_71 : decode b_G_dropAtEdge 71 = .ok (.iastore, 1) := by decide +kernel
theorem d_G_dropAtEdge_72 : decode b_G_dropAtEdge 72 = .ok (.aload_n 0, 1) := by decide +kernel
theorem d_G_dropAtEdge_73 : decode b_G_dropAtEdge 73 = .ok (.getfield 18, 3) := by decide +kernel
theorem d_G_dropAtEdge_76 : decode b_G_dropAtEdge 76 = .ok (.iload_n 1, 1) := by decide +kernel
theorem d_G_dropAtEdge_77 : decode b_G_dropAtEdge 77 = .ok (.aload_n 0, 1) := by decide +kernel
theorem d_G_dropAtEdge_78 : decode b_G_dropAtEdge 78 = .ok (.getfield 18, 3) := by decide +kernel
theorem d_G_dropAtEdge_81 : decode b_G_dropAtEdge 81 = .ok (.iload_n 2, 1) := by decide +kernel
theorem d_G_dropAtEdge_82 : decode b_G_dropAtEdge 82 = .ok (.iaload, 1) := by decide +kernel
theorem d_G_dropAtEdge_83 : decode b_G_dropAtEdge 83 = .ok (.iastore, 1) := by decide +kernel
theorem d_G_dropAtEdge_84 : decode b_G_dropAtEdge 84 = .ok (.aload_n 0, 1) := by decide +kernel
theorem d_G_dropAtEdge_85 : decode b_G_dropAtEdge 85 = .ok (.getfield 21, 3) := by decide +kernel
theorem d_G_dropAtEdge_88 : decode b_G_dropAtEdge 88 = .ok (.iload_n 1, 1) := by decide +kernel
theorem d_G_dropAtEdge_89 : decode b_G_dropAtEdge 89 = .ok (.aload_n 0, 1) := by decide +kernel
theorem d_G_dropAtEdge_90 : decode b_G_dropAtEdge 90 = .ok (.getfield 21, 3) := by decide +kernel
theorem d_G_dropAtEdge_93 : decode b_G_dropAtEdge 93 = .ok (.iload_n 2, 1) := by decide +kernel
theorem d_G_dropAtEdge_94 : decode b_G_dropAtEdge 94 = .ok (.iaload, 1) := by decide +kernel
theorem d_G_dropAtEdge_95 : decode b_G_dropAtEdge 95 = .ok (.iastore, 1) := by decide +kernel
theorem d_G_dropAtEdge_96 : decode b_G_dropAtEdge 96 = .ok (.aload_n 0, 1) := by decide +kernel
theorem d_G_dropAtEdge_97 : decode b_G_dropAtEdge 97 = .ok (.getfield 24, 3) := by decide +kernel
theorem d_G_dropAtEdge_100 : decode b_G_dropAtEdge 100 = .ok (.iload_n 1, 1) := by decide +kernel
theorem d_G_dropAtEdge_101 : decode b_G_dropAtEdge 101 = .ok (.aload_n 0, 1) := by decide +kernel
theorem d_G_dropAtEdge_102 : decode b_G_dropAtEdge 102 = .ok (.getfield 24, 3) := by decide +kernel
theorem d_G_dropAtEdge_105 : decode b_G_dropAtEdge 105 = .ok (.iload_n 2, 1) := by decide +kernel
theorem d_G_dropAtEdge_106 : decode b_G_dropAtEdge 106 = .ok (.iaload, 1) := by decide +kernel
theorem d_G_dropAtEdge_107 : decode b_G_dropAtEdge 107 = .ok (.iastore, 1) := by decide +kernel
theorem d_G_dropAtEdge_108 : decode b_G_dropAtEdge 108 = .ok (.aload_n 0, 1) := by decide +kernel
theorem d_G_dropAtEdge_109 : decode b_G_dropAtEdge 109 = .ok (.getfield 27, 3) := by decide +kernel
theorem d_G_dropAtEdge_112 : decode b_G_dropAtEdge 112 = .ok (.iload_n 1, 1) := by decide +kernel
theorem d_G_dropAtEdge_113 : decode b_G_dropAtEdge 113 = .ok (.aload_n 0, 1) := by decide +kernel
theorem d_G_dropAtEdge_114 : decode b_G_dropAtEdge 114 = .ok (.getfield 27, 3) := by decide +kernel
theorem d_G_dropAtEdge_117 : decode b_G_dropAtEdge 117 = .ok (.iload_n 2, 1) := by decide +kernel
theorem d_G_dropAtEdge_118 : decode b_G_dropAtEdge 118 = .ok (.iaload, 1) := by decide +kernel
theorem d_G_dropAtEdge_119 : decode b_G_dropAtEdge 119 = .ok (.iastore, 1) := by decide +kernel
theorem d_G_dropAtEdge_120 : decode b_G_dropAtEdge 120 = .ok (.iinc 1 1, 3) := by decide +kernel
theorem d_G_dropAtEdge_123 : decode b_G_dropAtEdge 123 = .ok (.iinc 2 1, 3) := by decide +kernel
theorem d_G_dropAtEdge_126 : decode b_G_dropAtEdge 126 = .ok (.goto (-122), 3) := by decide +kernel
theorem d_G_dropAtEdge_129 : decode b_G_dropAtEdge 129 = .ok (.aload_n 0, 1) := by decide +kernel
theorem d_G_dropAtEdge_130 : decode b_G_dropAtEdge 130 = .ok (.iload_n 1, 1) := by decide +kernel
theorem d_G_dropAtEdge_131 : decode b_G_dropAtEdge 131 = .ok (.putfield 46, 3) := by decide +kernel
theorem d_G_dropAtEdge_134 : decode b_G_dropAtEdge 134 = .ok (.return_, 1) := by decide +kernel
theorem d_G_wideOf_0 : decode b_G_wideOf 0 = .ok (.aload_n 0, 1) := by decide +kernel
theorem d_G_wideOf_1 : decode b_G_wideOf 1 = .ok (.getfield 21, 3) := by decide +kernel
theorem d_G_wideOf_4 : decode b_G_wideOf 4 = .ok (.iload_n 1, 1) := by decide +kernel
theorem d_G_wideOf_5 : decode b_G_wideOf 5 = .ok (.iaload, 1) := by decide +kernel
theorem d_G_wideOf_6 : decode b_G_wideOf 6 = .ok (.aload_n 0, 1) := by decide +kernel
theorem d_G_wideOf_7 : decode b_G_wideOf 7 = .ok (.getfield 15, 3) := by decide +kernel
theorem d_G_wideOf_10 : decode b_G_wideOf 10 = .ok (.iload_n 1, 1) := by decide +kernel
theorem d_G_wideOf_11 : decode b_G_wideOf 11 = .ok (.iaload, 1) := by decide +kernel
theorem d_G_wideOf_12 : decode b_G_wideOf 12 = .ok (.isub, 1) := by decide +kernel
theorem d_G_wideOf_13 : decode b_G_wideOf 13 = .ok (.iconst 1, 1) := by decide +kernel
theorem d_G_wideOf_14 : decode b_G_wideOf 14 = .ok (.iadd, 1) := by decide +kernel
theorem d_G_wideOf_15 : decode b_G_wideOf 15 = .ok (.ireturn, 1) := by decide +kernel
theorem d_G_highOf_0 : decode b_G_highOf 0 = .ok (.aload_n 0, 1) := by decide +kernel
theorem d_G_highOf_1 : decode b_G_highOf 1 = .ok (.getfield 24, 3) := by decide +kernel
theorem d_G_highOf_4 : decode b_G_highOf 4 = .ok (.iload_n 1, 1) := by decide +kernel
theorem d_G_highOf_5 : decode b_G_highOf 5 = .ok (.iaload, 1) := by decide +kernel
theorem d_G_highOf_6 : decode b_G_highOf 6 = .ok (.aload_n 0, 1) := by decide +kernel
theorem d_G_highOf_7 : decode b_G_highOf 7 = .ok (.getfield 18, 3) := by decide +kernel
theorem d_G_highOf_10 : decode b_G_highOf 10 = .ok (.iload_n 1, 1) := by decide +kernel
theorem d_G_highOf_11 : decode b_G_highOf 11 = .ok (.iaload, 1) := by decide +kernel
theorem d_G_highOf_12 : decode b_G_highOf 12 = .ok (.isub, 1) := by decide +kernel
theorem d_G_highOf_13 : decode b_G_highOf 13 = .ok (.iconst 1, 1) := by decide +kernel
theorem d_G_highOf_14 : decode b_G_highOf 14 = .ok (.iadd, 1) := by decide +kernel
theorem d_G_highOf_15 : decode b_G_highOf 15 = .ok (.ireturn, 1) := by decide +kernel
theorem d_G_boxOf_0 : decode b_G_boxOf 0 = .ok (.iload_n 2, 1) := by decide +kernel
theorem d_G_boxOf_1 : decode b_G_boxOf 1 = .ok (.tableswitch 47 0 2 #[27, 34, 41], 27) := by decide +kernel
theorem d_G_boxOf_28 : decode b_G_boxOf 28 = .ok (.aload_n 0, 1) := by decide +kernel
theorem d_G_boxOf_29 : decode b_G_boxOf 29 = .ok (.getfield 15, 3) := by decide +kernel
theorem d_G_boxOf_32 : decode b_G_boxOf 32 = .ok (.iload_n 1, 1) := by decide +kernel
theorem d_G_boxOf_33 : decode b_G_boxOf 33 = .ok (.iaload, 1) := by decide +kernel
theorem d_G_boxOf_34 : decode b_G_boxOf 34 = .ok (.ireturn, 1) := by decide +kernel
theorem d_G_boxOf_35 : decode b_G_boxOf 35 = .ok (.aload_n 0, 1) := by decide +kernel
theorem d_G_boxOf_36 : decode b_G_boxOf 36 = .ok (.getfield 18, 3) := by decide +kernel
theorem d_G_boxOf_39 : decode b_G_boxOf 39 = .ok (.iload_n 1, 1) := by decide +kernel
theorem d_G_boxOf_40 : decode b_G_boxOf 40 = .ok (.iaload, 1) := by decide +kernel
theorem d_G_boxOf_41 : decode b_G_boxOf 41 = .ok (.ireturn, 1) := by decide +kernel
theorem d_G_boxOf_42 : decode b_G_boxOf 42 = .ok (.aload_n 0, 1) := by decide +kernel
theorem d_G_boxOf_43 : decode b_G_boxOf 43 = .ok (.iload_n 1, 1) := by decide +kernel
theorem d_G_boxOf_44 : decode b_G_boxOf 44 = .ok (.invokevirtual 73, 3) := by decide +kernel
theorem d_G_boxOf_47 : decode b_G_boxOf 47 = .ok (.ireturn, 1) := by decide +kernel
theorem d_G_boxOf_48 : decode b_G_boxOf 48 = .ok (.aload_n 0, 1) := by decide +kernel
theorem d_G_boxOf_49 : decode b_G_boxOf 49 = .ok (.iload_n 1, 1) := by decide +kernel
theorem d_G_boxOf_50 : decode b_G_boxOf 50 = .ok (.invokevirtual 77, 3) := by decide +kernel
theorem d_G_boxOf_53 : decode b_G_boxOf 53 = .ok (.ireturn, 1) := by decide +kernel
theorem d_C_init_0 : decode b_C_init 0 = .ok (.aload_n 0, 1) := by decide +kernel
theorem d_C_init_1 : decode b_C_init 1 = .ok (.invokespecial 3, 3) := by decide +kernel
theorem d_C_init_4 : decode b_C_init 4 = .ok (.aload_n 0, 1) := by decide +kernel
theorem d_C_init_5 : decode b_C_init 5 = .ok (.bipush 6, 2) := by decide +kernel
theorem d_C_init_7 : decode b_C_init 7 = .ok (.newarray .int, 2) := by decide +kernel
theorem d_C_init_9 : decode b_C_init 9 = .ok (.putfield 9, 3) := by decide +kernel
theorem d_C_init_12 : decode b_C_init 12 = .ok (.aload_n 0, 1) := by decide +kernel
theorem d_C_init_13 : decode b_C_init 13 = .ok (.bipush 6, 2) := by decide +kernel
theorem d_C_init_15 : decode b_C_init 15 = .ok (.newarray .int, 2) := by decide +kernel
theorem d_C_init_17 : decode b_C_init 17 = .ok (.putfield 15, 3) := by decide +kernel
theorem d_C_init_20 : decode b_C_init 20 = .ok (.aload_n 0, 1) := by decide +kernel
theorem d_C_init_21 : decode b_C_init 21 = .ok (.bipush 6, 2) := by decide +kernel
theorem d_C_init_23 : decode b_C_init 23 = .ok (.newarray .int, 2) := by decide +kernel
theorem d_C_init_25 : decode b_C_init 25 = .ok (.putfield 18, 3) := by decide +kernel
theorem d_C_init_28 : decode b_C_init 28 = .ok (.aload_n 0, 1) := by decide +kernel
theorem d_C_init_29 : decode b_C_init 29 = .ok (.bipush 6, 2) := by decide +kernel
theorem d_C_init_31 : decode b_C_init 31 = .ok (.newarray .int, 2) := by decide +kernel
theorem d_C_init_33 : decode b_C_init 33 = .ok (.putfield 21, 3) := by decide +kernel
theorem d_C_init_36 : decode b_C_init 36 = .ok (.aload_n 0, 1) := by decide +kernel
theorem d_C_init_37 : decode b_C_init 37 = .ok (.sipush 576, 3) := by decide +kernel
theorem d_C_init_40 : decode b_C_init 40 = .ok (.newarray .int, 2) := by decide +kernel
theorem d_C_init_42 : decode b_C_init 42 = .ok (.putfield 24, 3) := by decide +kernel
theorem d_C_init_45 : decode b_C_init 45 = .ok (.aload_n 0, 1) := by decide +kernel
theorem d_C_init_46 : decode b_C_init 46 = .ok (.iload_n 1, 1) := by decide +kernel
theorem d_C_init_47 : decode b_C_init 47 = .ok (.putfield 27, 3) := by decide +kernel
theorem d_C_init_50 : decode b_C_init 50 = .ok (.aload_n 0, 1) := by decide +kernel
theorem d_C_init_51 : decode b_C_init 51 = .ok (.iload_n 2, 1) := by decide +kernel
theorem d_C_init_52 : decode b_C_init 52 = .ok (.putfield 31, 3) := by decide +kernel
theorem d_C_init_55 : decode b_C_init 55 = .ok (.return_, 1) := by decide +kernel
theorem d_C_find_0 : decode b_C_find 0 = .ok (.aload_n 0, 1) := by decide +kernel
theorem d_C_find_1 : decode b_C_find 1 = .ok (.aload_n 1, 1) := by decide +kernel
theorem d_C_find_2 : decode b_C_find 2 = .ok (.invokevirtual 34, 3) := by decide +kernel
theorem d_C_find_5 : decode b_C_find 5 = .ok (.aload_n 0, 1) := by decide +kernel
theorem d_C_find_6 : decode b_C_find 6 = .ok (.iconst 0, 1) := by decide +kernel
theorem d_C_find_7 : decode b_C_find 7 = .ok (.putfield 38, 3) := by decide +kernel
theorem d_C_find_10 : decode b_C_find 10 = .ok (.iconst 0, 1) := by decide +kernel
theorem d_C_find_11 : decode b_C_find 11 = .ok (.istore_n 2, 1) := by decide +kernel
theorem d_C_find_12 : decode b_C_find 12 = .ok (.iload_n 2, 1) := by decide +kernel
theorem d_C_find_13 : decode b_C_find 13 = .ok (.bipush 6, 2) := by decide +kernel
theorem d_C_find_15 : decode b_C_find 15 = .ok (.if_icmp .ge 38, 3) := by decide +kernel
theorem d_C_find_18 : decode b_C_find 18 = .ok (.aload_n 0, 1) := by decide +kernel
theorem d_C_find_19 : decode b_C_find 19 = .ok (.iload_n 2, 1) := by decide +kernel
theorem d_C_find_20 : decode b_C_find 20 = .ok (.invokevirtual 41, 3) := by decide +kernel
theorem d_C_find_23 : decode b_C_find 23 = .ok (.aload_n 0, 1) := by decide +kernel
theorem d_C_find_24 : decode b_C_find 24 = .ok (.getfield 45, 3) := by decide +kernel
theorem d_C_find_27 : decode b_C_find 27 = .ok (.iconst 4, 1) := by decide +kernel
theorem d_C_find_28 : decode b_C_find 28 = .ok (.if_icmp .ge 4, 3) := by decide +kernel
theorem d_C_find_31 : decode b_C_find 31 = .ok (.return_, 1) := by decide +kernel
theorem d_C_find_32 : decode b_C_find 32 = .ok (.aload_n 0, 1) := by decide +kernel
theorem d_C_find_33 : decode b_C_find 33 = .ok (.iload_n 2, 1) := by decide +kernel
theorem d_C_find_34 : decode b_C_find 34 = .ok (.invokevirtual 48, 3) := by decide +kernel
theorem d_C_find_37 : decode b_C_find 37 = .ok (.aload_n 0, 1) := by decide +kernel
theorem d_C_find_38 : decode b_C_find 38 = .ok (.dup, 1) := by decide +kernel
theorem d_C_find_39 : decode b_C_find 39 = .ok (.getfield 38, 3) := by decide +kernel
theorem d_C_find_42 : decode b_C_find 42 = .ok (.iconst 1, 1) := by decide +kernel
theorem d_C_find_43 : decode b_C_find 43 = .ok (.iadd, 1) := by decide +kernel
theorem d_C_find_44 : decode b_C_find 44 = .ok (.putfield 38, 3) := by decide +kernel
theorem d_C_find_47 : decode b_C_find 47 = .ok (.iinc 2 1, 3) := by decide +kernel
theorem d_C_find_50 : decode b_C_find 50 = .ok (.goto (-38), 3) := by decide +kernel
theorem d_C_find_53 : decode b_C_find 53 = .ok (.return_, 1) := by decide +kernel
theorem d_C_measure_0 : decode b_C_measure 0 = .ok (.iconst 0, 1) := by decide +kernel
theorem d_C_measure_1 : decode b_C_measure 1 = .ok (.istore_n 2, 1) := by decide +kernel
theorem d_C_measure_2 : decode b_C_measure 2 = .ok (.iload_n 2, 1) := by decide +kernel
theorem d_C_measure_3 : decode b_C_measure 3 = .ok (.aload_n 0, 1) := by decide +kernel
theorem d_C_measure_4 : decode b_C_measure 4 = .ok (.getfield 31, 3) := by decide +kernel
theorem d_C_measure_7 : decode b_C_measure 7 = .ok (.if_icmp .ge 62, 3) := by decide +kernel
theorem d_C_measure_10 : decode b_C_measure 10 = .ok (.iconst 0, 1) := by decide +kernel
theorem d_C_measure_11 : decode b_C_measure 11 = .ok (.istore_n 3, 1) := by decide +kernel
theorem d_C_measure_12 : decode b_C_measure 12 = .ok (.aload_n 0, 1) := by decide +kernel
theorem d_C_measure_13 : decode b_C_measure 13 = .ok (.getfield 27, 3) := by decide +kernel
theorem d_C_measure_16 : decode b_C_measure 16 = .ok (.iconst 1, 1) := by decide +kernel
theorem d_C_measure_17 : decode b_C_measure 17 = .ok (.isub, 1) := by decide +kernel
theorem d_C_measure_18 : decode b_C_measure 18 = .ok (.istore 4, 2) := by decide +kernel
theorem d_C_measure_20 : decode b_C_measure 20 = .ok (.iload 4, 2) := by decide +kernel
theorem d_C_measure_22 : decode b_C_measure 22 = .ok (.ifCond .lt 41, 3) := by decide +kernel
theorem d_C_measure_25 : decode b_C_measure 25 = .ok (.iload_n 2, 1) := by decide +kernel
theorem d_C_measure_26 : decode b_C_measure 26 = .ok (.bipush 24, 2) := by decide +kernel
theorem d_C_measure_28 : decode b_C_measure 28 = .ok (.imul, 1) := by decide +kernel
theorem d_C_measure_29 : decode b_C_measure 29 = .ok (.iload 4, 2) := by decide +kernel
theorem d_C_measure_31 : decode b_C_measure 31 = .ok (.iadd, 1) := by decide +kernel
theorem d_C_measure_32 : decode b_C_measure 32 = .ok (.istore 5, 2) := by decide +kernel
theorem d_C_measure_34 : decode b_C_measure 34 = .ok (.aload_n 1, 1) := by decide +kernel
theorem d_C_measure_35 : decode b_C_measure 35 = .ok (.iload 5, 2) := by decide +kernel
theorem d_C_measure_37 : decode b_C_measure 37 = .ok (.baload, 1) := by decide +kernel
theorem d_C_measure_38 : decode b_C_measure 38 = .ok (.ifCond .eq 7, 3) := by decide +kernel
theorem d_C_measure_41 : decode b_C_measure 41 = .ok (.iconst 0, 1) := by decide +kernel
theorem d_C_measure_42 : decode b_C_measure 42 = .ok (.goto 6, 3) := by decide +kernel
theorem d_C_measure_45 : decode b_C_measure 45 = .ok (.iload_n 3, 1) := by decide +kernel
theorem d_C_measure_46 : decode b_C_measure 46 = .ok (.iconst 1, 1) := by decide +kernel
theorem d_C_measure_47 : decode b_C_measure 47 = .ok (.iadd, 1) := by decide +kernel
theorem d_C_measure_48 : decode b_C_measure 48 = .ok (.istore_n 3, 1) := by decide +kernel
theorem d_C_measure_49 : decode b_C_measure 49 = .ok (.aload_n 0, 1) := by decide +kernel
theorem d_C_measure_50 : decode b_C_measure 50 = .ok (.getfield 24, 3) := by decide +kernel
theorem d_C_measure_53 : decode b_C_measure 53 = .ok (.iload 5, 2) := by decide +kernel
theorem d_C_measure_55 : decode b_C_measure 55 = .ok (.iload_n 3, 1) := by decide +kernel
theorem d_C_measure_56 : decode b_C_measure 56 = .ok (.iastore, 1) := by decide +kernel
theorem d_C_measure_57 : decode b_C_measure 57 = .ok (.iinc 4 (-1), 3) := by decide +kernel
theorem d_C_measure_60 : decode b_C_measure 60 = .ok (.goto (-40), 3) := by decide +kernel
theorem d_C_measure_63 : decode b_C_measure 63 = .ok (.iinc 2 1, 3) := by decide +kernel
theorem d_C_measure_66 : decode b_C_measure 66 = .ok (.goto (-64), 3) := by decide +kernel
theorem d_C_measure_69 : decode b_C_measure 69 = .ok (.return_, 1) := by decide +kernel
theorem d_C_findGreatest_0 : decode b_C_findGreatest 0 = .ok (.aload_n 0, 1) := by decide +kernel
theorem d_C_findGreatest_1 : decode b_C_findGreatest 1 = .ok (.iconst 0, 1) := by decide +kernel
theorem d_C_findGreatest_2 : decode b_C_findGreatest 2 = .ok (.putfield 45, 3) := by decide +kernel
theorem d_C_findGreatest_5 : decode b_C_findGreatest 5 = .ok (.iconst 0, 1) := by decide +kernel
theorem d_C_findGreatest_6 : decode b_C_findGreatest 6 = .ok (.istore_n 2, 1) := by decide +kernel
theorem d_C_findGreatest_7 : decode b_C_findGreatest 7 = .ok (.iload_n 2, 1) := by decide +kernel
theorem d_C_findGreatest_8 : decode b_C_findGreatest 8 = .ok (.aload_n 0, 1) := by decide +kernel
theorem d_C_findGreatest_9 : decode b_C_findGreatest 9 = .ok (.getfield 31, 3) := by decide +kernel
theorem d_C_findGreatest_12 : decode b_C_findGreatest 12 = .ok (.if_icmp .ge 32, 3) := by decide +kernel
theorem d_C_findGreatest_15 : decode b_C_findGreatest 15 = .ok (.iconst 0, 1) := by decide +kernel
theorem d_C_findGreatest_16 : decode b_C_findGreatest 16 = .ok (.istore_n 3, 1) := by decide +kernel
theorem d_C_findGreatest_17 : decode b_C_findGreatest 17 = .ok (.iload_n 3, 1) := by decide +kernel
theorem d_C_findGreatest_18 : decode b_C_findGreatest 18 = .ok (.aload_n 0, 1) := by decide +kernel
theorem d_C_findGreatest_19 : decode b_C_findGreatest 19 = .ok (.getfield 27, 3) := by decide +kernel
theorem d_C_findGreatest_22 : decode b_C_findGreatest 22 = .ok (.if_icmp .ge 16, 3) := by decide +kernel
theorem d_C_findGreatest_25 : decode b_C_findGreatest 25 = .ok (.aload_n 0, 1) := by decide +kernel
theorem d_C_findGreatest_26 : decode b_C_findGreatest 26 = .ok (.iload_n 1, 1) := by decide +kernel
theorem d_C_findGreatest_27 : decode b_C_findGreatest 27 = .ok (.iload_n 3, 1) := by decide +kernel
theorem d_C_findGreatest_28 : decode b_C_findGreatest 28 = .ok (.iload_n 2, 1) := by decide +kernel
theorem d_C_findGreatest_29 : decode b_C_findGreatest 29 = .ok (.invokevirtual 51, 3) := by decide +kernel
theorem d_C_findGreatest_32 : decode b_C_findGreatest 32 = .ok (.iinc 3 1, 3) := by decide +kernel
theorem d_C_findGreatest_35 : decode b_C_findGreatest 35 = .ok (.goto (-18), 3) := by decide +kernel
theorem d_C_findGreatest_38 : decode b_C_findGreatest 38 = .ok (.iinc 2 1, 3) := by decide +kernel
theorem d_C_findGreatest_41 : decode b_C_findGreatest 41 = .ok (.goto (-34), 3) := by decide +kernel
theorem d_C_findGreatest_44 : decode b_C_findGreatest 44 = .ok (.return_, 1) := by decide +kernel
theorem d_C_growFrom_0 : decode b_C_growFrom 0 = .ok (.aload_n 0, 1) := by decide +kernel
theorem d_C_growFrom_1 : decode b_C_growFrom 1 = .ok (.getfield 27, 3) := by decide +kernel
theorem d_C_growFrom_4 : decode b_C_growFrom 4 = .ok (.iload_n 2, 1) := by decide +kernel
theorem d_C_growFrom_5 : decode b_C_growFrom 5 = .ok (.isub, 1) := by decide +kernel
theorem d_C_growFrom_6 : decode b_C_growFrom 6 = .ok (.istore 4, 2) := by decide +kernel
theorem d_C_growFrom_8 : decode b_C_growFrom 8 = .ok (.iconst 1, 1) := by decide +kernel
theorem d_C_growFrom_9 : decode b_C_growFrom 9 = .ok (.istore 5, 2) := by decide +kernel
theorem d_C_growFrom_11 : decode b_C_growFrom 11 = .ok (.iload 5, 2) := by decide +kernel
theorem d_C_growFrom_13 : decode b_C_growFrom 13 = .ok (.aload_n 0, 1) := by decide +kernel
theorem d_C_growFrom_14 : decode b_C_growFrom 14 = .ok (.getfield 31, 3) := by decide +kernel
theorem d_C_growFrom_17 : decode b_C_growFrom 17 = .ok (.iload_n 3, 1) := by decide +kernel
theorem d_C_growFrom_18 : decode b_C_growFrom 18 = .ok (.isub, 1) := by decide +kernel
theorem d_C_growFrom_19 : decode b_C_growFrom 19 = .ok (.if_icmp .gt 100, 3) := by decide +kernel
theorem d_C_growFrom_22 : decode b_C_growFrom 22 = .ok (.iload 4, 2) := by decide +kernel
theorem d_C_growFrom_24 : decode b_C_growFrom 24 = .ok (.aload_n 0, 1) := by decide +kernel
theorem d_C_growFrom_25 : decode b_C_growFrom 25 = .ok (.getfield 24, 3) := by decide +kernel
theorem d_C_growFrom_28 : decode b_C_growFrom 28 = .ok (.iload_n 3, 1) := by decide +kernel
theorem d_C_growFrom_29 : decode b_C_growFrom 29 = .ok (.iload 5, 2) := by decide +kernel
theorem d_C_growFrom_31 : decode b_C_growFrom 31 = .ok (.iadd, 1) := by decide +kernel
theorem d_C_growFrom_32 : decode b_C_growFrom 32 = .ok (.iconst 1, 1) := by decide +kernel
theorem d_C_growFrom_33 : decode b_C_growFrom 33 = .ok (.isub, 1) := by decide +kernel
theorem d_C_growFrom_34 : decode b_C_growFrom 34 = .ok (.bipush 24, 2) := by decide +kernel
theorem d_C_growFrom_36 : decode b_C_growFrom 36 = .ok (.imul, 1) := by decide +kernel
theorem d_C_growFrom_37 : decode b_C_growFrom 37 = .ok (.iload_n 2, 1) := by decide +kernel
theorem d_C_growFrom_38 : decode b_C_growFrom 38 = .ok (.iadd, 1) := by decide +kernel
theorem d_C_growFrom_39 : decode b_C_growFrom 39 = .ok (.iaload, 1) := by decide +kernel
theorem d_C_growFrom_40 : decode b_C_growFrom 40 = .ok (.invokestatic 55, 3) := by decide +kernel
theorem d_C_growFrom_43 : decode b_C_growFrom 43 = .ok (.istore 4, 2) := by decide +kernel
theorem d_C_growFrom_45 : decode b_C_growFrom 45 = .ok (.iload 4, 2) := by decide +kernel
theorem d_C_growFrom_47 : decode b_C_growFrom 47 = .ok (.aload_n 0, 1) := by decide +kernel
theorem d_C_growFrom_48 : decode b_C_growFrom 48 = .ok (.getfield 31, 3) := by decide +kernel
theorem d_C_growFrom_51 : decode b_C_growFrom 51 = .ok (.iload_n 3, 1) := by decide +kernel
theorem d_C_growFrom_52 : decode b_C_growFrom 52 = .ok (.isub, 1) := by decide +kernel
theorem d_C_growFrom_53 : decode b_C_growFrom 53 = .ok (.imul, 1) := by decide +kernel
theorem d_C_growFrom_54 : decode b_C_growFrom 54 = .ok (.aload_n 0, 1) := by decide +kernel
theorem d_C_growFrom_55 : decode b_C_growFrom 55 = .ok (.getfield 45, 3) := by decide +kernel
theorem d_C_growFrom_58 : decode b_C_growFrom 58 = .ok (.if_icmp .gt 4, 3) := by decide +kernel
theorem d_C_growFrom_61 : decode b_C_growFrom 61 = .ok (.return_, 1) := by decide +kernel
theorem d_C_growFrom_62 : decode b_C_growFrom 62 = .ok (.iload 4, 2) := by decide +kernel
theorem d_C_growFrom_64 : decode b_C_growFrom 64 = .ok (.iload 5, 2) := by decide +kernel
theorem d_C_growFrom_66 : decode b_C_growFrom 66 = .ok (.imul, 1) := by decide +kernel
theorem d_C_growFrom_67 : decode b_C_growFrom 67 = .ok (.aload_n 0, 1) := by decide +kernel
theorem d_C_growFrom_68 : decode b_C_growFrom 68 = .ok (.getfield 45, 3) := by decide +kernel
theorem d_C_growFrom_71 : decode b_C_growFrom 71 = .ok (.if_icmp .le 42, 3) := by decide +kernel
theorem d_C_growFrom_74 : decode b_C_growFrom 74 = .ok (.aload_n 0, 1) := by decide +kernel
theorem d_C_growFrom_75 : decode b_C_growFrom 75 = .ok (.iload 4, 2) := by decide +kernel
theorem d_C_growFrom_77 : decode b_C_growFrom 77 = .ok (.iload 5, 2) := by decide +kernel
theorem d_C_growFrom_79 : decode b_C_growFrom 79 = .ok (.imul, 1) := by decide +kernel
theorem d_C_growFrom_80 : decode b_C_growFrom 80 = .ok (.putfield 45, 3) := by decide +kernel
theorem d_C_growFrom_83 : decode b_C_growFrom 83 = .ok (.aload_n 0, 1) := by decide +kernel
theorem d_C_growFrom_84 : decode b_C_growFrom 84 = .ok (.getfield 9, 3) := by decide +kernel
theorem d_C_growFrom_87 : decode b_C_growFrom 87 = .ok (.iload_n 1, 1) := by decide +kernel
theorem d_C_growFrom_88 : decode b_C_growFrom 88 = .ok (.iload_n 2, 1) := by decide +kernel
theorem d_C_growFrom_89 : decode b_C_growFrom 89 = .ok (.iastore, 1) := by decide +kernel
theorem d_C_growFrom_90 : decode b_C_growFrom 90 = .ok (.aload_n 0, 1) := by decide +kernel
theorem d_C_growFrom_91 : decode b_C_growFrom 91 = .ok (.getfield 15, 3) := by decide +kernel
theorem d_C_growFrom_94 : decode b_C_growFrom 94 = .ok (.iload_n 1, 1) := by decide +kernel
theorem d_C_growFrom_95 : decode b_C_growFrom 95 = .ok (.iload_n 3, 1) := by decide +kernel
theorem d_C_growFrom_96 : decode b_C_growFrom 96 = .ok (.iastore, 1) := by decide +kernel
theorem d_C_growFrom_97 : decode b_C_growFrom 97 = .ok (.aload_n 0, 1) := by decide +kernel
theorem d_C_growFrom_98 : decode b_C_growFrom 98 = .ok (.getfield 18, 3) := by decide +kernel
theorem d_C_growFrom_101 : decode b_C_growFrom 101 = .ok (.iload_n 1, 1) := by decide +kernel
theorem d_C_growFrom_102 : decode b_C_growFrom 102 = .ok (.iload 4, 2) := by decide +kernel
theorem d_C_growFrom_104 : decode b_C_growFrom 104 = .ok (.iastore, 1) := by decide +kernel
theorem d_C_growFrom_105 : decode b_C_growFrom 105 = .ok (.aload_n 0, 1) := by decide +kernel
theorem d_C_growFrom_106 : decode b_C_growFrom 106 = .ok (.getfield 21, 3) := by decide +kernel
theorem d_C_growFrom_109 : decode b_C_growFrom 109 = .ok (.iload_n 1, 1) := by decide +kernel
theorem d_C_growFrom_110 : decode b_C_growFrom 110 = .ok (.iload 5, 2) := by decide +kernel
theorem d_C_growFrom_112 : decode b_C_growFrom 112 = .ok (.iastore, 1) := by decide +kernel
theorem d_C_growFrom_113 : decode b_C_growFrom 113 = .ok (.iinc 5 1, 3) := by decide +kernel
theorem d_C_growFrom_116 : decode b_C_growFrom 116 = .ok (.goto (-105), 3) := by decide +kernel
theorem d_C_growFrom_119 : decode b_C_growFrom 119 = .ok (.return_, 1) := by decide +kernel
theorem d_C_block_0 : decode b_C_block 0 = .ok (.aload_n 0, 1) := by decide +kernel
theorem d_C_block_1 : decode b_C_block 1 = .ok (.getfield 9, 3) := by decide +kernel
theorem d_C_block_4 : decode b_C_block 4 = .ok (.iload_n 1, 1) := by decide +kernel
theorem d_C_block_5 : decode b_C_block 5 = .ok (.iaload, 1) := by decide +kernel
theorem d_C_block_6 : decode b_C_block 6 = .ok (.aload_n 0, 1) := by decide +kernel
theorem d_C_block_7 : decode b_C_block 7 = .ok (.getfield 18, 3) := by decide +kernel
theorem d_C_block_10 : decode b_C_block 10 = .ok (.iload_n 1, 1) := by decide +kernel
theorem d_C_block_11 : decode b_C_block 11 = .ok (.iaload, 1) := by decide +kernel
theorem d_C_block_12 : decode b_C_block 12 = .ok (.iadd, 1) := by decide +kernel
theorem d_C_block_13 : decode b_C_block 13 = .ok (.istore_n 2, 1) := by decide +kernel
theorem d_C_block_14 : decode b_C_block 14 = .ok (.aload_n 0, 1) := by decide +kernel
theorem d_C_block_15 : decode b_C_block 15 = .ok (.getfield 15, 3) := by decide +kernel
theorem d_C_block_18 : decode b_C_block 18 = .ok (.iload_n 1, 1) := by decide +kernel
theorem d_C_block_19 : decode b_C_block 19 = .ok (.iaload, 1) := by decide +kernel
theorem d_C_block_20 : decode b_C_block 20 = .ok (.istore_n 3, 1) := by decide +kernel
theorem d_C_block_21 : decode b_C_block 21 = .ok (.iload_n 3, 1) := by decide +kernel
theorem d_C_block_22 : decode b_C_block 22 = .ok (.aload_n 0, 1) := by decide +kernel
theorem d_C_block_23 : decode b_C_block 23 = .ok (.getfield 15, 3) := by decide +kernel
theorem d_C_block_26 : decode b_C_block 26 = .ok (.iload_n 1, 1) := by decide +kernel
theorem d_C_block_27 : decode b_C_block 27 = .ok (.iaload, 1) := by decide +kernel
theorem d_C_block_28 : decode b_C_block 28 = .ok (.aload_n 0, 1) := by decide +kernel
theorem d_C_block_29 : decode b_C_block 29 = .ok (.getfield 21, 3) := by decide +kernel
theorem d_C_block_32 : decode b_C_block 32 = .ok (.iload_n 1, 1) := by decide +kernel
theorem d_C_block_33 : decode b_C_block 33 = .ok (.iaload, 1) := by decide +kernel
theorem d_C_block_34 : decode b_C_block 34 = .ok (.iadd, 1) := by decide +kernel
theorem d_C_block_35 : decode b_C_block 35 = .ok (.if_icmp .ge 53, 3) := by decide +kernel
theorem d_C_block_38 : decode b_C_block 38 = .ok (.aload_n 0, 1) := by decide +kernel
theorem d_C_block_39 : decode b_C_block 39 = .ok (.getfield 9, 3) := by decide +kernel
theorem d_C_block_42 : decode b_C_block 42 = .ok (.iload_n 1, 1) := by decide +kernel
theorem d_C_block_43 : decode b_C_block 43 = .ok (.iaload, 1) := by decide +kernel
theorem d_C_block_44 : decode b_C_block 44 = .ok (.istore 4, 2) := by decide +kernel
theorem d_C_block_46 : decode b_C_block 46 = .ok (.iload 4, 2) := by decide +kernel
theorem d_C_block_48 : decode b_C_block 48 = .ok (.iload_n 2, 1) := by decide +kernel
theorem d_C_block_49 : decode b_C_block 49 = .ok (.if_icmp .ge 22, 3) := by decide +kernel
theorem d_C_block_52 : decode b_C_block 52 = .ok (.aload_n 0, 1) := by decide +kernel
theorem d_C_block_53 : decode b_C_block 53 = .ok (.getfield 24, 3) := by decide +kernel
theorem d_C_block_56 : decode b_C_block 56 = .ok (.iload_n 3, 1) := by decide +kernel
theorem d_C_block_57 : decode b_C_block 57 = .ok (.bipush 24, 2) := by decide +kernel
theorem d_C_block_59 : decode b_C_block 59 = .ok (.imul, 1) := by decide +kernel
theorem d_C_block_60 : decode b_C_block 60 = .ok (.iload 4, 2) := by decide +kernel
theorem d_C_block_62 : decode b_C_block 62 = .ok (.iadd, 1) := by decide +kernel
theorem d_C_block_63 : decode b_C_block 63 = .ok (.iconst 0, 1) := by decide +kernel
theorem d_C_block_64 : decode b_C_block 64 = .ok (.iastore, 1) := by decide +kernel
theorem d_C_block_65 : decode b_C_block 65 = .ok (.iinc 4 1, 3) := by decide +kernel
theorem d_C_block_68 : decode b_C_block 68 = .ok (.goto (-22), 3) := by decide +kernel
theorem d_C_block_71 : decode b_C_block 71 = .ok (.aload_n 0, 1) := by decide +kernel
theorem d_C_block_72 : decode b_C_block 72 = .ok (.aload_n 0, 1) := by decide +kernel
theorem d_C_block_73 : decode b_C_block 73 = .ok (.getfield 9, 3) := by decide +kernel
theorem d_C_block_76 : decode b_C_block 76 = .ok (.iload_n 1, 1) := by decide +kernel
theorem d_C_block_77 : decode b_C_block 77 = .ok (.iaload, 1) := by decide +kernel
theorem d_C_block_78 : decode b_C_block 78 = .ok (.iload_n 3, 1) := by decide +kernel
theorem d_C_block_79 : decode b_C_block 79 = .ok (.invokevirtual 61, 3) := by decide +kernel
theorem d_C_block_82 : decode b_C_block 82 = .ok (.iinc 3 1, 3) := by decide +kernel
theorem d_C_block_85 : decode b_C_block 85 = .ok (.goto (-64), 3) := by decide +kernel
theorem d_C_block_88 : decode b_C_block 88 = .ok (.return_, 1) := by decide +kernel
theorem d_C_shortenBefore_0 : decode b_C_shortenBefore 0 = .ok (.iload_n 1, 1) := by decide +kernel
theorem d_C_shortenBefore_1 : decode b_C_shortenBefore 1 = .ok (.iconst 1, 1) := by decide +kernel
theorem d_C_shortenBefore_2 : decode b_C_shortenBefore 2 = .ok (.isub, 1) := by decide +kernel
theorem d_C_shortenBefore_3 : decode b_C_shortenBefore 3 = .ok (.istore_n 3, 1) := by decide +kernel
theorem d_C_shortenBefore_4 : decode b_C_shortenBefore 4 = .ok (.iload_n 3, 1) := by decide +kernel
theorem d_C_shortenBefore_5 : decode b_C_shortenBefore 5 = .ok (.ifCond .lt 37, 3) := by decide +kernel
theorem d_C_shortenBefore_8 : decode b_C_shortenBefore 8 = .ok (.iload_n 2, 1) := by decide +kernel
theorem d_C_shortenBefore_9 : decode b_C_shortenBefore 9 = .ok (.bipush 24, 2) := by decide +kernel
theorem d_C_shortenBefore_11 : decode b_C_shortenBefore 11 = .ok (.imul, 1) := by decide +kernel
theorem d_C_shortenBefore_12 : decode b_C_shortenBefore 12 = .ok (.iload_n 3, 1) := by decide +kernel
theorem d_C_shortenBefore_13 : decode b_C_shortenBefore 13 = .ok (.iadd, 1) := by decide +kernel
theorem d_C_shortenBefore_14 : decode b_C_shortenBefore 14 = .ok (.istore 4, 2) := by decide +kernel
theorem d_C_shortenBefore_16 : decode b_C_shortenBefore 16 = .ok (.aload_n 0, 1) := by decide +kernel
theorem d_C_shortenBefore_17 : decode b_C_shortenBefore 17 = .ok (.getfield 24, 3) := by decide +kernel
theorem d_C_shortenBefore_20 : decode b_C_shortenBefore 20 = .ok (.iload 4, 2) := by decide +kernel
theorem d_C_shortenBefore_22 : decode b_C_shortenBefore 22 = .ok (.aload_n 0, 1) := by decide +kernel
theorem d_C_shortenBefore_23 : decode b_C_shortenBefore 23 = .ok (.getfield 24, 3) := by decide +kernel
theorem d_C_shortenBefore_26 : decode b_C_shortenBefore 26 = .ok (.iload 4, 2) := by decide +kernel
theorem d_C_shortenBefore_28 : decode b_C_shortenBefore 28 = .ok (.iaload, 1) := by decide +kernel
theorem d_C_shortenBefore_29 : decode b_C_shortenBefore 29 = .ok (.iload_n 1, 1) := by decide +kernel
theorem d_C_shortenBefore_30 : decode b_C_shortenBefore 30 = .ok (.iload_n 3, 1) := by decide +kernel
theorem d_C_shortenBefore_31 : decode b_C_shortenBefore 31 = .ok (.isub, 1) := by decide +kernel
theorem d_C_shortenBefore_32 : decode b_C_shortenBefore 32 = .ok (.invokestatic 55, 3) := by decide +kernel
theorem d_C_shortenBefore_35 : decode b_C_shortenBefore 35 = .ok (.iastore, 1) := by decide +kernel
theorem d_C_shortenBefore_36 : decode b_C_shortenBefore 36 = .ok (.iinc 3 (-1), 3) := by decide +kernel
theorem d_C_shortenBefore_39 : decode b_C_shortenBefore 39 = .ok (.goto (-35), 3) := by decide +kernel
theorem d_C_shortenBefore_42 : decode b_C_shortenBefore 42 = .ok (.return_, 1) := by decide +kernel
end
section
theorem d_R_init_0 : decode b_R_init 0 = .ok (.aload_n 0, 1) := by decide +kernel
theorem d_R_init_1 : decode b_R_init 1 = .ok (.invokespecial 3, 3) := by decide +kernel
theorem d_R_init_4 : decode b_R_init 4 = .ok (.aload_n 0, 1) := by decide +kernel
theorem d_R_init_5 : decode b_R_init 5 = .ok (.sipush 288, 3) := by decide +kernel
theorem d_R_init_8 : decode b_R_init 8 = .ok (.newarray .int, 2) := by decide +kernel
theorem d_R_init_10 : decode b_R_init 10 = .ok (.putfield 9, 3) := by decide +kernel
theorem d_R_init_13 : decode b_R_init 13 = .ok (.aload_n 0, 1) := by decide +kernel
theorem d_R_init_14 : decode b_R_init 14 = .ok (.sipush 288, 3) := by decide +kernel
theorem d_R_init_17 : decode b_R_init 17 = .ok (.newarray .int, 2) := by decide +kernel
theorem d_R_init_19 : decode b_R_init 19 = .ok (.putfield 15, 3) := by decide +kernel
theorem d_R_init_22 : decode b_R_init 22 = .ok (.aload_n 0, 1) := by decide +kernel
theorem d_R_init_23 : decode b_R_init 23 = .ok (.sipush 288, 3) := by decide +kernel
theorem d_R_init_26 : decode b_R_init 26 = .ok (.newarray .int, 2) := by decide +kernel
theorem d_R_init_28 : decode b_R_init 28 = .ok (.putfield 18, 3) := by decide +kernel
theorem d_R_init_31 : decode b_R_init 31 = .ok (.return_, 1) := by decide +kernel
theorem d_R_arrange_0 : decode b_R_arrange 0 = .ok (.aload_n 0, 1) := by decide +kernel
theorem d_R_arrange_1 : decode b_R_arrange 1 = .ok (.aload_n 1, 1) := by decide +kernel
theorem d_R_arrange_2 : decode b_R_arrange 2 = .ok (.invokevirtual 21, 3) := by decide +kernel
theorem d_R_arrange_5 : decode b_R_arrange 5 = .ok (.iconst 0, 1) := by decide +kernel
theorem d_R_arrange_6 : decode b_R_arrange 6 = .ok (.istore_n 2, 1) := by decide +kernel
theorem d_R_arrange_7 : decode b_R_arrange 7 = .ok (.iconst 0, 1) := by decide +kernel
theorem d_R_arrange_8 : decode b_R_arrange 8 = .ok (.istore_n 3, 1) := by decide +kernel
theorem d_R_arrange_9 : decode b_R_arrange 9 = .ok (.aload_n 0, 1) := by decide +kernel
theorem d_R_arrange_10 : decode b_R_arrange 10 = .ok (.getfield 18, 3) := by decide +kernel
theorem d_R_arrange_13 : decode b_R_arrange 13 = .ok (.iload_n 3, 1) := by decide +kernel
theorem d_R_arrange_14 : decode b_R_arrange 14 = .ok (.aload_n 1, 1) := by decide +kernel
theorem d_R_arrange_15 : decode b_R_arrange 15 = .ok (.getfield 25, 3) := by decide +kernel
theorem d_R_arrange_18 : decode b_R_arrange 18 = .ok (.iastore, 1) := by decide +kernel
theorem d_R_arrange_19 : decode b_R_arrange 19 = .ok (.iconst 0, 1) := by decide +kernel
theorem d_R_arrange_20 : decode b_R_arrange 20 = .ok (.istore 4, 2) := by decide +kernel
theorem d_R_arrange_22 : decode b_R_arrange 22 = .ok (.iload 4, 2) := by decide +kernel
theorem d_R_arrange_24 : decode b_R_arrange 24 = .ok (.sipush 576, 3) := by decide +kernel
theorem d_R_arrange_27 : decode b_R_arrange 27 = .ok (.if_icmp .ge 67, 3) := by decide +kernel
theorem d_R_arrange_30 : decode b_R_arrange 30 = .ok (.iload_n 3, 1) := by decide +kernel
theorem d_R_arrange_31 : decode b_R_arrange 31 = .ok (.ifCond .lt 63, 3) := by decide +kernel
theorem d_R_arrange_34 : decode b_R_arrange 34 = .ok (.aload_n 0, 1) := by decide +kernel
theorem d_R_arrange_35 : decode b_R_arrange 35 = .ok (.getfield 18, 3) := by decide +kernel
theorem d_R_arrange_38 : decode b_R_arrange 38 = .ok (.iload_n 3, 1) := by decide +kernel
theorem d_R_arrange_39 : decode b_R_arrange 39 = .ok (.iaload, 1) := by decide +kernel
theorem d_R_arrange_40 : decode b_R_arrange 40 = .ok (.istore 5, 2) := by decide +kernel
theorem d_R_arrange_42 : decode b_R_arrange 42 = .ok (.aload_n 0, 1) := by decide +kernel
theorem d_R_arrange_43 : decode b_R_arrange 43 = .ok (.aload_n 1, 1) := by decide +kernel
theorem d_R_arrange_44 : decode b_R_arrange 44 = .ok (.iload_n 2, 1) := by decide +kernel
theorem d_R_arrange_45 : decode b_R_arrange 45 = .ok (.iload 5, 2) := by decide +kernel
theorem d_R_arrange_47 : decode b_R_arrange 47 = .ok (.invokevirtual 31, 3) := by decide +kernel
theorem d_R_arrange_50 : decode b_R_arrange 50 = .ok (.ifCond .eq 32, 3) := by decide +kernel
theorem d_R_arrange_53 : decode b_R_arrange 53 = .ok (.iload_n 3, 1) := by decide +kernel
theorem d_R_arrange_54 : decode b_R_arrange 54 = .ok (.iconst 1, 1) := by decide +kernel
theorem d_R_arrange_55 : decode b_R_arrange 55 = .ok (.iadd, 1) := by decide +kernel
theorem d_R_arrange_56 : decode b_R_arrange 56 = .ok (.sipush 288, 3) := by decide +kernel
theorem d_R_arrange_59 : decode b_R_arrange 59 = .ok (.if_icmp .ge 23, 3) := by decide +kernel
theorem d_R_arrange_62 : decode b_R_arrange 62 = .ok (.iinc 3 1, 3) := by decide +kernel
theorem d_R_arrange_65 : decode b_R_arrange 65 = .ok (.aload_n 0, 1) := by decide +kernel
theorem d_R_arrange_66 : decode b_R_arrange 66 = .ok (.getfield 18, 3) := by decide +kernel
theorem d_R_arrange_69 : decode b_R_arrange 69 = .ok (.iload_n 3, 1) := by decide +kernel
theorem d_R_arrange_70 : decode b_R_arrange 70 = .ok (.aload_n 0, 1) := by decide +kernel
theorem d_R_arrange_71 : decode b_R_arrange 71 = .ok (.aload_n 1, 1) := by decide +kernel
theorem d_R_arrange_72 : decode b_R_arrange 72 = .ok (.iload_n 2, 1) := by decide +kernel
theorem d_R_arrange_73 : decode b_R_arrange 73 = .ok (.iload 5, 2) := by decide +kernel
theorem d_R_arrange_75 : decode b_R_arrange 75 = .ok (.invokevirtual 35, 3) := by decide +kernel
theorem d_R_arrange_78 : decode b_R_arrange 78 = .ok (.iastore, 1) := by decide +kernel
theorem d_R_arrange_79 : decode b_R_arrange 79 = .ok (.goto 9, 3) := by decide +kernel
theorem d_R_arrange_82 : decode b_R_arrange 82 = .ok (.iload 5, 2) := by decide +kernel
theorem d_R_arrange_84 : decode b_R_arrange 84 = .ok (.istore_n 2, 1) := by decide +kernel
theorem d_R_arrange_85 : decode b_R_arrange 85 = .ok (.iinc 3 (-1), 3) := by decide +kernel
theorem d_R_arrange_88 : decode b_R_arrange 88 = .ok (.iinc 4 1, 3) := by decide +kernel
theorem d_R_arrange_91 : decode b_R_arrange 91 = .ok (.goto (-69), 3) := by decide +kernel
theorem d_R_arrange_94 : decode b_R_arrange 94 = .ok (.return_, 1) := by decide +kernel
theorem d_R_sortByBoxes_0 : decode b_R_sortByBoxes 0 = .ok (.iconst 0, 1) := by decide +kernel
theorem d_R_sortByBoxes_1 : decode b_R_sortByBoxes 1 = .ok (.istore_n 2, 1) := by decide +kernel
theorem d_R_sortByBoxes_2 : decode b_R_sortByBoxes 2 = .ok (.iload_n 2, 1) := by decide +kernel
theorem d_R_sortByBoxes_3 : decode b_R_sortByBoxes 3 = .ok (.aload_n 1, 1) := by decide +kernel
theorem d_R_sortByBoxes_4 : decode b_R_sortByBoxes 4 = .ok (.getfield 25, 3) := by decide +kernel
theorem d_R_sortByBoxes_7 : decode b_R_sortByBoxes 7 = .ok (.if_icmp .ge 58, 3) := by decide +kernel
theorem d_R_sortByBoxes_10 : decode b_R_sortByBoxes 10 = .ok (.iload_n 2, 1) := by decide +kernel
theorem d_R_sortByBoxes_11 : decode b_R_sortByBoxes 11 = .ok (.istore_n 3, 1) := by decide +kernel
theorem d_R_sortByBoxes_12 : decode b_R_sortByBoxes 12 = .ok (.iload_n 3, 1) := by decide +kernel
theorem d_R_sortByBoxes_13 : decode b_R_sortByBoxes 13 = .ok (.ifCond .le 39, 3) := by decide +kernel
theorem d_R_sortByBoxes_16 : decode b_R_sortByBoxes 16 = .ok (.aload_n 1, 1) := by decide +kernel
theorem d_R_sortByBoxes_17 : decode b_R_sortByBoxes 17 = .ok (.iload_n 2, 1) := by decide +kernel
theorem d_R_sortByBoxes_18 : decode b_R_sortByBoxes 18 = .ok (.aload_n 0, 1) := by decide +kernel
theorem d_R_sortByBoxes_19 : decode b_R_sortByBoxes 19 = .ok (.getfield 9, 3) := by decide +kernel
theorem d_R_sortByBoxes_22 : decode b_R_sortByBoxes 22 = .ok (.iload_n 3, 1) := by decide +kernel
theorem d_R_sortByBoxes_23 : decode b_R_sortByBoxes 23 = .ok (.iconst 1, 1) := by decide +kernel
theorem d_R_sortByBoxes_24 : decode b_R_sortByBoxes 24 = .ok (.isub, 1) := by decide +kernel
theorem d_R_sortByBoxes_25 : decode b_R_sortByBoxes 25 = .ok (.iaload, 1) := by decide +kernel
theorem d_R_sortByBoxes_26 : decode b_R_sortByBoxes 26 = .ok (.invokestatic 39, 3) := by decide +kernel
theorem d_R_sortByBoxes_29 : decode b_R_sortByBoxes 29 = .ok (.ifCond .eq 23, 3) := by decide +kernel
theorem d_R_sortByBoxes_32 : decode b_R_sortByBoxes 32 = .ok (.aload_n 0, 1) := by decide +kernel
theorem d_R_sortByBoxes_33 : decode b_R_sortByBoxes 33 = .ok (.getfield 9, 3) := by decide +kernel
theorem d_R_sortByBoxes_36 : decode b_R_sortByBoxes 36 = .ok (.iload_n 3, 1) := by decide +kernel
theorem d_R_sortByBoxes_37 : decode b_R_sortByBoxes 37 = .ok (.aload_n 0, 1) := by decide +kernel
theorem d_R_sortByBoxes_38 : decode b_R_sortByBoxes 38 = .ok (.getfield 9, 3) := by decide +kernel
theorem d_R_sortByBoxes_41 : decode b_R_sortByBoxes 41 = .ok (.iload_n 3, 1) := by decide +kernel
theorem d_R_sortByBoxes_42 : decode b_R_sortByBoxes 42 = .ok (.iconst 1, 1) := by decide +kernel
theorem d_R_sortByBoxes_43 : decode b_R_sortByBoxes 43 = .ok (.isub, 1) := by decide +kernel
theorem d_R_sortByBoxes_44 : decode b_R_sortByBoxes 44 = .ok (.iaload, 1) := by decide +kernel
theorem d_R_sortByBoxes_45 : decode b_R_sortByBoxes 45 = .ok (.iastore, 1) := by decide +kernel
theorem d_R_sortByBoxes_46 : decode b_R_sortByBoxes 46 = .ok (.iinc 3 (-1), 3) := by decide +kernel
theorem d_R_sortByBoxes_49 : decode b_R_sortByBoxes 49 = .ok (.goto (-37), 3) := by decide +kernel
theorem d_R_sortByBoxes_52 : decode b_R_sortByBoxes 52 = .ok (.aload_n 0, 1) := by decide +kernel
theorem d_R_sortByBoxes_53 : decode b_R_sortByBoxes 53 = .ok (.getfield 9, 3) := by decide +kernel
theorem d_R_sortByBoxes_56 : decode b_R_sortByBoxes 56 = .ok (.iload_n 3, 1) := by decide +kernel
theorem d_R_sortByBoxes_57 : decode b_R_sortByBoxes 57 = .ok (.iload_n 2, 1) := by decide +kernel
theorem d_R_sortByBoxes_58 : decode b_R_sortByBoxes 58 = .ok (.iastore, 1) := by decide +kernel
theorem d_R_sortByBoxes_59 : decode b_R_sortByBoxes 59 = .ok (.iinc 2 1, 3) := by decide +kernel
theorem d_R_sortByBoxes_62 : decode b_R_sortByBoxes 62 = .ok (.goto (-60), 3) := by decide +kernel
theorem d_R_sortByBoxes_65 : decode b_R_sortByBoxes 65 = .ok (.return_, 1) := by decide +kernel
theorem d_R_isBefore_0 : decode b_R_isBefore 0 = .ok (.aload_n 0, 1) := by decide +kernel
theorem d_R_isBefore_1 : decode b_R_isBefore 1 = .ok (.getfield 42, 3) := by decide +kernel
theorem d_R_isBefore_4 : decode b_R_isBefore 4 = .ok (.iload_n 1, 1) := by decide +kernel
theorem d_R_isBefore_5 : decode b_R_isBefore 5 = .ok (.iaload, 1) := by decide +kernel
theorem d_R_isBefore_6 : decode b_R_isBefore 6 = .ok (.aload_n 0, 1) := by decide +kernel
theorem d_R_isBefore_7 : decode b_R_isBefore 7 = .ok (.getfield 42, 3) := by decide +kernel
theorem d_R_isBefore_10 : decode b_R_isBefore 10 = .ok (.iload_n 2, 1) := by decide +kernel
theorem d_R_isBefore_11 : decode b_R_isBefore 11 = .ok (.iaload, 1) := by decide +kernel
theorem d_R_isBefore_12 : decode b_R_isBefore 12 = .ok (.if_icmp .eq 24, 3) := by decide +kernel
theorem d_R_isBefore_15 : decode b_R_isBefore 15 = .ok (.aload_n 0, 1) := by decide +kernel
theorem d_R_isBefore_16 : decode b_R_isBefore 16 = .ok (.getfield 42, 3) := by decide +kernel
theorem d_R_isBefore_19 : decode b_R_isBefore 19 = .ok (.iload_n 1, 1) := by decide +kernel
theorem d_R_isBefore_20 : decode b_R_isBefore 20 = .ok (.iaload, 1) := by decide +kernel
theorem d_R_isBefore_21 : decode b_R_isBefore 21 = .ok (.aload_n 0, 1) := by decide +kernel
theorem d_R_isBefore_22 : decode b_R_isBefore 22 = .ok (.getfield 42, 3) := by decide +kernel
theorem d_R_isBefore_25 : decode b_R_isBefore 25 = .ok (.iload_n 2, 1) := by decide +kernel
theorem d_R_isBefore_26 : decode b_R_isBefore 26 = .ok (.iaload, 1) := by decide +kernel
theorem d_R_isBefore_27 : decode b_R_isBefore 27 = .ok (.if_icmp .ge 7, 3) := by decide +kernel
theorem d_R_isBefore_30 : decode b_R_isBefore 30 = .ok (.iconst 1, 1) := by decide +kernel
theorem d_R_isBefore_31 : decode b_R_isBefore 31 = .ok (.goto 4, 3) := by decide +kernel
theorem d_R_isBefore_34 : decode b_R_isBefore 34 = .ok (.iconst 0, 1) := by decide +kernel
theorem d_R_isBefore_35 : decode b_R_isBefore 35 = .ok (.ireturn, 1) := by decide +kernel
theorem d_R_isBefore_36 : decode b_R_isBefore 36 = .ok (.aload_n 0, 1) := by decide +kernel
theorem d_R_isBefore_37 : decode b_R_isBefore 37 = .ok (.getfield 45, 3) := by decide +kernel
theorem d_R_isBefore_40 : decode b_R_isBefore 40 = .ok (.iload_n 1, 1) := by decide +kernel
theorem d_R_isBefore_41 : decode b_R_isBefore 41 = .ok (.iaload, 1) := by decide +kernel
theorem d_R_isBefore_42 : decode b_R_isBefore 42 = .ok (.aload_n 0, 1) := by decide +kernel
theorem d_R_isBefore_43 : decode b_R_isBefore 43 = .ok (.getfield 45, 3) := by decide +kernel
theorem d_R_isBefore_46 : decode b_R_isBefore 46 = .ok (.iload_n 2, 1) := by decide +kernel
theorem d_R_isBefore_47 : decode b_R_isBefore 47 = .ok (.iaload, 1) := by decide +kernel
theorem d_R_isBefore_48 : decode b_R_isBefore 48 = .ok (.if_icmp .eq 24, 3) := by decide +kernel
theorem d_R_isBefore_51 : decode b_R_isBefore 51 = .ok (.aload_n 0, 1) := by decide +kernel
theorem d_R_isBefore_52 : decode b_R_isBefore 52 = .ok (.getfield 45, 3) := by decide +kernel
theorem d_R_isBefore_55 : decode b_R_isBefore 55 = .ok (.iload_n 1, 1) := by decide +kernel
theorem d_R_isBefore_56 : decode b_R_isBefore 56 = .ok (.iaload, 1) := by decide +kernel
theorem d_R_isBefore_57 : decode b_R_isBefore 57 = .ok (.aload_n 0, 1) := by decide +kernel
theorem d_R_isBefore_58 : decode b_R_isBefore 58 = .ok (.getfield 45, 3) := by decide +kernel
theorem d_R_isBefore_61 : decode b_R_isBefore 61 = .ok (.iload_n 2, 1) := by decide +kernel
theorem d_R_isBefore_62 : decode b_R_isBefore 62 = .ok (.iaload, 1) := by decide +kernel
theorem d_R_isBefore_63 : decode b_R_isBefore 63 = .ok (.if_icmp .ge 7, 3) := by decide +kernel
theorem d_R_isBefore_66 : decode b_R_isBefore 66 = .ok (.iconst 1, 1) := by decide +kernel
theorem d_R_isBefore_67 : decode b_R_isBefore 67 = .ok (.goto 4, 3) := by decide +kernel
theorem d_R_isBefore_70 : decode b_R_isBefore 70 = .ok (.iconst 0, 1) := by decide +kernel
theorem d_R_isBefore_71 : decode b_R_isBefore 71 = .ok (.ireturn, 1) := by decide +kernel
theorem d_R_isBefore_72 : decode b_R_isBefore 72 = .ok (.iload_n 1, 1) := by decide +kernel
theorem d_R_isBefore_73 : decode b_R_isBefore 73 = .ok (.iload_n 2, 1) := by decide +kernel
theorem d_R_isBefore_74 : decode b_R_isBefore 74 = .ok (.if_icmp .ge 7, 3) := by decide +kernel
theorem d_R_isBefore_77 : decode b_R_isBefore 77 = .ok (.iconst 1, 1) := by decide +kernel
theorem d_R_isBefore_78 : decode b_R_isBefore 78 = .ok (.goto 4, 3) := by decide +kernel
theorem d_R_isBefore_81 : decode b_R_isBefore 81 = .ok (.iconst 0, 1) := by decide +kernel
theorem d_R_isBefore_82 : decode b_R_isBefore 82 = .ok (.ireturn, 1) := by decide +kernel
theorem d_R_findCut_0 : decode b_R_findCut 0 = .ok (.aload_n 0, 1) := by decide +kernel
theorem d_R_findCut_1 : decode b_R_findCut 1 = .ok (.iconst (-1), 1) := by decide +kernel
theorem d_R_findCut_2 : decode b_R_findCut 2 = .ok (.putfield 48, 3) := by decide +kernel
theorem d_R_findCut_5 : decode b_R_findCut 5 = .ok (.aload_n 0, 1) := by decide +kernel
theorem d_R_findCut_6 : decode b_R_findCut 6 = .ok (.aload_n 1, 1) := by decide +kernel
theorem d_R_findCut_7 : decode b_R_findCut 7 = .ok (.getfield 45, 3) := by decide +kernel
theorem d_R_findCut_10 : decode b_R_findCut 10 = .ok (.aload_n 1, 1) := by decide +kernel
theorem d_R_findCut_11 : decode b_R_findCut 11 = .ok (.getfield 51, 3) := by decide +kernel
theorem d_R_findCut_14 : decode b_R_findCut 14 = .ok (.iload_n 2, 1) := by decide +kernel
theorem d_R_findCut_15 : decode b_R_findCut 15 = .ok (.iload_n 3, 1) := by decide +kernel
theorem d_R_findCut_16 : decode b_R_findCut 16 = .ok (.iconst 0, 1) := by decide +kernel
theorem d_R_findCut_17 : decode b_R_findCut 17 = .ok (.invokevirtual 54, 3) := by decide +kernel
theorem d_R_findCut_20 : decode b_R_findCut 20 = .ok (.aload_n 0, 1) := by decide +kernel
theorem d_R_findCut_21 : decode b_R_findCut 21 = .ok (.aload_n 1, 1) := by decide +kernel
theorem d_R_findCut_22 : decode b_R_findCut 22 = .ok (.getfield 42, 3) := by decide +kernel
theorem d_R_findCut_25 : decode b_R_findCut 25 = .ok (.aload_n 1, 1) := by decide +kernel
theorem d_R_findCut_26 : decode b_R_findCut 26 = .ok (.getfield 58, 3) := by decide +kernel
theorem d_R_findCut_29 : decode b_R_findCut 29 = .ok (.iload_n 2, 1) := by decide +kernel
theorem d_R_findCut_30 : decode b_R_findCut 30 = .ok (.iload_n 3, 1) := by decide +kernel
theorem d_R_findCut_31 : decode b_R_findCut 31 = .ok (.iconst 1, 1) := by decide +kernel
theorem d_R_findCut_32 : decode b_R_findCut 32 = .ok (.invokevirtual 54, 3) := by decide +kernel
theorem d_R_findCut_35 : decode b_R_findCut 35 = .ok (.aload_n 0, 1) := by decide +kernel
theorem d_R_findCut_36 : decode b_R_findCut 36 = .ok (.getfield 48, 3) := by decide +kernel
theorem d_R_findCut_39 : decode b_R_findCut 39 = .ok (.iconst (-1), 1) := by decide +kernel
theorem d_R_findCut_40 : decode b_R_findCut 40 = .ok (.if_icmp .eq 7, 3) := by decide +kernel
theorem d_R_findCut_43 : decode b_R_findCut 43 = .ok (.iconst 1, 1) := by decide +kernel
theorem d_R_findCut_44 : decode b_R_findCut 44 = .ok (.goto 4, 3) := by decide +kernel
theorem d_R_findCut_47 : decode b_R_findCut 47 = .ok (.iconst 0, 1) := by decide +kernel
theorem d_R_findCut_48 : decode b_R_findCut 48 = .ok (.ireturn, 1) := by decide +kernel
theorem d_R_lookAlong_0 : decode b_R_lookAlong 0 = .ok (.iconst 0, 1) := by decide +kernel
theorem d_R_lookAlong_1 : decode b_R_lookAlong 1 = .ok (.istore 6, 2) := by decide +kernel
theorem d_R_lookAlong_3 : decode b_R_lookAlong 3 = .ok (.iconst 0, 1) := by decide +kernel
theorem d_R_lookAlong_4 : decode b_R_lookAlong 4 = .ok (.istore 7, 2) := by decide +kernel
theorem d_R_lookAlong_6 : decode b_R_lookAlong 6 = .ok (.iload_n 3, 1) := by decide +kernel
theorem d_R_lookAlong_7 : decode b_R_lookAlong 7 = .ok (.istore 8, 2) := by decide +kernel
theorem d_R_lookAlong_9 : decode b_R_lookAlong 9 = .ok (.iload 8, 2) := by decide +kernel
theorem d_R_lookAlong_11 : decode b_R_lookAlong 11 = .ok (.iload 4, 2) := by decide +kernel
theorem d_R_lookAlong_13 : decode b_R_lookAlong 13 = .ok (.if_icmp .ge 52, 3) := by decide +kernel
theorem d_R_lookAlong_16 : decode b_R_lookAlong 16 = .ok (.aload_n 0, 1) := by decide +kernel
theorem d_R_lookAlong_17 : decode b_R_lookAlong 17 = .ok (.getfield 9, 3) := by decide +kernel
theorem d_R_lookAlong_20 : decode b_R_lookAlong 20 = .ok (.iload 8, 2) := by decide +kernel
theorem d_R_lookAlong_22 : decode b_R_lookAlong 22 = .ok (.iaload, 1) := by decide +kernel
theorem d_R_lookAlong_23 : decode b_R_lookAlong 23 = .ok (.istore 9, 2) := by decide +kernel
theorem d_R_lookAlong_25 : decode b_R_lookAlong 25 = .ok (.iload 6, 2) := by decide +kernel
theorem d_R_lookAlong_27 : decode b_R_lookAlong 27 = .ok (.aload_n 1, 1) := by decide +kernel
theorem d_R_lookAlong_28 : decode b_R_lookAlong 28 = .ok (.iload 9, 2) := by decide +kernel
theorem d_R_lookAlong_30 : decode b_R_lookAlong 30 = .ok (.iaload, 1) := by decide +kernel
theorem d_R_lookAlong_31 : decode b_R_lookAlong 31 = .ok (.aload_n 2, 1) := by decide +kernel
theorem d_R_lookAlong_32 : decode b_R_lookAlong 32 = .ok (.iload 9, 2) := by decide +kernel
theorem d_R_lookAlong_34 : decode b_R_lookAlong 34 = .ok (.iaload, 1) := by decide +kernel
theorem d_R_lookAlong_35 : decode b_R_lookAlong 35 = .ok (.invokestatic 61, 3) := by decide +kernel
theorem d_R_lookAlong_38 : decode b_R_lookAlong 38 = .ok (.ior, 1) := by decide +kernel
theorem d_R_lookAlong_39 : decode b_R_lookAlong 39 = .ok (.istore 6, 2) := by decide +kernel
theorem d_R_lookAlong_41 : decode b_R_lookAlong 41 = .ok (.iload 7, 2) := by decide +kernel
theorem d_R_lookAlong_43 : decode b_R_lookAlong 43 = .ok (.aload_n 1, 1) := by decide +kernel
theorem d_R_lookAlong_44 : decode b_R_lookAlong 44 = .ok (.iload 9, 2) := by decide +kernel
theorem d_R_lookAlong_46 : decode b_R_lookAlong 46 = .ok (.iaload, 1) := by decide +kernel
theorem d_R_lookAlong_47 : decode b_R_lookAlong 47 = .ok (.iconst 1, 1) := by decide +kernel
theorem d_R_lookAlong_48 : decode b_R_lookAlong 48 = .ok (.iadd, 1) := by decide +kernel
theorem d_R_lookAlong_49 : decode b_R_lookAlong 49 = .ok (.aload_n 2, 1) := by decide +kernel
theorem d_R_lookAlong_50 : decode b_R_lookAlong 50 = .ok (.iload 9, 2) := by decide +kernel
theorem d_R_lookAlong_52 : decode b_R_lookAlong 52 = .ok (.iaload, 1) := by decide +kernel
theorem d_R_lookAlong_53 : decode b_R_lookAlong 53 = .ok (.invokestatic 61, 3) := by decide +kernel
theorem d_R_lookAlong_56 : decode b_R_lookAlong 56 = .ok (.ior, 1) := by decide +kernel
theorem d_R_lookAlong_57 : decode b_R_lookAlong 57 = .ok (.istore 7, 2) := by decide +kernel
theorem d_R_lookAlong_59 : decode b_R_lookAlong 59 = .ok (.iinc 8 1, 3) := by decide +kernel
theorem d_R_lookAlong_62 : decode b_R_lookAlong 62 = .ok (.goto (-53), 3) := by decide +kernel
theorem d_R_lookAlong_65 : decode b_R_lookAlong 65 = .ok (.iconst (-1), 1) := by decide +kernel
theorem d_R_lookAlong_66 : decode b_R_lookAlong 66 = .ok (.istore 8, 2) := by decide +kernel
theorem d_R_lookAlong_68 : decode b_R_lookAlong 68 = .ok (.iconst 0, 1) := by decide +kernel
theorem d_R_lookAlong_69 : decode b_R_lookAlong 69 = .ok (.istore 9, 2) := by decide +kernel
theorem d_R_lookAlong_71 : decode b_R_lookAlong 71 = .ok (.iload 9, 2) := by decide +kernel
theorem d_R_lookAlong_73 : decode b_R_lookAlong 73 = .ok (.bipush 24, 2) := by decide +kernel
theorem d_R_lookAlong_75 : decode b_R_lookAlong 75 = .ok (.if_icmp .ge 77, 3) := by decide +kernel
theorem d_R_lookAlong_78 : decode b_R_lookAlong 78 = .ok (.iload 6, 2) := by decide +kernel
theorem d_R_lookAlong_80 : decode b_R_lookAlong 80 = .ok (.iload 9, 2) := by decide +kernel
theorem d_R_lookAlong_82 : decode b_R_lookAlong 82 = .ok (.invokestatic 65, 3) := by decide +kernel
theorem d_R_lookAlong_85 : decode b_R_lookAlong 85 = .ok (.ifCond .ne 6, 3) := by decide +kernel
theorem d_R_lookAlong_88 : decode b_R_lookAlong 88 = .ok (.goto 58, 3) := by decide +kernel
theorem d_R_lookAlong_91 : decode b_R_lookAlong 91 = .ok (.iload 8, 2) := by decide +kernel
theorem d_R_lookAlong_93 : decode b_R_lookAlong 93 = .ok (.iconst (-1), 1) := by decide +kernel
theorem d_R_lookAlong_94 : decode b_R_lookAlong 94 = .ok (.if_icmp .eq 46, 3) := by decide +kernel
theorem d_R_lookAlong_97 : decode b_R_lookAlong 97 = .ok (.iload 7, 2) := by decide +kernel
theorem d_R_lookAlong_99 : decode b_R_lookAlong 99 = .ok (.iload 9, 2) := by decide +kernel
theorem d_R_lookAlong_101 : decode b_R_lookAlong 101 = .ok (.invokestatic 65, 3) := by decide +kernel
theorem d_R_lookAlong_104 : decode b_R_lookAlong 104 = .ok (.ifCond .ne 36, 3) := by decide +kernel
theorem d_R_lookAlong_107 : decode b_R_lookAlong 107 = .ok (.iload 9, 2) := by decide +kernel
theorem d_R_lookAlong_109 : decode b_R_lookAlong 109 = .ok (.iload 8, 2) := by decide +kernel
theorem d_R_lookAlong_111 : decode b_R_lookAlong 111 = .ok (.isub, 1) := by decide +kernel
theorem d_R_lookAlong_112 : decode b_R_lookAlong 112 = .ok (.aload_n 0, 1) := by decide +kernel
theorem d_R_lookAlong_113 : decode b_R_lookAlong 113 = .ok (.getfield 48, 3) := by decide +kernel
theorem d_R_lookAlong_116 : decode b_R_lookAlong 116 = .ok (.if_icmp .le 24, 3) := by decide +kernel
theorem d_R_lookAlong_119 : decode b_R_lookAlong 119 = .ok (.aload_n 0, 1) := by decide +kernel
theorem d_R_lookAlong_120 : decode b_R_lookAlong 120 = .ok (.iload 9, 2) := by decide +kernel
theorem d_R_lookAlong_122 : decode b_R_lookAlong 122 = .ok (.iload 8, 2) := by decide +kernel
theorem d_R_lookAlong_124 : decode b_R_lookAlong 124 = .ok (.isub, 1) := by decide +kernel
theorem d_R_lookAlong_125 : decode b_R_lookAlong 125 = .ok (.putfield 48, 3) := by decide +kernel
theorem d_R_lookAlong_128 : decode b_R_lookAlong 128 = .ok (.aload_n 0, 1) := by decide +kernel
theorem d_R_lookAlong_129 : decode b_R_lookAlong 129 = .ok (.iload 9, 2) := by decide +kernel
theorem d_R_lookAlong_131 : decode b_R_lookAlong 131 = .ok (.putfield 69, 3) := by decide +kernel
theorem d_R_lookAlong_134 : decode b_R_lookAlong 134 = .ok (.aload_n 0, 1) := by decide +kernel
theorem d_R_lookAlong_135 : decode b_R_lookAlong 135 = .ok (.iload 5, 2) := by decide +kernel
theorem d_R_lookAlong_137 : decode b_R_lookAlong 137 = .ok (.putfield 72, 3) := by decide +kernel
theorem d_R_lookAlong_140 : decode b_R_lookAlong 140 = .ok (.iload 9, 2) := by decide +kernel
theorem d_R_lookAlong_142 : decode b_R_lookAlong 142 = .ok (.iconst 1, 1) := by decide +kernel
theorem d_R_lookAlong_143 : decode b_R_lookAlong 143 = .ok (.iadd, 1) := by decide +kernel
theorem d_R_lookAlong_144 : decode b_R_lookAlong 144 = .ok (.istore 8, 2) := by decide +kernel
theorem d_R_lookAlong_146 : decode b_R_lookAlong 146 = .ok (.iinc 9 1, 3) := by decide +kernel
theorem d_R_lookAlong_149 : decode b_R_lookAlong 149 = .ok (.goto (-78), 3) := by decide +kernel
theorem d_R_lookAlong_152 : decode b_R_lookAlong 152 = .ok (.return_, 1) := by decide +kernel
theorem d_R_bits_0 : decode b_R_bits 0 = .ok (.iconst 1, 1) := by decide +kernel
theorem d_R_bits_1 : decode b_R_bits 1 = .ok (.iload_n 1, 1) := by decide +kernel
theorem d_R_bits_2 : decode b_R_bits 2 = .ok (.iconst 1, 1) := by decide +kernel
theorem d_R_bits_3 : decode b_R_bits 3 = .ok (.iadd, 1) := by decide +kernel
theorem d_R_bits_4 : decode b_R_bits 4 = .ok (.ishl, 1) := by decide +kernel
theorem d_R_bits_5 : decode b_R_bits 5 = .ok (.iconst 1, 1) := by decide +kernel
theorem d_R_bits_6 : decode b_R_bits 6 = .ok (.iload_n 0, 1) := by decide +kernel
theorem d_R_bits_7 : decode b_R_bits 7 = .ok (.ishl, 1) := by decide +kernel
theorem d_R_bits_8 : decode b_R_bits 8 = .ok (.isub, 1) := by decide +kernel
theorem d_R_bits_9 : decode b_R_bits 9 = .ok (.ireturn, 1) := by decide +kernel
theorem d_R_hasBit_0 : decode b_R_hasBit 0 = .ok (.iload_n 0, 1) := by decide +kernel
theorem d_R_hasBit_1 : decode b_R_hasBit 1 = .ok (.iload_n 1, 1) := by decide +kernel
theorem d_R_hasBit_2 : decode b_R_hasBit 2 = .ok (.ishr, 1) := by decide +kernel
theorem d_R_hasBit_3 : decode b_R_hasBit 3 = .ok (.iconst 1, 1) := by decide +kernel
theorem d_R_hasBit_4 : decode b_R_hasBit 4 = .ok (.iand, 1) := by decide +kernel
theorem d_R_hasBit_5 : decode b_R_hasBit 5 = .ok (.ifCond .eq 7, 3) := by decide +kernel
theorem d_R_hasBit_8 : decode b_R_hasBit 8 = .ok (.iconst 1, 1) := by decide +kernel
theorem d_R_hasBit_9 : decode b_R_hasBit 9 = .ok (.goto 4, 3) := by decide +kernel
theorem d_R_hasBit_12 : decode b_R_hasBit 12 = .ok (.iconst 0, 1) := by decide +kernel
theorem d_R_hasBit_13 : decode b_R_hasBit 13 = .ok (.ireturn, 1) := by decide +kernel
theorem d_R_divide_0 : decode b_R_divide 0 = .ok (.aload_n 0, 1) := by decide +kernel
theorem d_R_divide_1 : decode b_R_divide 1 = .ok (.getfield 72, 3) := by decide +kernel
theorem d_R_divide_4 : decode b_R_divide 4 = .ok (.ifCond .eq 10, 3) := by decide +kernel
theorem d_R_divide_7 : decode b_R_divide 7 = .ok (.aload_n 1, 1) := by decide +kernel
theorem d_R_divide_8 : decode b_R_divide 8 = .ok (.getfield 58, 3) := by decide +kernel
theorem d_R_divide_11 : decode b_R_divide 11 = .ok (.goto 7, 3) := by decide +kernel
theorem d_R_divide_14 : decode b_R_divide 14 = .ok (.aload_n 1, 1) := by decide +kernel
theorem d_R_divide_15 : decode b_R_divide 15 = .ok (.getfield 51, 3) := by decide +kernel
theorem d_R_divide_18 : decode b_R_divide 18 = .ok (.astore 4, 2) := by decide +kernel
theorem d_R_divide_20 : decode b_R_divide 20 = .ok (.iload_n 2, 1) := by decide +kernel
theorem d_R_divide_21 : decode b_R_divide 21 = .ok (.istore 5, 2) := by decide +kernel
theorem d_R_divide_23 : decode b_R_divide 23 = .ok (.iconst 0, 1) := by decide +kernel
theorem d_R_divide_24 : decode b_R_divide 24 = .ok (.istore 6, 2) := by decide +kernel
theorem d_R_divide_26 : decode b_R_divide 26 = .ok (.iload_n 2, 1) := by decide +kernel
theorem d_R_divide_27 : decode b_R_divide 27 = .ok (.istore 7, 2) := by decide +kernel
theorem d_R_divide_29 : decode b_R_divide 29 = .ok (.iload 7, 2) := by decide +kernel
theorem d_R_divide_31 : decode b_R_divide 31 = .ok (.iload_n 3, 1) := by decide +kernel
theorem d_R_divide_32 : decode b_R_divide 32 = .ok (.if_icmp .ge 57, 3) := by decide +kernel
theorem d_R_divide_35 : decode b_R_divide 35 = .ok (.aload_n 0, 1) := by decide +kernel
theorem d_R_divide_36 : decode b_R_divide 36 = .ok (.getfield 9, 3) := by decide +kernel
theorem d_R_divide_39 : decode b_R_divide 39 = .ok (.iload 7, 2) := by decide +kernel
theorem d_R_divide_41 : decode b_R_divide 41 = .ok (.iaload, 1) := by decide +kernel
theorem d_R_divide_42 : decode b_R_divide 42 = .ok (.istore 8, 2) := by decide +kernel
theorem d_R_divide_44 : decode b_R_divide 44 = .ok (.aload 4, 2) := by decide +kernel
theorem d_R_divide_46 : decode b_R_divide 46 = .ok (.iload 8, 2) := by decide +kernel
theorem d_R_divide_48 : decode b_R_divide 48 = .ok (.iaload, 1) := by decide +kernel
theorem d_R_divide_49 : decode b_R_divide 49 = .ok (.aload_n 0, 1) := by decide +kernel
theorem d_R_divide_50 : decode b_R_divide 50 = .ok (.getfield 69, 3) := by decide +kernel
theorem d_R_divide_53 : decode b_R_divide 53 = .ok (.if_icmp .ge 18, 3) := by decide +kernel
theorem d_R_divide_56 : decode b_R_divide 56 = .ok (.aload_n 0, 1) := by decide +kernel
theorem d_R_divide_57 : decode b_R_divide 57 = .ok (.getfield 9, 3) := by decide +kernel
theorem d_R_divide_60 : decode b_R_divide 60 = .ok (.iload 5, 2) := by decide +kernel
theorem d_R_divide_62 : decode b_R_divide 62 = .ok (.iload 8, 2) := by decide +kernel
theorem d_R_divide_64 : decode b_R_divide 64 = .ok (.iastore, 1) := by decide +kernel
theorem d_R_divide_65 : decode b_R_divide 65 = .ok (.iinc 5 1, 3) := by decide +kernel
theorem d_R_divide_68 : decode b_R_divide 68 = .ok (.goto 15, 3) := by decide +kernel
theorem d_R_divide_71 : decode b_R_divide 71 = .ok (.aload_n 0, 1) := by decide +kernel
theorem d_R_divide_72 : decode b_R_divide 72 = .ok (.getfield 15, 3) := by decide +kernel
theorem d_R_divide_75 : decode b_R_divide 75 = .ok (.iload 6, 2) := by decide +kernel
theorem d_R_divide_77 : decode b_R_divide 77 = .ok (.iload 8, 2) := by decide +kernel
theorem d_R_divide_79 : decode b_R_divide 79 = .ok (.iastore, 1) := by decide +kernel
theorem d_R_divide_80 : decode b_R_divide 80 = .ok (.iinc 6 1, 3) := by decide +kernel
theorem d_R_divide_83 : decode b_R_divide 83 = .ok (.iinc 7 1, 3) := by decide +kernel
theorem d_R_divide_86 : decode b_R_divide 86 = .ok (.goto (-57), 3) := by decide +kernel
theorem d_R_divide_89 : decode b_R_divide 89 = .ok (.aload_n 0, 1) := by decide +kernel
theorem d_R_divide_90 : decode b_R_divide 90 = .ok (.getfield 15, 3) := by decide +kernel
theorem d_R_divide_93 : decode b_R_divide 93 = .ok (.iconst 0, 1) := by decide +kernel
theorem d_R_divide_94 : decode b_R_divide 94 = .ok (.aload_n 0, 1) := by decide +kernel
theorem d_R_divide_95 : decode b_R_divide 95 = .ok (.getfield 9, 3) := by decide +kernel
theorem d_R_divide_98 : decode b_R_divide 98 = .ok (.iload 5, 2) := by decide +kernel
theorem d_R_divide_100 : decode b_R_divide 100 = .ok (.iload 6, 2) := by decide +kernel
theorem d_R_divide_102 : decode b_R_divide 102 = .ok (.invokestatic 76, 3) := by decide +kernel
theorem d_R_divide_105 : decode b_R_divide 105 = .ok (.iload 5, 2) := by decide +kernel
theorem d_R_divide_107 : decode b_R_divide 107 = .ok (.ireturn, 1) := by decide +kernel
theorem d_P_init_0 : decode b_P_init 0 = .ok (.aload_n 0, 1) := by decide +kernel
theorem d_P_init_1 : decode b_P_init 1 = .ok (.invokespecial 3, 3) := by decide +kernel
theorem d_P_init_4 : decode b_P_init 4 = .ok (.aload_n 0, 1) := by decide +kernel
theorem d_P_init_5 : decode b_P_init 5 = .ok (.sipush 576, 3) := by decide +kernel
theorem d_P_init_8 : decode b_P_init 8 = .ok (.newarray .boolean, 2) := by decide +kernel
theorem d_P_init_10 : decode b_P_init 10 = .ok (.putfield 9, 3) := by decide +kernel
theorem d_P_init_13 : decode b_P_init 13 = .ok (.aload_n 0, 1) := by decide +kernel
theorem d_P_init_14 : decode b_P_init 14 = .ok (.sipush 576, 3) := by decide +kernel
theorem d_P_init_17 : decode b_P_init 17 = .ok (.newarray .boolean, 2) := by decide +kernel
theorem d_P_init_19 : decode b_P_init 19 = .ok (.putfield 13, 3) := by decide +kernel
theorem d_P_init_22 : decode b_P_init 22 = .ok (.aload_n 0, 1) := by decide +kernel
theorem d_P_init_23 : decode b_P_init 23 = .ok (.sipush 576, 3) := by decide +kernel
theorem d_P_init_26 : decode b_P_init 26 = .ok (.newarray .boolean, 2) := by decide +kernel
theorem d_P_init_28 : decode b_P_init 28 = .ok (.putfield 16, 3) := by decide +kernel
theorem d_P_init_31 : decode b_P_init 31 = .ok (.aload_n 0, 1) := by decide +kernel
theorem d_P_init_32 : decode b_P_init 32 = .ok (.bipush 24, 2) := by decide +kernel
theorem d_P_init_34 : decode b_P_init 34 = .ok (.newarray .int, 2) := by decide +kernel
theorem d_P_init_36 : decode b_P_init 36 = .ok (.putfield 19, 3) := by decide +kernel
theorem d_P_init_39 : decode b_P_init 39 = .ok (.aload_n 0, 1) := by decide +kernel
theorem d_P_init_40 : decode b_P_init 40 = .ok (.iload_n 1, 1) := by decide +kernel
theorem d_P_init_41 : decode b_P_init 41 = .ok (.invokestatic 23, 3) := by decide +kernel
theorem d_P_init_44 : decode b_P_init 44 = .ok (.putfield 27, 3) := by decide +kernel
theorem d_P_init_47 : decode b_P_init 47 = .ok (.aload_n 0, 1) := by decide +kernel
theorem d_P_init_48 : decode b_P_init 48 = .ok (.iload_n 2, 1) := by decide +kernel
theorem d_P_init_49 : decode b_P_init 49 = .ok (.invokestatic 23, 3) := by decide +kernel
theorem d_P_init_52 : decode b_P_init 52 = .ok (.putfield 31, 3) := by decide +kernel
theorem d_P_init_55 : decode b_P_init 55 = .ok (.aload_n 0, 1) := by decide +kernel
theorem d_P_init_56 : decode b_P_init 56 = .ok (.new 34, 3) := by decide +kernel
theorem d_P_init_59 : decode b_P_init 59 = .ok (.dup, 1) := by decide +kernel
theorem d_P_init_60 : decode b_P_init 60 = .ok (.aload_n 0, 1) := by decide +kernel
theorem d_P_init_61 : decode b_P_init 61 = .ok (.getfield 27, 3) := by decide +kernel
theorem d_P_init_64 : decode b_P_init 64 = .ok (.aload_n 0, 1) := by decide +kernel
theorem d_P_init_65 : decode b_P_init 65 = .ok (.getfield 31, 3) := by decide +kernel
theorem d_P_init_68 : decode b_P_init 68 = .ok (.invokespecial 36, 3) := by decide +kernel
theorem d_P_init_71 : decode b_P_init 71 = .ok (.putfield 39, 3) := by decide +kernel
theorem d_P_init_74 : decode b_P_init 74 = .ok (.aload_n 0, 1) := by decide +kernel
theorem d_P_init_75 : decode b_P_init 75 = .ok (.new 34, 3) := by decide +kernel
theorem d_P_init_78 : decode b_P_init 78 = .ok (.dup, 1) := by decide +kernel
theorem d_P_init_79 : decode b_P_init 79 = .ok (.aload_n 0, 1) := by decide +kernel
theorem d_P_init_80 : decode b_P_init 80 = .ok (.getfield 27, 3) := by decide +kernel
theorem d_P_init_83 : decode b_P_init 83 = .ok (.aload_n 0, 1) := by decide +kernel
theorem d_P_init_84 : decode b_P_init 84 = .ok (.getfield 31, 3) := by decide +kernel
theorem d_P_init_87 : decode b_P_init 87 = .ok (.invokespecial 36, 3) := by decide +kernel
theorem d_P_init_90 : decode b_P_init 90 = .ok (.putfield 43, 3) := by decide +kernel
theorem d_P_init_93 : decode b_P_init 93 = .ok (.aload_n 0, 1) := by decide +kernel
theorem d_P_init_94 : decode b_P_init 94 = .ok (.new 46, 3) := by decide +kernel
theorem d_P_init_97 : decode b_P_init 97 = .ok (.dup, 1) := by decide +kernel
theorem d_P_init_98 : decode b_P_init 98 = .ok (.aload_n 0, 1) := by decide +kernel
theorem d_P_init_99 : decode b_P_init 99 = .ok (.getfield 27, 3) := by decide +kernel
theorem d_P_init_102 : decode b_P_init 102 = .ok (.aload_n 0, 1) := by decide +kernel
theorem d_P_init_103 : decode b_P_init 103 = .ok (.getfield 31, 3) := by decide +kernel
theorem d_P_init_106 : decode b_P_init 106 = .ok (.invokespecial 48, 3) := by decide +kernel
theorem d_P_init_109 : decode b_P_init 109 = .ok (.putfield 49, 3) := by decide +kernel
theorem d_P_init_112 : decode b_P_init 112 = .ok (.aload_n 0, 1) := by decide +kernel
theorem d_P_init_113 : decode b_P_init 113 = .ok (.new 53, 3) := by decide +kernel
theorem d_P_init_116 : decode b_P_init 116 = .ok (.dup, 1) := by decide +kernel
theorem d_P_init_117 : decode b_P_init 117 = .ok (.invokespecial 55, 3) := by decide +kernel
theorem d_P_init_120 : decode b_P_init 120 = .ok (.putfield 56, 3) := by decide +kernel
theorem d_P_init_123 : decode b_P_init 123 = .ok (.aload_n 0, 1) := by decide +kernel
theorem d_P_init_124 : decode b_P_init 124 = .ok (.iconst 3, 1) := by decide +kernel
theorem d_P_init_125 : decode b_P_init 125 = .ok (.putfield 60, 3) := by decide +kernel
theorem d_P_init_128 : decode b_P_init 128 = .ok (.return_, 1) := by decide +kernel
theorem d_P_put_0 : decode b_P_put 0 = .ok (.aload_n 0, 1) := by decide +kernel
theorem d_P_put_1 : decode b_P_put 1 = .ok (.iload_n 1, 1) := by decide +kernel
theorem d_P_put_2 : decode b_P_put 2 = .ok (.iload_n 2, 1) := by decide +kernel
theorem d_P_put_3 : decode b_P_put 3 = .ok (.invokevirtual 63, 3) := by decide +kernel
theorem d_P_put_6 : decode b_P_put 6 = .ok (.aload_n 0, 1) := by decide +kernel
theorem d_P_put_7 : decode b_P_put 7 = .ok (.iconst 0, 1) := by decide +kernel
theorem d_P_put_8 : decode b_P_put 8 = .ok (.putfield 66, 3) := by decide +kernel
theorem d_P_put_11 : decode b_P_put 11 = .ok (.aload_n 0, 1) := by decide +kernel
theorem d_P_put_12 : decode b_P_put 12 = .ok (.iload_n 1, 1) := by decide +kernel
theorem d_P_put_13 : decode b_P_put 13 = .ok (.iload_n 2, 1) := by decide +kernel
theorem d_P_put_14 : decode b_P_put 14 = .ok (.iload_n 3, 1) := by decide +kernel
theorem d_P_put_15 : decode b_P_put 15 = .ok (.invokevirtual 70, 3) := by decide +kernel
theorem d_P_put_18 : decode b_P_put 18 = .ok (.ireturn, 1) := by decide +kernel
theorem d_P_fill_0 : decode b_P_fill 0 = .ok (.aload_n 0, 1) := by decide +kernel
theorem d_P_fill_1 : decode b_P_fill 1 = .ok (.iload_n 1, 1) := by decide +kernel
theorem d_P_fill_2 : decode b_P_fill 2 = .ok (.iload_n 2, 1) := by decide +kernel
theorem d_P_fill_3 : decode b_P_fill 3 = .ok (.invokevirtual 63, 3) := by decide +kernel
theorem d_P_fill_6 : decode b_P_fill 6 = .ok (.iload_n 3, 1) := by decide +kernel
theorem d_P_fill_7 : decode b_P_fill 7 = .ok (.iconst 1, 1) := by decide +kernel
theorem d_P_fill_8 : decode b_P_fill 8 = .ok (.if_icmp .lt 9, 3) := by decide +kernel
theorem d_P_fill_11 : decode b_P_fill 11 = .ok (.iload 4, 2) := by decide +kernel
theorem d_P_fill_13 : decode b_P_fill 13 = .ok (.iconst 1, 1) := by decide +kernel
theorem d_P_fill_14 : decode b_P_fill 14 = .ok (.if_icmp .ge 13, 3) := by decide +kernel
theorem d_P_fill_17 : decode b_P_fill 17 = .ok (.new 74, 3) := by decide +kernel
theorem d_P_fill_20 : decode b_P_fill 20 = .ok (.dup, 1) := by decide +kernel
theorem d_P_fill_21 : decode b_P_fill 21 = .ok (.ldc 76, 2) := by decide +kernel
theorem d_P_fill_23 : decode b_P_fill 23 = .ok (.invokespecial 78, 3) := by decide +kernel
theorem d_P_fill_26 : decode b_P_fill 26 = .ok (.athrow, 1) := by decide +kernel
theorem d_P_fill_27 : decode b_P_fill 27 = .ok (.aload_n 0, 1) := by decide +kernel
theorem d_P_fill_28 : decode b_P_fill 28 = .ok (.iconst 0, 1) := by decide +kernel
theorem d_P_fill_29 : decode b_P_fill 29 = .ok (.putfield 66, 3) := by decide +kernel
theorem d_P_fill_32 : decode b_P_fill 32 = .ok (.iload_n 1, 1) := by decide +kernel
theorem d_P_fill_33 : decode b_P_fill 33 = .ok (.iload_n 3, 1) := by decide +kernel
theorem d_P_fill_34 : decode b_P_fill 34 = .ok (.aload_n 0, 1) := by decide +kernel
theorem d_P_fill_35 : decode b_P_fill 35 = .ok (.getfield 27, 3) := by decide +kernel
theorem d_P_fill_38 : decode b_P_fill 38 = .ok (.iload_n 1, 1) := by decide +kernel
theorem d_P_fill_39 : decode b_P_fill 39 = .ok (.isub, 1) := by decide +kernel
theorem d_P_fill_40 : decode b_P_fill 40 = .ok (.invokestatic 81, 3) := by decide +kernel
theorem d_P_fill_43 : decode b_P_fill 43 = .ok (.iadd, 1) := by decide +kernel
theorem d_P_fill_44 : decode b_P_fill 44 = .ok (.istore 6, 2) := by decide +kernel
theorem d_P_fill_46 : decode b_P_fill 46 = .ok (.iload_n 2, 1) := by decide +kernel
theorem d_P_fill_47 : decode b_P_fill 47 = .ok (.iload 4, 2) := by decide +kernel
theorem d_P_fill_49 : decode b_P_fill 49 = .ok (.aload_n 0, 1) := by decide +kernel
theorem d_P_fill_50 : decode b_P_fill 50 = .ok (.getfield 31, 3) := by decide +kernel
theorem d_P_fill_53 : decode b_P_fill 53 = .ok (.iload_n 2, 1) := by decide +kernel
theorem d_P_fill_54 : decode b_P_fill 54 = .ok (.isub, 1) := by decide +kernel
theorem d_P_fill_55 : decode b_P_fill 55 = .ok (.invokestatic 81, 3) := by decide +kernel
theorem d_P_fill_58 : decode b_P_fill 58 = .ok (.iadd, 1) := by decide +kernel
theorem d_P_fill_59 : decode b_P_fill 59 = .ok (.istore 7, 2) := by decide +kernel
theorem d_P_fill_61 : decode b_P_fill 61 = .ok (.iconst 0, 1) := by decide +kernel
theorem d_P_fill_62 : decode b_P_fill 62 = .ok (.istore 8, 2) := by decide +kernel
theorem d_P_fill_64 : decode b_P_fill 64 = .ok (.iload_n 2, 1) := by decide +kernel
theorem d_P_fill_65 : decode b_P_fill 65 = .ok (.istore 9, 2) := by decide +kernel
theorem d_P_fill_67 : decode b_P_fill 67 = .ok (.iload 9, 2) := by decide +kernel
theorem d_P_fill_69 : decode b_P_fill 69 = .ok (.iload 7, 2) := by decide +kernel
theorem d_P_fill_71 : decode b_P_fill 71 = .ok (.if_icmp .ge 41, 3) := by decide +kernel
theorem d_P_fill_74 : decode b_P_fill 74 = .ok (.iload_n 1, 1) := by decide +kernel
theorem d_P_fill_75 : decode b_P_fill 75 = .ok (.istore 10, 2) := by decide +kernel
theorem d_P_fill_77 : decode b_P_fill 77 = .ok (.iload 10, 2) := by decide +kernel
theorem d_P_fill_79 : decode b_P_fill 79 = .ok (.iload 6, 2) := by decide +kernel
theorem d_P_fill_81 : decode b_P_fill 81 = .ok (.if_icmp .ge 25, 3) := by decide +kernel
theorem d_P_fill_84 : decode b_P_fill 84 = .ok (.aload_n 0, 1) := by decide +kernel
theorem d_P_fill_85 : decode b_P_fill 85 = .ok (.iload 10, 2) := by decide +kernel
theorem d_P_fill_87 : decode b_P_fill 87 = .ok (.iload 9, 2) := by decide +kernel
theorem d_P_fill_89 : decode b_P_fill 89 = .ok (.iload 5, 2) := by decide +kernel
theorem d_P_fill_91 : decode b_P_fill 91 = .ok (.invokevirtual 70, 3) := by decide +kernel
theorem d_P_fill_94 : decode b_P_fill 94 = .ok (.ifCond .eq 6, 3) := by decide +kernel
theorem d_P_fill_97 : decode b_P_fill 97 = .ok (.iinc 8 1, 3) := by decide +kernel
theorem d_P_fill_100 : decode b_P_fill 100 = .ok (.iinc 10 1, 3) := by decide +kernel
theorem d_P_fill_103 : decode b_P_fill 103 = .ok (.goto (-26), 3) := by decide +kernel
theorem d_P_fill_106 : decode b_P_fill 106 = .ok (.iinc 9 1, 3) := by decide +kernel
theorem d_P_fill_109 : decode b_P_fill 109 = .ok (.goto (-42), 3) := by decide +kernel
theorem d_P_fill_112 : decode b_P_fill 112 = .ok (.iload 8, 2) := by decide +kernel
theorem d_P_fill_114 : decode b_P_fill 114 = .ok (.ireturn, 1) := by decide +kernel
theorem d_P_noise_0 : decode b_P_noise 0 = .ok (.iload_n 1, 1) := by decide +kernel
theorem d_P_noise_1 : decode b_P_noise 1 = .ok (.ifCond .lt 9, 3) := by decide +kernel
theorem d_P_noise_4 : decode b_P_noise 4 = .ok (.iload_n 1, 1) := by decide +kernel
theorem d_P_noise_5 : decode b_P_noise 5 = .ok (.bipush 100, 2) := by decide +kernel
theorem d_P_noise_7 : decode b_P_noise 7 = .ok (.if_icmp .le 13, 3) := by decide +kernel
theorem d_P_noise_10 : decode b_P_noise 10 = .ok (.new 74, 3) := by decide +kernel
theorem d_P_noise_13 : decode b_P_noise 13 = .ok (.dup, 1) := by decide +kernel
theorem d_P_noise_14 : decode b_P_noise 14 = .ok (.ldc 87, 2) := by decide +kernel
theorem d_P_noise_16 : decode b_P_noise 16 = .ok (.invokespecial 78, 3) := by decide +kernel
theorem d_P_noise_19 : decode b_P_noise 19 = .ok (.athrow, 1) := by decide +kernel
theorem d_P_noise_20 : decode b_P_noise 20 = .ok (.aload_n 0, 1) := by decide +kernel
theorem d_P_noise_21 : decode b_P_noise 21 = .ok (.getfield 60, 3) := by decide +kernel
theorem d_P_noise_24 : decode b_P_noise 24 = .ok (.istore_n 2, 1) := by decide +kernel
theorem d_P_noise_25 : decode b_P_noise 25 = .ok (.aload_n 0, 1) := by decide +kernel
theorem d_P_noise_26 : decode b_P_noise 26 = .ok (.iload_n 1, 1) := by decide +kernel
theorem d_P_noise_27 : decode b_P_noise 27 = .ok (.putfield 60, 3) := by decide +kernel
theorem d_P_noise_30 : decode b_P_noise 30 = .ok (.aload_n 0, 1) := by decide +kernel
theorem d_P_noise_31 : decode b_P_noise 31 = .ok (.iconst 0, 1) := by decide +kernel
theorem d_P_noise_32 : decode b_P_noise 32 = .ok (.putfield 66, 3) := by decide +kernel
theorem d_P_noise_35 : decode b_P_noise 35 = .ok (.iload_n 2, 1) := by decide +kernel
theorem d_P_noise_36 : decode b_P_noise 36 = .ok (.ireturn, 1) := by decide +kernel
theorem d_P_run_0 : decode b_P_run 0 = .ok (.iload_n 1, 1) := by decide +kernel
theorem d_P_run_1 : decode b_P_run 1 = .ok (.ifCond .lt 19, 3) := by decide +kernel
theorem d_P_run_4 : decode b_P_run 4 = .ok (.iload_n 1, 1) := by decide +kernel
theorem d_P_run_5 : decode b_P_run 5 = .ok (.bipush 24, 2) := by decide +kernel
theorem d_P_run_7 : decode b_P_run 7 = .ok (.if_icmp .gt 13, 3) := by decide +kernel
theorem d_P_run_10 : decode b_P_run 10 = .ok (.iload_n 2, 1) := by decide +kernel
theorem d_P_run_11 : decode b_P_run 11 = .ok (.ifCond .lt 9, 3) := by decide +kernel
theorem d_P_run_14 : decode b_P_run 14 = .ok (.iload_n 2, 1) := by decide +kernel
theorem d_P_run_15 : decode b_P_run 15 = .ok (.bipush 24, 2) := by decide +kernel
theorem d_P_run_17 : decode b_P_run 17 = .ok (.if_icmp .le 13, 3) := by decide +kernel
theorem d_P_run_20 : decode b_P_run 20 = .ok (.new 74, 3) := by decide +kernel
theorem d_P_run_23 : decode b_P_run 23 = .ok (.dup, 1) := by decide +kernel
theorem d_P_run_24 : decode b_P_run 24 = .ok (.ldc 89, 2) := by decide +kernel
theorem d_P_run_26 : decode b_P_run 26 = .ok (.invokespecial 78, 3) := by decide +kernel
theorem d_P_run_29 : decode b_P_run 29 = .ok (.athrow, 1) := by decide +kernel
theorem d_P_run_30 : decode b_P_run 30 = .ok (.aload_n 0, 1) := by decide +kernel
theorem d_P_run_31 : decode b_P_run 31 = .ok (.invokevirtual 91, 3) := by decide +kernel
theorem d_P_run_34 : decode b_P_run 34 = .ok (.aload_n 0, 1) := by decide +kernel
theorem d_P_run_35 : decode b_P_run 35 = .ok (.iload_n 1, 1) := by decide +kernel
theorem d_P_run_36 : decode b_P_run 36 = .ok (.iload_n 2, 1) := by decide +kernel
theorem d_P_run_37 : decode b_P_run 37 = .ok (.invokevirtual 94, 3) := by decide +kernel
theorem d_P_run_40 : decode b_P_run 40 = .ok (.aload_n 0, 1) := by decide +kernel
theorem d_P_run_41 : decode b_P_run 41 = .ok (.getfield 39, 3) := by decide +kernel
theorem d_P_run_44 : decode b_P_run 44 = .ok (.aload_n 0, 1) := by decide +kernel
theorem d_P_run_45 : decode b_P_run 45 = .ok (.getfield 16, 3) := by decide +kernel
theorem d_P_run_48 : decode b_P_run 48 = .ok (.iconst 1, 1) := by decide +kernel
theorem d_P_run_49 : decode b_P_run 49 = .ok (.iconst 0, 1) := by decide +kernel
theorem d_P_run_50 : decode b_P_run 50 = .ok (.invokevirtual 97, 3) := by decide +kernel
theorem d_P_run_53 : decode b_P_run 53 = .ok (.aload_n 0, 1) := by decide +kernel
theorem d_P_run_54 : decode b_P_run 54 = .ok (.getfield 49, 3) := by decide +kernel
theorem d_P_run_57 : decode b_P_run 57 = .ok (.aload_n 0, 1) := by decide +kernel
theorem d_P_run_58 : decode b_P_run 58 = .ok (.getfield 16, 3) := by decide +kernel
theorem d_P_run_61 : decode b_P_run 61 = .ok (.invokevirtual 101, 3) := by decide +kernel
theorem d_P_run_64 : decode b_P_run 64 = .ok (.aload_n 0, 1) := by decide +kernel
theorem d_P_run_65 : decode b_P_run 65 = .ok (.invokevirtual 104, 3) := by decide +kernel
theorem d_P_run_68 : decode b_P_run 68 = .ok (.aload_n 0, 1) := by decide +kernel
theorem d_P_run_69 : decode b_P_run 69 = .ok (.getfield 43, 3) := by decide +kernel
theorem d_P_run_72 : decode b_P_run 72 = .ok (.aload_n 0, 1) := by decide +kernel
theorem d_P_run_73 : decode b_P_run 73 = .ok (.getfield 13, 3) := by decide +kernel
theorem d_P_run_76 : decode b_P_run 76 = .ok (.iconst 0, 1) := by decide +kernel
theorem d_P_run_77 : decode b_P_run 77 = .ok (.iconst 0, 1) := by decide +kernel
theorem d_P_run_78 : decode b_P_run 78 = .ok (.invokevirtual 97, 3) := by decide +kernel
theorem d_P_run_81 : decode b_P_run 81 = .ok (.aload_n 0, 1) := by decide +kernel
theorem d_P_run_82 : decode b_P_run 82 = .ok (.getfield 43, 3) := by decide +kernel
theorem d_P_run_85 : decode b_P_run 85 = .ok (.invokevirtual 107, 3) := by decide +kernel
theorem d_P_run_88 : decode b_P_run 88 = .ok (.aload_n 0, 1) := by decide +kernel
theorem d_P_run_89 : decode b_P_run 89 = .ok (.getfield 56, 3) := by decide +kernel
theorem d_P_run_92 : decode b_P_run 92 = .ok (.aload_n 0, 1) := by decide +kernel
theorem d_P_run_93 : decode b_P_run 93 = .ok (.getfield 39, 3) := by decide +kernel
theorem d_P_run_96 : decode b_P_run 96 = .ok (.invokevirtual 110, 3) := by decide +kernel
theorem d_P_run_99 : decode b_P_run 99 = .ok (.aload_n 0, 1) := by decide +kernel
theorem d_P_run_100 : decode b_P_run 100 = .ok (.iconst 1, 1) := by decide +kernel
theorem d_P_run_101 : decode b_P_run 101 = .ok (.putfield 66, 3) := by decide +kernel
theorem d_P_run_104 : decode b_P_run 104 = .ok (.aload_n 0, 1) := by decide +kernel
theorem d_P_run_105 : decode b_P_run 105 = .ok (.getfield 39, 3) := by decide +kernel
theorem d_P_run_108 : decode b_P_run 108 = .ok (.getfield 114, 3) := by decide +kernel
theorem d_P_run_111 : decode b_P_run 111 = .ok (.ireturn, 1) := by decide +kernel
theorem d_P_part_0 : decode b_P_part 0 = .ok (.aload_n 0, 1) := by decide +kernel
theorem d_P_part_1 : decode b_P_part 1 = .ok (.invokevirtual 117, 3) := by decide +kernel
theorem d_P_part_4 : decode b_P_part 4 = .ok (.iload_n 1, 1) := by decide +kernel
theorem d_P_part_5 : decode b_P_part 5 = .ok (.aload_n 0, 1) := by decide +kernel
theorem d_P_part_6 : decode b_P_part 6 = .ok (.getfield 39, 3) := by decide +kernel
theorem d_P_part_9 : decode b_P_part 9 = .ok (.getfield 114, 3) := by decide +kernel
theorem d_P_part_12 : decode b_P_part 12 = .ok (.invokestatic 120, 3) := by decide +kernel
theorem d_P_part_15 : decode b_P_part 15 = .ok (.iload_n 2, 1) := by decide +kernel
theorem d_P_part_16 : decode b_P_part 16 = .ok (.bipush 8, 2) := by decide +kernel
theorem d_P_part_18 : decode b_P_part 18 = .ok (.invokestatic 123, 3) := by decide +kernel
theorem d_P_part_21 : decode b_P_part 21 = .ok (.iload_n 2, 1) := by decide +kernel
theorem d_P_part_22 : decode b_P_part 22 = .ok (.tableswitch 58 4 7 #[30, 36, 42, 48], 30) := by decide +kernel
theorem d_P_part_52 : decode b_P_part 52 = .ok (.aload_n 0, 1) := by decide +kernel
theorem d_P_part_53 : decode b_P_part 53 = .ok (.iload_n 1, 1) := by decide +kernel
theorem d_P_part_54 : decode b_P_part 54 = .ok (.invokevirtual 126, 3) := by decide +kernel
theorem d_P_part_57 : decode b_P_part 57 = .ok (.ireturn, 1) := by decide +kernel
theorem d_P_part_58 : decode b_P_part 58 = .ok (.aload_n 0, 1) := by decide +kernel
theorem d_P_part_59 : decode b_P_part 59 = .ok (.iload_n 1, 1) := by decide +kernel
theorem d_P_part_60 : decode b_P_part 60 = .ok (.invokevirtual 129, 3) := by decide +kernel
theorem d_P_part_63 : decode b_P_part 63 = .ok (.ireturn, 1) := by decide +kernel
theorem d_P_part_64 : decode b_P_part 64 = .ok (.aload_n 0, 1) := by decide +kernel
theorem d_P_part_65 : decode b_P_part 65 = .ok (.iload_n 1, 1) := by decide +kernel
theorem d_P_part_66 : decode b_P_part 66 = .ok (.invokevirtual 132, 3) := by decide +kernel
theorem d_P_part_69 : decode b_P_part 69 = .ok (.ireturn, 1) := by decide +kernel
theorem d_P_part_70 : decode b_P_part 70 = .ok (.aload_n 0, 1) := by decide +kernel
theorem d_P_part_71 : decode b_P_part 71 = .ok (.getfield 39, 3) := by decide +kernel
theorem d_P_part_74 : decode b_P_part 74 = .ok (.getfield 135, 3) := by decide +kernel
theorem d_P_part_77 : decode b_P_part 77 = .ok (.iload_n 1, 1) := by decide +kernel
theorem d_P_part_78 : decode b_P_part 78 = .ok (.iaload, 1) := by decide +kernel
theorem d_P_part_79 : decode b_P_part 79 = .ok (.ireturn, 1) := by decide +kernel
theorem d_P_part_80 : decode b_P_part 80 = .ok (.aload_n 0, 1) := by decide +kernel
theorem d_P_part_81 : decode b_P_part 81 = .ok (.getfield 39, 3) := by decide +kernel
theorem d_P_part_84 : decode b_P_part 84 = .ok (.iload_n 1, 1) := by decide +kernel
theorem d_P_part_85 : decode b_P_part 85 = .ok (.iload_n 2, 1) := by decide +kernel
theorem d_P_part_86 : decode b_P_part 86 = .ok (.invokevirtual 138, 3) := by decide +kernel
theorem d_P_part_89 : decode b_P_part 89 = .ok (.ireturn, 1) := by decide +kernel
theorem d_P_partOf_0 : decode b_P_partOf 0 = .ok (.aload_n 0, 1) := by decide +kernel
theorem d_P_partOf_1 : decode b_P_partOf 1 = .ok (.invokevirtual 117, 3) := by decide +kernel
theorem d_P_partOf_4 : decode b_P_partOf 4 = .ok (.aload_n 0, 1) := by decide +kernel
theorem d_P_partOf_5 : decode b_P_partOf 5 = .ok (.iload_n 1, 1) := by decide +kernel
theorem d_P_partOf_6 : decode b_P_partOf 6 = .ok (.iload_n 2, 1) := by decide +kernel
theorem d_P_partOf_7 : decode b_P_partOf 7 = .ok (.invokevirtual 63, 3) := by decide +kernel
theorem d_P_partOf_10 : decode b_P_partOf 10 = .ok (.aload_n 0, 1) := by decide +kernel
theorem d_P_partOf_11 : decode b_P_partOf 11 = .ok (.getfield 39, 3) := by decide +kernel
theorem d_P_partOf_14 : decode b_P_partOf 14 = .ok (.getfield 141, 3) := by decide +kernel
theorem d_P_partOf_17 : decode b_P_partOf 17 = .ok (.iload_n 2, 1) := by decide +kernel
theorem d_P_partOf_18 : decode b_P_partOf 18 = .ok (.bipush 24, 2) := by decide +kernel
theorem d_P_partOf_20 : decode b_P_partOf 20 = .ok (.imul, 1) := by decide +kernel
theorem d_P_partOf_21 : decode b_P_partOf 21 = .ok (.iload_n 1, 1) := by decide +kernel
theorem d_P_partOf_22 : decode b_P_partOf 22 = .ok (.iadd, 1) := by decide +kernel
theorem d_P_partOf_23 : decode b_P_partOf 23 = .ok (.iaload, 1) := by decide +kernel
theorem d_P_partOf_24 : decode b_P_partOf 24 = .ok (.ireturn, 1) := by decide +kernel
theorem d_P_line_0 : decode b_P_line 0 = .ok (.aload_n 0, 1) := by decide +kernel
theorem d_P_line_1 : decode b_P_line 1 = .ok (.invokevirtual 117, 3) := by decide +kernel
theorem d_P_line_4 : decode b_P_line 4 = .ok (.iload_n 1, 1) := by decide +kernel
theorem d_P_line_5 : decode b_P_line 5 = .ok (.aload_n 0, 1) := by decide +kernel
theorem d_P_line_6 : decode b_P_line 6 = .ok (.getfield 39, 3) := by decide +kernel
theorem d_P_line_9 : decode b_P_line 9 = .ok (.getfield 114, 3) := by decide +kernel
theorem d_P_line_12 : decode b_P_line 12 = .ok (.invokestatic 120, 3) := by decide +kernel
theorem d_P_line_15 : decode b_P_line 15 = .ok (.iload_n 2, 1) := by decide +kernel
theorem d_P_line_16 : decode b_P_line 16 = .ok (.aload_n 0, 1) := by decide +kernel
theorem d_P_line_17 : decode b_P_line 17 = .ok (.iload_n 1, 1) := by decide +kernel
theorem d_P_line_18 : decode b_P_line 18 = .ok (.invokevirtual 132, 3) := by decide +kernel
theorem d_P_line_21 : decode b_P_line 21 = .ok (.invokestatic 120, 3) := by decide +kernel
theorem d_P_line_24 : decode b_P_line 24 = .ok (.iload_n 3, 1) := by decide +kernel
theorem d_P_line_25 : decode b_P_line 25 = .ok (.iconst 2, 1) := by decide +kernel
theorem d_P_line_26 : decode b_P_line 26 = .ok (.invokestatic 123, 3) := by decide +kernel
theorem d_P_line_29 : decode b_P_line 29 = .ok (.aload_n 0, 1) := by decide +kernel
theorem d_P_line_30 : decode b_P_line 30 = .ok (.iload_n 1, 1) := by decide +kernel
theorem d_P_line_31 : decode b_P_line 31 = .ok (.iload_n 2, 1) := by decide +kernel
theorem d_P_line_32 : decode b_P_line 32 = .ok (.invokevirtual 144, 3) := by decide +kernel
theorem d_P_line_35 : decode b_P_line 35 = .ok (.istore 4, 2) := by decide +kernel
theorem d_P_line_37 : decode b_P_line 37 = .ok (.iload_n 3, 1) := by decide +kernel
theorem d_P_line_38 : decode b_P_line 38 = .ok (.ifCond .ne 8, 3) := by decide +kernel
theorem d_P_line_41 : decode b_P_line 41 = .ok (.iload 4, 2) := by decide +kernel
theorem d_P_line_43 : decode b_P_line 43 = .ok (.goto 10, 3) := by decide +kernel
theorem d_P_line_46 : decode b_P_line 46 = .ok (.aload_n 0, 1) := by decide +kernel
theorem d_P_line_47 : decode b_P_line 47 = .ok (.iload_n 1, 1) := by decide +kernel
theorem d_P_line_48 : decode b_P_line 48 = .ok (.iload 4, 2) := by decide +kernel
theorem d_P_line_50 : decode b_P_line 50 = .ok (.invokevirtual 147, 3) := by decide +kernel
theorem d_P_line_53 : decode b_P_line 53 = .ok (.ireturn, 1) := by decide +kernel
theorem d_P_order_0 : decode b_P_order 0 = .ok (.aload_n 0, 1) := by decide +kernel
theorem d_P_order_1 : decode b_P_order 1 = .ok (.invokevirtual 117, 3) := by decide +kernel
theorem d_P_order_4 : decode b_P_order 4 = .ok (.iload_n 1, 1) := by decide +kernel
theorem d_P_order_5 : decode b_P_order 5 = .ok (.aload_n 0, 1) := by decide +kernel
theorem d_P_order_6 : decode b_P_order 6 = .ok (.getfield 39, 3) := by decide +kernel
theorem d_P_order_9 : decode b_P_order 9 = .ok (.getfield 114, 3) := by decide +kernel
theorem d_P_order_12 : decode b_P_order 12 = .ok (.invokestatic 120, 3) := by decide +kernel
theorem d_P_order_15 : decode b_P_order 15 = .ok (.aload_n 0, 1) := by decide +kernel
theorem d_P_order_16 : decode b_P_order 16 = .ok (.getfield 56, 3) := by decide +kernel
theorem d_P_order_19 : decode b_P_order 19 = .ok (.getfield 150, 3) := by decide +kernel
theorem d_P_order_22 : decode b_P_order 22 = .ok (.iload_n 1, 1) := by decide +kernel
theorem d_P_order_23 : decode b_P_order 23 = .ok (.iaload, 1) := by decide +kernel
theorem d_P_order_24 : decode b_P_order 24 = .ok (.ireturn, 1) := by decide +kernel
theorem d_P_cover_0 : decode b_P_cover 0 = .ok (.aload_n 0, 1) := by decide +kernel
theorem d_P_cover_1 : decode b_P_cover 1 = .ok (.invokevirtual 117, 3) := by decide +kernel
theorem d_P_cover_4 : decode b_P_cover 4 = .ok (.iload_n 1, 1) := by decide +kernel
theorem d_P_cover_5 : decode b_P_cover 5 = .ok (.aload_n 0, 1) := by decide +kernel
theorem d_P_cover_6 : decode b_P_cover 6 = .ok (.getfield 49, 3) := by decide +kernel
theorem d_P_cover_9 : decode b_P_cover 9 = .ok (.getfield 153, 3) := by decide +kernel
theorem d_P_cover_12 : decode b_P_cover 12 = .ok (.invokestatic 120, 3) := by decide +kernel
theorem d_P_cover_15 : decode b_P_cover 15 = .ok (.iload_n 2, 1) := by decide +kernel
theorem d_P_cover_16 : decode b_P_cover 16 = .ok (.iconst 4, 1) := by decide +kernel
theorem d_P_cover_17 : decode b_P_cover 17 = .ok (.invokestatic 123, 3) := by decide +kernel
theorem d_P_cover_20 : decode b_P_cover 20 = .ok (.iload_n 2, 1) := by decide +kernel
theorem d_P_cover_21 : decode b_P_cover 21 = .ok (.tableswitch 57 0 2 #[27, 37, 47], 27) := by decide +kernel
theorem d_P_cover_48 : decode b_P_cover 48 = .ok (.aload_n 0, 1) := by decide +kernel
theorem d_P_cover_49 : decode b_P_cover 49 = .ok (.getfield 49, 3) := by decide +kernel
theorem d_P_cover_52 : decode b_P_cover 52 = .ok (.getfield 154, 3) := by decide +kernel
theorem d_P_cover_55 : decode b_P_cover 55 = .ok (.iload_n 1, 1) := by decide +kernel
theorem d_P_cover_56 : decode b_P_cover 56 = .ok (.iaload, 1) := by decide +kernel
theorem d_P_cover_57 : decode b_P_cover 57 = .ok (.ireturn, 1) := by decide +kernel
theorem d_P_cover_58 : decode b_P_cover 58 = .ok (.aload_n 0, 1) := by decide +kernel
theorem d_P_cover_59 : decode b_P_cover 59 = .ok (.getfield 49, 3) := by decide +kernel
theorem d_P_cover_62 : decode b_P_cover 62 = .ok (.getfield 157, 3) := by decide +kernel
theorem d_P_cover_65 : decode b_P_cover 65 = .ok (.iload_n 1, 1) := by decide +kernel
theorem d_P_cover_66 : decode b_P_cover 66 = .ok (.iaload, 1) := by decide +kernel
theorem d_P_cover_67 : decode b_P_cover 67 = .ok (.ireturn, 1) := by decide +kernel
theorem d_P_cover_68 : decode b_P_cover 68 = .ok (.aload_n 0, 1) := by decide +kernel
theorem d_P_cover_69 : decode b_P_cover 69 = .ok (.getfield 49, 3) := by decide +kernel
theorem d_P_cover_72 : decode b_P_cover 72 = .ok (.getfield 160, 3) := by decide +kernel
theorem d_P_cover_75 : decode b_P_cover 75 = .ok (.iload_n 1, 1) := by decide +kernel
theorem d_P_cover_76 : decode b_P_cover 76 = .ok (.iaload, 1) := by decide +kernel
theorem d_P_cover_77 : decode b_P_cover 77 = .ok (.ireturn, 1) := by decide +kernel
theorem d_P_cover_78 : decode b_P_cover 78 = .ok (.aload_n 0, 1) := by decide +kernel
theorem d_P_cover_79 : decode b_P_cover 79 = .ok (.getfield 49, 3) := by decide +kernel
theorem d_P_cover_82 : decode b_P_cover 82 = .ok (.getfield 163, 3) := by decide +kernel
theorem d_P_cover_85 : decode b_P_cover 85 = .ok (.iload_n 1, 1) := by decide +kernel
theorem d_P_cover_86 : decode b_P_cover 86 = .ok (.iaload, 1) := by decide +kernel
theorem d_P_cover_87 : decode b_P_cover 87 = .ok (.ireturn, 1) := by decide +kernel
theorem d_P_strip_0 : decode b_P_strip 0 = .ok (.aload_n 0, 1) := by decide +kernel
theorem d_P_strip_1 : decode b_P_strip 1 = .ok (.invokevirtual 117, 3) := by decide +kernel
theorem d_P_strip_4 : decode b_P_strip 4 = .ok (.iload_n 1, 1) := by decide +kernel
theorem d_P_strip_5 : decode b_P_strip 5 = .ok (.aload_n 0, 1) := by decide +kernel
theorem d_P_strip_6 : decode b_P_strip 6 = .ok (.getfield 27, 3) := by decide +kernel
theorem d_P_strip_9 : decode b_P_strip 9 = .ok (.invokestatic 120, 3) := by decide +kernel
theorem d_P_strip_12 : decode b_P_strip 12 = .ok (.aload_n 0, 1) := by decide +kernel
theorem d_P_strip_13 : decode b_P_strip 13 = .ok (.getfield 19, 3) := by decide +kernel
theorem d_P_strip_16 : decode b_P_strip 16 = .ok (.iload_n 1, 1) := by decide +kernel
theorem d_P_strip_17 : decode b_P_strip 17 = .ok (.iaload, 1) := by decide +kernel
theorem d_P_strip_18 : decode b_P_strip 18 = .ok (.ireturn, 1) := by decide +kernel
theorem d_P_cell_0 : decode b_P_cell 0 = .ok (.aload_n 0, 1) := by decide +kernel
theorem d_P_cell_1 : decode b_P_cell 1 = .ok (.invokevirtual 117, 3) := by decide +kernel
theorem d_P_cell_4 : decode b_P_cell 4 = .ok (.iload_n 1, 1) := by decide +kernel
theorem d_P_cell_5 : decode b_P_cell 5 = .ok (.aload_n 0, 1) := by decide +kernel
theorem d_P_cell_6 : decode b_P_cell 6 = .ok (.getfield 43, 3) := by decide +kernel
theorem d_P_cell_9 : decode b_P_cell 9 = .ok (.getfield 114, 3) := by decide +kernel
theorem d_P_cell_12 : decode b_P_cell 12 = .ok (.invokestatic 120, 3) := by decide +kernel
theorem d_P_cell_15 : decode b_P_cell 15 = .ok (.iload_n 2, 1) := by decide +kernel
theorem d_P_cell_16 : decode b_P_cell 16 = .ok (.iconst 5, 1) := by decide +kernel
theorem d_P_cell_17 : decode b_P_cell 17 = .ok (.invokestatic 123, 3) := by decide +kernel
theorem d_P_cell_20 : decode b_P_cell 20 = .ok (.iload_n 2, 1) := by decide +kernel
theorem d_P_cell_21 : decode b_P_cell 21 = .ok (.iconst 4, 1) := by decide +kernel
theorem d_P_cell_22 : decode b_P_cell 22 = .ok (.if_icmp .ne 15, 3) := by decide +kernel
theorem d_P_cell_25 : decode b_P_cell 25 = .ok (.aload_n 0, 1) := by decide +kernel
theorem d_P_cell_26 : decode b_P_cell 26 = .ok (.getfield 43, 3) := by decide +kernel
theorem d_P_cell_29 : decode b_P_cell 29 = .ok (.getfield 135, 3) := by decide +kernel
theorem d_P_cell_32 : decode b_P_cell 32 = .ok (.iload_n 1, 1) := by decide +kernel
theorem d_P_cell_33 : decode b_P_cell 33 = .ok (.iaload, 1) := by decide +kernel
theorem d_P_cell_34 : decode b_P_cell 34 = .ok (.goto 12, 3) := by decide +kernel
theorem d_P_cell_37 : decode b_P_cell 37 = .ok (.aload_n 0, 1) := by decide +kernel
theorem d_P_cell_38 : decode b_P_cell 38 = .ok (.getfield 43, 3) := by decide +kernel
theorem d_P_cell_41 : decode b_P_cell 41 = .ok (.iload_n 1, 1) := by decide +kernel
theorem d_P_cell_42 : decode b_P_cell 42 = .ok (.iload_n 2, 1) := by decide +kernel
theorem d_P_cell_43 : decode b_P_cell 43 = .ok (.invokevirtual 138, 3) := by decide +kernel
theorem d_P_cell_46 : decode b_P_cell 46 = .ok (.ireturn, 1) := by decide +kernel
end
section
theorem d_P_isSpeck_0 : decode b_P_isSpeck 0 = .ok (.aload_n 0, 1) := by decide +kernel
theorem d_P_isSpeck_1 : decode b_P_isSpeck 1 = .ok (.invokevirtual 117, 3) := by decide +kernel
theorem d_P_isSpeck_4 : decode b_P_isSpeck 4 = .ok (.aload_n 0, 1) := by decide +kernel
theorem d_P_isSpeck_5 : decode b_P_isSpeck 5 = .ok (.iload_n 1, 1) := by decide +kernel
theorem d_P_isSpeck_6 : decode b_P_isSpeck 6 = .ok (.iload_n 2, 1) := by decide +kernel
theorem d_P_isSpeck_7 : decode b_P_isSpeck 7 = .ok (.invokevirtual 63, 3) := by decide +kernel
theorem d_P_isSpeck_10 : decode b_P_isSpeck 10 = .ok (.iload_n 2, 1) := by decide +kernel
theorem d_P_isSpeck_11 : decode b_P_isSpeck 11 = .ok (.bipush 24, 2) := by decide +kernel
theorem d_P_isSpeck_13 : decode b_P_isSpeck 13 = .ok (.imul, 1) := by decide +kernel
theorem d_P_isSpeck_14 : decode b_P_isSpeck 14 = .ok (.iload_n 1, 1) := by decide +kernel
theorem d_P_isSpeck_15 : decode b_P_isSpeck 15 = .ok (.iadd, 1) := by decide +kernel
theorem d_P_isSpeck_16 : decode b_P_isSpeck 16 = .ok (.istore_n 3, 1) := by decide +kernel
theorem d_P_isSpeck_17 : decode b_P_isSpeck 17 = .ok (.aload_n 0, 1) := by decide +kernel
theorem d_P_isSpeck_18 : decode b_P_isSpeck 18 = .ok (.getfield 9, 3) := by decide +kernel
theorem d_P_isSpeck_21 : decode b_P_isSpeck 21 = .ok (.iload_n 3, 1) := by decide +kernel
theorem d_P_isSpeck_22 : decode b_P_isSpeck 22 = .ok (.baload, 1) := by decide +kernel
theorem d_P_isSpeck_23 : decode b_P_isSpeck 23 = .ok (.ifCond .eq 16, 3) := by decide +kernel
theorem d_P_isSpeck_26 : decode b_P_isSpeck 26 = .ok (.aload_n 0, 1) := by decide +kernel
theorem d_P_isSpeck_27 : decode b_P_isSpeck 27 = .ok (.getfield 13, 3) := by decide +kernel
theorem d_P_isSpeck_30 : decode b_P_isSpeck 30 = .ok (.iload_n 3, 1) := by decide +kernel
theorem d_P_isSpeck_31 : decode b_P_isSpeck 31 = .ok (.baload, 1) := by decide +kernel
theorem d_P_isSpeck_32 : decode b_P_isSpeck 32 = .ok (.ifCond .ne 7, 3) := by decide +kernel
theorem d_P_isSpeck_35 : decode b_P_isSpeck 35 = .ok (.iconst 1, 1) := by decide +kernel
theorem d_P_isSpeck_36 : decode b_P_isSpeck 36 = .ok (.goto 4, 3) := by decide +kernel
theorem d_P_isSpeck_39 : decode b_P_isSpeck 39 = .ok (.iconst 0, 1) := by decide +kernel
theorem d_P_isSpeck_40 : decode b_P_isSpeck 40 = .ok (.ireturn, 1) := by decide +kernel
theorem d_P_told_0 : decode b_P_told 0 = .ok (.iload_n 1, 1) := by decide +kernel
theorem d_P_told_1 : decode b_P_told 1 = .ok (.tableswitch 42 0 2 #[27, 32, 37], 27) := by decide +kernel
theorem d_P_told_28 : decode b_P_told 28 = .ok (.aload_n 0, 1) := by decide +kernel
theorem d_P_told_29 : decode b_P_told 29 = .ok (.getfield 27, 3) := by decide +kernel
theorem d_P_told_32 : decode b_P_told 32 = .ok (.ireturn, 1) := by decide +kernel
theorem d_P_told_33 : decode b_P_told 33 = .ok (.aload_n 0, 1) := by decide +kernel
theorem d_P_told_34 : decode b_P_told 34 = .ok (.getfield 31, 3) := by decide +kernel
theorem d_P_told_37 : decode b_P_told 37 = .ok (.ireturn, 1) := by decide +kernel
theorem d_P_told_38 : decode b_P_told 38 = .ok (.aload_n 0, 1) := by decide +kernel
theorem d_P_told_39 : decode b_P_told 39 = .ok (.getfield 166, 3) := by decide +kernel
theorem d_P_told_42 : decode b_P_told 42 = .ok (.ireturn, 1) := by decide +kernel
theorem d_P_told_43 : decode b_P_told 43 = .ok (.aload_n 0, 1) := by decide +kernel
theorem d_P_told_44 : decode b_P_told 44 = .ok (.getfield 66, 3) := by decide +kernel
theorem d_P_told_47 : decode b_P_told 47 = .ok (.ifCond .eq 11, 3) := by decide +kernel
theorem d_P_told_50 : decode b_P_told 50 = .ok (.aload_n 0, 1) := by decide +kernel
theorem d_P_told_51 : decode b_P_told 51 = .ok (.iload_n 1, 1) := by decide +kernel
theorem d_P_told_52 : decode b_P_told 52 = .ok (.invokevirtual 169, 3) := by decide +kernel
theorem d_P_told_55 : decode b_P_told 55 = .ok (.goto 4, 3) := by decide +kernel
theorem d_P_told_58 : decode b_P_told 58 = .ok (.iconst (-1), 1) := by decide +kernel
theorem d_P_told_59 : decode b_P_told 59 = .ok (.ireturn, 1) := by decide +kernel
theorem d_P_clear_0 : decode b_P_clear 0 = .ok (.iconst 0, 1) := by decide +kernel
theorem d_P_clear_1 : decode b_P_clear 1 = .ok (.istore_n 1, 1) := by decide +kernel
theorem d_P_clear_2 : decode b_P_clear 2 = .ok (.iload_n 1, 1) := by decide +kernel
theorem d_P_clear_3 : decode b_P_clear 3 = .ok (.sipush 576, 3) := by decide +kernel
theorem d_P_clear_6 : decode b_P_clear 6 = .ok (.if_icmp .ge 16, 3) := by decide +kernel
theorem d_P_clear_9 : decode b_P_clear 9 = .ok (.aload_n 0, 1) := by decide +kernel
theorem d_P_clear_10 : decode b_P_clear 10 = .ok (.getfield 9, 3) := by decide +kernel
theorem d_P_clear_13 : decode b_P_clear 13 = .ok (.iload_n 1, 1) := by decide +kernel
theorem d_P_clear_14 : decode b_P_clear 14 = .ok (.iconst 0, 1) := by decide +kernel
theorem d_P_clear_15 : decode b_P_clear 15 = .ok (.bastore, 1) := by decide +kernel
theorem d_P_clear_16 : decode b_P_clear 16 = .ok (.iinc 1 1, 3) := by decide +kernel
theorem d_P_clear_19 : decode b_P_clear 19 = .ok (.goto (-17), 3) := by decide +kernel
theorem d_P_clear_22 : decode b_P_clear 22 = .ok (.aload_n 0, 1) := by decide +kernel
theorem d_P_clear_23 : decode b_P_clear 23 = .ok (.iconst 0, 1) := by decide +kernel
theorem d_P_clear_24 : decode b_P_clear 24 = .ok (.putfield 166, 3) := by decide +kernel
theorem d_P_clear_27 : decode b_P_clear 27 = .ok (.aload_n 0, 1) := by decide +kernel
theorem d_P_clear_28 : decode b_P_clear 28 = .ok (.iconst 3, 1) := by decide +kernel
theorem d_P_clear_29 : decode b_P_clear 29 = .ok (.putfield 60, 3) := by decide +kernel
theorem d_P_clear_32 : decode b_P_clear 32 = .ok (.aload_n 0, 1) := by decide +kernel
theorem d_P_clear_33 : decode b_P_clear 33 = .ok (.iconst 0, 1) := by decide +kernel
theorem d_P_clear_34 : decode b_P_clear 34 = .ok (.putfield 66, 3) := by decide +kernel
theorem d_P_clear_37 : decode b_P_clear 37 = .ok (.return_, 1) := by decide +kernel
theorem d_P_nearestSide_0 : decode b_P_nearestSide 0 = .ok (.iconst 1, 1) := by decide +kernel
theorem d_P_nearestSide_1 : decode b_P_nearestSide 1 = .ok (.bipush 24, 2) := by decide +kernel
theorem d_P_nearestSide_3 : decode b_P_nearestSide 3 = .ok (.iload_n 0, 1) := by decide +kernel
theorem d_P_nearestSide_4 : decode b_P_nearestSide 4 = .ok (.invokestatic 81, 3) := by decide +kernel
theorem d_P_nearestSide_7 : decode b_P_nearestSide 7 = .ok (.invokestatic 172, 3) := by decide +kernel
theorem d_P_nearestSide_10 : decode b_P_nearestSide 10 = .ok (.ireturn, 1) := by decide +kernel
theorem d_P_mustBeParted_0 : decode b_P_mustBeParted 0 = .ok (.aload_n 0, 1) := by decide +kernel
theorem d_P_mustBeParted_1 : decode b_P_mustBeParted 1 = .ok (.getfield 66, 3) := by decide +kernel
theorem d_P_mustBeParted_4 : decode b_P_mustBeParted 4 = .ok (.ifCond .ne 13, 3) := by decide +kernel
theorem d_P_mustBeParted_7 : decode b_P_mustBeParted 7 = .ok (.new 175, 3) := by decide +kernel
theorem d_P_mustBeParted_10 : decode b_P_mustBeParted 10 = .ok (.dup, 1) := by decide +kernel
theorem d_P_mustBeParted_11 : decode b_P_mustBeParted 11 = .ok (.ldc 177, 2) := by decide +kernel
theorem d_P_mustBeParted_13 : decode b_P_mustBeParted 13 = .ok (.invokespecial 179, 3) := by decide +kernel
theorem d_P_mustBeParted_16 : decode b_P_mustBeParted 16 = .ok (.athrow, 1) := by decide +kernel
theorem d_P_mustBeParted_17 : decode b_P_mustBeParted 17 = .ok (.return_, 1) := by decide +kernel
theorem d_P_mustBeSample_0 : decode b_P_mustBeSample 0 = .ok (.iload_n 1, 1) := by decide +kernel
theorem d_P_mustBeSample_1 : decode b_P_mustBeSample 1 = .ok (.ifCond .lt 23, 3) := by decide +kernel
theorem d_P_mustBeSample_4 : decode b_P_mustBeSample 4 = .ok (.iload_n 1, 1) := by decide +kernel
theorem d_P_mustBeSample_5 : decode b_P_mustBeSample 5 = .ok (.aload_n 0, 1) := by decide +kernel
theorem d_P_mustBeSample_6 : decode b_P_mustBeSample 6 = .ok (.getfield 27, 3) := by decide +kernel
theorem d_P_mustBeSample_9 : decode b_P_mustBeSample 9 = .ok (.if_icmp .ge 15, 3) := by decide +kernel
theorem d_P_mustBeSample_12 : decode b_P_mustBeSample 12 = .ok (.iload_n 2, 1) := by decide +kernel
theorem d_P_mustBeSample_13 : decode b_P_mustBeSample 13 = .ok (.ifCond .lt 11, 3) := by decide +kernel
theorem d_P_mustBeSample_16 : decode b_P_mustBeSample 16 = .ok (.iload_n 2, 1) := by decide +kernel
theorem d_P_mustBeSample_17 : decode b_P_mustBeSample 17 = .ok (.aload_n 0, 1) := by decide +kernel
theorem d_P_mustBeSample_18 : decode b_P_mustBeSample 18 = .ok (.getfield 31, 3) := by decide +kernel
theorem d_P_mustBeSample_21 : decode b_P_mustBeSample 21 = .ok (.if_icmp .lt 13, 3) := by decide +kernel
theorem d_P_mustBeSample_24 : decode b_P_mustBeSample 24 = .ok (.new 180, 3) := by decide +kernel
theorem d_P_mustBeSample_27 : decode b_P_mustBeSample 27 = .ok (.dup, 1) := by decide +kernel
theorem d_P_mustBeSample_28 : decode b_P_mustBeSample 28 = .ok (.ldc 182, 2) := by decide +kernel
theorem d_P_mustBeSample_30 : decode b_P_mustBeSample 30 = .ok (.invokespecial 184, 3) := by decide +kernel
theorem d_P_mustBeSample_33 : decode b_P_mustBeSample 33 = .ok (.athrow, 1) := by decide +kernel
theorem d_P_mustBeSample_34 : decode b_P_mustBeSample 34 = .ok (.return_, 1) := by decide +kernel
theorem d_P_mustBeBelow_0 : decode b_P_mustBeBelow 0 = .ok (.iload_n 0, 1) := by decide +kernel
theorem d_P_mustBeBelow_1 : decode b_P_mustBeBelow 1 = .ok (.ifCond .lt 8, 3) := by decide +kernel
theorem d_P_mustBeBelow_4 : decode b_P_mustBeBelow 4 = .ok (.iload_n 0, 1) := by decide +kernel
theorem d_P_mustBeBelow_5 : decode b_P_mustBeBelow 5 = .ok (.iload_n 1, 1) := by decide +kernel
theorem d_P_mustBeBelow_6 : decode b_P_mustBeBelow 6 = .ok (.if_icmp .lt 13, 3) := by decide +kernel
theorem d_P_mustBeBelow_9 : decode b_P_mustBeBelow 9 = .ok (.new 180, 3) := by decide +kernel
theorem d_P_mustBeBelow_12 : decode b_P_mustBeBelow 12 = .ok (.dup, 1) := by decide +kernel
theorem d_P_mustBeBelow_13 : decode b_P_mustBeBelow 13 = .ok (.ldc 185, 2) := by decide +kernel
theorem d_P_mustBeBelow_15 : decode b_P_mustBeBelow 15 = .ok (.invokespecial 184, 3) := by decide +kernel
theorem d_P_mustBeBelow_18 : decode b_P_mustBeBelow 18 = .ok (.athrow, 1) := by decide +kernel
theorem d_P_mustBeBelow_19 : decode b_P_mustBeBelow 19 = .ok (.return_, 1) := by decide +kernel
theorem d_P_mustBeTold_0 : decode b_P_mustBeTold 0 = .ok (.iload_n 0, 1) := by decide +kernel
theorem d_P_mustBeTold_1 : decode b_P_mustBeTold 1 = .ok (.ifCond .lt 8, 3) := by decide +kernel
theorem d_P_mustBeTold_4 : decode b_P_mustBeTold 4 = .ok (.iload_n 0, 1) := by decide +kernel
theorem d_P_mustBeTold_5 : decode b_P_mustBeTold 5 = .ok (.iload_n 1, 1) := by decide +kernel
theorem d_P_mustBeTold_6 : decode b_P_mustBeTold 6 = .ok (.if_icmp .lt 13, 3) := by decide +kernel
theorem d_P_mustBeTold_9 : decode b_P_mustBeTold 9 = .ok (.new 74, 3) := by decide +kernel
theorem d_P_mustBeTold_12 : decode b_P_mustBeTold 12 = .ok (.dup, 1) := by decide +kernel
theorem d_P_mustBeTold_13 : decode b_P_mustBeTold 13 = .ok (.ldc 187, 2) := by decide +kernel
theorem d_P_mustBeTold_15 : decode b_P_mustBeTold 15 = .ok (.invokespecial 78, 3) := by decide +kernel
theorem d_P_mustBeTold_18 : decode b_P_mustBeTold 18 = .ok (.athrow, 1) := by decide +kernel
theorem d_P_mustBeTold_19 : decode b_P_mustBeTold 19 = .ok (.return_, 1) := by decide +kernel
theorem d_P_paint_0 : decode b_P_paint 0 = .ok (.iload_n 2, 1) := by decide +kernel
theorem d_P_paint_1 : decode b_P_paint 1 = .ok (.bipush 24, 2) := by decide +kernel
theorem d_P_paint_3 : decode b_P_paint 3 = .ok (.imul, 1) := by decide +kernel
theorem d_P_paint_4 : decode b_P_paint 4 = .ok (.iload_n 1, 1) := by decide +kernel
theorem d_P_paint_5 : decode b_P_paint 5 = .ok (.iadd, 1) := by decide +kernel
theorem d_P_paint_6 : decode b_P_paint 6 = .ok (.istore 4, 2) := by decide +kernel
theorem d_P_paint_8 : decode b_P_paint 8 = .ok (.aload_n 0, 1) := by decide +kernel
theorem d_P_paint_9 : decode b_P_paint 9 = .ok (.getfield 9, 3) := by decide +kernel
theorem d_P_paint_12 : decode b_P_paint 12 = .ok (.iload 4, 2) := by decide +kernel
theorem d_P_paint_14 : decode b_P_paint 14 = .ok (.baload, 1) := by decide +kernel
theorem d_P_paint_15 : decode b_P_paint 15 = .ok (.iload_n 3, 1) := by decide +kernel
theorem d_P_paint_16 : decode b_P_paint 16 = .ok (.if_icmp .ne 5, 3) := by decide +kernel
theorem d_P_paint_19 : decode b_P_paint 19 = .ok (.iconst 0, 1) := by decide +kernel
theorem d_P_paint_20 : decode b_P_paint 20 = .ok (.ireturn, 1) := by decide +kernel
theorem d_P_paint_21 : decode b_P_paint 21 = .ok (.aload_n 0, 1) := by decide +kernel
theorem d_P_paint_22 : decode b_P_paint 22 = .ok (.getfield 9, 3) := by decide +kernel
theorem d_P_paint_25 : decode b_P_paint 25 = .ok (.iload 4, 2) := by decide +kernel
theorem d_P_paint_27 : decode b_P_paint 27 = .ok (.iload_n 3, 1) := by decide +kernel
theorem d_P_paint_28 : decode b_P_paint 28 = .ok (.bastore, 1) := by decide +kernel
theorem d_P_paint_29 : decode b_P_paint 29 = .ok (.aload_n 0, 1) := by decide +kernel
theorem d_P_paint_30 : decode b_P_paint 30 = .ok (.dup, 1) := by decide +kernel
theorem d_P_paint_31 : decode b_P_paint 31 = .ok (.getfield 166, 3) := by decide +kernel
theorem d_P_paint_34 : decode b_P_paint 34 = .ok (.iload_n 3, 1) := by decide +kernel
theorem d_P_paint_35 : decode b_P_paint 35 = .ok (.ifCond .eq 7, 3) := by decide +kernel
theorem d_P_paint_38 : decode b_P_paint 38 = .ok (.iconst 1, 1) := by decide +kernel
theorem d_P_paint_39 : decode b_P_paint 39 = .ok (.goto 4, 3) := by decide +kernel
theorem d_P_paint_42 : decode b_P_paint 42 = .ok (.iconst (-1), 1) := by decide +kernel
theorem d_P_paint_43 : decode b_P_paint 43 = .ok (.iadd, 1) := by decide +kernel
theorem d_P_paint_44 : decode b_P_paint 44 = .ok (.putfield 166, 3) := by decide +kernel
theorem d_P_paint_47 : decode b_P_paint 47 = .ok (.iconst 1, 1) := by decide +kernel
theorem d_P_paint_48 : decode b_P_paint 48 = .ok (.ireturn, 1) := by decide +kernel
theorem d_P_toldOfParted_0 : decode b_P_toldOfParted 0 = .ok (.iload_n 1, 1) := by decide +kernel
theorem d_P_toldOfParted_1 : decode b_P_toldOfParted 1 = .ok (.tableswitch 74 3 7 #[35, 43, 51, 56, 64], 35) := by decide +kernel
theorem d_P_toldOfParted_36 : decode b_P_toldOfParted 36 = .ok (.aload_n 0, 1) := by decide +kernel
theorem d_P_toldOfParted_37 : decode b_P_toldOfParted 37 = .ok (.getfield 39, 3) := by decide +kernel
theorem d_P_toldOfParted_40 : decode b_P_toldOfParted 40 = .ok (.getfield 114, 3) := by decide +kernel
theorem d_P_toldOfParted_43 : decode b_P_toldOfParted 43 = .ok (.ireturn, 1) := by decide +kernel
theorem d_P_toldOfParted_44 : decode b_P_toldOfParted 44 = .ok (.aload_n 0, 1) := by decide +kernel
theorem d_P_toldOfParted_45 : decode b_P_toldOfParted 45 = .ok (.getfield 49, 3) := by decide +kernel
theorem d_P_toldOfParted_48 : decode b_P_toldOfParted 48 = .ok (.getfield 153, 3) := by decide +kernel
theorem d_P_toldOfParted_51 : decode b_P_toldOfParted 51 = .ok (.ireturn, 1) := by decide +kernel
theorem d_P_toldOfParted_52 : decode b_P_toldOfParted 52 = .ok (.aload_n 0, 1) := by decide +kernel
theorem d_P_toldOfParted_53 : decode b_P_toldOfParted 53 = .ok (.getfield 189, 3) := by decide +kernel
theorem d_P_toldOfParted_56 : decode b_P_toldOfParted 56 = .ok (.ireturn, 1) := by decide +kernel
theorem d_P_toldOfParted_57 : decode b_P_toldOfParted 57 = .ok (.aload_n 0, 1) := by decide +kernel
theorem d_P_toldOfParted_58 : decode b_P_toldOfParted 58 = .ok (.getfield 43, 3) := by decide +kernel
theorem d_P_toldOfParted_61 : decode b_P_toldOfParted 61 = .ok (.getfield 114, 3) := by decide +kernel
theorem d_P_toldOfParted_64 : decode b_P_toldOfParted 64 = .ok (.ireturn, 1) := by decide +kernel
theorem d_P_toldOfParted_65 : decode b_P_toldOfParted 65 = .ok (.aload_n 0, 1) := by decide +kernel
theorem d_P_toldOfParted_66 : decode b_P_toldOfParted 66 = .ok (.getfield 166, 3) := by decide +kernel
theorem d_P_toldOfParted_69 : decode b_P_toldOfParted 69 = .ok (.aload_n 0, 1) := by decide +kernel
theorem d_P_toldOfParted_70 : decode b_P_toldOfParted 70 = .ok (.getfield 192, 3) := by decide +kernel
theorem d_P_toldOfParted_73 : decode b_P_toldOfParted 73 = .ok (.isub, 1) := by decide +kernel
theorem d_P_toldOfParted_74 : decode b_P_toldOfParted 74 = .ok (.ireturn, 1) := by decide +kernel
theorem d_P_toldOfParted_75 : decode b_P_toldOfParted 75 = .ok (.iconst (-1), 1) := by decide +kernel
theorem d_P_toldOfParted_76 : decode b_P_toldOfParted 76 = .ok (.ireturn, 1) := by decide +kernel
theorem d_P_findClean_0 : decode b_P_findClean 0 = .ok (.aload_n 0, 1) := by decide +kernel
theorem d_P_findClean_1 : decode b_P_findClean 1 = .ok (.getfield 43, 3) := by decide +kernel
theorem d_P_findClean_4 : decode b_P_findClean 4 = .ok (.aload_n 0, 1) := by decide +kernel
theorem d_P_findClean_5 : decode b_P_findClean 5 = .ok (.getfield 9, 3) := by decide +kernel
theorem d_P_findClean_8 : decode b_P_findClean 8 = .ok (.iconst 1, 1) := by decide +kernel
theorem d_P_findClean_9 : decode b_P_findClean 9 = .ok (.iconst 1, 1) := by decide +kernel
theorem d_P_findClean_10 : decode b_P_findClean 10 = .ok (.invokevirtual 97, 3) := by decide +kernel
theorem d_P_findClean_13 : decode b_P_findClean 13 = .ok (.aload_n 0, 1) := by decide +kernel
theorem d_P_findClean_14 : decode b_P_findClean 14 = .ok (.iconst 0, 1) := by decide +kernel
theorem d_P_findClean_15 : decode b_P_findClean 15 = .ok (.putfield 192, 3) := by decide +kernel
theorem d_P_findClean_18 : decode b_P_findClean 18 = .ok (.iconst 0, 1) := by decide +kernel
theorem d_P_findClean_19 : decode b_P_findClean 19 = .ok (.istore_n 1, 1) := by decide +kernel
theorem d_P_findClean_20 : decode b_P_findClean 20 = .ok (.iload_n 1, 1) := by decide +kernel
theorem d_P_findClean_21 : decode b_P_findClean 21 = .ok (.sipush 576, 3) := by decide +kernel
theorem d_P_findClean_24 : decode b_P_findClean 24 = .ok (.if_icmp .ge 82, 3) := by decide +kernel
theorem d_P_findClean_27 : decode b_P_findClean 27 = .ok (.aload_n 0, 1) := by decide +kernel
theorem d_P_findClean_28 : decode b_P_findClean 28 = .ok (.getfield 43, 3) := by decide +kernel
theorem d_P_findClean_31 : decode b_P_findClean 31 = .ok (.getfield 141, 3) := by decide +kernel
theorem d_P_findClean_34 : decode b_P_findClean 34 = .ok (.iload_n 1, 1) := by decide +kernel
theorem d_P_findClean_35 : decode b_P_findClean 35 = .ok (.iaload, 1) := by decide +kernel
theorem d_P_findClean_36 : decode b_P_findClean 36 = .ok (.istore_n 2, 1) := by decide +kernel
theorem d_P_findClean_37 : decode b_P_findClean 37 = .ok (.aload_n 0, 1) := by decide +kernel
theorem d_P_findClean_38 : decode b_P_findClean 38 = .ok (.getfield 13, 3) := by decide +kernel
theorem d_P_findClean_41 : decode b_P_findClean 41 = .ok (.iload_n 1, 1) := by decide +kernel
theorem d_P_findClean_42 : decode b_P_findClean 42 = .ok (.iload_n 2, 1) := by decide +kernel
theorem d_P_findClean_43 : decode b_P_findClean 43 = .ok (.iconst (-1), 1) := by decide +kernel
theorem d_P_findClean_44 : decode b_P_findClean 44 = .ok (.if_icmp .eq 23, 3) := by decide +kernel
theorem d_P_findClean_47 : decode b_P_findClean 47 = .ok (.aload_n 0, 1) := by decide +kernel
theorem d_P_findClean_48 : decode b_P_findClean 48 = .ok (.getfield 43, 3) := by decide +kernel
theorem d_P_findClean_51 : decode b_P_findClean 51 = .ok (.getfield 135, 3) := by decide +kernel
theorem d_P_findClean_54 : decode b_P_findClean 54 = .ok (.iload_n 2, 1) := by decide +kernel
theorem d_P_findClean_55 : decode b_P_findClean 55 = .ok (.iaload, 1) := by decide +kernel
theorem d_P_findClean_56 : decode b_P_findClean 56 = .ok (.aload_n 0, 1) := by decide +kernel
theorem d_P_findClean_57 : decode b_P_findClean 57 = .ok (.getfield 60, 3) := by decide +kernel
theorem d_P_findClean_60 : decode b_P_findClean 60 = .ok (.if_icmp .lt 7, 3) := by decide +kernel
theorem d_P_findClean_63 : decode b_P_findClean 63 = .ok (.iconst 1, 1) := by decide +kernel
theorem d_P_findClean_64 : decode b_P_findClean 64 = .ok (.goto 4, 3) := by decide +kernel
theorem d_P_findClean_67 : decode b_P_findClean 67 = .ok (.iconst 0, 1) := by decide +kernel
theorem d_P_findClean_68 : decode b_P_findClean 68 = .ok (.bastore, 1) := by decide +kernel
theorem d_P_findClean_69 : decode b_P_findClean 69 = .ok (.aload_n 0, 1) := by decide +kernel
theorem d_P_findClean_70 : decode b_P_findClean 70 = .ok (.getfield 16, 3) := by decide +kernel
theorem d_P_findClean_73 : decode b_P_findClean 73 = .ok (.iload_n 1, 1) := by decide +kernel
theorem d_P_findClean_74 : decode b_P_findClean 74 = .ok (.aload_n 0, 1) := by decide +kernel
theorem d_P_findClean_75 : decode b_P_findClean 75 = .ok (.getfield 13, 3) := by decide +kernel
theorem d_P_findClean_78 : decode b_P_findClean 78 = .ok (.iload_n 1, 1) := by decide +kernel
theorem d_P_findClean_79 : decode b_P_findClean 79 = .ok (.baload, 1) := by decide +kernel
theorem d_P_findClean_80 : decode b_P_findClean 80 = .ok (.bastore, 1) := by decide +kernel
theorem d_P_findClean_81 : decode b_P_findClean 81 = .ok (.aload_n 0, 1) := by decide +kernel
theorem d_P_findClean_82 : decode b_P_findClean 82 = .ok (.getfield 13, 3) := by decide +kernel
theorem d_P_findClean_85 : decode b_P_findClean 85 = .ok (.iload_n 1, 1) := by decide +kernel
theorem d_P_findClean_86 : decode b_P_findClean 86 = .ok (.baload, 1) := by decide +kernel
theorem d_P_findClean_87 : decode b_P_findClean 87 = .ok (.ifCond .eq 13, 3) := by decide +kernel
theorem d_P_findClean_90 : decode b_P_findClean 90 = .ok (.aload_n 0, 1) := by decide +kernel
theorem d_P_findClean_91 : decode b_P_findClean 91 = .ok (.dup, 1) := by decide +kernel
theorem d_P_findClean_92 : decode b_P_findClean 92 = .ok (.getfield 192, 3) := by decide +kernel
theorem d_P_findClean_95 : decode b_P_findClean 95 = .ok (.iconst 1, 1) := by decide +kernel
theorem d_P_findClean_96 : decode b_P_findClean 96 = .ok (.iadd, 1) := by decide +kernel
theorem d_P_findClean_97 : decode b_P_findClean 97 = .ok (.putfield 192, 3) := by decide +kernel
theorem d_P_findClean_100 : decode b_P_findClean 100 = .ok (.iinc 1 1, 3) := by decide +kernel
theorem d_P_findClean_103 : decode b_P_findClean 103 = .ok (.goto (-83), 3) := by decide +kernel
theorem d_P_findClean_106 : decode b_P_findClean 106 = .ok (.return_, 1) := by decide +kernel
theorem d_P_smear_0 : decode b_P_smear 0 = .ok (.iconst 0, 1) := by decide +kernel
theorem d_P_smear_1 : decode b_P_smear 1 = .ok (.istore_n 3, 1) := by decide +kernel
theorem d_P_smear_2 : decode b_P_smear 2 = .ok (.iload_n 3, 1) := by decide +kernel
theorem d_P_smear_3 : decode b_P_smear 3 = .ok (.aload_n 0, 1) := by decide +kernel
theorem d_P_smear_4 : decode b_P_smear 4 = .ok (.getfield 31, 3) := by decide +kernel
theorem d_P_smear_7 : decode b_P_smear 7 = .ok (.if_icmp .ge 23, 3) := by decide +kernel
theorem d_P_smear_10 : decode b_P_smear 10 = .ok (.aload_n 0, 1) := by decide +kernel
theorem d_P_smear_11 : decode b_P_smear 11 = .ok (.iload_n 3, 1) := by decide +kernel
theorem d_P_smear_12 : decode b_P_smear 12 = .ok (.bipush 24, 2) := by decide +kernel
theorem d_P_smear_14 : decode b_P_smear 14 = .ok (.imul, 1) := by decide +kernel
theorem d_P_smear_15 : decode b_P_smear 15 = .ok (.iconst 1, 1) := by decide +kernel
theorem d_P_smear_16 : decode b_P_smear 16 = .ok (.aload_n 0, 1) := by decide +kernel
theorem d_P_smear_17 : decode b_P_smear 17 = .ok (.getfield 27, 3) := by decide +kernel
theorem d_P_smear_20 : decode b_P_smear 20 = .ok (.iload_n 1, 1) := by decide +kernel
theorem d_P_smear_21 : decode b_P_smear 21 = .ok (.invokevirtual 195, 3) := by decide +kernel
theorem d_P_smear_24 : decode b_P_smear 24 = .ok (.iinc 3 1, 3) := by decide +kernel
theorem d_P_smear_27 : decode b_P_smear 27 = .ok (.goto (-25), 3) := by decide +kernel
theorem d_P_smear_30 : decode b_P_smear 30 = .ok (.iconst 0, 1) := by decide +kernel
theorem d_P_smear_31 : decode b_P_smear 31 = .ok (.istore_n 3, 1) := by decide +kernel
theorem d_P_smear_32 : decode b_P_smear 32 = .ok (.iload_n 3, 1) := by decide +kernel
theorem d_P_smear_33 : decode b_P_smear 33 = .ok (.aload_n 0, 1) := by decide +kernel
theorem d_P_smear_34 : decode b_P_smear 34 = .ok (.getfield 27, 3) := by decide +kernel
theorem d_P_smear_37 : decode b_P_smear 37 = .ok (.if_icmp .ge 21, 3) := by decide +kernel
theorem d_P_smear_40 : decode b_P_smear 40 = .ok (.aload_n 0, 1) := by decide +kernel
theorem d_P_smear_41 : decode b_P_smear 41 = .ok (.iload_n 3, 1) := by decide +kernel
theorem d_P_smear_42 : decode b_P_smear 42 = .ok (.bipush 24, 2) := by decide +kernel
theorem d_P_smear_44 : decode b_P_smear 44 = .ok (.aload_n 0, 1) := by decide +kernel
theorem d_P_smear_45 : decode b_P_smear 45 = .ok (.getfield 31, 3) := by decide +kernel
theorem d_P_smear_48 : decode b_P_smear 48 = .ok (.iload_n 2, 1) := by decide +kernel
theorem d_P_smear_49 : decode b_P_smear 49 = .ok (.invokevirtual 195, 3) := by decide +kernel
theorem d_P_smear_52 : decode b_P_smear 52 = .ok (.iinc 3 1, 3) := by decide +kernel
theorem d_P_smear_55 : decode b_P_smear 55 = .ok (.goto (-23), 3) := by decide +kernel
theorem d_P_smear_58 : decode b_P_smear 58 = .ok (.return_, 1) := by decide +kernel
theorem d_P_smearAlong_0 : decode b_P_smearAlong 0 = .ok (.iconst (-1), 1) := by decide +kernel
theorem d_P_smearAlong_1 : decode b_P_smearAlong 1 = .ok (.istore 5, 2) := by decide +kernel
theorem d_P_smearAlong_3 : decode b_P_smearAlong 3 = .ok (.iconst 0, 1) := by decide +kernel
theorem d_P_smearAlong_4 : decode b_P_smearAlong 4 = .ok (.istore 6, 2) := by decide +kernel
theorem d_P_smearAlong_6 : decode b_P_smearAlong 6 = .ok (.iload 6, 2) := by decide +kernel
theorem d_P_smearAlong_8 : decode b_P_smearAlong 8 = .ok (.iload_n 3, 1) := by decide +kernel
theorem d_P_smearAlong_9 : decode b_P_smearAlong 9 = .ok (.if_icmp .ge 79, 3) := by decide +kernel
theorem d_P_smearAlong_12 : decode b_P_smearAlong 12 = .ok (.aload_n 0, 1) := by decide +kernel
theorem d_P_smearAlong_13 : decode b_P_smearAlong 13 = .ok (.getfield 13, 3) := by decide +kernel
theorem d_P_smearAlong_16 : decode b_P_smearAlong 16 = .ok (.iload_n 1, 1) := by decide +kernel
theorem d_P_smearAlong_17 : decode b_P_smearAlong 17 = .ok (.iload 6, 2) := by decide +kernel
theorem d_P_smearAlong_19 : decode b_P_smearAlong 19 = .ok (.iload_n 2, 1) := by decide +kernel
theorem d_P_smearAlong_20 : decode b_P_smearAlong 20 = .ok (.imul, 1) := by decide +kernel
theorem d_P_smearAlong_21 : decode b_P_smearAlong 21 = .ok (.iadd, 1) := by decide +kernel
theorem d_P_smearAlong_22 : decode b_P_smearAlong 22 = .ok (.baload, 1) := by decide +kernel
theorem d_P_smearAlong_23 : decode b_P_smearAlong 23 = .ok (.ifCond .ne 6, 3) := by decide +kernel
theorem d_P_smearAlong_26 : decode b_P_smearAlong 26 = .ok (.goto 56, 3) := by decide +kernel
theorem d_P_smearAlong_29 : decode b_P_smearAlong 29 = .ok (.iload 5, 2) := by decide +kernel
theorem d_P_smearAlong_31 : decode b_P_smearAlong 31 = .ok (.iconst (-1), 1) := by decide +kernel
theorem d_P_smearAlong_32 : decode b_P_smearAlong 32 = .ok (.if_icmp .eq 46, 3) := by decide +kernel
theorem d_P_smearAlong_35 : decode b_P_smearAlong 35 = .ok (.iload 6, 2) := by decide +kernel
theorem d_P_smearAlong_37 : decode b_P_smearAlong 37 = .ok (.iload 5, 2) := by decide +kernel
theorem d_P_smearAlong_39 : decode b_P_smearAlong 39 = .ok (.isub, 1) := by decide +kernel
theorem d_P_smearAlong_40 : decode b_P_smearAlong 40 = .ok (.iconst 1, 1) := by decide +kernel
theorem d_P_smearAlong_41 : decode b_P_smearAlong 41 = .ok (.isub, 1) := by decide +kernel
theorem d_P_smearAlong_42 : decode b_P_smearAlong 42 = .ok (.iload 4, 2) := by decide +kernel
theorem d_P_smearAlong_44 : decode b_P_smearAlong 44 = .ok (.if_icmp .gt 34, 3) := by decide +kernel
theorem d_P_smearAlong_47 : decode b_P_smearAlong 47 = .ok (.iload 5, 2) := by decide +kernel
theorem d_P_smearAlong_49 : decode b_P_smearAlong 49 = .ok (.iconst 1, 1) := by decide +kernel
theorem d_P_smearAlong_50 : decode b_P_smearAlong 50 = .ok (.iadd, 1) := by decide +kernel
theorem d_P_smearAlong_51 : decode b_P_smearAlong 51 = .ok (.istore 7, 2) := by decide +kernel
theorem d_P_smearAlong_53 : decode b_P_smearAlong 53 = .ok (.iload 7, 2) := by decide +kernel
theorem d_P_smearAlong_55 : decode b_P_smearAlong 55 = .ok (.iload 6, 2) := by decide +kernel
theorem d_P_smearAlong_57 : decode b_P_smearAlong 57 = .ok (.if_icmp .ge 21, 3) := by decide +kernel
theorem d_P_smearAlong_60 : decode b_P_smearAlong 60 = .ok (.aload_n 0, 1) := by decide +kernel
theorem d_P_smearAlong_61 : decode b_P_smearAlong 61 = .ok (.getfield 16, 3) := by decide +kernel
theorem d_P_smearAlong_64 : decode b_P_smearAlong 64 = .ok (.iload_n 1, 1) := by decide +kernel
theorem d_P_smearAlong_65 : decode b_P_smearAlong 65 = .ok (.iload 7, 2) := by decide +kernel
theorem d_P_smearAlong_67 : decode b_P_smearAlong 67 = .ok (.iload_n 2, 1) := by decide +kernel
theorem d_P_smearAlong_68 : decode b_P_smearAlong 68 = .ok (.imul, 1) := by decide +kernel
theorem d_P_smearAlong_69 : decode b_P_smearAlong 69 = .ok (.iadd, 1) := by decide +kernel
theorem d_P_smearAlong_70 : decode b_P_smearAlong 70 = .ok (.iconst 1, 1) := by decide +kernel
theorem d_P_smearAlong_71 : decode b_P_smearAlong 71 = .ok (.bastore, 1) := by decide +kernel
theorem d_P_smearAlong_72 : decode b_P_smearAlong 72 = .ok (.iinc 7 1, 3) := by decide +kernel
theorem d_P_smearAlong_75 : decode b_P_smearAlong 75 = .ok (.goto (-22), 3) := by decide +kernel
theorem d_P_smearAlong_78 : decode b_P_smearAlong 78 = .ok (.iload 6, 2) := by decide +kernel
theorem d_P_smearAlong_80 : decode b_P_smearAlong 80 = .ok (.istore 5, 2) := by decide +kernel
theorem d_P_smearAlong_82 : decode b_P_smearAlong 82 = .ok (.iinc 6 1, 3) := by decide +kernel
theorem d_P_smearAlong_85 : decode b_P_smearAlong 85 = .ok (.goto (-79), 3) := by decide +kernel
theorem d_P_smearAlong_88 : decode b_P_smearAlong 88 = .ok (.return_, 1) := by decide +kernel
theorem d_P_findStrips_0 : decode b_P_findStrips 0 = .ok (.aload_n 0, 1) := by decide +kernel
theorem d_P_findStrips_1 : decode b_P_findStrips 1 = .ok (.iconst 0, 1) := by decide +kernel
theorem d_P_findStrips_2 : decode b_P_findStrips 2 = .ok (.putfield 189, 3) := by decide +kernel
theorem d_P_findStrips_5 : decode b_P_findStrips 5 = .ok (.iconst 0, 1) := by decide +kernel
theorem d_P_findStrips_6 : decode b_P_findStrips 6 = .ok (.istore_n 1, 1) := by decide +kernel
theorem d_P_findStrips_7 : decode b_P_findStrips 7 = .ok (.iconst 0, 1) := by decide +kernel
theorem d_P_findStrips_8 : decode b_P_findStrips 8 = .ok (.istore_n 2, 1) := by decide +kernel
theorem d_P_findStrips_9 : decode b_P_findStrips 9 = .ok (.iload_n 2, 1) := by decide +kernel
theorem d_P_findStrips_10 : decode b_P_findStrips 10 = .ok (.aload_n 0, 1) := by decide +kernel
theorem d_P_findStrips_11 : decode b_P_findStrips 11 = .ok (.getfield 27, 3) := by decide +kernel
theorem d_P_findStrips_14 : decode b_P_findStrips 14 = .ok (.if_icmp .ge 55, 3) := by decide +kernel
theorem d_P_findStrips_17 : decode b_P_findStrips 17 = .ok (.aload_n 0, 1) := by decide +kernel
theorem d_P_findStrips_18 : decode b_P_findStrips 18 = .ok (.iload_n 2, 1) := by decide +kernel
theorem d_P_findStrips_19 : decode b_P_findStrips 19 = .ok (.invokevirtual 199, 3) := by decide +kernel
theorem d_P_findStrips_22 : decode b_P_findStrips 22 = .ok (.istore_n 3, 1) := by decide +kernel
theorem d_P_findStrips_23 : decode b_P_findStrips 23 = .ok (.iload_n 3, 1) := by decide +kernel
theorem d_P_findStrips_24 : decode b_P_findStrips 24 = .ok (.ifCond .eq 17, 3) := by decide +kernel
theorem d_P_findStrips_27 : decode b_P_findStrips 27 = .ok (.iload_n 1, 1) := by decide +kernel
theorem d_P_findStrips_28 : decode b_P_findStrips 28 = .ok (.ifCond .ne 13, 3) := by decide +kernel
theorem d_P_findStrips_31 : decode b_P_findStrips 31 = .ok (.aload_n 0, 1) := by decide +kernel
theorem d_P_findStrips_32 : decode b_P_findStrips 32 = .ok (.dup, 1) := by decide +kernel
theorem d_P_findStrips_33 : decode b_P_findStrips 33 = .ok (.getfield 189, 3) := by decide +kernel
theorem d_P_findStrips_36 : decode b_P_findStrips 36 = .ok (.iconst 1, 1) := by decide +kernel
theorem d_P_findStrips_37 : decode b_P_findStrips 37 = .ok (.iadd, 1) := by decide +kernel
theorem d_P_findStrips_38 : decode b_P_findStrips 38 = .ok (.putfield 189, 3) := by decide +kernel
theorem d_P_findStrips_41 : decode b_P_findStrips 41 = .ok (.aload_n 0, 1) := by decide +kernel
theorem d_P_findStrips_42 : decode b_P_findStrips 42 = .ok (.getfield 19, 3) := by decide +kernel
theorem d_P_findStrips_45 : decode b_P_findStrips 45 = .ok (.iload_n 2, 1) := by decide +kernel
theorem d_P_findStrips_46 : decode b_P_findStrips 46 = .ok (.iload_n 3, 1) := by decide +kernel
theorem d_P_findStrips_47 : decode b_P_findStrips 47 = .ok (.ifCond .eq 12, 3) := by decide +kernel
theorem d_P_findStrips_50 : decode b_P_findStrips 50 = .ok (.aload_n 0, 1) := by decide +kernel
theorem d_P_findStrips_51 : decode b_P_findStrips 51 = .ok (.getfield 189, 3) := by decide +kernel
theorem d_P_findStrips_54 : decode b_P_findStrips 54 = .ok (.iconst 1, 1) := by decide +kernel
theorem d_P_findStrips_55 : decode b_P_findStrips 55 = .ok (.isub, 1) := by decide +kernel
theorem d_P_findStrips_56 : decode b_P_findStrips 56 = .ok (.goto 4, 3) := by decide +kernel
theorem d_P_findStrips_59 : decode b_P_findStrips 59 = .ok (.iconst (-1), 1) := by decide +kernel
theorem d_P_findStrips_60 : decode b_P_findStrips 60 = .ok (.iastore, 1) := by decide +kernel
theorem d_P_findStrips_61 : decode b_P_findStrips 61 = .ok (.iload_n 3, 1) := by decide +kernel
theorem d_P_findStrips_62 : decode b_P_findStrips 62 = .ok (.istore_n 1, 1) := by decide +kernel
theorem d_P_findStrips_63 : decode b_P_findStrips 63 = .ok (.iinc 2 1, 3) := by decide +kernel
theorem d_P_findStrips_66 : decode b_P_findStrips 66 = .ok (.goto (-57), 3) := by decide +kernel
theorem d_P_findStrips_69 : decode b_P_findStrips 69 = .ok (.return_, 1) := by decide +kernel
theorem d_P_hasInk_0 : decode b_P_hasInk 0 = .ok (.iconst 0, 1) := by decide +kernel
theorem d_P_hasInk_1 : decode b_P_hasInk 1 = .ok (.istore_n 2, 1) := by decide +kernel
theorem d_P_hasInk_2 : decode b_P_hasInk 2 = .ok (.iload_n 2, 1) := by decide +kernel
theorem d_P_hasInk_3 : decode b_P_hasInk 3 = .ok (.aload_n 0, 1) := by decide +kernel
theorem d_P_hasInk_4 : decode b_P_hasInk 4 = .ok (.getfield 31, 3) := by decide +kernel
theorem d_P_hasInk_7 : decode b_P_hasInk 7 = .ok (.if_icmp .ge 25, 3) := by decide +kernel
theorem d_P_hasInk_10 : decode b_P_hasInk 10 = .ok (.aload_n 0, 1) := by decide +kernel
theorem d_P_hasInk_11 : decode b_P_hasInk 11 = .ok (.getfield 16, 3) := by decide +kernel
theorem d_P_hasInk_14 : decode b_P_hasInk 14 = .ok (.iload_n 2, 1) := by decide +kernel
theorem d_P_hasInk_15 : decode b_P_hasInk 15 = .ok (.bipush 24, 2) := by decide +kernel
theorem d_P_hasInk_17 : decode b_P_hasInk 17 = .ok (.imul, 1) := by decide +kernel
theorem d_P_hasInk_18 : decode b_P_hasInk 18 = .ok (.iload_n 1, 1) := by decide +kernel
theorem d_P_hasInk_19 : decode b_P_hasInk 19 = .ok (.iadd, 1) := by decide +kernel
theorem d_P_hasInk_20 : decode b_P_hasInk 20 = .ok (.baload, 1) := by decide +kernel
theorem d_P_hasInk_21 : decode b_P_hasInk 21 = .ok (.ifCond .eq 5, 3) := by decide +kernel
theorem d_P_hasInk_24 : decode b_P_hasInk 24 = .ok (.iconst 1, 1) := by decide +kernel
theorem d_P_hasInk_25 : decode b_P_hasInk 25 = .ok (.ireturn, 1) := by decide +kernel
theorem d_P_hasInk_26 : decode b_P_hasInk 26 = .ok (.iinc 2 1, 3) := by decide +kernel
theorem d_P_hasInk_29 : decode b_P_hasInk 29 = .ok (.goto (-27), 3) := by decide +kernel
theorem d_P_hasInk_32 : decode b_P_hasInk 32 = .ok (.iconst 0, 1) := by decide +kernel
theorem d_P_hasInk_33 : decode b_P_hasInk 33 = .ok (.ireturn, 1) := by decide +kernel
theorem d_P_weightOf_0 : decode b_P_weightOf 0 = .ok (.iconst 0, 1) := by decide +kernel
theorem d_P_weightOf_1 : decode b_P_weightOf 1 = .ok (.istore_n 2, 1) := by decide +kernel
theorem d_P_weightOf_2 : decode b_P_weightOf 2 = .ok (.iconst 0, 1) := by decide +kernel
theorem d_P_weightOf_3 : decode b_P_weightOf 3 = .ok (.istore_n 3, 1) := by decide +kernel
theorem d_P_weightOf_4 : decode b_P_weightOf 4 = .ok (.iload_n 3, 1) := by decide +kernel
theorem d_P_weightOf_5 : decode b_P_weightOf 5 = .ok (.sipush 576, 3) := by decide +kernel
theorem d_P_weightOf_8 : decode b_P_weightOf 8 = .ok (.if_icmp .ge 34, 3) := by decide +kernel
theorem d_P_weightOf_11 : decode b_P_weightOf 11 = .ok (.aload_n 0, 1) := by decide +kernel
theorem d_P_weightOf_12 : decode b_P_weightOf 12 = .ok (.getfield 13, 3) := by decide +kernel
theorem d_P_weightOf_15 : decode b_P_weightOf 15 = .ok (.iload_n 3, 1) := by decide +kernel
theorem d_P_weightOf_16 : decode b_P_weightOf 16 = .ok (.baload, 1) := by decide +kernel
theorem d_P_weightOf_17 : decode b_P_weightOf 17 = .ok (.ifCond .eq 19, 3) := by decide +kernel
theorem d_P_weightOf_20 : decode b_P_weightOf 20 = .ok (.aload_n 0, 1) := by decide +kernel
theorem d_P_weightOf_21 : decode b_P_weightOf 21 = .ok (.getfield 39, 3) := by decide +kernel
theorem d_P_weightOf_24 : decode b_P_weightOf 24 = .ok (.getfield 141, 3) := by decide +kernel
theorem d_P_weightOf_27 : decode b_P_weightOf 27 = .ok (.iload_n 3, 1) := by decide +kernel
theorem d_P_weightOf_28 : decode b_P_weightOf 28 = .ok (.iaload, 1) := by decide +kernel
theorem d_P_weightOf_29 : decode b_P_weightOf 29 = .ok (.iload_n 1, 1) := by decide +kernel
theorem d_P_weightOf_30 : decode b_P_weightOf 30 = .ok (.if_icmp .ne 6, 3) := by decide +kernel
theorem d_P_weightOf_33 : decode b_P_weightOf 33 = .ok (.iinc 2 1, 3) := by decide +kernel
theorem d_P_weightOf_36 : decode b_P_weightOf 36 = .ok (.iinc 3 1, 3) := by decide +kernel
theorem d_P_weightOf_39 : decode b_P_weightOf 39 = .ok (.goto (-35), 3) := by decide +kernel
theorem d_P_weightOf_42 : decode b_P_weightOf 42 = .ok (.iload_n 2, 1) := by decide +kernel
theorem d_P_weightOf_43 : decode b_P_weightOf 43 = .ok (.ireturn, 1) := by decide +kernel
theorem d_P_kindOf_0 : decode b_P_kindOf 0 = .ok (.aload_n 0, 1) := by decide +kernel
theorem d_P_kindOf_1 : decode b_P_kindOf 1 = .ok (.getfield 39, 3) := by decide +kernel
theorem d_P_kindOf_4 : decode b_P_kindOf 4 = .ok (.iload_n 1, 1) := by decide +kernel
theorem d_P_kindOf_5 : decode b_P_kindOf 5 = .ok (.invokevirtual 203, 3) := by decide +kernel
theorem d_P_kindOf_8 : decode b_P_kindOf 8 = .ok (.istore_n 2, 1) := by decide +kernel
theorem d_P_kindOf_9 : decode b_P_kindOf 9 = .ok (.aload_n 0, 1) := by decide +kernel
theorem d_P_kindOf_10 : decode b_P_kindOf 10 = .ok (.getfield 39, 3) := by decide +kernel
theorem d_P_kindOf_13 : decode b_P_kindOf 13 = .ok (.iload_n 1, 1) := by decide +kernel
theorem d_P_kindOf_14 : decode b_P_kindOf 14 = .ok (.invokevirtual 206, 3) := by decide +kernel
theorem d_P_kindOf_17 : decode b_P_kindOf 17 = .ok (.istore_n 3, 1) := by decide +kernel
theorem d_P_kindOf_18 : decode b_P_kindOf 18 = .ok (.iload_n 2, 1) := by decide +kernel
theorem d_P_kindOf_19 : decode b_P_kindOf 19 = .ok (.iload_n 3, 1) := by decide +kernel
theorem d_P_kindOf_20 : decode b_P_kindOf 20 = .ok (.invokestatic 209, 3) := by decide +kernel
theorem d_P_kindOf_23 : decode b_P_kindOf 23 = .ok (.ifCond .ne 11, 3) := by decide +kernel
theorem d_P_kindOf_26 : decode b_P_kindOf 26 = .ok (.iload_n 3, 1) := by decide +kernel
theorem d_P_kindOf_27 : decode b_P_kindOf 27 = .ok (.iload_n 2, 1) := by decide +kernel
theorem d_P_kindOf_28 : decode b_P_kindOf 28 = .ok (.invokestatic 209, 3) := by decide +kernel
theorem d_P_kindOf_31 : decode b_P_kindOf 31 = .ok (.ifCond .eq 5, 3) := by decide +kernel
theorem d_P_kindOf_34 : decode b_P_kindOf 34 = .ok (.iconst 1, 1) := by decide +kernel
theorem d_P_kindOf_35 : decode b_P_kindOf 35 = .ok (.ireturn, 1) := by decide +kernel
theorem d_P_kindOf_36 : decode b_P_kindOf 36 = .ok (.iload_n 2, 1) := by decide +kernel
theorem d_P_kindOf_37 : decode b_P_kindOf 37 = .ok (.bipush 7, 2) := by decide +kernel
theorem d_P_kindOf_39 : decode b_P_kindOf 39 = .ok (.if_icmp .lt 9, 3) := by decide +kernel
theorem d_P_kindOf_42 : decode b_P_kindOf 42 = .ok (.iload_n 3, 1) := by decide +kernel
theorem d_P_kindOf_43 : decode b_P_kindOf 43 = .ok (.bipush 7, 2) := by decide +kernel
theorem d_P_kindOf_45 : decode b_P_kindOf 45 = .ok (.if_icmp .ge 5, 3) := by decide +kernel
theorem d_P_kindOf_48 : decode b_P_kindOf 48 = .ok (.iconst 0, 1) := by decide +kernel
theorem d_P_kindOf_49 : decode b_P_kindOf 49 = .ok (.ireturn, 1) := by decide +kernel
theorem d_P_kindOf_50 : decode b_P_kindOf 50 = .ok (.aload_n 0, 1) := by decide +kernel
theorem d_P_kindOf_51 : decode b_P_kindOf 51 = .ok (.iload_n 1, 1) := by decide +kernel
theorem d_P_kindOf_52 : decode b_P_kindOf 52 = .ok (.invokevirtual 213, 3) := by decide +kernel
theorem d_P_kindOf_55 : decode b_P_kindOf 55 = .ok (.ifCond .eq 13, 3) := by decide +kernel
theorem d_P_kindOf_58 : decode b_P_kindOf 58 = .ok (.aload_n 0, 1) := by decide +kernel
theorem d_P_kindOf_59 : decode b_P_kindOf 59 = .ok (.iload_n 1, 1) := by decide +kernel
theorem d_P_kindOf_60 : decode b_P_kindOf 60 = .ok (.invokevirtual 216, 3) := by decide +kernel
theorem d_P_kindOf_63 : decode b_P_kindOf 63 = .ok (.ifCond .eq 5, 3) := by decide +kernel
theorem d_P_kindOf_66 : decode b_P_kindOf 66 = .ok (.iconst 3, 1) := by decide +kernel
theorem d_P_kindOf_67 : decode b_P_kindOf 67 = .ok (.ireturn, 1) := by decide +kernel
theorem d_P_kindOf_68 : decode b_P_kindOf 68 = .ok (.aload_n 0, 1) := by decide +kernel
theorem d_P_kindOf_69 : decode b_P_kindOf 69 = .ok (.aload_n 0, 1) := by decide +kernel
theorem d_P_kindOf_70 : decode b_P_kindOf 70 = .ok (.getfield 39, 3) := by decide +kernel
theorem d_P_kindOf_73 : decode b_P_kindOf 73 = .ok (.getfield 219, 3) := by decide +kernel
theorem d_P_kindOf_76 : decode b_P_kindOf 76 = .ok (.iload_n 1, 1) := by decide +kernel
theorem d_P_kindOf_77 : decode b_P_kindOf 77 = .ok (.iaload, 1) := by decide +kernel
theorem d_P_kindOf_78 : decode b_P_kindOf 78 = .ok (.aload_n 0, 1) := by decide +kernel
theorem d_P_kindOf_79 : decode b_P_kindOf 79 = .ok (.getfield 39, 3) := by decide +kernel
theorem d_P_kindOf_82 : decode b_P_kindOf 82 = .ok (.getfield 220, 3) := by decide +kernel
theorem d_P_kindOf_85 : decode b_P_kindOf 85 = .ok (.iload_n 1, 1) := by decide +kernel
theorem d_P_kindOf_86 : decode b_P_kindOf 86 = .ok (.iaload, 1) := by decide +kernel
theorem d_P_kindOf_87 : decode b_P_kindOf 87 = .ok (.iload_n 2, 1) := by decide +kernel
theorem d_P_kindOf_88 : decode b_P_kindOf 88 = .ok (.iload_n 3, 1) := by decide +kernel
theorem d_P_kindOf_89 : decode b_P_kindOf 89 = .ok (.invokevirtual 221, 3) := by decide +kernel
theorem d_P_kindOf_92 : decode b_P_kindOf 92 = .ok (.istore 4, 2) := by decide +kernel
theorem d_P_kindOf_94 : decode b_P_kindOf 94 = .ok (.iconst 2, 1) := by decide +kernel
theorem d_P_kindOf_95 : decode b_P_kindOf 95 = .ok (.iload 4, 2) := by decide +kernel
theorem d_P_kindOf_97 : decode b_P_kindOf 97 = .ok (.imul, 1) := by decide +kernel
theorem d_P_kindOf_98 : decode b_P_kindOf 98 = .ok (.iload_n 2, 1) := by decide +kernel
theorem d_P_kindOf_99 : decode b_P_kindOf 99 = .ok (.iload_n 3, 1) := by decide +kernel
theorem d_P_kindOf_100 : decode b_P_kindOf 100 = .ok (.imul, 1) := by decide +kernel
theorem d_P_kindOf_101 : decode b_P_kindOf 101 = .ok (.if_icmp .lt 7, 3) := by decide +kernel
theorem d_P_kindOf_104 : decode b_P_kindOf 104 = .ok (.iconst 2, 1) := by decide +kernel
theorem d_P_kindOf_105 : decode b_P_kindOf 105 = .ok (.goto 4, 3) := by decide +kernel
theorem d_P_kindOf_108 : decode b_P_kindOf 108 = .ok (.iconst 0, 1) := by decide +kernel
theorem d_P_kindOf_109 : decode b_P_kindOf 109 = .ok (.ireturn, 1) := by decide +kernel
theorem d_P_isThin_0 : decode b_P_isThin 0 = .ok (.iload_n 1, 1) := by decide +kernel
theorem d_P_isThin_1 : decode b_P_isThin 1 = .ok (.iconst 2, 1) := by decide +kernel
theorem d_P_isThin_2 : decode b_P_isThin 2 = .ok (.if_icmp .gt 14, 3) := by decide +kernel
theorem d_P_isThin_5 : decode b_P_isThin 5 = .ok (.iload_n 0, 1) := by decide +kernel
theorem d_P_isThin_6 : decode b_P_isThin 6 = .ok (.iconst 5, 1) := by decide +kernel
theorem d_P_isThin_7 : decode b_P_isThin 7 = .ok (.iload_n 1, 1) := by decide +kernel
theorem d_P_isThin_8 : decode b_P_isThin 8 = .ok (.imul, 1) := by decide +kernel
theorem d_P_isThin_9 : decode b_P_isThin 9 = .ok (.if_icmp .lt 7, 3) := by decide +kernel
theorem d_P_isThin_12 : decode b_P_isThin 12 = .ok (.iconst 1, 1) := by decide +kernel
theorem d_P_isThin_13 : decode b_P_isThin 13 = .ok (.goto 4, 3) := by decide +kernel
theorem d_P_isThin_16 : decode b_P_isThin 16 = .ok (.iconst 0, 1) := by decide +kernel
theorem d_P_isThin_17 : decode b_P_isThin 17 = .ok (.ireturn, 1) := by decide +kernel
theorem d_P_isFramed_0 : decode b_P_isFramed 0 = .ok (.aload_n 0, 1) := by decide +kernel
theorem d_P_isFramed_1 : decode b_P_isFramed 1 = .ok (.getfield 39, 3) := by decide +kernel
theorem d_P_isFramed_4 : decode b_P_isFramed 4 = .ok (.getfield 219, 3) := by decide +kernel
theorem d_P_isFramed_7 : decode b_P_isFramed 7 = .ok (.iload_n 1, 1) := by decide +kernel
theorem d_P_isFramed_8 : decode b_P_isFramed 8 = .ok (.iaload, 1) := by decide +kernel
theorem d_P_isFramed_9 : decode b_P_isFramed 9 = .ok (.istore_n 2, 1) := by decide +kernel
theorem d_P_isFramed_10 : decode b_P_isFramed 10 = .ok (.aload_n 0, 1) := by decide +kernel
theorem d_P_isFramed_11 : decode b_P_isFramed 11 = .ok (.getfield 39, 3) := by decide +kernel
theorem d_P_isFramed_14 : decode b_P_isFramed 14 = .ok (.getfield 220, 3) := by decide +kernel
theorem d_P_isFramed_17 : decode b_P_isFramed 17 = .ok (.iload_n 1, 1) := by decide +kernel
theorem d_P_isFramed_18 : decode b_P_isFramed 18 = .ok (.iaload, 1) := by decide +kernel
theorem d_P_isFramed_19 : decode b_P_isFramed 19 = .ok (.istore_n 3, 1) := by decide +kernel
theorem d_P_isFramed_20 : decode b_P_isFramed 20 = .ok (.aload_n 0, 1) := by decide +kernel
theorem d_P_isFramed_21 : decode b_P_isFramed 21 = .ok (.getfield 39, 3) := by decide +kernel
theorem d_P_isFramed_24 : decode b_P_isFramed 24 = .ok (.iload_n 1, 1) := by decide +kernel
theorem d_P_isFramed_25 : decode b_P_isFramed 25 = .ok (.invokevirtual 203, 3) := by decide +kernel
theorem d_P_isFramed_28 : decode b_P_isFramed 28 = .ok (.istore 4, 2) := by decide +kernel
theorem d_P_isFramed_30 : decode b_P_isFramed 30 = .ok (.aload_n 0, 1) := by decide +kernel
theorem d_P_isFramed_31 : decode b_P_isFramed 31 = .ok (.getfield 39, 3) := by decide +kernel
theorem d_P_isFramed_34 : decode b_P_isFramed 34 = .ok (.iload_n 1, 1) := by decide +kernel
theorem d_P_isFramed_35 : decode b_P_isFramed 35 = .ok (.invokevirtual 206, 3) := by decide +kernel
theorem d_P_isFramed_38 : decode b_P_isFramed 38 = .ok (.istore 5, 2) := by decide +kernel
theorem d_P_isFramed_40 : decode b_P_isFramed 40 = .ok (.iconst 4, 1) := by decide +kernel
theorem d_P_isFramed_41 : decode b_P_isFramed 41 = .ok (.aload_n 0, 1) := by decide +kernel
theorem d_P_isFramed_42 : decode b_P_isFramed 42 = .ok (.iload_n 2, 1) := by decide +kernel
theorem d_P_isFramed_43 : decode b_P_isFramed 43 = .ok (.iload_n 3, 1) := by decide +kernel
theorem d_P_isFramed_44 : decode b_P_isFramed 44 = .ok (.iload 4, 2) := by decide +kernel
theorem d_P_isFramed_46 : decode b_P_isFramed 46 = .ok (.iconst 1, 1) := by decide +kernel
theorem d_P_isFramed_47 : decode b_P_isFramed 47 = .ok (.invokevirtual 221, 3) := by decide +kernel
theorem d_P_isFramed_50 : decode b_P_isFramed 50 = .ok (.imul, 1) := by decide +kernel
theorem d_P_isFramed_51 : decode b_P_isFramed 51 = .ok (.iconst 3, 1) := by decide +kernel
theorem d_P_isFramed_52 : decode b_P_isFramed 52 = .ok (.iload 4, 2) := by decide +kernel
theorem d_P_isFramed_54 : decode b_P_isFramed 54 = .ok (.imul, 1) := by decide +kernel
theorem d_P_isFramed_55 : decode b_P_isFramed 55 = .ok (.if_icmp .lt 77, 3) := by decide +kernel
theorem d_P_isFramed_58 : decode b_P_isFramed 58 = .ok (.iconst 4, 1) := by decide +kernel
theorem d_P_isFramed_59 : decode b_P_isFramed 59 = .ok (.aload_n 0, 1) := by decide +kernel
theorem d_P_isFramed_60 : decode b_P_isFramed 60 = .ok (.iload_n 2, 1) := by decide +kernel
theorem d_P_isFramed_61 : decode b_P_isFramed 61 = .ok (.aload_n 0, 1) := by decide +kernel
theorem d_P_isFramed_62 : decode b_P_isFramed 62 = .ok (.getfield 39, 3) := by decide +kernel
theorem d_P_isFramed_65 : decode b_P_isFramed 65 = .ok (.getfield 225, 3) := by decide +kernel
theorem d_P_isFramed_68 : decode b_P_isFramed 68 = .ok (.iload_n 1, 1) := by decide +kernel
theorem d_P_isFramed_69 : decode b_P_isFramed 69 = .ok (.iaload, 1) := by decide +kernel
theorem d_P_isFramed_70 : decode b_P_isFramed 70 = .ok (.iload 4, 2) := by decide +kernel
theorem d_P_isFramed_72 : decode b_P_isFramed 72 = .ok (.iconst 1, 1) := by decide +kernel
theorem d_P_isFramed_73 : decode b_P_isFramed 73 = .ok (.invokevirtual 221, 3) := by decide +kernel
theorem d_P_isFramed_76 : decode b_P_isFramed 76 = .ok (.imul, 1) := by decide +kernel
theorem d_P_isFramed_77 : decode b_P_isFramed 77 = .ok (.iconst 3, 1) := by decide +kernel
theorem d_P_isFramed_78 : decode b_P_isFramed 78 = .ok (.iload 4, 2) := by decide +kernel
theorem d_P_isFramed_80 : decode b_P_isFramed 80 = .ok (.imul, 1) := by decide +kernel
theorem d_P_isFramed_81 : decode b_P_isFramed 81 = .ok (.if_icmp .lt 51, 3) := by decide +kernel
theorem d_P_isFramed_84 : decode b_P_isFramed 84 = .ok (.iconst 4, 1) := by decide +kernel
theorem d_P_isFramed_85 : decode b_P_isFramed 85 = .ok (.aload_n 0, 1) := by decide +kernel
theorem d_P_isFramed_86 : decode b_P_isFramed 86 = .ok (.iload_n 2, 1) := by decide +kernel
theorem d_P_isFramed_87 : decode b_P_isFramed 87 = .ok (.iload_n 3, 1) := by decide +kernel
theorem d_P_isFramed_88 : decode b_P_isFramed 88 = .ok (.iconst 1, 1) := by decide +kernel
theorem d_P_isFramed_89 : decode b_P_isFramed 89 = .ok (.iload 5, 2) := by decide +kernel
theorem d_P_isFramed_91 : decode b_P_isFramed 91 = .ok (.invokevirtual 221, 3) := by decide +kernel
theorem d_P_isFramed_94 : decode b_P_isFramed 94 = .ok (.imul, 1) := by decide +kernel
theorem d_P_isFramed_95 : decode b_P_isFramed 95 = .ok (.iconst 3, 1) := by decide +kernel
theorem d_P_isFramed_96 : decode b_P_isFramed 96 = .ok (.iload 5, 2) := by decide +kernel
theorem d_P_isFramed_98 : decode b_P_isFramed 98 = .ok (.imul, 1) := by decide +kernel
theorem d_P_isFramed_99 : decode b_P_isFramed 99 = .ok (.if_icmp .lt 33, 3) := by decide +kernel
theorem d_P_isFramed_102 : decode b_P_isFramed 102 = .ok (.iconst 4, 1) := by decide +kernel
theorem d_P_isFramed_103 : decode b_P_isFramed 103 = .ok (.aload_n 0, 1) := by decide +kernel
theorem d_P_isFramed_104 : decode b_P_isFramed 104 = .ok (.aload_n 0, 1) := by decide +kernel
theorem d_P_isFramed_105 : decode b_P_isFramed 105 = .ok (.getfield 39, 3) := by decide +kernel
theorem d_P_isFramed_108 : decode b_P_isFramed 108 = .ok (.getfield 228, 3) := by decide +kernel
theorem d_P_isFramed_111 : decode b_P_isFramed 111 = .ok (.iload_n 1, 1) := by decide +kernel
theorem d_P_isFramed_112 : decode b_P_isFramed 112 = .ok (.iaload, 1) := by decide +kernel
theorem d_P_isFramed_113 : decode b_P_isFramed 113 = .ok (.iload_n 3, 1) := by decide +kernel
theorem d_P_isFramed_114 : decode b_P_isFramed 114 = .ok (.iconst 1, 1) := by decide +kernel
theorem d_P_isFramed_115 : decode b_P_isFramed 115 = .ok (.iload 5, 2) := by decide +kernel
theorem d_P_isFramed_117 : decode b_P_isFramed 117 = .ok (.invokevirtual 221, 3) := by decide +kernel
theorem d_P_isFramed_120 : decode b_P_isFramed 120 = .ok (.imul, 1) := by decide +kernel
theorem d_P_isFramed_121 : decode b_P_isFramed 121 = .ok (.iconst 3, 1) := by decide +kernel
theorem d_P_isFramed_122 : decode b_P_isFramed 122 = .ok (.iload 5, 2) := by decide +kernel
theorem d_P_isFramed_124 : decode b_P_isFramed 124 = .ok (.imul, 1) := by decide +kernel
theorem d_P_isFramed_125 : decode b_P_isFramed 125 = .ok (.if_icmp .lt 7, 3) := by decide +kernel
theorem d_P_isFramed_128 : decode b_P_isFramed 128 = .ok (.iconst 1, 1) := by decide +kernel
theorem d_P_isFramed_129 : decode b_P_isFramed 129 = .ok (.goto 4, 3) := by decide +kernel
theorem d_P_isFramed_132 : decode b_P_isFramed 132 = .ok (.iconst 0, 1) := by decide +kernel
theorem d_P_isFramed_133 : decode b_P_isFramed 133 = .ok (.ireturn, 1) := by decide +kernel
theorem d_P_isMostlyEmptyWithin_0 : decode b_P_isMostlyEmptyWithin 0 = .ok (.aload_n 0, 1) := by decide +kernel
theorem d_P_isMostlyEmptyWithin_1 : decode b_P_isMostlyEmptyWithin 1 = .ok (.getfield 39, 3) := by decide +kernel
theorem d_P_isMostlyEmptyWithin_4 : decode b_P_isMostlyEmptyWithin 4 = .ok (.iload_n 1, 1) := by decide +kernel
theorem d_P_isMostlyEmptyWithin_5 : decode b_P_isMostlyEmptyWithin 5 = .ok (.invokevirtual 203, 3) := by decide +kernel
theorem d_P_isMostlyEmptyWithin_8 : decode b_P_isMostlyEmptyWithin 8 = .ok (.iconst 2, 1) := by decide +kernel
theorem d_P_isMostlyEmptyWithin_9 : decode b_P_isMostlyEmptyWithin 9 = .ok (.isub, 1) := by decide +kernel
theorem d_P_isMostlyEmptyWithin_10 : decode b_P_isMostlyEmptyWithin 10 = .ok (.istore_n 2, 1) := by decide +kernel
theorem d_P_isMostlyEmptyWithin_11 : decode b_P_isMostlyEmptyWithin 11 = .ok (.aload_n 0, 1) := by decide +kernel
theorem d_P_isMostlyEmptyWithin_12 : decode b_P_isMostlyEmptyWithin 12 = .ok (.getfield 39, 3) := by decide +kernel
theorem d_P_isMostlyEmptyWithin_15 : decode b_P_isMostlyEmptyWithin 15 = .ok (.iload_n 1, 1) := by decide +kernel
theorem d_P_isMostlyEmptyWithin_16 : decode b_P_isMostlyEmptyWithin 16 = .ok (.invokevirtual 206, 3) := by decide +kernel
theorem d_P_isMostlyEmptyWithin_19 : decode b_P_isMostlyEmptyWithin 19 = .ok (.iconst 2, 1) := by decide +kernel
theorem d_P_isMostlyEmptyWithin_20 : decode b_P_isMostlyEmptyWithin 20 = .ok (.isub, 1) := by decide +kernel
theorem d_P_isMostlyEmptyWithin_21 : decode b_P_isMostlyEmptyWithin 21 = .ok (.istore_n 3, 1) := by decide +kernel
theorem d_P_isMostlyEmptyWithin_22 : decode b_P_isMostlyEmptyWithin 22 = .ok (.iconst 4, 1) := by decide +kernel
theorem d_P_isMostlyEmptyWithin_23 : decode b_P_isMostlyEmptyWithin 23 = .ok (.aload_n 0, 1) := by decide +kernel
theorem d_P_isMostlyEmptyWithin_24 : decode b_P_isMostlyEmptyWithin 24 = .ok (.aload_n 0, 1) := by decide +kernel
theorem d_P_isMostlyEmptyWithin_25 : decode b_P_isMostlyEmptyWithin 25 = .ok (.getfield 39, 3) := by decide +kernel
theorem d_P_isMostlyEmptyWithin_28 : decode b_P_isMostlyEmptyWithin 28 = .ok (.getfield 219, 3) := by decide +kernel
theorem d_P_isMostlyEmptyWithin_31 : decode b_P_isMostlyEmptyWithin 31 = .ok (.iload_n 1, 1) := by decide +kernel
theorem d_P_isMostlyEmptyWithin_32 : decode b_P_isMostlyEmptyWithin 32 = .ok (.iaload, 1) := by decide +kernel
theorem d_P_isMostlyEmptyWithin_33 : decode b_P_isMostlyEmptyWithin 33 = .ok (.iconst 1, 1) := by decide +kernel
theorem d_P_isMostlyEmptyWithin_34 : decode b_P_isMostlyEmptyWithin 34 = .ok (.iadd, 1) := by decide +kernel
theorem d_P_isMostlyEmptyWithin_35 : decode b_P_isMostlyEmptyWithin 35 = .ok (.aload_n 0, 1) := by decide +kernel
theorem d_P_isMostlyEmptyWithin_36 : decode b_P_isMostlyEmptyWithin 36 = .ok (.getfield 39, 3) := by decide +kernel
theorem d_P_isMostlyEmptyWithin_39 : decode b_P_isMostlyEmptyWithin 39 = .ok (.getfield 220, 3) := by decide +kernel
theorem d_P_isMostlyEmptyWithin_42 : decode b_P_isMostlyEmptyWithin 42 = .ok (.iload_n 1, 1) := by decide +kernel
theorem d_P_isMostlyEmptyWithin_43 : decode b_P_isMostlyEmptyWithin 43 = .ok (.iaload, 1) := by decide +kernel
theorem d_P_isMostlyEmptyWithin_44 : decode b_P_isMostlyEmptyWithin 44 = .ok (.iconst 1, 1) := by decide +kernel
theorem d_P_isMostlyEmptyWithin_45 : decode b_P_isMostlyEmptyWithin 45 = .ok (.iadd, 1) := by decide +kernel
theorem d_P_isMostlyEmptyWithin_46 : decode b_P_isMostlyEmptyWithin 46 = .ok (.iload_n 2, 1) := by decide +kernel
theorem d_P_isMostlyEmptyWithin_47 : decode b_P_isMostlyEmptyWithin 47 = .ok (.iload_n 3, 1) := by decide +kernel
theorem d_P_isMostlyEmptyWithin_48 : decode b_P_isMostlyEmptyWithin 48 = .ok (.invokevirtual 221, 3) := by decide +kernel
theorem d_P_isMostlyEmptyWithin_51 : decode b_P_isMostlyEmptyWithin 51 = .ok (.imul, 1) := by decide +kernel
theorem d_P_isMostlyEmptyWithin_52 : decode b_P_isMostlyEmptyWithin 52 = .ok (.iload_n 2, 1) := by decide +kernel
theorem d_P_isMostlyEmptyWithin_53 : decode b_P_isMostlyEmptyWithin 53 = .ok (.iload_n 3, 1) := by decide +kernel
theorem d_P_isMostlyEmptyWithin_54 : decode b_P_isMostlyEmptyWithin 54 = .ok (.imul, 1) := by decide +kernel
theorem d_P_isMostlyEmptyWithin_55 : decode b_P_isMostlyEmptyWithin 55 = .ok (.if_icmp .gt 7, 3) := by decide +kernel
theorem d_P_isMostlyEmptyWithin_58 : decode b_P_isMostlyEmptyWithin 58 = .ok (.iconst 1, 1) := by decide +kernel
theorem d_P_isMostlyEmptyWithin_59 : decode b_P_isMostlyEmptyWithin 59 = .ok (.goto 4, 3) := by decide +kernel
theorem d_P_isMostlyEmptyWithin_62 : decode b_P_isMostlyEmptyWithin 62 = .ok (.iconst 0, 1) := by decide +kernel
theorem d_P_isMostlyEmptyWithin_63 : decode b_P_isMostlyEmptyWithin 63 = .ok (.ireturn, 1) := by decide +kernel
theorem d_P_countClean_0 : decode b_P_countClean 0 = .ok (.iconst 0, 1) := by decide +kernel
theorem d_P_countClean_1 : decode b_P_countClean 1 = .ok (.istore 5, 2) := by decide +kernel
theorem d_P_countClean_3 : decode b_P_countClean 3 = .ok (.iload_n 2, 1) := by decide +kernel
theorem d_P_countClean_4 : decode b_P_countClean 4 = .ok (.istore 6, 2) := by decide +kernel
theorem d_P_countClean_6 : decode b_P_countClean 6 = .ok (.iload 6, 2) := by decide +kernel
theorem d_P_countClean_8 : decode b_P_countClean 8 = .ok (.iload_n 2, 1) := by decide +kernel
theorem d_P_countClean_9 : decode b_P_countClean 9 = .ok (.iload 4, 2) := by decide +kernel
theorem d_P_countClean_11 : decode b_P_countClean 11 = .ok (.iadd, 1) := by decide +kernel
theorem d_P_countClean_12 : decode b_P_countClean 12 = .ok (.if_icmp .ge 45, 3) := by decide +kernel
theorem d_P_countClean_15 : decode b_P_countClean 15 = .ok (.iload_n 1, 1) := by decide +kernel
theorem d_P_countClean_16 : decode b_P_countClean 16 = .ok (.istore 7, 2) := by decide +kernel
theorem d_P_countClean_18 : decode b_P_countClean 18 = .ok (.iload 7, 2) := by decide +kernel
theorem d_P_countClean_20 : decode b_P_countClean 20 = .ok (.iload_n 1, 1) := by decide +kernel
theorem d_P_countClean_21 : decode b_P_countClean 21 = .ok (.iload_n 3, 1) := by decide +kernel
theorem d_P_countClean_22 : decode b_P_countClean 22 = .ok (.iadd, 1) := by decide +kernel
theorem d_P_countClean_23 : decode b_P_countClean 23 = .ok (.if_icmp .ge 28, 3) := by decide +kernel
theorem d_P_countClean_26 : decode b_P_countClean 26 = .ok (.aload_n 0, 1) := by decide +kernel
theorem d_P_countClean_27 : decode b_P_countClean 27 = .ok (.getfield 13, 3) := by decide +kernel
theorem d_P_countClean_30 : decode b_P_countClean 30 = .ok (.iload 6, 2) := by decide +kernel
theorem d_P_countClean_32 : decode b_P_countClean 32 = .ok (.bipush 24, 2) := by decide +kernel
theorem d_P_countClean_34 : decode b_P_countClean 34 = .ok (.imul, 1) := by decide +kernel
theorem d_P_countClean_35 : decode b_P_countClean 35 = .ok (.iload 7, 2) := by decide +kernel
theorem d_P_countClean_37 : decode b_P_countClean 37 = .ok (.iadd, 1) := by decide +kernel
theorem d_P_countClean_38 : decode b_P_countClean 38 = .ok (.baload, 1) := by decide +kernel
theorem d_P_countClean_39 : decode b_P_countClean 39 = .ok (.ifCond .eq 6, 3) := by decide +kernel
theorem d_P_countClean_42 : decode b_P_countClean 42 = .ok (.iinc 5 1, 3) := by decide +kernel
theorem d_P_countClean_45 : decode b_P_countClean 45 = .ok (.iinc 7 1, 3) := by decide +kernel
theorem d_P_countClean_48 : decode b_P_countClean 48 = .ok (.goto (-30), 3) := by decide +kernel
theorem d_P_countClean_51 : decode b_P_countClean 51 = .ok (.iinc 6 1, 3) := by decide +kernel
theorem d_P_countClean_54 : decode b_P_countClean 54 = .ok (.goto (-48), 3) := by decide +kernel
theorem d_P_countClean_57 : decode b_P_countClean 57 = .ok (.iload 5, 2) := by decide +kernel
theorem d_P_countClean_59 : decode b_P_countClean 59 = .ok (.ireturn, 1) := by decide +kernel
theorem d_P_countLines_0 : decode b_P_countLines 0 = .ok (.iconst 0, 1) := by decide +kernel
theorem d_P_countLines_1 : decode b_P_countLines 1 = .ok (.istore_n 2, 1) := by decide +kernel
theorem d_P_countLines_2 : decode b_P_countLines 2 = .ok (.aload_n 0, 1) := by decide +kernel
theorem d_P_countLines_3 : decode b_P_countLines 3 = .ok (.getfield 39, 3) := by decide +kernel
theorem d_P_countLines_6 : decode b_P_countLines 6 = .ok (.getfield 220, 3) := by decide +kernel
theorem d_P_countLines_9 : decode b_P_countLines 9 = .ok (.iload_n 1, 1) := by decide +kernel
theorem d_P_countLines_10 : decode b_P_countLines 10 = .ok (.iaload, 1) := by decide +kernel
theorem d_P_countLines_11 : decode b_P_countLines 11 = .ok (.istore_n 3, 1) := by decide +kernel
theorem d_P_countLines_12 : decode b_P_countLines 12 = .ok (.iload_n 3, 1) := by decide +kernel
theorem d_P_countLines_13 : decode b_P_countLines 13 = .ok (.aload_n 0, 1) := by decide +kernel
theorem d_P_countLines_14 : decode b_P_countLines 14 = .ok (.getfield 39, 3) := by decide +kernel
theorem d_P_countLines_17 : decode b_P_countLines 17 = .ok (.getfield 225, 3) := by decide +kernel
theorem d_P_countLines_20 : decode b_P_countLines 20 = .ok (.iload_n 1, 1) := by decide +kernel
theorem d_P_countLines_21 : decode b_P_countLines 21 = .ok (.iaload, 1) := by decide +kernel
theorem d_P_countLines_22 : decode b_P_countLines 22 = .ok (.if_icmp .gt 21, 3) := by decide +kernel
theorem d_P_countLines_25 : decode b_P_countLines 25 = .ok (.aload_n 0, 1) := by decide +kernel
theorem d_P_countLines_26 : decode b_P_countLines 26 = .ok (.iload_n 1, 1) := by decide +kernel
theorem d_P_countLines_27 : decode b_P_countLines 27 = .ok (.iload_n 3, 1) := by decide +kernel
theorem d_P_countLines_28 : decode b_P_countLines 28 = .ok (.invokevirtual 231, 3) := by decide +kernel
theorem d_P_countLines_31 : decode b_P_countLines 31 = .ok (.ifCond .eq 6, 3) := by decide +kernel
theorem d_P_countLines_34 : decode b_P_countLines 34 = .ok (.iinc 2 1, 3) := by decide +kernel
theorem d_P_countLines_37 : decode b_P_countLines 37 = .ok (.iinc 3 1, 3) := by decide +kernel
theorem d_P_countLines_40 : decode b_P_countLines 40 = .ok (.goto (-28), 3) := by decide +kernel
theorem d_P_countLines_43 : decode b_P_countLines 43 = .ok (.iload_n 2, 1) := by decide +kernel
theorem d_P_countLines_44 : decode b_P_countLines 44 = .ok (.ireturn, 1) := by decide +kernel
theorem d_P_firstRowOfLine_0 : decode b_P_firstRowOfLine 0 = .ok (.iconst 0, 1) := by decide +kernel
theorem d_P_firstRowOfLine_1 : decode b_P_firstRowOfLine 1 = .ok (.istore_n 3, 1) := by decide +kernel
theorem d_P_firstRowOfLine_2 : decode b_P_firstRowOfLine 2 = .ok (.aload_n 0, 1) := by decide +kernel
theorem d_P_firstRowOfLine_3 : decode b_P_firstRowOfLine 3 = .ok (.getfield 39, 3) := by decide +kernel
theorem d_P_firstRowOfLine_6 : decode b_P_firstRowOfLine 6 = .ok (.getfield 220, 3) := by decide +kernel
theorem d_P_firstRowOfLine_9 : decode b_P_firstRowOfLine 9 = .ok (.iload_n 1, 1) := by decide +kernel
theorem d_P_firstRowOfLine_10 : decode b_P_firstRowOfLine 10 = .ok (.iaload, 1) := by decide +kernel
theorem d_P_firstRowOfLine_11 : decode b_P_firstRowOfLine 11 = .ok (.istore 4, 2) := by decide +kernel
theorem d_P_firstRowOfLine_13 : decode b_P_firstRowOfLine 13 = .ok (.iload 4, 2) := by decide +kernel
theorem d_P_firstRowOfLine_15 : decode b_P_firstRowOfLine 15 = .ok (.aload_n 0, 1) := by decide +kernel
theorem d_P_firstRowOfLine_16 : decode b_P_firstRowOfLine 16 = .ok (.getfield 39, 3) := by decide +kernel
theorem d_P_firstRowOfLine_19 : decode b_P_firstRowOfLine 19 = .ok (.getfield 225, 3) := by decide +kernel
theorem d_P_firstRowOfLine_22 : decode b_P_firstRowOfLine 22 = .ok (.iload_n 1, 1) := by decide +kernel
theorem d_P_firstRowOfLine_23 : decode b_P_firstRowOfLine 23 = .ok (.iaload, 1) := by decide +kernel
theorem d_P_firstRowOfLine_24 : decode b_P_firstRowOfLine 24 = .ok (.if_icmp .gt 30, 3) := by decide +kernel
theorem d_P_firstRowOfLine_27 : decode b_P_firstRowOfLine 27 = .ok (.aload_n 0, 1) := by decide +kernel
theorem d_P_firstRowOfLine_28 : decode b_P_firstRowOfLine 28 = .ok (.iload_n 1, 1) := by decide +kernel
theorem d_P_firstRowOfLine_29 : decode b_P_firstRowOfLine 29 = .ok (.iload 4, 2) := by decide +kernel
theorem d_P_firstRowOfLine_31 : decode b_P_firstRowOfLine 31 = .ok (.invokevirtual 231, 3) := by decide +kernel
theorem d_P_firstRowOfLine_34 : decode b_P_firstRowOfLine 34 = .ok (.ifCond .eq 14, 3) := by decide +kernel
theorem d_P_firstRowOfLine_37 : decode b_P_firstRowOfLine 37 = .ok (.iload_n 3, 1) := by decide +kernel
theorem d_P_firstRowOfLine_38 : decode b_P_firstRowOfLine 38 = .ok (.iload_n 2, 1) := by decide +kernel
theorem d_P_firstRowOfLine_39 : decode b_P_firstRowOfLine 39 = .ok (.if_icmp .ne 6, 3) := by decide +kernel
theorem d_P_firstRowOfLine_42 : decode b_P_firstRowOfLine 42 = .ok (.iload 4, 2) := by decide +kernel
theorem d_P_firstRowOfLine_44 : decode b_P_firstRowOfLine 44 = .ok (.ireturn, 1) := by decide +kernel
theorem d_P_firstRowOfLine_45 : decode b_P_firstRowOfLine 45 = .ok (.iinc 3 1, 3) := by decide +kernel
theorem d_P_firstRowOfLine_48 : decode b_P_firstRowOfLine 48 = .ok (.iinc 4 1, 3) := by decide +kernel
theorem d_P_firstRowOfLine_51 : decode b_P_firstRowOfLine 51 = .ok (.goto (-38), 3) := by decide +kernel
theorem d_P_firstRowOfLine_54 : decode b_P_firstRowOfLine 54 = .ok (.iconst (-1), 1) := by decide +kernel
theorem d_P_firstRowOfLine_55 : decode b_P_firstRowOfLine 55 = .ok (.ireturn, 1) := by decide +kernel
theorem d_P_countRowsOfLine_0 : decode b_P_countRowsOfLine 0 = .ok (.iload_n 2, 1) := by decide +kernel
theorem d_P_countRowsOfLine_1 : decode b_P_countRowsOfLine 1 = .ok (.istore_n 3, 1) := by decide +kernel
theorem d_P_countRowsOfLine_2 : decode b_P_countRowsOfLine 2 = .ok (.iload_n 3, 1) := by decide +kernel
theorem d_P_countRowsOfLine_3 : decode b_P_countRowsOfLine 3 = .ok (.aload_n 0, 1) := by decide +kernel
theorem d_P_countRowsOfLine_4 : decode b_P_countRowsOfLine 4 = .ok (.getfield 39, 3) := by decide +kernel
theorem d_P_countRowsOfLine_7 : decode b_P_countRowsOfLine 7 = .ok (.getfield 225, 3) := by decide +kernel
theorem d_P_countRowsOfLine_10 : decode b_P_countRowsOfLine 10 = .ok (.iload_n 1, 1) := by decide +kernel
theorem d_P_countRowsOfLine_11 : decode b_P_countRowsOfLine 11 = .ok (.iaload, 1) := by decide +kernel
theorem d_P_countRowsOfLine_12 : decode b_P_countRowsOfLine 12 = .ok (.if_icmp .gt 18, 3) := by decide +kernel
theorem d_P_countRowsOfLine_15 : decode b_P_countRowsOfLine 15 = .ok (.aload_n 0, 1) := by decide +kernel
theorem d_P_countRowsOfLine_16 : decode b_P_countRowsOfLine 16 = .ok (.iload_n 1, 1) := by decide +kernel
theorem d_P_countRowsOfLine_17 : decode b_P_countRowsOfLine 17 = .ok (.iload_n 3, 1) := by decide +kernel
theorem d_P_countRowsOfLine_18 : decode b_P_countRowsOfLine 18 = .ok (.invokevirtual 234, 3) := by decide +kernel
theorem d_P_countRowsOfLine_21 : decode b_P_countRowsOfLine 21 = .ok (.ifCond .eq 9, 3) := by decide +kernel
theorem d_P_countRowsOfLine_24 : decode b_P_countRowsOfLine 24 = .ok (.iinc 3 1, 3) := by decide +kernel
theorem d_P_countRowsOfLine_27 : decode b_P_countRowsOfLine 27 = .ok (.goto (-25), 3) := by decide +kernel
theorem d_P_countRowsOfLine_30 : decode b_P_countRowsOfLine 30 = .ok (.iload_n 3, 1) := by decide +kernel
theorem d_P_countRowsOfLine_31 : decode b_P_countRowsOfLine 31 = .ok (.iload_n 2, 1) := by decide +kernel
theorem d_P_countRowsOfLine_32 : decode b_P_countRowsOfLine 32 = .ok (.isub, 1) := by decide +kernel
theorem d_P_countRowsOfLine_33 : decode b_P_countRowsOfLine 33 = .ok (.ireturn, 1) := by decide +kernel
end
section
theorem d_P_beginsLine_0 : decode b_P_beginsLine 0 = .ok (.aload_n 0, 1) := by decide +kernel
theorem d_P_beginsLine_1 : decode b_P_beginsLine 1 = .ok (.iload_n 1, 1) := by decide +kernel
theorem d_P_beginsLine_2 : decode b_P_beginsLine 2 = .ok (.iload_n 2, 1) := by decide +kernel
theorem d_P_beginsLine_3 : decode b_P_beginsLine 3 = .ok (.invokevirtual 234, 3) := by decide +kernel
theorem d_P_beginsLine_6 : decode b_P_beginsLine 6 = .ok (.ifCond .eq 18, 3) := by decide +kernel
theorem d_P_beginsLine_9 : decode b_P_beginsLine 9 = .ok (.aload_n 0, 1) := by decide +kernel
theorem d_P_beginsLine_10 : decode b_P_beginsLine 10 = .ok (.iload_n 1, 1) := by decide +kernel
theorem d_P_beginsLine_11 : decode b_P_beginsLine 11 = .ok (.iload_n 2, 1) := by decide +kernel
theorem d_P_beginsLine_12 : decode b_P_beginsLine 12 = .ok (.iconst 1, 1) := by decide +kernel
theorem d_P_beginsLine_13 : decode b_P_beginsLine 13 = .ok (.isub, 1) := by decide +kernel
theorem d_P_beginsLine_14 : decode b_P_beginsLine 14 = .ok (.invokevirtual 234, 3) := by decide +kernel
theorem d_P_beginsLine_17 : decode b_P_beginsLine 17 = .ok (.ifCond .ne 7, 3) := by decide +kernel
theorem d_P_beginsLine_20 : decode b_P_beginsLine 20 = .ok (.iconst 1, 1) := by decide +kernel
theorem d_P_beginsLine_21 : decode b_P_beginsLine 21 = .ok (.goto 4, 3) := by decide +kernel
theorem d_P_beginsLine_24 : decode b_P_beginsLine 24 = .ok (.iconst 0, 1) := by decide +kernel
theorem d_P_beginsLine_25 : decode b_P_beginsLine 25 = .ok (.ireturn, 1) := by decide +kernel
theorem d_P_hasCleanOf_0 : decode b_P_hasCleanOf 0 = .ok (.iload_n 2, 1) := by decide +kernel
theorem d_P_hasCleanOf_1 : decode b_P_hasCleanOf 1 = .ok (.ifCond .lt 11, 3) := by decide +kernel
theorem d_P_hasCleanOf_4 : decode b_P_hasCleanOf 4 = .ok (.iload_n 2, 1) := by decide +kernel
theorem d_P_hasCleanOf_5 : decode b_P_hasCleanOf 5 = .ok (.aload_n 0, 1) := by decide +kernel
theorem d_P_hasCleanOf_6 : decode b_P_hasCleanOf 6 = .ok (.getfield 31, 3) := by decide +kernel
theorem d_P_hasCleanOf_9 : decode b_P_hasCleanOf 9 = .ok (.if_icmp .lt 5, 3) := by decide +kernel
theorem d_P_hasCleanOf_12 : decode b_P_hasCleanOf 12 = .ok (.iconst 0, 1) := by decide +kernel
theorem d_P_hasCleanOf_13 : decode b_P_hasCleanOf 13 = .ok (.ireturn, 1) := by decide +kernel
theorem d_P_hasCleanOf_14 : decode b_P_hasCleanOf 14 = .ok (.aload_n 0, 1) := by decide +kernel
theorem d_P_hasCleanOf_15 : decode b_P_hasCleanOf 15 = .ok (.getfield 39, 3) := by decide +kernel
theorem d_P_hasCleanOf_18 : decode b_P_hasCleanOf 18 = .ok (.getfield 219, 3) := by decide +kernel
theorem d_P_hasCleanOf_21 : decode b_P_hasCleanOf 21 = .ok (.iload_n 1, 1) := by decide +kernel
theorem d_P_hasCleanOf_22 : decode b_P_hasCleanOf 22 = .ok (.iaload, 1) := by decide +kernel
theorem d_P_hasCleanOf_23 : decode b_P_hasCleanOf 23 = .ok (.istore_n 3, 1) := by decide +kernel
theorem d_P_hasCleanOf_24 : decode b_P_hasCleanOf 24 = .ok (.iload_n 3, 1) := by decide +kernel
theorem d_P_hasCleanOf_25 : decode b_P_hasCleanOf 25 = .ok (.aload_n 0, 1) := by decide +kernel
theorem d_P_hasCleanOf_26 : decode b_P_hasCleanOf 26 = .ok (.getfield 39, 3) := by decide +kernel
theorem d_P_hasCleanOf_29 : decode b_P_hasCleanOf 29 = .ok (.getfield 228, 3) := by decide +kernel
theorem d_P_hasCleanOf_32 : decode b_P_hasCleanOf 32 = .ok (.iload_n 1, 1) := by decide +kernel
theorem d_P_hasCleanOf_33 : decode b_P_hasCleanOf 33 = .ok (.iaload, 1) := by decide +kernel
theorem d_P_hasCleanOf_34 : decode b_P_hasCleanOf 34 = .ok (.if_icmp .gt 43, 3) := by decide +kernel
theorem d_P_hasCleanOf_37 : decode b_P_hasCleanOf 37 = .ok (.iload_n 2, 1) := by decide +kernel
theorem d_P_hasCleanOf_38 : decode b_P_hasCleanOf 38 = .ok (.bipush 24, 2) := by decide +kernel
theorem d_P_hasCleanOf_40 : decode b_P_hasCleanOf 40 = .ok (.imul, 1) := by decide +kernel
theorem d_P_hasCleanOf_41 : decode b_P_hasCleanOf 41 = .ok (.iload_n 3, 1) := by decide +kernel
theorem d_P_hasCleanOf_42 : decode b_P_hasCleanOf 42 = .ok (.iadd, 1) := by decide +kernel
theorem d_P_hasCleanOf_43 : decode b_P_hasCleanOf 43 = .ok (.istore 4, 2) := by decide +kernel
theorem d_P_hasCleanOf_45 : decode b_P_hasCleanOf 45 = .ok (.aload_n 0, 1) := by decide +kernel
theorem d_P_hasCleanOf_46 : decode b_P_hasCleanOf 46 = .ok (.getfield 13, 3) := by decide +kernel
theorem d_P_hasCleanOf_49 : decode b_P_hasCleanOf 49 = .ok (.iload 4, 2) := by decide +kernel
theorem d_P_hasCleanOf_51 : decode b_P_hasCleanOf 51 = .ok (.baload, 1) := by decide +kernel
theorem d_P_hasCleanOf_52 : decode b_P_hasCleanOf 52 = .ok (.ifCond .eq 19, 3) := by decide +kernel
theorem d_P_hasCleanOf_55 : decode b_P_hasCleanOf 55 = .ok (.aload_n 0, 1) := by decide +kernel
theorem d_P_hasCleanOf_56 : decode b_P_hasCleanOf 56 = .ok (.getfield 39, 3) := by decide +kernel
theorem d_P_hasCleanOf_59 : decode b_P_hasCleanOf 59 = .ok (.getfield 141, 3) := by decide +kernel
theorem d_P_hasCleanOf_62 : decode b_P_hasCleanOf 62 = .ok (.iload 4, 2) := by decide +kernel
theorem d_P_hasCleanOf_64 : decode b_P_hasCleanOf 64 = .ok (.iaload, 1) := by decide +kernel
theorem d_P_hasCleanOf_65 : decode b_P_hasCleanOf 65 = .ok (.iload_n 1, 1) := by decide +kernel
theorem d_P_hasCleanOf_66 : decode b_P_hasCleanOf 66 = .ok (.if_icmp .ne 5, 3) := by decide +kernel
theorem d_P_hasCleanOf_69 : decode b_P_hasCleanOf 69 = .ok (.iconst 1, 1) := by decide +kernel
theorem d_P_hasCleanOf_70 : decode b_P_hasCleanOf 70 = .ok (.ireturn, 1) := by decide +kernel
theorem d_P_hasCleanOf_71 : decode b_P_hasCleanOf 71 = .ok (.iinc 3 1, 3) := by decide +kernel
theorem d_P_hasCleanOf_74 : decode b_P_hasCleanOf 74 = .ok (.goto (-50), 3) := by decide +kernel
theorem d_P_hasCleanOf_77 : decode b_P_hasCleanOf 77 = .ok (.iconst 0, 1) := by decide +kernel
theorem d_P_hasCleanOf_78 : decode b_P_hasCleanOf 78 = .ok (.ireturn, 1) := by decide +kernel
theorem d_M_init_0 : decode b_M_init 0 = .ok (.aload_n 0, 1) := by decide +kernel
theorem d_M_init_1 : decode b_M_init 1 = .ok (.invokespecial 1, 3) := by decide +kernel
theorem d_M_init_4 : decode b_M_init 4 = .ok (.aload_n 0, 1) := by decide +kernel
theorem d_M_init_5 : decode b_M_init 5 = .ok (.sipush 576, 3) := by decide +kernel
theorem d_M_init_8 : decode b_M_init 8 = .ok (.newarray .boolean, 2) := by decide +kernel
theorem d_M_init_10 : decode b_M_init 10 = .ok (.putfield 7, 3) := by decide +kernel
theorem d_M_init_13 : decode b_M_init 13 = .ok (.aload_n 0, 1) := by decide +kernel
theorem d_M_init_14 : decode b_M_init 14 = .ok (.iconst 3, 1) := by decide +kernel
theorem d_M_init_15 : decode b_M_init 15 = .ok (.putfield 13, 3) := by decide +kernel
theorem d_M_init_18 : decode b_M_init 18 = .ok (.aload_n 0, 1) := by decide +kernel
theorem d_M_init_19 : decode b_M_init 19 = .ok (.sipush 576, 3) := by decide +kernel
theorem d_M_init_22 : decode b_M_init 22 = .ok (.newarray .boolean, 2) := by decide +kernel
theorem d_M_init_24 : decode b_M_init 24 = .ok (.putfield 17, 3) := by decide +kernel
theorem d_M_init_27 : decode b_M_init 27 = .ok (.aload_n 0, 1) := by decide +kernel
theorem d_M_init_28 : decode b_M_init 28 = .ok (.sipush 576, 3) := by decide +kernel
theorem d_M_init_31 : decode b_M_init 31 = .ok (.newarray .boolean, 2) := by decide +kernel
theorem d_M_init_33 : decode b_M_init 33 = .ok (.putfield 20, 3) := by decide +kernel
theorem d_M_init_36 : decode b_M_init 36 = .ok (.aload_n 0, 1) := by decide +kernel
theorem d_M_init_37 : decode b_M_init 37 = .ok (.sipush 576, 3) := by decide +kernel
theorem d_M_init_40 : decode b_M_init 40 = .ok (.newarray .boolean, 2) := by decide +kernel
theorem d_M_init_42 : decode b_M_init 42 = .ok (.putfield 23, 3) := by decide +kernel
theorem d_M_init_45 : decode b_M_init 45 = .ok (.aload_n 0, 1) := by decide +kernel
theorem d_M_init_46 : decode b_M_init 46 = .ok (.sipush 576, 3) := by decide +kernel
theorem d_M_init_49 : decode b_M_init 49 = .ok (.newarray .boolean, 2) := by decide +kernel
theorem d_M_init_51 : decode b_M_init 51 = .ok (.putfield 26, 3) := by decide +kernel
theorem d_M_init_54 : decode b_M_init 54 = .ok (.aload_n 0, 1) := by decide +kernel
theorem d_M_init_55 : decode b_M_init 55 = .ok (.sipush 576, 3) := by decide +kernel
theorem d_M_init_58 : decode b_M_init 58 = .ok (.newarray .int, 2) := by decide +kernel
theorem d_M_init_60 : decode b_M_init 60 = .ok (.putfield 29, 3) := by decide +kernel
theorem d_M_init_63 : decode b_M_init 63 = .ok (.aload_n 0, 1) := by decide +kernel
theorem d_M_init_64 : decode b_M_init 64 = .ok (.sipush 576, 3) := by decide +kernel
theorem d_M_init_67 : decode b_M_init 67 = .ok (.newarray .int, 2) := by decide +kernel
theorem d_M_init_69 : decode b_M_init 69 = .ok (.putfield 33, 3) := by decide +kernel
theorem d_M_init_72 : decode b_M_init 72 = .ok (.aload_n 0, 1) := by decide +kernel
theorem d_M_init_73 : decode b_M_init 73 = .ok (.sipush 300, 3) := by decide +kernel
theorem d_M_init_76 : decode b_M_init 76 = .ok (.newarray .int, 2) := by decide +kernel
theorem d_M_init_78 : decode b_M_init 78 = .ok (.putfield 36, 3) := by decide +kernel
theorem d_M_init_81 : decode b_M_init 81 = .ok (.aload_n 0, 1) := by decide +kernel
theorem d_M_init_82 : decode b_M_init 82 = .ok (.sipush 300, 3) := by decide +kernel
theorem d_M_init_85 : decode b_M_init 85 = .ok (.newarray .int, 2) := by decide +kernel
theorem d_M_init_87 : decode b_M_init 87 = .ok (.putfield 39, 3) := by decide +kernel
theorem d_M_init_90 : decode b_M_init 90 = .ok (.aload_n 0, 1) := by decide +kernel
theorem d_M_init_91 : decode b_M_init 91 = .ok (.sipush 300, 3) := by decide +kernel
theorem d_M_init_94 : decode b_M_init 94 = .ok (.newarray .int, 2) := by decide +kernel
theorem d_M_init_96 : decode b_M_init 96 = .ok (.putfield 42, 3) := by decide +kernel
theorem d_M_init_99 : decode b_M_init 99 = .ok (.aload_n 0, 1) := by decide +kernel
theorem d_M_init_100 : decode b_M_init 100 = .ok (.sipush 300, 3) := by decide +kernel
theorem d_M_init_103 : decode b_M_init 103 = .ok (.newarray .int, 2) := by decide +kernel
theorem d_M_init_105 : decode b_M_init 105 = .ok (.putfield 45, 3) := by decide +kernel
theorem d_M_init_108 : decode b_M_init 108 = .ok (.aload_n 0, 1) := by decide +kernel
theorem d_M_init_109 : decode b_M_init 109 = .ok (.sipush 300, 3) := by decide +kernel
theorem d_M_init_112 : decode b_M_init 112 = .ok (.newarray .int, 2) := by decide +kernel
theorem d_M_init_114 : decode b_M_init 114 = .ok (.putfield 48, 3) := by decide +kernel
theorem d_M_init_117 : decode b_M_init 117 = .ok (.aload_n 0, 1) := by decide +kernel
theorem d_M_init_118 : decode b_M_init 118 = .ok (.sipush 300, 3) := by decide +kernel
theorem d_M_init_121 : decode b_M_init 121 = .ok (.newarray .int, 2) := by decide +kernel
theorem d_M_init_123 : decode b_M_init 123 = .ok (.putfield 51, 3) := by decide +kernel
theorem d_M_init_126 : decode b_M_init 126 = .ok (.aload_n 0, 1) := by decide +kernel
theorem d_M_init_127 : decode b_M_init 127 = .ok (.bipush 24, 2) := by decide +kernel
theorem d_M_init_129 : decode b_M_init 129 = .ok (.newarray .int, 2) := by decide +kernel
theorem d_M_init_131 : decode b_M_init 131 = .ok (.putfield 54, 3) := by decide +kernel
theorem d_M_init_134 : decode b_M_init 134 = .ok (.aload_n 0, 1) := by decide +kernel
theorem d_M_init_135 : decode b_M_init 135 = .ok (.bipush 24, 2) := by decide +kernel
theorem d_M_init_137 : decode b_M_init 137 = .ok (.newarray .int, 2) := by decide +kernel
theorem d_M_init_139 : decode b_M_init 139 = .ok (.putfield 57, 3) := by decide +kernel
theorem d_M_init_142 : decode b_M_init 142 = .ok (.aload_n 0, 1) := by decide +kernel
theorem d_M_init_143 : decode b_M_init 143 = .ok (.sipush 576, 3) := by decide +kernel
theorem d_M_init_146 : decode b_M_init 146 = .ok (.newarray .int, 2) := by decide +kernel
theorem d_M_init_148 : decode b_M_init 148 = .ok (.putfield 60, 3) := by decide +kernel
theorem d_M_init_151 : decode b_M_init 151 = .ok (.aload_n 0, 1) := by decide +kernel
theorem d_M_init_152 : decode b_M_init 152 = .ok (.sipush 300, 3) := by decide +kernel
theorem d_M_init_155 : decode b_M_init 155 = .ok (.newarray .int, 2) := by decide +kernel
theorem d_M_init_157 : decode b_M_init 157 = .ok (.putfield 63, 3) := by decide +kernel
theorem d_M_init_160 : decode b_M_init 160 = .ok (.aload_n 0, 1) := by decide +kernel
theorem d_M_init_161 : decode b_M_init 161 = .ok (.sipush 300, 3) := by decide +kernel
theorem d_M_init_164 : decode b_M_init 164 = .ok (.newarray .int, 2) := by decide +kernel
theorem d_M_init_166 : decode b_M_init 166 = .ok (.putfield 66, 3) := by decide +kernel
theorem d_M_init_169 : decode b_M_init 169 = .ok (.aload_n 0, 1) := by decide +kernel
theorem d_M_init_170 : decode b_M_init 170 = .ok (.iload_n 1, 1) := by decide +kernel
theorem d_M_init_171 : decode b_M_init 171 = .ok (.invokestatic 69, 3) := by decide +kernel
theorem d_M_init_174 : decode b_M_init 174 = .ok (.putfield 73, 3) := by decide +kernel
theorem d_M_init_177 : decode b_M_init 177 = .ok (.aload_n 0, 1) := by decide +kernel
theorem d_M_init_178 : decode b_M_init 178 = .ok (.iload_n 2, 1) := by decide +kernel
theorem d_M_init_179 : decode b_M_init 179 = .ok (.invokestatic 69, 3) := by decide +kernel
theorem d_M_init_182 : decode b_M_init 182 = .ok (.putfield 76, 3) := by decide +kernel
theorem d_M_init_185 : decode b_M_init 185 = .ok (.return_, 1) := by decide +kernel
theorem d_M_nearest_0 : decode b_M_nearest 0 = .ok (.iload_n 0, 1) := by decide +kernel
theorem d_M_nearest_1 : decode b_M_nearest 1 = .ok (.iconst 1, 1) := by decide +kernel
theorem d_M_nearest_2 : decode b_M_nearest 2 = .ok (.if_icmp .ge 7, 3) := by decide +kernel
theorem d_M_nearest_5 : decode b_M_nearest 5 = .ok (.iconst 1, 1) := by decide +kernel
theorem d_M_nearest_6 : decode b_M_nearest 6 = .ok (.goto 15, 3) := by decide +kernel
theorem d_M_nearest_9 : decode b_M_nearest 9 = .ok (.iload_n 0, 1) := by decide +kernel
theorem d_M_nearest_10 : decode b_M_nearest 10 = .ok (.bipush 24, 2) := by decide +kernel
theorem d_M_nearest_12 : decode b_M_nearest 12 = .ok (.if_icmp .le 8, 3) := by decide +kernel
theorem d_M_nearest_15 : decode b_M_nearest 15 = .ok (.bipush 24, 2) := by decide +kernel
theorem d_M_nearest_17 : decode b_M_nearest 17 = .ok (.goto 4, 3) := by decide +kernel
theorem d_M_nearest_20 : decode b_M_nearest 20 = .ok (.iload_n 0, 1) := by decide +kernel
theorem d_M_nearest_21 : decode b_M_nearest 21 = .ok (.ireturn, 1) := by decide +kernel
theorem d_M_thrown_0 : decode b_M_thrown 0 = .ok (.aload_n 0, 1) := by decide +kernel
theorem d_M_thrown_1 : decode b_M_thrown 1 = .ok (.getfield 79, 3) := by decide +kernel
theorem d_M_thrown_4 : decode b_M_thrown 4 = .ok (.ireturn, 1) := by decide +kernel
theorem d_M_in_0 : decode b_M_in 0 = .ok (.iload_n 0, 1) := by decide +kernel
theorem d_M_in_1 : decode b_M_in 1 = .ok (.iload_n 1, 1) := by decide +kernel
theorem d_M_in_2 : decode b_M_in 2 = .ok (.if_icmp .lt 12, 3) := by decide +kernel
theorem d_M_in_5 : decode b_M_in 5 = .ok (.iload_n 0, 1) := by decide +kernel
theorem d_M_in_6 : decode b_M_in 6 = .ok (.iload_n 2, 1) := by decide +kernel
theorem d_M_in_7 : decode b_M_in 7 = .ok (.if_icmp .gt 7, 3) := by decide +kernel
theorem d_M_in_10 : decode b_M_in 10 = .ok (.iconst 1, 1) := by decide +kernel
theorem d_M_in_11 : decode b_M_in 11 = .ok (.goto 4, 3) := by decide +kernel
theorem d_M_in_14 : decode b_M_in 14 = .ok (.iconst 0, 1) := by decide +kernel
theorem d_M_in_15 : decode b_M_in 15 = .ok (.ireturn, 1) := by decide +kernel
theorem d_M_isSample_0 : decode b_M_isSample 0 = .ok (.iload_n 1, 1) := by decide +kernel
theorem d_M_isSample_1 : decode b_M_isSample 1 = .ok (.iconst 0, 1) := by decide +kernel
theorem d_M_isSample_2 : decode b_M_isSample 2 = .ok (.aload_n 0, 1) := by decide +kernel
theorem d_M_isSample_3 : decode b_M_isSample 3 = .ok (.getfield 73, 3) := by decide +kernel
theorem d_M_isSample_6 : decode b_M_isSample 6 = .ok (.iconst 1, 1) := by decide +kernel
theorem d_M_isSample_7 : decode b_M_isSample 7 = .ok (.isub, 1) := by decide +kernel
theorem d_M_isSample_8 : decode b_M_isSample 8 = .ok (.invokestatic 82, 3) := by decide +kernel
theorem d_M_isSample_11 : decode b_M_isSample 11 = .ok (.ifCond .eq 21, 3) := by decide +kernel
theorem d_M_isSample_14 : decode b_M_isSample 14 = .ok (.iload_n 2, 1) := by decide +kernel
theorem d_M_isSample_15 : decode b_M_isSample 15 = .ok (.iconst 0, 1) := by decide +kernel
theorem d_M_isSample_16 : decode b_M_isSample 16 = .ok (.aload_n 0, 1) := by decide +kernel
theorem d_M_isSample_17 : decode b_M_isSample 17 = .ok (.getfield 76, 3) := by decide +kernel
theorem d_M_isSample_20 : decode b_M_isSample 20 = .ok (.iconst 1, 1) := by decide +kernel
theorem d_M_isSample_21 : decode b_M_isSample 21 = .ok (.isub, 1) := by decide +kernel
theorem d_M_isSample_22 : decode b_M_isSample 22 = .ok (.invokestatic 82, 3) := by decide +kernel
theorem d_M_isSample_25 : decode b_M_isSample 25 = .ok (.ifCond .eq 7, 3) := by decide +kernel
theorem d_M_isSample_28 : decode b_M_isSample 28 = .ok (.iconst 1, 1) := by decide +kernel
theorem d_M_isSample_29 : decode b_M_isSample 29 = .ok (.goto 4, 3) := by decide +kernel
theorem d_M_isSample_32 : decode b_M_isSample 32 = .ok (.iconst 0, 1) := by decide +kernel
theorem d_M_isSample_33 : decode b_M_isSample 33 = .ok (.ireturn, 1) := by decide +kernel
theorem d_M_goes_0 : decode b_M_goes 0 = .ok (.aload_n 0, 1) := by decide +kernel
theorem d_M_goes_1 : decode b_M_goes 1 = .ok (.iload_n 1, 1) := by decide +kernel
theorem d_M_goes_2 : decode b_M_goes 2 = .ok (.ifCond .ne 7, 3) := by decide +kernel
theorem d_M_goes_5 : decode b_M_goes 5 = .ok (.iconst 1, 1) := by decide +kernel
theorem d_M_goes_6 : decode b_M_goes 6 = .ok (.goto 20, 3) := by decide +kernel
theorem d_M_goes_9 : decode b_M_goes 9 = .ok (.iload_n 2, 1) := by decide +kernel
theorem d_M_goes_10 : decode b_M_goes 10 = .ok (.ifCond .ne 7, 3) := by decide +kernel
theorem d_M_goes_13 : decode b_M_goes 13 = .ok (.iconst 2, 1) := by decide +kernel
theorem d_M_goes_14 : decode b_M_goes 14 = .ok (.goto 12, 3) := by decide +kernel
theorem d_M_goes_17 : decode b_M_goes 17 = .ok (.iload_n 3, 1) := by decide +kernel
theorem d_M_goes_18 : decode b_M_goes 18 = .ok (.ifCond .ne 7, 3) := by decide +kernel
theorem d_M_goes_21 : decode b_M_goes 21 = .ok (.iconst 3, 1) := by decide +kernel
theorem d_M_goes_22 : decode b_M_goes 22 = .ok (.goto 4, 3) := by decide +kernel
theorem d_M_goes_25 : decode b_M_goes 25 = .ok (.iconst 0, 1) := by decide +kernel
theorem d_M_goes_26 : decode b_M_goes 26 = .ok (.putfield 79, 3) := by decide +kernel
theorem d_M_goes_29 : decode b_M_goes 29 = .ok (.aload_n 0, 1) := by decide +kernel
theorem d_M_goes_30 : decode b_M_goes 30 = .ok (.getfield 79, 3) := by decide +kernel
theorem d_M_goes_33 : decode b_M_goes 33 = .ok (.ifCond .ne 7, 3) := by decide +kernel
theorem d_M_goes_36 : decode b_M_goes 36 = .ok (.iconst 1, 1) := by decide +kernel
theorem d_M_goes_37 : decode b_M_goes 37 = .ok (.goto 4, 3) := by decide +kernel
theorem d_M_goes_40 : decode b_M_goes 40 = .ok (.iconst 0, 1) := by decide +kernel
theorem d_M_goes_41 : decode b_M_goes 41 = .ok (.ireturn, 1) := by decide +kernel
theorem d_M_put_0 : decode b_M_put 0 = .ok (.aload_n 0, 1) := by decide +kernel
theorem d_M_put_1 : decode b_M_put 1 = .ok (.aload_n 0, 1) := by decide +kernel
theorem d_M_put_2 : decode b_M_put 2 = .ok (.iload_n 1, 1) := by decide +kernel
theorem d_M_put_3 : decode b_M_put 3 = .ok (.iload_n 2, 1) := by decide +kernel
theorem d_M_put_4 : decode b_M_put 4 = .ok (.invokevirtual 86, 3) := by decide +kernel
theorem d_M_put_7 : decode b_M_put 7 = .ok (.iconst 1, 1) := by decide +kernel
theorem d_M_put_8 : decode b_M_put 8 = .ok (.iconst 1, 1) := by decide +kernel
theorem d_M_put_9 : decode b_M_put 9 = .ok (.invokevirtual 90, 3) := by decide +kernel
theorem d_M_put_12 : decode b_M_put 12 = .ok (.ifCond .ne 5, 3) := by decide +kernel
theorem d_M_put_15 : decode b_M_put 15 = .ok (.iconst 0, 1) := by decide +kernel
theorem d_M_put_16 : decode b_M_put 16 = .ok (.ireturn, 1) := by decide +kernel
theorem d_M_put_17 : decode b_M_put 17 = .ok (.bipush 24, 2) := by decide +kernel
theorem d_M_put_19 : decode b_M_put 19 = .ok (.iload_n 2, 1) := by decide +kernel
theorem d_M_put_20 : decode b_M_put 20 = .ok (.imul, 1) := by decide +kernel
theorem d_M_put_21 : decode b_M_put 21 = .ok (.iload_n 1, 1) := by decide +kernel
theorem d_M_put_22 : decode b_M_put 22 = .ok (.iadd, 1) := by decide +kernel
theorem d_M_put_23 : decode b_M_put 23 = .ok (.istore 4, 2) := by decide +kernel
theorem d_M_put_25 : decode b_M_put 25 = .ok (.aload_n 0, 1) := by decide +kernel
theorem d_M_put_26 : decode b_M_put 26 = .ok (.getfield 7, 3) := by decide +kernel
theorem d_M_put_29 : decode b_M_put 29 = .ok (.iload 4, 2) := by decide +kernel
theorem d_M_put_31 : decode b_M_put 31 = .ok (.baload, 1) := by decide +kernel
theorem d_M_put_32 : decode b_M_put 32 = .ok (.iload_n 3, 1) := by decide +kernel
theorem d_M_put_33 : decode b_M_put 33 = .ok (.if_icmp .eq 7, 3) := by decide +kernel
theorem d_M_put_36 : decode b_M_put 36 = .ok (.iconst 1, 1) := by decide +kernel
theorem d_M_put_37 : decode b_M_put 37 = .ok (.goto 4, 3) := by decide +kernel
theorem d_M_put_40 : decode b_M_put 40 = .ok (.iconst 0, 1) := by decide +kernel
theorem d_M_put_41 : decode b_M_put 41 = .ok (.istore 5, 2) := by decide +kernel
theorem d_M_put_43 : decode b_M_put 43 = .ok (.aload_n 0, 1) := by decide +kernel
theorem d_M_put_44 : decode b_M_put 44 = .ok (.getfield 7, 3) := by decide +kernel
theorem d_M_put_47 : decode b_M_put 47 = .ok (.iload 4, 2) := by decide +kernel
theorem d_M_put_49 : decode b_M_put 49 = .ok (.iload_n 3, 1) := by decide +kernel
theorem d_M_put_50 : decode b_M_put 50 = .ok (.bastore, 1) := by decide +kernel
theorem d_M_put_51 : decode b_M_put 51 = .ok (.aload_n 0, 1) := by decide +kernel
theorem d_M_put_52 : decode b_M_put 52 = .ok (.iconst 0, 1) := by decide +kernel
theorem d_M_put_53 : decode b_M_put 53 = .ok (.putfield 94, 3) := by decide +kernel
theorem d_M_put_56 : decode b_M_put 56 = .ok (.iload 5, 2) := by decide +kernel
theorem d_M_put_58 : decode b_M_put 58 = .ok (.ireturn, 1) := by decide +kernel
theorem d_M_fill_0 : decode b_M_fill 0 = .ok (.aload_n 0, 1) := by decide +kernel
theorem d_M_fill_1 : decode b_M_fill 1 = .ok (.aload_n 0, 1) := by decide +kernel
theorem d_M_fill_2 : decode b_M_fill 2 = .ok (.iload_n 1, 1) := by decide +kernel
theorem d_M_fill_3 : decode b_M_fill 3 = .ok (.iload_n 2, 1) := by decide +kernel
theorem d_M_fill_4 : decode b_M_fill 4 = .ok (.invokevirtual 86, 3) := by decide +kernel
theorem d_M_fill_7 : decode b_M_fill 7 = .ok (.iload_n 3, 1) := by decide +kernel
theorem d_M_fill_8 : decode b_M_fill 8 = .ok (.iconst 1, 1) := by decide +kernel
theorem d_M_fill_9 : decode b_M_fill 9 = .ok (.if_icmp .lt 13, 3) := by decide +kernel
theorem d_M_fill_12 : decode b_M_fill 12 = .ok (.iload 4, 2) := by decide +kernel
theorem d_M_fill_14 : decode b_M_fill 14 = .ok (.iconst 1, 1) := by decide +kernel
theorem d_M_fill_15 : decode b_M_fill 15 = .ok (.if_icmp .lt 7, 3) := by decide +kernel
theorem d_M_fill_18 : decode b_M_fill 18 = .ok (.iconst 1, 1) := by decide +kernel
theorem d_M_fill_19 : decode b_M_fill 19 = .ok (.goto 4, 3) := by decide +kernel
theorem d_M_fill_22 : decode b_M_fill 22 = .ok (.iconst 0, 1) := by decide +kernel
theorem d_M_fill_23 : decode b_M_fill 23 = .ok (.iconst 1, 1) := by decide +kernel
theorem d_M_fill_24 : decode b_M_fill 24 = .ok (.invokevirtual 90, 3) := by decide +kernel
theorem d_M_fill_27 : decode b_M_fill 27 = .ok (.ifCond .ne 5, 3) := by decide +kernel
theorem d_M_fill_30 : decode b_M_fill 30 = .ok (.iconst 0, 1) := by decide +kernel
theorem d_M_fill_31 : decode b_M_fill 31 = .ok (.ireturn, 1) := by decide +kernel
theorem d_M_fill_32 : decode b_M_fill 32 = .ok (.iconst 0, 1) := by decide +kernel
theorem d_M_fill_33 : decode b_M_fill 33 = .ok (.istore 6, 2) := by decide +kernel
theorem d_M_fill_35 : decode b_M_fill 35 = .ok (.iload_n 2, 1) := by decide +kernel
theorem d_M_fill_36 : decode b_M_fill 36 = .ok (.istore 7, 2) := by decide +kernel
theorem d_M_fill_38 : decode b_M_fill 38 = .ok (.iload 7, 2) := by decide +kernel
theorem d_M_fill_40 : decode b_M_fill 40 = .ok (.aload_n 0, 1) := by decide +kernel
theorem d_M_fill_41 : decode b_M_fill 41 = .ok (.getfield 76, 3) := by decide +kernel
theorem d_M_fill_44 : decode b_M_fill 44 = .ok (.if_icmp .ge 88, 3) := by decide +kernel
theorem d_M_fill_47 : decode b_M_fill 47 = .ok (.iload 7, 2) := by decide +kernel
theorem d_M_fill_49 : decode b_M_fill 49 = .ok (.iload_n 2, 1) := by decide +kernel
theorem d_M_fill_50 : decode b_M_fill 50 = .ok (.isub, 1) := by decide +kernel
theorem d_M_fill_51 : decode b_M_fill 51 = .ok (.iload 4, 2) := by decide +kernel
theorem d_M_fill_53 : decode b_M_fill 53 = .ok (.if_icmp .ge 79, 3) := by decide +kernel
theorem d_M_fill_56 : decode b_M_fill 56 = .ok (.iload_n 1, 1) := by decide +kernel
theorem d_M_fill_57 : decode b_M_fill 57 = .ok (.istore 8, 2) := by decide +kernel
theorem d_M_fill_59 : decode b_M_fill 59 = .ok (.iload 8, 2) := by decide +kernel
theorem d_M_fill_61 : decode b_M_fill 61 = .ok (.aload_n 0, 1) := by decide +kernel
theorem d_M_fill_62 : decode b_M_fill 62 = .ok (.getfield 73, 3) := by decide +kernel
theorem d_M_fill_65 : decode b_M_fill 65 = .ok (.if_icmp .ge 61, 3) := by decide +kernel
theorem d_M_fill_68 : decode b_M_fill 68 = .ok (.iload 8, 2) := by decide +kernel
theorem d_M_fill_70 : decode b_M_fill 70 = .ok (.iload_n 1, 1) := by decide +kernel
theorem d_M_fill_71 : decode b_M_fill 71 = .ok (.isub, 1) := by decide +kernel
theorem d_M_fill_72 : decode b_M_fill 72 = .ok (.iload_n 3, 1) := by decide +kernel
theorem d_M_fill_73 : decode b_M_fill 73 = .ok (.if_icmp .ge 53, 3) := by decide +kernel
theorem d_M_fill_76 : decode b_M_fill 76 = .ok (.aload_n 0, 1) := by decide +kernel
theorem d_M_fill_77 : decode b_M_fill 77 = .ok (.getfield 7, 3) := by decide +kernel
theorem d_M_fill_80 : decode b_M_fill 80 = .ok (.bipush 24, 2) := by decide +kernel
theorem d_M_fill_82 : decode b_M_fill 82 = .ok (.iload 7, 2) := by decide +kernel
theorem d_M_fill_84 : decode b_M_fill 84 = .ok (.imul, 1) := by decide +kernel
theorem d_M_fill_85 : decode b_M_fill 85 = .ok (.iload 8, 2) := by decide +kernel
theorem d_M_fill_87 : decode b_M_fill 87 = .ok (.iadd, 1) := by decide +kernel
theorem d_M_fill_88 : decode b_M_fill 88 = .ok (.baload, 1) := by decide +kernel
theorem d_M_fill_89 : decode b_M_fill 89 = .ok (.iload 5, 2) := by decide +kernel
theorem d_M_fill_91 : decode b_M_fill 91 = .ok (.if_icmp .eq 10, 3) := by decide +kernel
theorem d_M_fill_94 : decode b_M_fill 94 = .ok (.iload 6, 2) := by decide +kernel
theorem d_M_fill_96 : decode b_M_fill 96 = .ok (.iconst 1, 1) := by decide +kernel
theorem d_M_fill_97 : decode b_M_fill 97 = .ok (.iadd, 1) := by decide +kernel
theorem d_M_fill_98 : decode b_M_fill 98 = .ok (.goto 5, 3) := by decide +kernel
theorem d_M_fill_101 : decode b_M_fill 101 = .ok (.iload 6, 2) := by decide +kernel
theorem d_M_fill_103 : decode b_M_fill 103 = .ok (.istore 6, 2) := by decide +kernel
theorem d_M_fill_105 : decode b_M_fill 105 = .ok (.aload_n 0, 1) := by decide +kernel
theorem d_M_fill_106 : decode b_M_fill 106 = .ok (.getfield 7, 3) := by decide +kernel
theorem d_M_fill_109 : decode b_M_fill 109 = .ok (.bipush 24, 2) := by decide +kernel
theorem d_M_fill_111 : decode b_M_fill 111 = .ok (.iload 7, 2) := by decide +kernel
theorem d_M_fill_113 : decode b_M_fill 113 = .ok (.imul, 1) := by decide +kernel
theorem d_M_fill_114 : decode b_M_fill 114 = .ok (.iload 8, 2) := by decide +kernel
theorem d_M_fill_116 : decode b_M_fill 116 = .ok (.iadd, 1) := by decide +kernel
theorem d_M_fill_117 : decode b_M_fill 117 = .ok (.iload 5, 2) := by decide +kernel
theorem d_M_fill_119 : decode b_M_fill 119 = .ok (.bastore, 1) := by decide +kernel
theorem d_M_fill_120 : decode b_M_fill 120 = .ok (.iinc 8 1, 3) := by decide +kernel
theorem d_M_fill_123 : decode b_M_fill 123 = .ok (.goto (-64), 3) := by decide +kernel
theorem d_M_fill_126 : decode b_M_fill 126 = .ok (.iinc 7 1, 3) := by decide +kernel
theorem d_M_fill_129 : decode b_M_fill 129 = .ok (.goto (-91), 3) := by decide +kernel
theorem d_M_fill_132 : decode b_M_fill 132 = .ok (.aload_n 0, 1) := by decide +kernel
theorem d_M_fill_133 : decode b_M_fill 133 = .ok (.iconst 0, 1) := by decide +kernel
theorem d_M_fill_134 : decode b_M_fill 134 = .ok (.putfield 94, 3) := by decide +kernel
theorem d_M_fill_137 : decode b_M_fill 137 = .ok (.iload 6, 2) := by decide +kernel
theorem d_M_fill_139 : decode b_M_fill 139 = .ok (.ireturn, 1) := by decide +kernel
theorem d_M_noise_0 : decode b_M_noise 0 = .ok (.aload_n 0, 1) := by decide +kernel
theorem d_M_noise_1 : decode b_M_noise 1 = .ok (.iload_n 1, 1) := by decide +kernel
theorem d_M_noise_2 : decode b_M_noise 2 = .ok (.iconst 0, 1) := by decide +kernel
theorem d_M_noise_3 : decode b_M_noise 3 = .ok (.bipush 100, 2) := by decide +kernel
theorem d_M_noise_5 : decode b_M_noise 5 = .ok (.invokestatic 82, 3) := by decide +kernel
theorem d_M_noise_8 : decode b_M_noise 8 = .ok (.iconst 1, 1) := by decide +kernel
theorem d_M_noise_9 : decode b_M_noise 9 = .ok (.iconst 1, 1) := by decide +kernel
theorem d_M_noise_10 : decode b_M_noise 10 = .ok (.invokevirtual 90, 3) := by decide +kernel
theorem d_M_noise_13 : decode b_M_noise 13 = .ok (.ifCond .ne 5, 3) := by decide +kernel
theorem d_M_noise_16 : decode b_M_noise 16 = .ok (.iconst 0, 1) := by decide +kernel
theorem d_M_noise_17 : decode b_M_noise 17 = .ok (.ireturn, 1) := by decide +kernel
theorem d_M_noise_18 : decode b_M_noise 18 = .ok (.aload_n 0, 1) := by decide +kernel
theorem d_M_noise_19 : decode b_M_noise 19 = .ok (.getfield 13, 3) := by decide +kernel
theorem d_M_noise_22 : decode b_M_noise 22 = .ok (.istore_n 2, 1) := by decide +kernel
theorem d_M_noise_23 : decode b_M_noise 23 = .ok (.aload_n 0, 1) := by decide +kernel
theorem d_M_noise_24 : decode b_M_noise 24 = .ok (.iload_n 1, 1) := by decide +kernel
theorem d_M_noise_25 : decode b_M_noise 25 = .ok (.putfield 13, 3) := by decide +kernel
theorem d_M_noise_28 : decode b_M_noise 28 = .ok (.aload_n 0, 1) := by decide +kernel
theorem d_M_noise_29 : decode b_M_noise 29 = .ok (.iconst 0, 1) := by decide +kernel
theorem d_M_noise_30 : decode b_M_noise 30 = .ok (.putfield 94, 3) := by decide +kernel
theorem d_M_noise_33 : decode b_M_noise 33 = .ok (.iload_n 2, 1) := by decide +kernel
theorem d_M_noise_34 : decode b_M_noise 34 = .ok (.ireturn, 1) := by decide +kernel
theorem d_M_clear_0 : decode b_M_clear 0 = .ok (.aload_n 0, 1) := by decide +kernel
theorem d_M_clear_1 : decode b_M_clear 1 = .ok (.iconst 0, 1) := by decide +kernel
theorem d_M_clear_2 : decode b_M_clear 2 = .ok (.putfield 79, 3) := by decide +kernel
theorem d_M_clear_5 : decode b_M_clear 5 = .ok (.iconst 0, 1) := by decide +kernel
theorem d_M_clear_6 : decode b_M_clear 6 = .ok (.istore_n 1, 1) := by decide +kernel
theorem d_M_clear_7 : decode b_M_clear 7 = .ok (.iload_n 1, 1) := by decide +kernel
theorem d_M_clear_8 : decode b_M_clear 8 = .ok (.sipush 576, 3) := by decide +kernel
theorem d_M_clear_11 : decode b_M_clear 11 = .ok (.if_icmp .ge 16, 3) := by decide +kernel
theorem d_M_clear_14 : decode b_M_clear 14 = .ok (.aload_n 0, 1) := by decide +kernel
theorem d_M_clear_15 : decode b_M_clear 15 = .ok (.getfield 7, 3) := by decide +kernel
theorem d_M_clear_18 : decode b_M_clear 18 = .ok (.iload_n 1, 1) := by decide +kernel
theorem d_M_clear_19 : decode b_M_clear 19 = .ok (.iconst 0, 1) := by decide +kernel
theorem d_M_clear_20 : decode b_M_clear 20 = .ok (.bastore, 1) := by decide +kernel
theorem d_M_clear_21 : decode b_M_clear 21 = .ok (.iinc 1 1, 3) := by decide +kernel
theorem d_M_clear_24 : decode b_M_clear 24 = .ok (.goto (-17), 3) := by decide +kernel
theorem d_M_clear_27 : decode b_M_clear 27 = .ok (.aload_n 0, 1) := by decide +kernel
theorem d_M_clear_28 : decode b_M_clear 28 = .ok (.iconst 3, 1) := by decide +kernel
theorem d_M_clear_29 : decode b_M_clear 29 = .ok (.putfield 13, 3) := by decide +kernel
theorem d_M_clear_32 : decode b_M_clear 32 = .ok (.aload_n 0, 1) := by decide +kernel
theorem d_M_clear_33 : decode b_M_clear 33 = .ok (.iconst 0, 1) := by decide +kernel
theorem d_M_clear_34 : decode b_M_clear 34 = .ok (.putfield 94, 3) := by decide +kernel
theorem d_M_clear_37 : decode b_M_clear 37 = .ok (.return_, 1) := by decide +kernel
theorem d_M_is_0 : decode b_M_is 0 = .ok (.iload_n 1, 1) := by decide +kernel
theorem d_M_is_1 : decode b_M_is 1 = .ok (.ifCond .ne 12, 3) := by decide +kernel
theorem d_M_is_4 : decode b_M_is 4 = .ok (.aload_n 0, 1) := by decide +kernel
theorem d_M_is_5 : decode b_M_is 5 = .ok (.getfield 7, 3) := by decide +kernel
theorem d_M_is_8 : decode b_M_is 8 = .ok (.iload_n 2, 1) := by decide +kernel
theorem d_M_is_9 : decode b_M_is 9 = .ok (.baload, 1) := by decide +kernel
theorem d_M_is_10 : decode b_M_is 10 = .ok (.goto 31, 3) := by decide +kernel
theorem d_M_is_13 : decode b_M_is 13 = .ok (.iload_n 1, 1) := by decide +kernel
theorem d_M_is_14 : decode b_M_is 14 = .ok (.iconst 1, 1) := by decide +kernel
theorem d_M_is_15 : decode b_M_is 15 = .ok (.if_icmp .ne 12, 3) := by decide +kernel
theorem d_M_is_18 : decode b_M_is 18 = .ok (.aload_n 0, 1) := by decide +kernel
theorem d_M_is_19 : decode b_M_is 19 = .ok (.getfield 23, 3) := by decide +kernel
theorem d_M_is_22 : decode b_M_is 22 = .ok (.iload_n 2, 1) := by decide +kernel
theorem d_M_is_23 : decode b_M_is 23 = .ok (.baload, 1) := by decide +kernel
theorem d_M_is_24 : decode b_M_is 24 = .ok (.goto 17, 3) := by decide +kernel
theorem d_M_is_27 : decode b_M_is 27 = .ok (.aload_n 0, 1) := by decide +kernel
theorem d_M_is_28 : decode b_M_is 28 = .ok (.getfield 20, 3) := by decide +kernel
theorem d_M_is_31 : decode b_M_is 31 = .ok (.iload_n 2, 1) := by decide +kernel
theorem d_M_is_32 : decode b_M_is 32 = .ok (.baload, 1) := by decide +kernel
theorem d_M_is_33 : decode b_M_is 33 = .ok (.ifCond .ne 7, 3) := by decide +kernel
theorem d_M_is_36 : decode b_M_is 36 = .ok (.iconst 1, 1) := by decide +kernel
theorem d_M_is_37 : decode b_M_is 37 = .ok (.goto 4, 3) := by decide +kernel
theorem d_M_is_40 : decode b_M_is 40 = .ok (.iconst 0, 1) := by decide +kernel
theorem d_M_is_41 : decode b_M_is 41 = .ok (.ireturn, 1) := by decide +kernel
theorem d_M_group_0 : decode b_M_group 0 = .ok (.iconst 0, 1) := by decide +kernel
theorem d_M_group_1 : decode b_M_group 1 = .ok (.istore_n 3, 1) := by decide +kernel
theorem d_M_group_2 : decode b_M_group 2 = .ok (.iload_n 3, 1) := by decide +kernel
theorem d_M_group_3 : decode b_M_group 3 = .ok (.aload_n 0, 1) := by decide +kernel
theorem d_M_group_4 : decode b_M_group 4 = .ok (.getfield 76, 3) := by decide +kernel
theorem d_M_group_7 : decode b_M_group 7 = .ok (.if_icmp .ge 65, 3) := by decide +kernel
theorem d_M_group_10 : decode b_M_group 10 = .ok (.iconst 0, 1) := by decide +kernel
theorem d_M_group_11 : decode b_M_group 11 = .ok (.istore 4, 2) := by decide +kernel
theorem d_M_group_13 : decode b_M_group 13 = .ok (.iload 4, 2) := by decide +kernel
theorem d_M_group_15 : decode b_M_group 15 = .ok (.aload_n 0, 1) := by decide +kernel
theorem d_M_group_16 : decode b_M_group 16 = .ok (.getfield 73, 3) := by decide +kernel
theorem d_M_group_19 : decode b_M_group 19 = .ok (.if_icmp .ge 47, 3) := by decide +kernel
theorem d_M_group_22 : decode b_M_group 22 = .ok (.aload_n 0, 1) := by decide +kernel
theorem d_M_group_23 : decode b_M_group 23 = .ok (.getfield 29, 3) := by decide +kernel
theorem d_M_group_26 : decode b_M_group 26 = .ok (.bipush 24, 2) := by decide +kernel
theorem d_M_group_28 : decode b_M_group 28 = .ok (.iload_n 3, 1) := by decide +kernel
theorem d_M_group_29 : decode b_M_group 29 = .ok (.imul, 1) := by decide +kernel
theorem d_M_group_30 : decode b_M_group 30 = .ok (.iload 4, 2) := by decide +kernel
theorem d_M_group_32 : decode b_M_group 32 = .ok (.iadd, 1) := by decide +kernel
theorem d_M_group_33 : decode b_M_group 33 = .ok (.aload_n 0, 1) := by decide +kernel
theorem d_M_group_34 : decode b_M_group 34 = .ok (.iload_n 1, 1) := by decide +kernel
theorem d_M_group_35 : decode b_M_group 35 = .ok (.bipush 24, 2) := by decide +kernel
theorem d_M_group_37 : decode b_M_group 37 = .ok (.iload_n 3, 1) := by decide +kernel
theorem d_M_group_38 : decode b_M_group 38 = .ok (.imul, 1) := by decide +kernel
theorem d_M_group_39 : decode b_M_group 39 = .ok (.iload 4, 2) := by decide +kernel
theorem d_M_group_41 : decode b_M_group 41 = .ok (.iadd, 1) := by decide +kernel
theorem d_M_group_42 : decode b_M_group 42 = .ok (.invokevirtual 98, 3) := by decide +kernel
theorem d_M_group_45 : decode b_M_group 45 = .ok (.ifCond .eq 13, 3) := by decide +kernel
theorem d_M_group_48 : decode b_M_group 48 = .ok (.bipush 24, 2) := by decide +kernel
theorem d_M_group_50 : decode b_M_group 50 = .ok (.iload_n 3, 1) := by decide +kernel
theorem d_M_group_51 : decode b_M_group 51 = .ok (.imul, 1) := by decide +kernel
theorem d_M_group_52 : decode b_M_group 52 = .ok (.iload 4, 2) := by decide +kernel
theorem d_M_group_54 : decode b_M_group 54 = .ok (.iadd, 1) := by decide +kernel
theorem d_M_group_55 : decode b_M_group 55 = .ok (.goto 4, 3) := by decide +kernel
theorem d_M_group_58 : decode b_M_group 58 = .ok (.iconst (-1), 1) := by decide +kernel
theorem d_M_group_59 : decode b_M_group 59 = .ok (.iastore, 1) := by decide +kernel
theorem d_M_group_60 : decode b_M_group 60 = .ok (.iinc 4 1, 3) := by decide +kernel
theorem d_M_group_63 : decode b_M_group 63 = .ok (.goto (-50), 3) := by decide +kernel
theorem d_M_group_66 : decode b_M_group 66 = .ok (.iinc 3 1, 3) := by decide +kernel
theorem d_M_group_69 : decode b_M_group 69 = .ok (.goto (-67), 3) := by decide +kernel
theorem d_M_group_72 : decode b_M_group 72 = .ok (.iconst 1, 1) := by decide +kernel
theorem d_M_group_73 : decode b_M_group 73 = .ok (.istore_n 3, 1) := by decide +kernel
theorem d_M_group_74 : decode b_M_group 74 = .ok (.iconst 1, 1) := by decide +kernel
theorem d_M_group_75 : decode b_M_group 75 = .ok (.istore 4, 2) := by decide +kernel
theorem d_M_group_77 : decode b_M_group 77 = .ok (.iload_n 3, 1) := by decide +kernel
theorem d_M_group_78 : decode b_M_group 78 = .ok (.ifCond .eq 101, 3) := by decide +kernel
theorem d_M_group_81 : decode b_M_group 81 = .ok (.iconst 0, 1) := by decide +kernel
theorem d_M_group_82 : decode b_M_group 82 = .ok (.istore_n 3, 1) := by decide +kernel
theorem d_M_group_83 : decode b_M_group 83 = .ok (.iconst 0, 1) := by decide +kernel
theorem d_M_group_84 : decode b_M_group 84 = .ok (.istore 5, 2) := by decide +kernel
theorem d_M_group_86 : decode b_M_group 86 = .ok (.iload 5, 2) := by decide +kernel
theorem d_M_group_88 : decode b_M_group 88 = .ok (.aload_n 0, 1) := by decide +kernel
theorem d_M_group_89 : decode b_M_group 89 = .ok (.getfield 73, 3) := by decide +kernel
theorem d_M_group_92 : decode b_M_group 92 = .ok (.aload_n 0, 1) := by decide +kernel
theorem d_M_group_93 : decode b_M_group 93 = .ok (.getfield 76, 3) := by decide +kernel
theorem d_M_group_96 : decode b_M_group 96 = .ok (.imul, 1) := by decide +kernel
theorem d_M_group_97 : decode b_M_group 97 = .ok (.if_icmp .ge 67, 3) := by decide +kernel
theorem d_M_group_100 : decode b_M_group 100 = .ok (.iload 4, 2) := by decide +kernel
theorem d_M_group_102 : decode b_M_group 102 = .ok (.ifCond .eq 8, 3) := by decide +kernel
theorem d_M_group_105 : decode b_M_group 105 = .ok (.iload 5, 2) := by decide +kernel
theorem d_M_group_107 : decode b_M_group 107 = .ok (.goto 17, 3) := by decide +kernel
theorem d_M_group_110 : decode b_M_group 110 = .ok (.aload_n 0, 1) := by decide +kernel
theorem d_M_group_111 : decode b_M_group 111 = .ok (.getfield 73, 3) := by decide +kernel
theorem d_M_group_114 : decode b_M_group 114 = .ok (.aload_n 0, 1) := by decide +kernel
theorem d_M_group_115 : decode b_M_group 115 = .ok (.getfield 76, 3) := by decide +kernel
theorem d_M_group_118 : decode b_M_group 118 = .ok (.imul, 1) := by decide +kernel
theorem d_M_group_119 : decode b_M_group 119 = .ok (.iconst 1, 1) := by decide +kernel
theorem d_M_group_120 : decode b_M_group 120 = .ok (.isub, 1) := by decide +kernel
theorem d_M_group_121 : decode b_M_group 121 = .ok (.iload 5, 2) := by decide +kernel
theorem d_M_group_123 : decode b_M_group 123 = .ok (.isub, 1) := by decide +kernel
theorem d_M_group_124 : decode b_M_group 124 = .ok (.istore 6, 2) := by decide +kernel
theorem d_M_group_126 : decode b_M_group 126 = .ok (.aload_n 0, 1) := by decide +kernel
theorem d_M_group_127 : decode b_M_group 127 = .ok (.iload 6, 2) := by decide +kernel
theorem d_M_group_129 : decode b_M_group 129 = .ok (.aload_n 0, 1) := by decide +kernel
theorem d_M_group_130 : decode b_M_group 130 = .ok (.getfield 73, 3) := by decide +kernel
theorem d_M_group_133 : decode b_M_group 133 = .ok (.irem, 1) := by decide +kernel
theorem d_M_group_134 : decode b_M_group 134 = .ok (.iload 6, 2) := by decide +kernel
theorem d_M_group_136 : decode b_M_group 136 = .ok (.aload_n 0, 1) := by decide +kernel
theorem d_M_group_137 : decode b_M_group 137 = .ok (.getfield 73, 3) := by decide +kernel
theorem d_M_group_140 : decode b_M_group 140 = .ok (.idiv, 1) := by decide +kernel
theorem d_M_group_141 : decode b_M_group 141 = .ok (.iload_n 2, 1) := by decide +kernel
theorem d_M_group_142 : decode b_M_group 142 = .ok (.invokevirtual 101, 3) := by decide +kernel
theorem d_M_group_145 : decode b_M_group 145 = .ok (.ifCond .ne 7, 3) := by decide +kernel
theorem d_M_group_148 : decode b_M_group 148 = .ok (.iload_n 3, 1) := by decide +kernel
theorem d_M_group_149 : decode b_M_group 149 = .ok (.ifCond .eq 7, 3) := by decide +kernel
theorem d_M_group_152 : decode b_M_group 152 = .ok (.iconst 1, 1) := by decide +kernel
theorem d_M_group_153 : decode b_M_group 153 = .ok (.goto 4, 3) := by decide +kernel
theorem d_M_group_156 : decode b_M_group 156 = .ok (.iconst 0, 1) := by decide +kernel
theorem d_M_group_157 : decode b_M_group 157 = .ok (.istore_n 3, 1) := by decide +kernel
theorem d_M_group_158 : decode b_M_group 158 = .ok (.iinc 5 1, 3) := by decide +kernel
theorem d_M_group_161 : decode b_M_group 161 = .ok (.goto (-75), 3) := by decide +kernel
theorem d_M_group_164 : decode b_M_group 164 = .ok (.iload 4, 2) := by decide +kernel
theorem d_M_group_166 : decode b_M_group 166 = .ok (.ifCond .ne 7, 3) := by decide +kernel
theorem d_M_group_169 : decode b_M_group 169 = .ok (.iconst 1, 1) := by decide +kernel
theorem d_M_group_170 : decode b_M_group 170 = .ok (.goto 4, 3) := by decide +kernel
theorem d_M_group_173 : decode b_M_group 173 = .ok (.iconst 0, 1) := by decide +kernel
theorem d_M_group_174 : decode b_M_group 174 = .ok (.istore 4, 2) := by decide +kernel
theorem d_M_group_176 : decode b_M_group 176 = .ok (.goto (-99), 3) := by decide +kernel
theorem d_M_group_179 : decode b_M_group 179 = .ok (.return_, 1) := by decide +kernel
theorem d_M_settles_0 : decode b_M_settles 0 = .ok (.bipush 24, 2) := by decide +kernel
theorem d_M_settles_2 : decode b_M_settles 2 = .ok (.iload_n 2, 1) := by decide +kernel
theorem d_M_settles_3 : decode b_M_settles 3 = .ok (.imul, 1) := by decide +kernel
theorem d_M_settles_4 : decode b_M_settles 4 = .ok (.iload_n 1, 1) := by decide +kernel
theorem d_M_settles_5 : decode b_M_settles 5 = .ok (.iadd, 1) := by decide +kernel
theorem d_M_settles_6 : decode b_M_settles 6 = .ok (.istore 4, 2) := by decide +kernel
theorem d_M_settles_8 : decode b_M_settles 8 = .ok (.aload_n 0, 1) := by decide +kernel
theorem d_M_settles_9 : decode b_M_settles 9 = .ok (.getfield 29, 3) := by decide +kernel
theorem d_M_settles_12 : decode b_M_settles 12 = .ok (.iload 4, 2) := by decide +kernel
theorem d_M_settles_14 : decode b_M_settles 14 = .ok (.iaload, 1) := by decide +kernel
theorem d_M_settles_15 : decode b_M_settles 15 = .ok (.istore 5, 2) := by decide +kernel
theorem d_M_settles_17 : decode b_M_settles 17 = .ok (.iconst (-1), 1) := by decide +kernel
theorem d_M_settles_18 : decode b_M_settles 18 = .ok (.istore 6, 2) := by decide +kernel
theorem d_M_settles_20 : decode b_M_settles 20 = .ok (.iload 6, 2) := by decide +kernel
theorem d_M_settles_22 : decode b_M_settles 22 = .ok (.iconst 1, 1) := by decide +kernel
theorem d_M_settles_23 : decode b_M_settles 23 = .ok (.if_icmp .gt 111, 3) := by decide +kernel
theorem d_M_settles_26 : decode b_M_settles 26 = .ok (.iload 5, 2) := by decide +kernel
theorem d_M_settles_28 : decode b_M_settles 28 = .ok (.iconst (-1), 1) := by decide +kernel
theorem d_M_settles_29 : decode b_M_settles 29 = .ok (.if_icmp .eq 105, 3) := by decide +kernel
theorem d_M_settles_32 : decode b_M_settles 32 = .ok (.iconst (-1), 1) := by decide +kernel
theorem d_M_settles_33 : decode b_M_settles 33 = .ok (.istore 7, 2) := by decide +kernel
theorem d_M_settles_35 : decode b_M_settles 35 = .ok (.iload 7, 2) := by decide +kernel
theorem d_M_settles_37 : decode b_M_settles 37 = .ok (.iconst 1, 1) := by decide +kernel
theorem d_M_settles_38 : decode b_M_settles 38 = .ok (.if_icmp .gt 90, 3) := by decide +kernel
theorem d_M_settles_41 : decode b_M_settles 41 = .ok (.iload_n 3, 1) := by decide +kernel
theorem d_M_settles_42 : decode b_M_settles 42 = .ok (.ifCond .ne 13, 3) := by decide +kernel
theorem d_M_settles_45 : decode b_M_settles 45 = .ok (.iload 7, 2) := by decide +kernel
theorem d_M_settles_47 : decode b_M_settles 47 = .ok (.ifCond .eq 8, 3) := by decide +kernel
theorem d_M_settles_50 : decode b_M_settles 50 = .ok (.iload 6, 2) := by decide +kernel
theorem d_M_settles_52 : decode b_M_settles 52 = .ok (.ifCond .ne 7, 3) := by decide +kernel
theorem d_M_settles_55 : decode b_M_settles 55 = .ok (.iconst 1, 1) := by decide +kernel
theorem d_M_settles_56 : decode b_M_settles 56 = .ok (.goto 4, 3) := by decide +kernel
theorem d_M_settles_59 : decode b_M_settles 59 = .ok (.iconst 0, 1) := by decide +kernel
theorem d_M_settles_60 : decode b_M_settles 60 = .ok (.istore 8, 2) := by decide +kernel
theorem d_M_settles_62 : decode b_M_settles 62 = .ok (.iload 8, 2) := by decide +kernel
theorem d_M_settles_64 : decode b_M_settles 64 = .ok (.ifCond .eq 58, 3) := by decide +kernel
theorem d_M_settles_67 : decode b_M_settles 67 = .ok (.aload_n 0, 1) := by decide +kernel
theorem d_M_settles_68 : decode b_M_settles 68 = .ok (.iload_n 1, 1) := by decide +kernel
theorem d_M_settles_69 : decode b_M_settles 69 = .ok (.iload 7, 2) := by decide +kernel
theorem d_M_settles_71 : decode b_M_settles 71 = .ok (.iadd, 1) := by decide +kernel
theorem d_M_settles_72 : decode b_M_settles 72 = .ok (.iload_n 2, 1) := by decide +kernel
theorem d_M_settles_73 : decode b_M_settles 73 = .ok (.iload 6, 2) := by decide +kernel
theorem d_M_settles_75 : decode b_M_settles 75 = .ok (.iadd, 1) := by decide +kernel
theorem d_M_settles_76 : decode b_M_settles 76 = .ok (.invokevirtual 86, 3) := by decide +kernel
theorem d_M_settles_79 : decode b_M_settles 79 = .ok (.ifCond .eq 43, 3) := by decide +kernel
theorem d_M_settles_82 : decode b_M_settles 82 = .ok (.aload_n 0, 1) := by decide +kernel
theorem d_M_settles_83 : decode b_M_settles 83 = .ok (.getfield 29, 3) := by decide +kernel
theorem d_M_settles_86 : decode b_M_settles 86 = .ok (.iload 4, 2) := by decide +kernel
theorem d_M_settles_88 : decode b_M_settles 88 = .ok (.bipush 24, 2) := by decide +kernel
theorem d_M_settles_90 : decode b_M_settles 90 = .ok (.iload 6, 2) := by decide +kernel
theorem d_M_settles_92 : decode b_M_settles 92 = .ok (.imul, 1) := by decide +kernel
theorem d_M_settles_93 : decode b_M_settles 93 = .ok (.iadd, 1) := by decide +kernel
theorem d_M_settles_94 : decode b_M_settles 94 = .ok (.iload 7, 2) := by decide +kernel
theorem d_M_settles_96 : decode b_M_settles 96 = .ok (.iadd, 1) := by decide +kernel
theorem d_M_settles_97 : decode b_M_settles 97 = .ok (.iaload, 1) := by decide +kernel
theorem d_M_settles_98 : decode b_M_settles 98 = .ok (.istore 9, 2) := by decide +kernel
theorem d_M_settles_100 : decode b_M_settles 100 = .ok (.iload 9, 2) := by decide +kernel
theorem d_M_settles_102 : decode b_M_settles 102 = .ok (.iconst (-1), 1) := by decide +kernel
theorem d_M_settles_103 : decode b_M_settles 103 = .ok (.if_icmp .eq 15, 3) := by decide +kernel
theorem d_M_settles_106 : decode b_M_settles 106 = .ok (.iload 9, 2) := by decide +kernel
theorem d_M_settles_108 : decode b_M_settles 108 = .ok (.iload 5, 2) := by decide +kernel
theorem d_M_settles_110 : decode b_M_settles 110 = .ok (.if_icmp .ge 8, 3) := by decide +kernel
theorem d_M_settles_113 : decode b_M_settles 113 = .ok (.iload 9, 2) := by decide +kernel
theorem d_M_settles_115 : decode b_M_settles 115 = .ok (.goto 5, 3) := by decide +kernel
theorem d_M_settles_118 : decode b_M_settles 118 = .ok (.iload 5, 2) := by decide +kernel
theorem d_M_settles_120 : decode b_M_settles 120 = .ok (.istore 5, 2) := by decide +kernel
theorem d_M_settles_122 : decode b_M_settles 122 = .ok (.iinc 7 1, 3) := by decide +kernel
theorem d_M_settles_125 : decode b_M_settles 125 = .ok (.goto (-90), 3) := by decide +kernel
theorem d_M_settles_128 : decode b_M_settles 128 = .ok (.iinc 6 1, 3) := by decide +kernel
theorem d_M_settles_131 : decode b_M_settles 131 = .ok (.goto (-111), 3) := by decide +kernel
theorem d_M_settles_134 : decode b_M_settles 134 = .ok (.iload 5, 2) := by decide +kernel
theorem d_M_settles_136 : decode b_M_settles 136 = .ok (.aload_n 0, 1) := by decide +kernel
theorem d_M_settles_137 : decode b_M_settles 137 = .ok (.getfield 29, 3) := by decide +kernel
theorem d_M_settles_140 : decode b_M_settles 140 = .ok (.iload 4, 2) := by decide +kernel
theorem d_M_settles_142 : decode b_M_settles 142 = .ok (.iaload, 1) := by decide +kernel
theorem d_M_settles_143 : decode b_M_settles 143 = .ok (.if_icmp .eq 7, 3) := by decide +kernel
theorem d_M_settles_146 : decode b_M_settles 146 = .ok (.iconst 1, 1) := by decide +kernel
theorem d_M_settles_147 : decode b_M_settles 147 = .ok (.goto 4, 3) := by decide +kernel
theorem d_M_settles_150 : decode b_M_settles 150 = .ok (.iconst 0, 1) := by decide +kernel
theorem d_M_settles_151 : decode b_M_settles 151 = .ok (.istore 6, 2) := by decide +kernel
theorem d_M_settles_153 : decode b_M_settles 153 = .ok (.aload_n 0, 1) := by decide +kernel
theorem d_M_settles_154 : decode b_M_settles 154 = .ok (.getfield 29, 3) := by decide +kernel
theorem d_M_settles_157 : decode b_M_settles 157 = .ok (.iload 4, 2) := by decide +kernel
theorem d_M_settles_159 : decode b_M_settles 159 = .ok (.iload 5, 2) := by decide +kernel
theorem d_M_settles_161 : decode b_M_settles 161 = .ok (.iastore, 1) := by decide +kernel
theorem d_M_settles_162 : decode b_M_settles 162 = .ok (.iload 6, 2) := by decide +kernel
theorem d_M_settles_164 : decode b_M_settles 164 = .ok (.ireturn, 1) := by decide +kernel
theorem d_M_sizeOf_0 : decode b_M_sizeOf 0 = .ok (.iconst 0, 1) := by decide +kernel
theorem d_M_sizeOf_1 : decode b_M_sizeOf 1 = .ok (.istore_n 2, 1) := by decide +kernel
theorem d_M_sizeOf_2 : decode b_M_sizeOf 2 = .ok (.iconst 0, 1) := by decide +kernel
theorem d_M_sizeOf_3 : decode b_M_sizeOf 3 = .ok (.istore_n 3, 1) := by decide +kernel
theorem d_M_sizeOf_4 : decode b_M_sizeOf 4 = .ok (.iload_n 3, 1) := by decide +kernel
theorem d_M_sizeOf_5 : decode b_M_sizeOf 5 = .ok (.aload_n 0, 1) := by decide +kernel
theorem d_M_sizeOf_6 : decode b_M_sizeOf 6 = .ok (.getfield 76, 3) := by decide +kernel
theorem d_M_sizeOf_9 : decode b_M_sizeOf 9 = .ok (.if_icmp .ge 51, 3) := by decide +kernel
theorem d_M_sizeOf_12 : decode b_M_sizeOf 12 = .ok (.iconst 0, 1) := by decide +kernel
theorem d_M_sizeOf_13 : decode b_M_sizeOf 13 = .ok (.istore 4, 2) := by decide +kernel
theorem d_M_sizeOf_15 : decode b_M_sizeOf 15 = .ok (.iload 4, 2) := by decide +kernel
theorem d_M_sizeOf_17 : decode b_M_sizeOf 17 = .ok (.aload_n 0, 1) := by decide +kernel
theorem d_M_sizeOf_18 : decode b_M_sizeOf 18 = .ok (.getfield 73, 3) := by decide +kernel
theorem d_M_sizeOf_21 : decode b_M_sizeOf 21 = .ok (.if_icmp .ge 33, 3) := by decide +kernel
theorem d_M_sizeOf_24 : decode b_M_sizeOf 24 = .ok (.aload_n 0, 1) := by decide +kernel
theorem d_M_sizeOf_25 : decode b_M_sizeOf 25 = .ok (.getfield 29, 3) := by decide +kernel
theorem d_M_sizeOf_28 : decode b_M_sizeOf 28 = .ok (.bipush 24, 2) := by decide +kernel
theorem d_M_sizeOf_30 : decode b_M_sizeOf 30 = .ok (.iload_n 3, 1) := by decide +kernel
theorem d_M_sizeOf_31 : decode b_M_sizeOf 31 = .ok (.imul, 1) := by decide +kernel
theorem d_M_sizeOf_32 : decode b_M_sizeOf 32 = .ok (.iload 4, 2) := by decide +kernel
theorem d_M_sizeOf_34 : decode b_M_sizeOf 34 = .ok (.iadd, 1) := by decide +kernel
theorem d_M_sizeOf_35 : decode b_M_sizeOf 35 = .ok (.iaload, 1) := by decide +kernel
theorem d_M_sizeOf_36 : decode b_M_sizeOf 36 = .ok (.iload_n 1, 1) := by decide +kernel
theorem d_M_sizeOf_37 : decode b_M_sizeOf 37 = .ok (.if_icmp .ne 9, 3) := by decide +kernel
theorem d_M_sizeOf_40 : decode b_M_sizeOf 40 = .ok (.iload_n 2, 1) := by decide +kernel
theorem d_M_sizeOf_41 : decode b_M_sizeOf 41 = .ok (.iconst 1, 1) := by decide +kernel
theorem d_M_sizeOf_42 : decode b_M_sizeOf 42 = .ok (.iadd, 1) := by decide +kernel
theorem d_M_sizeOf_43 : decode b_M_sizeOf 43 = .ok (.goto 4, 3) := by decide +kernel
theorem d_M_sizeOf_46 : decode b_M_sizeOf 46 = .ok (.iload_n 2, 1) := by decide +kernel
theorem d_M_sizeOf_47 : decode b_M_sizeOf 47 = .ok (.istore_n 2, 1) := by decide +kernel
theorem d_M_sizeOf_48 : decode b_M_sizeOf 48 = .ok (.iinc 4 1, 3) := by decide +kernel
theorem d_M_sizeOf_51 : decode b_M_sizeOf 51 = .ok (.goto (-36), 3) := by decide +kernel
theorem d_M_sizeOf_54 : decode b_M_sizeOf 54 = .ok (.iinc 3 1, 3) := by decide +kernel
theorem d_M_sizeOf_57 : decode b_M_sizeOf 57 = .ok (.goto (-53), 3) := by decide +kernel
theorem d_M_sizeOf_60 : decode b_M_sizeOf 60 = .ok (.iload_n 2, 1) := by decide +kernel
theorem d_M_sizeOf_61 : decode b_M_sizeOf 61 = .ok (.ireturn, 1) := by decide +kernel
theorem d_M_inGap_0 : decode b_M_inGap 0 = .ok (.iload_n 1, 1) := by decide +kernel
theorem d_M_inGap_1 : decode b_M_inGap 1 = .ok (.istore 6, 2) := by decide +kernel
theorem d_M_inGap_3 : decode b_M_inGap 3 = .ok (.iload_n 2, 1) := by decide +kernel
theorem d_M_inGap_4 : decode b_M_inGap 4 = .ok (.istore 7, 2) := by decide +kernel
theorem d_M_inGap_6 : decode b_M_inGap 6 = .ok (.aload_n 0, 1) := by decide +kernel
theorem d_M_inGap_7 : decode b_M_inGap 7 = .ok (.iload 6, 2) := by decide +kernel
theorem d_M_inGap_9 : decode b_M_inGap 9 = .ok (.iload 7, 2) := by decide +kernel
theorem d_M_inGap_11 : decode b_M_inGap 11 = .ok (.invokevirtual 86, 3) := by decide +kernel
theorem d_M_inGap_14 : decode b_M_inGap 14 = .ok (.ifCond .eq 35, 3) := by decide +kernel
theorem d_M_inGap_17 : decode b_M_inGap 17 = .ok (.aload_n 0, 1) := by decide +kernel
theorem d_M_inGap_18 : decode b_M_inGap 18 = .ok (.getfield 20, 3) := by decide +kernel
theorem d_M_inGap_21 : decode b_M_inGap 21 = .ok (.bipush 24, 2) := by decide +kernel
theorem d_M_inGap_23 : decode b_M_inGap 23 = .ok (.iload 7, 2) := by decide +kernel
theorem d_M_inGap_25 : decode b_M_inGap 25 = .ok (.imul, 1) := by decide +kernel
theorem d_M_inGap_26 : decode b_M_inGap 26 = .ok (.iload 6, 2) := by decide +kernel
theorem d_M_inGap_28 : decode b_M_inGap 28 = .ok (.iadd, 1) := by decide +kernel
theorem d_M_inGap_29 : decode b_M_inGap 29 = .ok (.baload, 1) := by decide +kernel
theorem d_M_inGap_30 : decode b_M_inGap 30 = .ok (.ifCond .ne 19, 3) := by decide +kernel
theorem d_M_inGap_33 : decode b_M_inGap 33 = .ok (.iload 6, 2) := by decide +kernel
theorem d_M_inGap_35 : decode b_M_inGap 35 = .ok (.iload_n 3, 1) := by decide +kernel
theorem d_M_inGap_36 : decode b_M_inGap 36 = .ok (.isub, 1) := by decide +kernel
theorem d_M_inGap_37 : decode b_M_inGap 37 = .ok (.istore 6, 2) := by decide +kernel
theorem d_M_inGap_39 : decode b_M_inGap 39 = .ok (.iload 7, 2) := by decide +kernel
theorem d_M_inGap_41 : decode b_M_inGap 41 = .ok (.iload 4, 2) := by decide +kernel
theorem d_M_inGap_43 : decode b_M_inGap 43 = .ok (.isub, 1) := by decide +kernel
theorem d_M_inGap_44 : decode b_M_inGap 44 = .ok (.istore 7, 2) := by decide +kernel
theorem d_M_inGap_46 : decode b_M_inGap 46 = .ok (.goto (-40), 3) := by decide +kernel
theorem d_M_inGap_49 : decode b_M_inGap 49 = .ok (.aload_n 0, 1) := by decide +kernel
theorem d_M_inGap_50 : decode b_M_inGap 50 = .ok (.iload 6, 2) := by decide +kernel
theorem d_M_inGap_52 : decode b_M_inGap 52 = .ok (.iload 7, 2) := by decide +kernel
theorem d_M_inGap_54 : decode b_M_inGap 54 = .ok (.invokevirtual 86, 3) := by decide +kernel
theorem d_M_inGap_57 : decode b_M_inGap 57 = .ok (.ifCond .ne 5, 3) := by decide +kernel
theorem d_M_inGap_60 : decode b_M_inGap 60 = .ok (.iconst 0, 1) := by decide +kernel
theorem d_M_inGap_61 : decode b_M_inGap 61 = .ok (.ireturn, 1) := by decide +kernel
theorem d_M_inGap_62 : decode b_M_inGap 62 = .ok (.iconst 0, 1) := by decide +kernel
theorem d_M_inGap_63 : decode b_M_inGap 63 = .ok (.istore 8, 2) := by decide +kernel
theorem d_M_inGap_65 : decode b_M_inGap 65 = .ok (.iload 6, 2) := by decide +kernel
theorem d_M_inGap_67 : decode b_M_inGap 67 = .ok (.iload_n 3, 1) := by decide +kernel
theorem d_M_inGap_68 : decode b_M_inGap 68 = .ok (.iadd, 1) := by decide +kernel
theorem d_M_inGap_69 : decode b_M_inGap 69 = .ok (.istore 6, 2) := by decide +kernel
theorem d_M_inGap_71 : decode b_M_inGap 71 = .ok (.iload 7, 2) := by decide +kernel
theorem d_M_inGap_73 : decode b_M_inGap 73 = .ok (.iload 4, 2) := by decide +kernel
theorem d_M_inGap_75 : decode b_M_inGap 75 = .ok (.iadd, 1) := by decide +kernel
theorem d_M_inGap_76 : decode b_M_inGap 76 = .ok (.istore 7, 2) := by decide +kernel
theorem d_M_inGap_78 : decode b_M_inGap 78 = .ok (.aload_n 0, 1) := by decide +kernel
theorem d_M_inGap_79 : decode b_M_inGap 79 = .ok (.iload 6, 2) := by decide +kernel
theorem d_M_inGap_81 : decode b_M_inGap 81 = .ok (.iload 7, 2) := by decide +kernel
theorem d_M_inGap_83 : decode b_M_inGap 83 = .ok (.invokevirtual 86, 3) := by decide +kernel
theorem d_M_inGap_86 : decode b_M_inGap 86 = .ok (.ifCond .eq 38, 3) := by decide +kernel
theorem d_M_inGap_89 : decode b_M_inGap 89 = .ok (.aload_n 0, 1) := by decide +kernel
theorem d_M_inGap_90 : decode b_M_inGap 90 = .ok (.getfield 20, 3) := by decide +kernel
theorem d_M_inGap_93 : decode b_M_inGap 93 = .ok (.bipush 24, 2) := by decide +kernel
theorem d_M_inGap_95 : decode b_M_inGap 95 = .ok (.iload 7, 2) := by decide +kernel
theorem d_M_inGap_97 : decode b_M_inGap 97 = .ok (.imul, 1) := by decide +kernel
theorem d_M_inGap_98 : decode b_M_inGap 98 = .ok (.iload 6, 2) := by decide +kernel
theorem d_M_inGap_100 : decode b_M_inGap 100 = .ok (.iadd, 1) := by decide +kernel
theorem d_M_inGap_101 : decode b_M_inGap 101 = .ok (.baload, 1) := by decide +kernel
theorem d_M_inGap_102 : decode b_M_inGap 102 = .ok (.ifCond .ne 22, 3) := by decide +kernel
theorem d_M_inGap_105 : decode b_M_inGap 105 = .ok (.iinc 8 1, 3) := by decide +kernel
theorem d_M_inGap_108 : decode b_M_inGap 108 = .ok (.iload 6, 2) := by decide +kernel
theorem d_M_inGap_110 : decode b_M_inGap 110 = .ok (.iload_n 3, 1) := by decide +kernel
theorem d_M_inGap_111 : decode b_M_inGap 111 = .ok (.iadd, 1) := by decide +kernel
theorem d_M_inGap_112 : decode b_M_inGap 112 = .ok (.istore 6, 2) := by decide +kernel
theorem d_M_inGap_114 : decode b_M_inGap 114 = .ok (.iload 7, 2) := by decide +kernel
theorem d_M_inGap_116 : decode b_M_inGap 116 = .ok (.iload 4, 2) := by decide +kernel
theorem d_M_inGap_118 : decode b_M_inGap 118 = .ok (.iadd, 1) := by decide +kernel
theorem d_M_inGap_119 : decode b_M_inGap 119 = .ok (.istore 7, 2) := by decide +kernel
theorem d_M_inGap_121 : decode b_M_inGap 121 = .ok (.goto (-43), 3) := by decide +kernel
theorem d_M_inGap_124 : decode b_M_inGap 124 = .ok (.aload_n 0, 1) := by decide +kernel
theorem d_M_inGap_125 : decode b_M_inGap 125 = .ok (.iload 6, 2) := by decide +kernel
theorem d_M_inGap_127 : decode b_M_inGap 127 = .ok (.iload 7, 2) := by decide +kernel
theorem d_M_inGap_129 : decode b_M_inGap 129 = .ok (.invokevirtual 86, 3) := by decide +kernel
theorem d_M_inGap_132 : decode b_M_inGap 132 = .ok (.ifCond .eq 14, 3) := by decide +kernel
theorem d_M_inGap_135 : decode b_M_inGap 135 = .ok (.iload 8, 2) := by decide +kernel
theorem d_M_inGap_137 : decode b_M_inGap 137 = .ok (.iload 5, 2) := by decide +kernel
theorem d_M_inGap_139 : decode b_M_inGap 139 = .ok (.if_icmp .gt 7, 3) := by decide +kernel
theorem d_M_inGap_142 : decode b_M_inGap 142 = .ok (.iconst 1, 1) := by decide +kernel
theorem d_M_inGap_143 : decode b_M_inGap 143 = .ok (.goto 4, 3) := by decide +kernel
theorem d_M_inGap_146 : decode b_M_inGap 146 = .ok (.iconst 0, 1) := by decide +kernel
theorem d_M_inGap_147 : decode b_M_inGap 147 = .ok (.ireturn, 1) := by decide +kernel
theorem d_M_takeInk_0 : decode b_M_takeInk 0 = .ok (.aload_n 0, 1) := by decide +kernel
theorem d_M_takeInk_1 : decode b_M_takeInk 1 = .ok (.iconst 0, 1) := by decide +kernel
theorem d_M_takeInk_2 : decode b_M_takeInk 2 = .ok (.iconst 1, 1) := by decide +kernel
theorem d_M_takeInk_3 : decode b_M_takeInk 3 = .ok (.invokevirtual 105, 3) := by decide +kernel
theorem d_M_takeInk_6 : decode b_M_takeInk 6 = .ok (.iconst 0, 1) := by decide +kernel
theorem d_M_takeInk_7 : decode b_M_takeInk 7 = .ok (.istore_n 3, 1) := by decide +kernel
theorem d_M_takeInk_8 : decode b_M_takeInk 8 = .ok (.iload_n 3, 1) := by decide +kernel
theorem d_M_takeInk_9 : decode b_M_takeInk 9 = .ok (.aload_n 0, 1) := by decide +kernel
theorem d_M_takeInk_10 : decode b_M_takeInk 10 = .ok (.getfield 76, 3) := by decide +kernel
theorem d_M_takeInk_13 : decode b_M_takeInk 13 = .ok (.if_icmp .ge 108, 3) := by decide +kernel
theorem d_M_takeInk_16 : decode b_M_takeInk 16 = .ok (.iconst 0, 1) := by decide +kernel
theorem d_M_takeInk_17 : decode b_M_takeInk 17 = .ok (.istore 4, 2) := by decide +kernel
theorem d_M_takeInk_19 : decode b_M_takeInk 19 = .ok (.iload 4, 2) := by decide +kernel
theorem d_M_takeInk_21 : decode b_M_takeInk 21 = .ok (.aload_n 0, 1) := by decide +kernel
theorem d_M_takeInk_22 : decode b_M_takeInk 22 = .ok (.getfield 73, 3) := by decide +kernel
theorem d_M_takeInk_25 : decode b_M_takeInk 25 = .ok (.if_icmp .ge 90, 3) := by decide +kernel
theorem d_M_takeInk_28 : decode b_M_takeInk 28 = .ok (.bipush 24, 2) := by decide +kernel
theorem d_M_takeInk_30 : decode b_M_takeInk 30 = .ok (.iload_n 3, 1) := by decide +kernel
theorem d_M_takeInk_31 : decode b_M_takeInk 31 = .ok (.imul, 1) := by decide +kernel
theorem d_M_takeInk_32 : decode b_M_takeInk 32 = .ok (.iload 4, 2) := by decide +kernel
theorem d_M_takeInk_34 : decode b_M_takeInk 34 = .ok (.iadd, 1) := by decide +kernel
theorem d_M_takeInk_35 : decode b_M_takeInk 35 = .ok (.istore 5, 2) := by decide +kernel
theorem d_M_takeInk_37 : decode b_M_takeInk 37 = .ok (.aload_n 0, 1) := by decide +kernel
theorem d_M_takeInk_38 : decode b_M_takeInk 38 = .ok (.getfield 17, 3) := by decide +kernel
theorem d_M_takeInk_41 : decode b_M_takeInk 41 = .ok (.iload 5, 2) := by decide +kernel
theorem d_M_takeInk_43 : decode b_M_takeInk 43 = .ok (.aload_n 0, 1) := by decide +kernel
theorem d_M_takeInk_44 : decode b_M_takeInk 44 = .ok (.getfield 7, 3) := by decide +kernel
theorem d_M_takeInk_47 : decode b_M_takeInk 47 = .ok (.iload 5, 2) := by decide +kernel
theorem d_M_takeInk_49 : decode b_M_takeInk 49 = .ok (.baload, 1) := by decide +kernel
theorem d_M_takeInk_50 : decode b_M_takeInk 50 = .ok (.ifCond .eq 25, 3) := by decide +kernel
theorem d_M_takeInk_53 : decode b_M_takeInk 53 = .ok (.aload_n 0, 1) := by decide +kernel
theorem d_M_takeInk_54 : decode b_M_takeInk 54 = .ok (.aload_n 0, 1) := by decide +kernel
theorem d_M_takeInk_55 : decode b_M_takeInk 55 = .ok (.getfield 29, 3) := by decide +kernel
theorem d_M_takeInk_58 : decode b_M_takeInk 58 = .ok (.iload 5, 2) := by decide +kernel
theorem d_M_takeInk_60 : decode b_M_takeInk 60 = .ok (.iaload, 1) := by decide +kernel
theorem d_M_takeInk_61 : decode b_M_takeInk 61 = .ok (.invokevirtual 109, 3) := by decide +kernel
theorem d_M_takeInk_64 : decode b_M_takeInk 64 = .ok (.aload_n 0, 1) := by decide +kernel
theorem d_M_takeInk_65 : decode b_M_takeInk 65 = .ok (.getfield 13, 3) := by decide +kernel
theorem d_M_takeInk_68 : decode b_M_takeInk 68 = .ok (.if_icmp .ge 7, 3) := by decide +kernel
theorem d_M_takeInk_71 : decode b_M_takeInk 71 = .ok (.iconst 1, 1) := by decide +kernel
theorem d_M_takeInk_72 : decode b_M_takeInk 72 = .ok (.goto 4, 3) := by decide +kernel
theorem d_M_takeInk_75 : decode b_M_takeInk 75 = .ok (.iconst 0, 1) := by decide +kernel
theorem d_M_takeInk_76 : decode b_M_takeInk 76 = .ok (.bastore, 1) := by decide +kernel
theorem d_M_takeInk_77 : decode b_M_takeInk 77 = .ok (.aload_n 0, 1) := by decide +kernel
theorem d_M_takeInk_78 : decode b_M_takeInk 78 = .ok (.getfield 20, 3) := by decide +kernel
theorem d_M_takeInk_81 : decode b_M_takeInk 81 = .ok (.iload 5, 2) := by decide +kernel
theorem d_M_takeInk_83 : decode b_M_takeInk 83 = .ok (.aload_n 0, 1) := by decide +kernel
theorem d_M_takeInk_84 : decode b_M_takeInk 84 = .ok (.getfield 7, 3) := by decide +kernel
theorem d_M_takeInk_87 : decode b_M_takeInk 87 = .ok (.iload 5, 2) := by decide +kernel
theorem d_M_takeInk_89 : decode b_M_takeInk 89 = .ok (.baload, 1) := by decide +kernel
theorem d_M_takeInk_90 : decode b_M_takeInk 90 = .ok (.ifCond .eq 17, 3) := by decide +kernel
theorem d_M_takeInk_93 : decode b_M_takeInk 93 = .ok (.aload_n 0, 1) := by decide +kernel
theorem d_M_takeInk_94 : decode b_M_takeInk 94 = .ok (.getfield 17, 3) := by decide +kernel
theorem d_M_takeInk_97 : decode b_M_takeInk 97 = .ok (.iload 5, 2) := by decide +kernel
theorem d_M_takeInk_99 : decode b_M_takeInk 99 = .ok (.baload, 1) := by decide +kernel
theorem d_M_takeInk_100 : decode b_M_takeInk 100 = .ok (.ifCond .ne 7, 3) := by decide +kernel
theorem d_M_takeInk_103 : decode b_M_takeInk 103 = .ok (.iconst 1, 1) := by decide +kernel
theorem d_M_takeInk_104 : decode b_M_takeInk 104 = .ok (.goto 4, 3) := by decide +kernel
theorem d_M_takeInk_107 : decode b_M_takeInk 107 = .ok (.iconst 0, 1) := by decide +kernel
theorem d_M_takeInk_108 : decode b_M_takeInk 108 = .ok (.bastore, 1) := by decide +kernel
theorem d_M_takeInk_109 : decode b_M_takeInk 109 = .ok (.iinc 4 1, 3) := by decide +kernel
theorem d_M_takeInk_112 : decode b_M_takeInk 112 = .ok (.goto (-93), 3) := by decide +kernel
theorem d_M_takeInk_115 : decode b_M_takeInk 115 = .ok (.iinc 3 1, 3) := by decide +kernel
theorem d_M_takeInk_118 : decode b_M_takeInk 118 = .ok (.goto (-110), 3) := by decide +kernel
theorem d_M_takeInk_121 : decode b_M_takeInk 121 = .ok (.iconst 0, 1) := by decide +kernel
theorem d_M_takeInk_122 : decode b_M_takeInk 122 = .ok (.istore_n 3, 1) := by decide +kernel
theorem d_M_takeInk_123 : decode b_M_takeInk 123 = .ok (.iload_n 3, 1) := by decide +kernel
theorem d_M_takeInk_124 : decode b_M_takeInk 124 = .ok (.aload_n 0, 1) := by decide +kernel
theorem d_M_takeInk_125 : decode b_M_takeInk 125 = .ok (.getfield 76, 3) := by decide +kernel
theorem d_M_takeInk_128 : decode b_M_takeInk 128 = .ok (.if_icmp .ge 85, 3) := by decide +kernel
theorem d_M_takeInk_131 : decode b_M_takeInk 131 = .ok (.iconst 0, 1) := by decide +kernel
theorem d_M_takeInk_132 : decode b_M_takeInk 132 = .ok (.istore 4, 2) := by decide +kernel
theorem d_M_takeInk_134 : decode b_M_takeInk 134 = .ok (.iload 4, 2) := by decide +kernel
theorem d_M_takeInk_136 : decode b_M_takeInk 136 = .ok (.aload_n 0, 1) := by decide +kernel
theorem d_M_takeInk_137 : decode b_M_takeInk 137 = .ok (.getfield 73, 3) := by decide +kernel
theorem d_M_takeInk_140 : decode b_M_takeInk 140 = .ok (.if_icmp .ge 67, 3) := by decide +kernel
theorem d_M_takeInk_143 : decode b_M_takeInk 143 = .ok (.aload_n 0, 1) := by decide +kernel
theorem d_M_takeInk_144 : decode b_M_takeInk 144 = .ok (.getfield 23, 3) := by decide +kernel
theorem d_M_takeInk_147 : decode b_M_takeInk 147 = .ok (.bipush 24, 2) := by decide +kernel
theorem d_M_takeInk_149 : decode b_M_takeInk 149 = .ok (.iload_n 3, 1) := by decide +kernel
theorem d_M_takeInk_150 : decode b_M_takeInk 150 = .ok (.imul, 1) := by decide +kernel
theorem d_M_takeInk_151 : decode b_M_takeInk 151 = .ok (.iload 4, 2) := by decide +kernel
theorem d_M_takeInk_153 : decode b_M_takeInk 153 = .ok (.iadd, 1) := by decide +kernel
theorem d_M_takeInk_154 : decode b_M_takeInk 154 = .ok (.aload_n 0, 1) := by decide +kernel
theorem d_M_takeInk_155 : decode b_M_takeInk 155 = .ok (.getfield 20, 3) := by decide +kernel
theorem d_M_takeInk_158 : decode b_M_takeInk 158 = .ok (.bipush 24, 2) := by decide +kernel
theorem d_M_takeInk_160 : decode b_M_takeInk 160 = .ok (.iload_n 3, 1) := by decide +kernel
theorem d_M_takeInk_161 : decode b_M_takeInk 161 = .ok (.imul, 1) := by decide +kernel
theorem d_M_takeInk_162 : decode b_M_takeInk 162 = .ok (.iload 4, 2) := by decide +kernel
theorem d_M_takeInk_164 : decode b_M_takeInk 164 = .ok (.iadd, 1) := by decide +kernel
theorem d_M_takeInk_165 : decode b_M_takeInk 165 = .ok (.baload, 1) := by decide +kernel
theorem d_M_takeInk_166 : decode b_M_takeInk 166 = .ok (.ifCond .ne 29, 3) := by decide +kernel
theorem d_M_takeInk_169 : decode b_M_takeInk 169 = .ok (.aload_n 0, 1) := by decide +kernel
theorem d_M_takeInk_170 : decode b_M_takeInk 170 = .ok (.iload 4, 2) := by decide +kernel
theorem d_M_takeInk_172 : decode b_M_takeInk 172 = .ok (.iload_n 3, 1) := by decide +kernel
theorem d_M_takeInk_173 : decode b_M_takeInk 173 = .ok (.iconst 1, 1) := by decide +kernel
theorem d_M_takeInk_174 : decode b_M_takeInk 174 = .ok (.iconst 0, 1) := by decide +kernel
theorem d_M_takeInk_175 : decode b_M_takeInk 175 = .ok (.iload_n 1, 1) := by decide +kernel
theorem d_M_takeInk_176 : decode b_M_takeInk 176 = .ok (.invokevirtual 112, 3) := by decide +kernel
theorem d_M_takeInk_179 : decode b_M_takeInk 179 = .ok (.ifCond .ne 16, 3) := by decide +kernel
theorem d_M_takeInk_182 : decode b_M_takeInk 182 = .ok (.aload_n 0, 1) := by decide +kernel
theorem d_M_takeInk_183 : decode b_M_takeInk 183 = .ok (.iload 4, 2) := by decide +kernel
theorem d_M_takeInk_185 : decode b_M_takeInk 185 = .ok (.iload_n 3, 1) := by decide +kernel
theorem d_M_takeInk_186 : decode b_M_takeInk 186 = .ok (.iconst 0, 1) := by decide +kernel
theorem d_M_takeInk_187 : decode b_M_takeInk 187 = .ok (.iconst 1, 1) := by decide +kernel
theorem d_M_takeInk_188 : decode b_M_takeInk 188 = .ok (.iload_n 2, 1) := by decide +kernel
theorem d_M_takeInk_189 : decode b_M_takeInk 189 = .ok (.invokevirtual 112, 3) := by decide +kernel
theorem d_M_takeInk_192 : decode b_M_takeInk 192 = .ok (.ifCond .eq 7, 3) := by decide +kernel
theorem d_M_takeInk_195 : decode b_M_takeInk 195 = .ok (.iconst 1, 1) := by decide +kernel
theorem d_M_takeInk_196 : decode b_M_takeInk 196 = .ok (.goto 4, 3) := by decide +kernel
theorem d_M_takeInk_199 : decode b_M_takeInk 199 = .ok (.iconst 0, 1) := by decide +kernel
theorem d_M_takeInk_200 : decode b_M_takeInk 200 = .ok (.bastore, 1) := by decide +kernel
theorem d_M_takeInk_201 : decode b_M_takeInk 201 = .ok (.iinc 4 1, 3) := by decide +kernel
theorem d_M_takeInk_204 : decode b_M_takeInk 204 = .ok (.goto (-70), 3) := by decide +kernel
theorem d_M_takeInk_207 : decode b_M_takeInk 207 = .ok (.iinc 3 1, 3) := by decide +kernel
theorem d_M_takeInk_210 : decode b_M_takeInk 210 = .ok (.goto (-87), 3) := by decide +kernel
theorem d_M_takeInk_213 : decode b_M_takeInk 213 = .ok (.return_, 1) := by decide +kernel
end
section
theorem d_M_cleanIn_0 : decode b_M_cleanIn 0 = .ok (.iconst 0, 1) := by decide +kernel
theorem d_M_cleanIn_1 : decode b_M_cleanIn 1 = .ok (.istore 6, 2) := by decide +kernel
theorem d_M_cleanIn_3 : decode b_M_cleanIn 3 = .ok (.iload_n 2, 1) := by decide +kernel
theorem d_M_cleanIn_4 : decode b_M_cleanIn 4 = .ok (.istore 7, 2) := by decide +kernel
theorem d_M_cleanIn_6 : decode b_M_cleanIn 6 = .ok (.iload 7, 2) := by decide +kernel
theorem d_M_cleanIn_8 : decode b_M_cleanIn 8 = .ok (.iload 4, 2) := by decide +kernel
theorem d_M_cleanIn_10 : decode b_M_cleanIn 10 = .ok (.if_icmp .gt 73, 3) := by decide +kernel
theorem d_M_cleanIn_13 : decode b_M_cleanIn 13 = .ok (.iload_n 1, 1) := by decide +kernel
theorem d_M_cleanIn_14 : decode b_M_cleanIn 14 = .ok (.istore 8, 2) := by decide +kernel
theorem d_M_cleanIn_16 : decode b_M_cleanIn 16 = .ok (.iload 8, 2) := by decide +kernel
theorem d_M_cleanIn_18 : decode b_M_cleanIn 18 = .ok (.iload_n 3, 1) := by decide +kernel
theorem d_M_cleanIn_19 : decode b_M_cleanIn 19 = .ok (.if_icmp .gt 58, 3) := by decide +kernel
theorem d_M_cleanIn_22 : decode b_M_cleanIn 22 = .ok (.bipush 24, 2) := by decide +kernel
theorem d_M_cleanIn_24 : decode b_M_cleanIn 24 = .ok (.iload 7, 2) := by decide +kernel
theorem d_M_cleanIn_26 : decode b_M_cleanIn 26 = .ok (.imul, 1) := by decide +kernel
theorem d_M_cleanIn_27 : decode b_M_cleanIn 27 = .ok (.iload 8, 2) := by decide +kernel
theorem d_M_cleanIn_29 : decode b_M_cleanIn 29 = .ok (.iadd, 1) := by decide +kernel
theorem d_M_cleanIn_30 : decode b_M_cleanIn 30 = .ok (.istore 9, 2) := by decide +kernel
theorem d_M_cleanIn_32 : decode b_M_cleanIn 32 = .ok (.aload_n 0, 1) := by decide +kernel
theorem d_M_cleanIn_33 : decode b_M_cleanIn 33 = .ok (.getfield 20, 3) := by decide +kernel
theorem d_M_cleanIn_36 : decode b_M_cleanIn 36 = .ok (.iload 9, 2) := by decide +kernel
theorem d_M_cleanIn_38 : decode b_M_cleanIn 38 = .ok (.baload, 1) := by decide +kernel
theorem d_M_cleanIn_39 : decode b_M_cleanIn 39 = .ok (.ifCond .eq 28, 3) := by decide +kernel
theorem d_M_cleanIn_42 : decode b_M_cleanIn 42 = .ok (.iload 5, 2) := by decide +kernel
theorem d_M_cleanIn_44 : decode b_M_cleanIn 44 = .ok (.iconst (-1), 1) := by decide +kernel
theorem d_M_cleanIn_45 : decode b_M_cleanIn 45 = .ok (.if_icmp .eq 15, 3) := by decide +kernel
theorem d_M_cleanIn_48 : decode b_M_cleanIn 48 = .ok (.aload_n 0, 1) := by decide +kernel
theorem d_M_cleanIn_49 : decode b_M_cleanIn 49 = .ok (.getfield 33, 3) := by decide +kernel
theorem d_M_cleanIn_52 : decode b_M_cleanIn 52 = .ok (.iload 9, 2) := by decide +kernel
theorem d_M_cleanIn_54 : decode b_M_cleanIn 54 = .ok (.iaload, 1) := by decide +kernel
theorem d_M_cleanIn_55 : decode b_M_cleanIn 55 = .ok (.iload 5, 2) := by decide +kernel
theorem d_M_cleanIn_57 : decode b_M_cleanIn 57 = .ok (.if_icmp .ne 10, 3) := by decide +kernel
theorem d_M_cleanIn_60 : decode b_M_cleanIn 60 = .ok (.iload 6, 2) := by decide +kernel
theorem d_M_cleanIn_62 : decode b_M_cleanIn 62 = .ok (.iconst 1, 1) := by decide +kernel
theorem d_M_cleanIn_63 : decode b_M_cleanIn 63 = .ok (.iadd, 1) := by decide +kernel
theorem d_M_cleanIn_64 : decode b_M_cleanIn 64 = .ok (.goto 5, 3) := by decide +kernel
theorem d_M_cleanIn_67 : decode b_M_cleanIn 67 = .ok (.iload 6, 2) := by decide +kernel
theorem d_M_cleanIn_69 : decode b_M_cleanIn 69 = .ok (.istore 6, 2) := by decide +kernel
theorem d_M_cleanIn_71 : decode b_M_cleanIn 71 = .ok (.iinc 8 1, 3) := by decide +kernel
theorem d_M_cleanIn_74 : decode b_M_cleanIn 74 = .ok (.goto (-58), 3) := by decide +kernel
theorem d_M_cleanIn_77 : decode b_M_cleanIn 77 = .ok (.iinc 7 1, 3) := by decide +kernel
theorem d_M_cleanIn_80 : decode b_M_cleanIn 80 = .ok (.goto (-74), 3) := by decide +kernel
theorem d_M_cleanIn_83 : decode b_M_cleanIn 83 = .ok (.iload 6, 2) := by decide +kernel
theorem d_M_cleanIn_85 : decode b_M_cleanIn 85 = .ok (.ireturn, 1) := by decide +kernel
theorem d_M_takeParts_0 : decode b_M_takeParts 0 = .ok (.aload_n 0, 1) := by decide +kernel
theorem d_M_takeParts_1 : decode b_M_takeParts 1 = .ok (.iconst 1, 1) := by decide +kernel
theorem d_M_takeParts_2 : decode b_M_takeParts 2 = .ok (.iconst 0, 1) := by decide +kernel
theorem d_M_takeParts_3 : decode b_M_takeParts 3 = .ok (.invokevirtual 105, 3) := by decide +kernel
theorem d_M_takeParts_6 : decode b_M_takeParts 6 = .ok (.aload_n 0, 1) := by decide +kernel
theorem d_M_takeParts_7 : decode b_M_takeParts 7 = .ok (.iconst 0, 1) := by decide +kernel
theorem d_M_takeParts_8 : decode b_M_takeParts 8 = .ok (.putfield 116, 3) := by decide +kernel
theorem d_M_takeParts_11 : decode b_M_takeParts 11 = .ok (.iconst 0, 1) := by decide +kernel
theorem d_M_takeParts_12 : decode b_M_takeParts 12 = .ok (.istore_n 1, 1) := by decide +kernel
theorem d_M_takeParts_13 : decode b_M_takeParts 13 = .ok (.iload_n 1, 1) := by decide +kernel
theorem d_M_takeParts_14 : decode b_M_takeParts 14 = .ok (.aload_n 0, 1) := by decide +kernel
theorem d_M_takeParts_15 : decode b_M_takeParts 15 = .ok (.getfield 76, 3) := by decide +kernel
theorem d_M_takeParts_18 : decode b_M_takeParts 18 = .ok (.if_icmp .ge 209, 3) := by decide +kernel
theorem d_M_takeParts_21 : decode b_M_takeParts 21 = .ok (.iconst 0, 1) := by decide +kernel
theorem d_M_takeParts_22 : decode b_M_takeParts 22 = .ok (.istore_n 2, 1) := by decide +kernel
theorem d_M_takeParts_23 : decode b_M_takeParts 23 = .ok (.iload_n 2, 1) := by decide +kernel
theorem d_M_takeParts_24 : decode b_M_takeParts 24 = .ok (.aload_n 0, 1) := by decide +kernel
theorem d_M_takeParts_25 : decode b_M_takeParts 25 = .ok (.getfield 73, 3) := by decide +kernel
theorem d_M_takeParts_28 : decode b_M_takeParts 28 = .ok (.if_icmp .ge 193, 3) := by decide +kernel
theorem d_M_takeParts_31 : decode b_M_takeParts 31 = .ok (.bipush 24, 2) := by decide +kernel
theorem d_M_takeParts_33 : decode b_M_takeParts 33 = .ok (.iload_n 1, 1) := by decide +kernel
theorem d_M_takeParts_34 : decode b_M_takeParts 34 = .ok (.imul, 1) := by decide +kernel
theorem d_M_takeParts_35 : decode b_M_takeParts 35 = .ok (.iload_n 2, 1) := by decide +kernel
theorem d_M_takeParts_36 : decode b_M_takeParts 36 = .ok (.iadd, 1) := by decide +kernel
theorem d_M_takeParts_37 : decode b_M_takeParts 37 = .ok (.istore_n 3, 1) := by decide +kernel
theorem d_M_takeParts_38 : decode b_M_takeParts 38 = .ok (.aload_n 0, 1) := by decide +kernel
theorem d_M_takeParts_39 : decode b_M_takeParts 39 = .ok (.getfield 33, 3) := by decide +kernel
theorem d_M_takeParts_42 : decode b_M_takeParts 42 = .ok (.iload_n 3, 1) := by decide +kernel
theorem d_M_takeParts_43 : decode b_M_takeParts 43 = .ok (.iconst (-1), 1) := by decide +kernel
theorem d_M_takeParts_44 : decode b_M_takeParts 44 = .ok (.iastore, 1) := by decide +kernel
theorem d_M_takeParts_45 : decode b_M_takeParts 45 = .ok (.aload_n 0, 1) := by decide +kernel
theorem d_M_takeParts_46 : decode b_M_takeParts 46 = .ok (.getfield 29, 3) := by decide +kernel
theorem d_M_takeParts_49 : decode b_M_takeParts 49 = .ok (.iload_n 3, 1) := by decide +kernel
theorem d_M_takeParts_50 : decode b_M_takeParts 50 = .ok (.iaload, 1) := by decide +kernel
theorem d_M_takeParts_51 : decode b_M_takeParts 51 = .ok (.iload_n 3, 1) := by decide +kernel
theorem d_M_takeParts_52 : decode b_M_takeParts 52 = .ok (.if_icmp .ne 66, 3) := by decide +kernel
theorem d_M_takeParts_55 : decode b_M_takeParts 55 = .ok (.aload_n 0, 1) := by decide +kernel
theorem d_M_takeParts_56 : decode b_M_takeParts 56 = .ok (.getfield 33, 3) := by decide +kernel
theorem d_M_takeParts_59 : decode b_M_takeParts 59 = .ok (.iload_n 3, 1) := by decide +kernel
theorem d_M_takeParts_60 : decode b_M_takeParts 60 = .ok (.aload_n 0, 1) := by decide +kernel
theorem d_M_takeParts_61 : decode b_M_takeParts 61 = .ok (.getfield 116, 3) := by decide +kernel
theorem d_M_takeParts_64 : decode b_M_takeParts 64 = .ok (.iastore, 1) := by decide +kernel
theorem d_M_takeParts_65 : decode b_M_takeParts 65 = .ok (.aload_n 0, 1) := by decide +kernel
theorem d_M_takeParts_66 : decode b_M_takeParts 66 = .ok (.getfield 36, 3) := by decide +kernel
theorem d_M_takeParts_69 : decode b_M_takeParts 69 = .ok (.aload_n 0, 1) := by decide +kernel
theorem d_M_takeParts_70 : decode b_M_takeParts 70 = .ok (.getfield 116, 3) := by decide +kernel
theorem d_M_takeParts_73 : decode b_M_takeParts 73 = .ok (.iload_n 2, 1) := by decide +kernel
theorem d_M_takeParts_74 : decode b_M_takeParts 74 = .ok (.iastore, 1) := by decide +kernel
theorem d_M_takeParts_75 : decode b_M_takeParts 75 = .ok (.aload_n 0, 1) := by decide +kernel
theorem d_M_takeParts_76 : decode b_M_takeParts 76 = .ok (.getfield 42, 3) := by decide +kernel
theorem d_M_takeParts_79 : decode b_M_takeParts 79 = .ok (.aload_n 0, 1) := by decide +kernel
theorem d_M_takeParts_80 : decode b_M_takeParts 80 = .ok (.getfield 116, 3) := by decide +kernel
theorem d_M_takeParts_83 : decode b_M_takeParts 83 = .ok (.iload_n 2, 1) := by decide +kernel
theorem d_M_takeParts_84 : decode b_M_takeParts 84 = .ok (.iastore, 1) := by decide +kernel
theorem d_M_takeParts_85 : decode b_M_takeParts 85 = .ok (.aload_n 0, 1) := by decide +kernel
theorem d_M_takeParts_86 : decode b_M_takeParts 86 = .ok (.getfield 39, 3) := by decide +kernel
theorem d_M_takeParts_89 : decode b_M_takeParts 89 = .ok (.aload_n 0, 1) := by decide +kernel
theorem d_M_takeParts_90 : decode b_M_takeParts 90 = .ok (.getfield 116, 3) := by decide +kernel
theorem d_M_takeParts_93 : decode b_M_takeParts 93 = .ok (.iload_n 1, 1) := by decide +kernel
theorem d_M_takeParts_94 : decode b_M_takeParts 94 = .ok (.iastore, 1) := by decide +kernel
theorem d_M_takeParts_95 : decode b_M_takeParts 95 = .ok (.aload_n 0, 1) := by decide +kernel
theorem d_M_takeParts_96 : decode b_M_takeParts 96 = .ok (.getfield 45, 3) := by decide +kernel
theorem d_M_takeParts_99 : decode b_M_takeParts 99 = .ok (.aload_n 0, 1) := by decide +kernel
theorem d_M_takeParts_100 : decode b_M_takeParts 100 = .ok (.getfield 116, 3) := by decide +kernel
theorem d_M_takeParts_103 : decode b_M_takeParts 103 = .ok (.iload_n 1, 1) := by decide +kernel
theorem d_M_takeParts_104 : decode b_M_takeParts 104 = .ok (.iastore, 1) := by decide +kernel
theorem d_M_takeParts_105 : decode b_M_takeParts 105 = .ok (.aload_n 0, 1) := by decide +kernel
theorem d_M_takeParts_106 : decode b_M_takeParts 106 = .ok (.dup, 1) := by decide +kernel
theorem d_M_takeParts_107 : decode b_M_takeParts 107 = .ok (.getfield 116, 3) := by decide +kernel
theorem d_M_takeParts_110 : decode b_M_takeParts 110 = .ok (.iconst 1, 1) := by decide +kernel
theorem d_M_takeParts_111 : decode b_M_takeParts 111 = .ok (.iadd, 1) := by decide +kernel
theorem d_M_takeParts_112 : decode b_M_takeParts 112 = .ok (.putfield 116, 3) := by decide +kernel
theorem d_M_takeParts_115 : decode b_M_takeParts 115 = .ok (.goto 100, 3) := by decide +kernel
theorem d_M_takeParts_118 : decode b_M_takeParts 118 = .ok (.aload_n 0, 1) := by decide +kernel
theorem d_M_takeParts_119 : decode b_M_takeParts 119 = .ok (.getfield 29, 3) := by decide +kernel
theorem d_M_takeParts_122 : decode b_M_takeParts 122 = .ok (.iload_n 3, 1) := by decide +kernel
theorem d_M_takeParts_123 : decode b_M_takeParts 123 = .ok (.iaload, 1) := by decide +kernel
theorem d_M_takeParts_124 : decode b_M_takeParts 124 = .ok (.iconst (-1), 1) := by decide +kernel
theorem d_M_takeParts_125 : decode b_M_takeParts 125 = .ok (.if_icmp .eq 90, 3) := by decide +kernel
theorem d_M_takeParts_128 : decode b_M_takeParts 128 = .ok (.aload_n 0, 1) := by decide +kernel
theorem d_M_takeParts_129 : decode b_M_takeParts 129 = .ok (.getfield 33, 3) := by decide +kernel
theorem d_M_takeParts_132 : decode b_M_takeParts 132 = .ok (.aload_n 0, 1) := by decide +kernel
theorem d_M_takeParts_133 : decode b_M_takeParts 133 = .ok (.getfield 29, 3) := by decide +kernel
theorem d_M_takeParts_136 : decode b_M_takeParts 136 = .ok (.iload_n 3, 1) := by decide +kernel
theorem d_M_takeParts_137 : decode b_M_takeParts 137 = .ok (.iaload, 1) := by decide +kernel
theorem d_M_takeParts_138 : decode b_M_takeParts 138 = .ok (.iaload, 1) := by decide +kernel
theorem d_M_takeParts_139 : decode b_M_takeParts 139 = .ok (.istore 4, 2) := by decide +kernel
theorem d_M_takeParts_141 : decode b_M_takeParts 141 = .ok (.aload_n 0, 1) := by decide +kernel
theorem d_M_takeParts_142 : decode b_M_takeParts 142 = .ok (.getfield 33, 3) := by decide +kernel
theorem d_M_takeParts_145 : decode b_M_takeParts 145 = .ok (.iload_n 3, 1) := by decide +kernel
theorem d_M_takeParts_146 : decode b_M_takeParts 146 = .ok (.iload 4, 2) := by decide +kernel
theorem d_M_takeParts_148 : decode b_M_takeParts 148 = .ok (.iastore, 1) := by decide +kernel
theorem d_M_takeParts_149 : decode b_M_takeParts 149 = .ok (.aload_n 0, 1) := by decide +kernel
theorem d_M_takeParts_150 : decode b_M_takeParts 150 = .ok (.getfield 36, 3) := by decide +kernel
theorem d_M_takeParts_153 : decode b_M_takeParts 153 = .ok (.iload 4, 2) := by decide +kernel
theorem d_M_takeParts_155 : decode b_M_takeParts 155 = .ok (.iload_n 2, 1) := by decide +kernel
theorem d_M_takeParts_156 : decode b_M_takeParts 156 = .ok (.aload_n 0, 1) := by decide +kernel
theorem d_M_takeParts_157 : decode b_M_takeParts 157 = .ok (.getfield 36, 3) := by decide +kernel
theorem d_M_takeParts_160 : decode b_M_takeParts 160 = .ok (.iload 4, 2) := by decide +kernel
theorem d_M_takeParts_162 : decode b_M_takeParts 162 = .ok (.iaload, 1) := by decide +kernel
theorem d_M_takeParts_163 : decode b_M_takeParts 163 = .ok (.if_icmp .ge 7, 3) := by decide +kernel
theorem d_M_takeParts_166 : decode b_M_takeParts 166 = .ok (.iload_n 2, 1) := by decide +kernel
theorem d_M_takeParts_167 : decode b_M_takeParts 167 = .ok (.goto 10, 3) := by decide +kernel
theorem d_M_takeParts_170 : decode b_M_takeParts 170 = .ok (.aload_n 0, 1) := by decide +kernel
theorem d_M_takeParts_171 : decode b_M_takeParts 171 = .ok (.getfield 36, 3) := by decide +kernel
theorem d_M_takeParts_174 : decode b_M_takeParts 174 = .ok (.iload 4, 2) := by decide +kernel
theorem d_M_takeParts_176 : decode b_M_takeParts 176 = .ok (.iaload, 1) := by decide +kernel
theorem d_M_takeParts_177 : decode b_M_takeParts 177 = .ok (.iastore, 1) := by decide +kernel
theorem d_M_takeParts_178 : decode b_M_takeParts 178 = .ok (.aload_n 0, 1) := by decide +kernel
theorem d_M_takeParts_179 : decode b_M_takeParts 179 = .ok (.getfield 42, 3) := by decide +kernel
theorem d_M_takeParts_182 : decode b_M_takeParts 182 = .ok (.iload 4, 2) := by decide +kernel
theorem d_M_takeParts_184 : decode b_M_takeParts 184 = .ok (.iload_n 2, 1) := by decide +kernel
theorem d_M_takeParts_185 : decode b_M_takeParts 185 = .ok (.aload_n 0, 1) := by decide +kernel
theorem d_M_takeParts_186 : decode b_M_takeParts 186 = .ok (.getfield 42, 3) := by decide +kernel
theorem d_M_takeParts_189 : decode b_M_takeParts 189 = .ok (.iload 4, 2) := by decide +kernel
theorem d_M_takeParts_191 : decode b_M_takeParts 191 = .ok (.iaload, 1) := by decide +kernel
theorem d_M_takeParts_192 : decode b_M_takeParts 192 = .ok (.if_icmp .le 7, 3) := by decide +kernel
theorem d_M_takeParts_195 : decode b_M_takeParts 195 = .ok (.iload_n 2, 1) := by decide +kernel
theorem d_M_takeParts_196 : decode b_M_takeParts 196 = .ok (.goto 10, 3) := by decide +kernel
theorem d_M_takeParts_199 : decode b_M_takeParts 199 = .ok (.aload_n 0, 1) := by decide +kernel
theorem d_M_takeParts_200 : decode b_M_takeParts 200 = .ok (.getfield 42, 3) := by decide +kernel
theorem d_M_takeParts_203 : decode b_M_takeParts 203 = .ok (.iload 4, 2) := by decide +kernel
theorem d_M_takeParts_205 : decode b_M_takeParts 205 = .ok (.iaload, 1) := by decide +kernel
theorem d_M_takeParts_206 : decode b_M_takeParts 206 = .ok (.iastore, 1) := by decide +kernel
theorem d_M_takeParts_207 : decode b_M_takeParts 207 = .ok (.aload_n 0, 1) := by decide +kernel
theorem d_M_takeParts_208 : decode b_M_takeParts 208 = .ok (.getfield 45, 3) := by decide +kernel
theorem d_M_takeParts_211 : decode b_M_takeParts 211 = .ok (.iload 4, 2) := by decide +kernel
theorem d_M_takeParts_213 : decode b_M_takeParts 213 = .ok (.iload_n 1, 1) := by decide +kernel
theorem d_M_takeParts_214 : decode b_M_takeParts 214 = .ok (.iastore, 1) := by decide +kernel
theorem d_M_takeParts_215 : decode b_M_takeParts 215 = .ok (.iinc 2 1, 3) := by decide +kernel
theorem d_M_takeParts_218 : decode b_M_takeParts 218 = .ok (.goto (-195), 3) := by decide +kernel
theorem d_M_takeParts_221 : decode b_M_takeParts 221 = .ok (.iinc 1 1, 3) := by decide +kernel
theorem d_M_takeParts_224 : decode b_M_takeParts 224 = .ok (.goto (-211), 3) := by decide +kernel
theorem d_M_takeParts_227 : decode b_M_takeParts 227 = .ok (.iconst 0, 1) := by decide +kernel
theorem d_M_takeParts_228 : decode b_M_takeParts 228 = .ok (.istore_n 1, 1) := by decide +kernel
theorem d_M_takeParts_229 : decode b_M_takeParts 229 = .ok (.iload_n 1, 1) := by decide +kernel
theorem d_M_takeParts_230 : decode b_M_takeParts 230 = .ok (.aload_n 0, 1) := by decide +kernel
theorem d_M_takeParts_231 : decode b_M_takeParts 231 = .ok (.getfield 116, 3) := by decide +kernel
theorem d_M_takeParts_234 : decode b_M_takeParts 234 = .ok (.if_icmp .ge 43, 3) := by decide +kernel
theorem d_M_takeParts_237 : decode b_M_takeParts 237 = .ok (.aload_n 0, 1) := by decide +kernel
theorem d_M_takeParts_238 : decode b_M_takeParts 238 = .ok (.getfield 48, 3) := by decide +kernel
theorem d_M_takeParts_241 : decode b_M_takeParts 241 = .ok (.iload_n 1, 1) := by decide +kernel
theorem d_M_takeParts_242 : decode b_M_takeParts 242 = .ok (.aload_n 0, 1) := by decide +kernel
theorem d_M_takeParts_243 : decode b_M_takeParts 243 = .ok (.aload_n 0, 1) := by decide +kernel
theorem d_M_takeParts_244 : decode b_M_takeParts 244 = .ok (.getfield 36, 3) := by decide +kernel
theorem d_M_takeParts_247 : decode b_M_takeParts 247 = .ok (.iload_n 1, 1) := by decide +kernel
theorem d_M_takeParts_248 : decode b_M_takeParts 248 = .ok (.iaload, 1) := by decide +kernel
theorem d_M_takeParts_249 : decode b_M_takeParts 249 = .ok (.aload_n 0, 1) := by decide +kernel
theorem d_M_takeParts_250 : decode b_M_takeParts 250 = .ok (.getfield 39, 3) := by decide +kernel
theorem d_M_takeParts_253 : decode b_M_takeParts 253 = .ok (.iload_n 1, 1) := by decide +kernel
theorem d_M_takeParts_254 : decode b_M_takeParts 254 = .ok (.iaload, 1) := by decide +kernel
theorem d_M_takeParts_255 : decode b_M_takeParts 255 = .ok (.aload_n 0, 1) := by decide +kernel
theorem d_M_takeParts_256 : decode b_M_takeParts 256 = .ok (.getfield 42, 3) := by decide +kernel
theorem d_M_takeParts_259 : decode b_M_takeParts 259 = .ok (.iload_n 1, 1) := by decide +kernel
theorem d_M_takeParts_260 : decode b_M_takeParts 260 = .ok (.iaload, 1) := by decide +kernel
theorem d_M_takeParts_261 : decode b_M_takeParts 261 = .ok (.aload_n 0, 1) := by decide +kernel
theorem d_M_takeParts_262 : decode b_M_takeParts 262 = .ok (.getfield 45, 3) := by decide +kernel
theorem d_M_takeParts_265 : decode b_M_takeParts 265 = .ok (.iload_n 1, 1) := by decide +kernel
theorem d_M_takeParts_266 : decode b_M_takeParts 266 = .ok (.iaload, 1) := by decide +kernel
theorem d_M_takeParts_267 : decode b_M_takeParts 267 = .ok (.invokevirtual 119, 3) := by decide +kernel
theorem d_M_takeParts_270 : decode b_M_takeParts 270 = .ok (.iastore, 1) := by decide +kernel
theorem d_M_takeParts_271 : decode b_M_takeParts 271 = .ok (.iinc 1 1, 3) := by decide +kernel
theorem d_M_takeParts_274 : decode b_M_takeParts 274 = .ok (.goto (-45), 3) := by decide +kernel
theorem d_M_takeParts_277 : decode b_M_takeParts 277 = .ok (.return_, 1) := by decide +kernel
theorem d_M_kindOf_0 : decode b_M_kindOf 0 = .ok (.iload_n 3, 1) := by decide +kernel
theorem d_M_kindOf_1 : decode b_M_kindOf 1 = .ok (.iload_n 1, 1) := by decide +kernel
theorem d_M_kindOf_2 : decode b_M_kindOf 2 = .ok (.isub, 1) := by decide +kernel
theorem d_M_kindOf_3 : decode b_M_kindOf 3 = .ok (.iconst 1, 1) := by decide +kernel
theorem d_M_kindOf_4 : decode b_M_kindOf 4 = .ok (.iadd, 1) := by decide +kernel
theorem d_M_kindOf_5 : decode b_M_kindOf 5 = .ok (.istore 5, 2) := by decide +kernel
theorem d_M_kindOf_7 : decode b_M_kindOf 7 = .ok (.iload 4, 2) := by decide +kernel
theorem d_M_kindOf_9 : decode b_M_kindOf 9 = .ok (.iload_n 2, 1) := by decide +kernel
theorem d_M_kindOf_10 : decode b_M_kindOf 10 = .ok (.isub, 1) := by decide +kernel
theorem d_M_kindOf_11 : decode b_M_kindOf 11 = .ok (.iconst 1, 1) := by decide +kernel
theorem d_M_kindOf_12 : decode b_M_kindOf 12 = .ok (.iadd, 1) := by decide +kernel
theorem d_M_kindOf_13 : decode b_M_kindOf 13 = .ok (.istore 6, 2) := by decide +kernel
theorem d_M_kindOf_15 : decode b_M_kindOf 15 = .ok (.iload 6, 2) := by decide +kernel
theorem d_M_kindOf_17 : decode b_M_kindOf 17 = .ok (.iconst 2, 1) := by decide +kernel
theorem d_M_kindOf_18 : decode b_M_kindOf 18 = .ok (.if_icmp .gt 12, 3) := by decide +kernel
theorem d_M_kindOf_21 : decode b_M_kindOf 21 = .ok (.iload 5, 2) := by decide +kernel
theorem d_M_kindOf_23 : decode b_M_kindOf 23 = .ok (.iconst 5, 1) := by decide +kernel
theorem d_M_kindOf_24 : decode b_M_kindOf 24 = .ok (.iload 6, 2) := by decide +kernel
theorem d_M_kindOf_26 : decode b_M_kindOf 26 = .ok (.imul, 1) := by decide +kernel
theorem d_M_kindOf_27 : decode b_M_kindOf 27 = .ok (.if_icmp .ge 18, 3) := by decide +kernel
theorem d_M_kindOf_30 : decode b_M_kindOf 30 = .ok (.iload 5, 2) := by decide +kernel
theorem d_M_kindOf_32 : decode b_M_kindOf 32 = .ok (.iconst 2, 1) := by decide +kernel
theorem d_M_kindOf_33 : decode b_M_kindOf 33 = .ok (.if_icmp .gt 14, 3) := by decide +kernel
theorem d_M_kindOf_36 : decode b_M_kindOf 36 = .ok (.iload 6, 2) := by decide +kernel
theorem d_M_kindOf_38 : decode b_M_kindOf 38 = .ok (.iconst 5, 1) := by decide +kernel
theorem d_M_kindOf_39 : decode b_M_kindOf 39 = .ok (.iload 5, 2) := by decide +kernel
theorem d_M_kindOf_41 : decode b_M_kindOf 41 = .ok (.imul, 1) := by decide +kernel
theorem d_M_kindOf_42 : decode b_M_kindOf 42 = .ok (.if_icmp .lt 5, 3) := by decide +kernel
theorem d_M_kindOf_45 : decode b_M_kindOf 45 = .ok (.iconst 1, 1) := by decide +kernel
theorem d_M_kindOf_46 : decode b_M_kindOf 46 = .ok (.ireturn, 1) := by decide +kernel
theorem d_M_kindOf_47 : decode b_M_kindOf 47 = .ok (.iload 5, 2) := by decide +kernel
theorem d_M_kindOf_49 : decode b_M_kindOf 49 = .ok (.bipush 7, 2) := by decide +kernel
theorem d_M_kindOf_51 : decode b_M_kindOf 51 = .ok (.if_icmp .lt 10, 3) := by decide +kernel
theorem d_M_kindOf_54 : decode b_M_kindOf 54 = .ok (.iload 6, 2) := by decide +kernel
theorem d_M_kindOf_56 : decode b_M_kindOf 56 = .ok (.bipush 7, 2) := by decide +kernel
theorem d_M_kindOf_58 : decode b_M_kindOf 58 = .ok (.if_icmp .ge 5, 3) := by decide +kernel
theorem d_M_kindOf_61 : decode b_M_kindOf 61 = .ok (.iconst 0, 1) := by decide +kernel
theorem d_M_kindOf_62 : decode b_M_kindOf 62 = .ok (.ireturn, 1) := by decide +kernel
theorem d_M_kindOf_63 : decode b_M_kindOf 63 = .ok (.iconst 4, 1) := by decide +kernel
theorem d_M_kindOf_64 : decode b_M_kindOf 64 = .ok (.aload_n 0, 1) := by decide +kernel
theorem d_M_kindOf_65 : decode b_M_kindOf 65 = .ok (.iload_n 1, 1) := by decide +kernel
theorem d_M_kindOf_66 : decode b_M_kindOf 66 = .ok (.iload_n 2, 1) := by decide +kernel
theorem d_M_kindOf_67 : decode b_M_kindOf 67 = .ok (.iload_n 3, 1) := by decide +kernel
theorem d_M_kindOf_68 : decode b_M_kindOf 68 = .ok (.iload_n 2, 1) := by decide +kernel
theorem d_M_kindOf_69 : decode b_M_kindOf 69 = .ok (.iconst (-1), 1) := by decide +kernel
theorem d_M_kindOf_70 : decode b_M_kindOf 70 = .ok (.invokevirtual 123, 3) := by decide +kernel
theorem d_M_kindOf_73 : decode b_M_kindOf 73 = .ok (.imul, 1) := by decide +kernel
theorem d_M_kindOf_74 : decode b_M_kindOf 74 = .ok (.iconst 3, 1) := by decide +kernel
theorem d_M_kindOf_75 : decode b_M_kindOf 75 = .ok (.iload 5, 2) := by decide +kernel
theorem d_M_kindOf_77 : decode b_M_kindOf 77 = .ok (.imul, 1) := by decide +kernel
theorem d_M_kindOf_78 : decode b_M_kindOf 78 = .ok (.if_icmp .lt 27, 3) := by decide +kernel
theorem d_M_kindOf_81 : decode b_M_kindOf 81 = .ok (.iconst 4, 1) := by decide +kernel
theorem d_M_kindOf_82 : decode b_M_kindOf 82 = .ok (.aload_n 0, 1) := by decide +kernel
theorem d_M_kindOf_83 : decode b_M_kindOf 83 = .ok (.iload_n 1, 1) := by decide +kernel
theorem d_M_kindOf_84 : decode b_M_kindOf 84 = .ok (.iload 4, 2) := by decide +kernel
theorem d_M_kindOf_86 : decode b_M_kindOf 86 = .ok (.iload_n 3, 1) := by decide +kernel
theorem d_M_kindOf_87 : decode b_M_kindOf 87 = .ok (.iload 4, 2) := by decide +kernel
theorem d_M_kindOf_89 : decode b_M_kindOf 89 = .ok (.iconst (-1), 1) := by decide +kernel
theorem d_M_kindOf_90 : decode b_M_kindOf 90 = .ok (.invokevirtual 123, 3) := by decide +kernel
theorem d_M_kindOf_93 : decode b_M_kindOf 93 = .ok (.imul, 1) := by decide +kernel
theorem d_M_kindOf_94 : decode b_M_kindOf 94 = .ok (.iconst 3, 1) := by decide +kernel
theorem d_M_kindOf_95 : decode b_M_kindOf 95 = .ok (.iload 5, 2) := by decide +kernel
theorem d_M_kindOf_97 : decode b_M_kindOf 97 = .ok (.imul, 1) := by decide +kernel
theorem d_M_kindOf_98 : decode b_M_kindOf 98 = .ok (.if_icmp .lt 7, 3) := by decide +kernel
theorem d_M_kindOf_101 : decode b_M_kindOf 101 = .ok (.iconst 1, 1) := by decide +kernel
theorem d_M_kindOf_102 : decode b_M_kindOf 102 = .ok (.goto 4, 3) := by decide +kernel
theorem d_M_kindOf_105 : decode b_M_kindOf 105 = .ok (.iconst 0, 1) := by decide +kernel
theorem d_M_kindOf_106 : decode b_M_kindOf 106 = .ok (.istore 7, 2) := by decide +kernel
theorem d_M_kindOf_108 : decode b_M_kindOf 108 = .ok (.iconst 4, 1) := by decide +kernel
theorem d_M_kindOf_109 : decode b_M_kindOf 109 = .ok (.aload_n 0, 1) := by decide +kernel
theorem d_M_kindOf_110 : decode b_M_kindOf 110 = .ok (.iload_n 1, 1) := by decide +kernel
theorem d_M_kindOf_111 : decode b_M_kindOf 111 = .ok (.iload_n 2, 1) := by decide +kernel
theorem d_M_kindOf_112 : decode b_M_kindOf 112 = .ok (.iload_n 1, 1) := by decide +kernel
theorem d_M_kindOf_113 : decode b_M_kindOf 113 = .ok (.iload 4, 2) := by decide +kernel
theorem d_M_kindOf_115 : decode b_M_kindOf 115 = .ok (.iconst (-1), 1) := by decide +kernel
theorem d_M_kindOf_116 : decode b_M_kindOf 116 = .ok (.invokevirtual 123, 3) := by decide +kernel
theorem d_M_kindOf_119 : decode b_M_kindOf 119 = .ok (.imul, 1) := by decide +kernel
theorem d_M_kindOf_120 : decode b_M_kindOf 120 = .ok (.iconst 3, 1) := by decide +kernel
theorem d_M_kindOf_121 : decode b_M_kindOf 121 = .ok (.iload 6, 2) := by decide +kernel
theorem d_M_kindOf_123 : decode b_M_kindOf 123 = .ok (.imul, 1) := by decide +kernel
theorem d_M_kindOf_124 : decode b_M_kindOf 124 = .ok (.if_icmp .lt 26, 3) := by decide +kernel
theorem d_M_kindOf_127 : decode b_M_kindOf 127 = .ok (.iconst 4, 1) := by decide +kernel
theorem d_M_kindOf_128 : decode b_M_kindOf 128 = .ok (.aload_n 0, 1) := by decide +kernel
theorem d_M_kindOf_129 : decode b_M_kindOf 129 = .ok (.iload_n 3, 1) := by decide +kernel
theorem d_M_kindOf_130 : decode b_M_kindOf 130 = .ok (.iload_n 2, 1) := by decide +kernel
theorem d_M_kindOf_131 : decode b_M_kindOf 131 = .ok (.iload_n 3, 1) := by decide +kernel
theorem d_M_kindOf_132 : decode b_M_kindOf 132 = .ok (.iload 4, 2) := by decide +kernel
theorem d_M_kindOf_134 : decode b_M_kindOf 134 = .ok (.iconst (-1), 1) := by decide +kernel
theorem d_M_kindOf_135 : decode b_M_kindOf 135 = .ok (.invokevirtual 123, 3) := by decide +kernel
theorem d_M_kindOf_138 : decode b_M_kindOf 138 = .ok (.imul, 1) := by decide +kernel
theorem d_M_kindOf_139 : decode b_M_kindOf 139 = .ok (.iconst 3, 1) := by decide +kernel
theorem d_M_kindOf_140 : decode b_M_kindOf 140 = .ok (.iload 6, 2) := by decide +kernel
theorem d_M_kindOf_142 : decode b_M_kindOf 142 = .ok (.imul, 1) := by decide +kernel
theorem d_M_kindOf_143 : decode b_M_kindOf 143 = .ok (.if_icmp .lt 7, 3) := by decide +kernel
theorem d_M_kindOf_146 : decode b_M_kindOf 146 = .ok (.iconst 1, 1) := by decide +kernel
theorem d_M_kindOf_147 : decode b_M_kindOf 147 = .ok (.goto 4, 3) := by decide +kernel
theorem d_M_kindOf_150 : decode b_M_kindOf 150 = .ok (.iconst 0, 1) := by decide +kernel
theorem d_M_kindOf_151 : decode b_M_kindOf 151 = .ok (.istore 8, 2) := by decide +kernel
theorem d_M_kindOf_153 : decode b_M_kindOf 153 = .ok (.iload 7, 2) := by decide +kernel
theorem d_M_kindOf_155 : decode b_M_kindOf 155 = .ok (.ifCond .eq 42, 3) := by decide +kernel
theorem d_M_kindOf_158 : decode b_M_kindOf 158 = .ok (.iload 8, 2) := by decide +kernel
theorem d_M_kindOf_160 : decode b_M_kindOf 160 = .ok (.ifCond .eq 37, 3) := by decide +kernel
theorem d_M_kindOf_163 : decode b_M_kindOf 163 = .ok (.iconst 4, 1) := by decide +kernel
theorem d_M_kindOf_164 : decode b_M_kindOf 164 = .ok (.aload_n 0, 1) := by decide +kernel
theorem d_M_kindOf_165 : decode b_M_kindOf 165 = .ok (.iload_n 1, 1) := by decide +kernel
theorem d_M_kindOf_166 : decode b_M_kindOf 166 = .ok (.iconst 1, 1) := by decide +kernel
theorem d_M_kindOf_167 : decode b_M_kindOf 167 = .ok (.iadd, 1) := by decide +kernel
theorem d_M_kindOf_168 : decode b_M_kindOf 168 = .ok (.iload_n 2, 1) := by decide +kernel
theorem d_M_kindOf_169 : decode b_M_kindOf 169 = .ok (.iconst 1, 1) := by decide +kernel
theorem d_M_kindOf_170 : decode b_M_kindOf 170 = .ok (.iadd, 1) := by decide +kernel
theorem d_M_kindOf_171 : decode b_M_kindOf 171 = .ok (.iload_n 3, 1) := by decide +kernel
theorem d_M_kindOf_172 : decode b_M_kindOf 172 = .ok (.iconst 1, 1) := by decide +kernel
theorem d_M_kindOf_173 : decode b_M_kindOf 173 = .ok (.isub, 1) := by decide +kernel
theorem d_M_kindOf_174 : decode b_M_kindOf 174 = .ok (.iload 4, 2) := by decide +kernel
theorem d_M_kindOf_176 : decode b_M_kindOf 176 = .ok (.iconst 1, 1) := by decide +kernel
theorem d_M_kindOf_177 : decode b_M_kindOf 177 = .ok (.isub, 1) := by decide +kernel
theorem d_M_kindOf_178 : decode b_M_kindOf 178 = .ok (.iconst (-1), 1) := by decide +kernel
theorem d_M_kindOf_179 : decode b_M_kindOf 179 = .ok (.invokevirtual 123, 3) := by decide +kernel
theorem d_M_kindOf_182 : decode b_M_kindOf 182 = .ok (.imul, 1) := by decide +kernel
theorem d_M_kindOf_183 : decode b_M_kindOf 183 = .ok (.iload 5, 2) := by decide +kernel
theorem d_M_kindOf_185 : decode b_M_kindOf 185 = .ok (.iconst 2, 1) := by decide +kernel
theorem d_M_kindOf_186 : decode b_M_kindOf 186 = .ok (.isub, 1) := by decide +kernel
theorem d_M_kindOf_187 : decode b_M_kindOf 187 = .ok (.iload 6, 2) := by decide +kernel
theorem d_M_kindOf_189 : decode b_M_kindOf 189 = .ok (.iconst 2, 1) := by decide +kernel
theorem d_M_kindOf_190 : decode b_M_kindOf 190 = .ok (.isub, 1) := by decide +kernel
theorem d_M_kindOf_191 : decode b_M_kindOf 191 = .ok (.imul, 1) := by decide +kernel
theorem d_M_kindOf_192 : decode b_M_kindOf 192 = .ok (.if_icmp .gt 5, 3) := by decide +kernel
theorem d_M_kindOf_195 : decode b_M_kindOf 195 = .ok (.iconst 3, 1) := by decide +kernel
theorem d_M_kindOf_196 : decode b_M_kindOf 196 = .ok (.ireturn, 1) := by decide +kernel
theorem d_M_kindOf_197 : decode b_M_kindOf 197 = .ok (.iconst 2, 1) := by decide +kernel
theorem d_M_kindOf_198 : decode b_M_kindOf 198 = .ok (.aload_n 0, 1) := by decide +kernel
theorem d_M_kindOf_199 : decode b_M_kindOf 199 = .ok (.iload_n 1, 1) := by decide +kernel
theorem d_M_kindOf_200 : decode b_M_kindOf 200 = .ok (.iload_n 2, 1) := by decide +kernel
theorem d_M_kindOf_201 : decode b_M_kindOf 201 = .ok (.iload_n 3, 1) := by decide +kernel
theorem d_M_kindOf_202 : decode b_M_kindOf 202 = .ok (.iload 4, 2) := by decide +kernel
theorem d_M_kindOf_204 : decode b_M_kindOf 204 = .ok (.iconst (-1), 1) := by decide +kernel
theorem d_M_kindOf_205 : decode b_M_kindOf 205 = .ok (.invokevirtual 123, 3) := by decide +kernel
theorem d_M_kindOf_208 : decode b_M_kindOf 208 = .ok (.imul, 1) := by decide +kernel
theorem d_M_kindOf_209 : decode b_M_kindOf 209 = .ok (.iload 5, 2) := by decide +kernel
theorem d_M_kindOf_211 : decode b_M_kindOf 211 = .ok (.iload 6, 2) := by decide +kernel
theorem d_M_kindOf_213 : decode b_M_kindOf 213 = .ok (.imul, 1) := by decide +kernel
theorem d_M_kindOf_214 : decode b_M_kindOf 214 = .ok (.if_icmp .lt 7, 3) := by decide +kernel
theorem d_M_kindOf_217 : decode b_M_kindOf 217 = .ok (.iconst 2, 1) := by decide +kernel
theorem d_M_kindOf_218 : decode b_M_kindOf 218 = .ok (.goto 4, 3) := by decide +kernel
theorem d_M_kindOf_221 : decode b_M_kindOf 221 = .ok (.iconst 0, 1) := by decide +kernel
theorem d_M_kindOf_222 : decode b_M_kindOf 222 = .ok (.ireturn, 1) := by decide +kernel
theorem d_M_takeCover_0 : decode b_M_takeCover 0 = .ok (.iconst 3, 1) := by decide +kernel
theorem d_M_takeCover_1 : decode b_M_takeCover 1 = .ok (.istore_n 1, 1) := by decide +kernel
theorem d_M_takeCover_2 : decode b_M_takeCover 2 = .ok (.iconst (-1), 1) := by decide +kernel
theorem d_M_takeCover_3 : decode b_M_takeCover 3 = .ok (.istore_n 2, 1) := by decide +kernel
theorem d_M_takeCover_4 : decode b_M_takeCover 4 = .ok (.iconst 0, 1) := by decide +kernel
theorem d_M_takeCover_5 : decode b_M_takeCover 5 = .ok (.istore_n 3, 1) := by decide +kernel
theorem d_M_takeCover_6 : decode b_M_takeCover 6 = .ok (.iload_n 3, 1) := by decide +kernel
theorem d_M_takeCover_7 : decode b_M_takeCover 7 = .ok (.aload_n 0, 1) := by decide +kernel
theorem d_M_takeCover_8 : decode b_M_takeCover 8 = .ok (.getfield 76, 3) := by decide +kernel
theorem d_M_takeCover_11 : decode b_M_takeCover 11 = .ok (.if_icmp .ge 162, 3) := by decide +kernel
theorem d_M_takeCover_14 : decode b_M_takeCover 14 = .ok (.iconst 0, 1) := by decide +kernel
theorem d_M_takeCover_15 : decode b_M_takeCover 15 = .ok (.istore 4, 2) := by decide +kernel
theorem d_M_takeCover_17 : decode b_M_takeCover 17 = .ok (.iload 4, 2) := by decide +kernel
theorem d_M_takeCover_19 : decode b_M_takeCover 19 = .ok (.aload_n 0, 1) := by decide +kernel
theorem d_M_takeCover_20 : decode b_M_takeCover 20 = .ok (.getfield 73, 3) := by decide +kernel
theorem d_M_takeCover_23 : decode b_M_takeCover 23 = .ok (.if_icmp .ge 144, 3) := by decide +kernel
theorem d_M_takeCover_26 : decode b_M_takeCover 26 = .ok (.aload_n 0, 1) := by decide +kernel
theorem d_M_takeCover_27 : decode b_M_takeCover 27 = .ok (.getfield 73, 3) := by decide +kernel
theorem d_M_takeCover_30 : decode b_M_takeCover 30 = .ok (.iload 4, 2) := by decide +kernel
theorem d_M_takeCover_32 : decode b_M_takeCover 32 = .ok (.isub, 1) := by decide +kernel
theorem d_M_takeCover_33 : decode b_M_takeCover 33 = .ok (.istore 5, 2) := by decide +kernel
theorem d_M_takeCover_35 : decode b_M_takeCover 35 = .ok (.iconst 1, 1) := by decide +kernel
theorem d_M_takeCover_36 : decode b_M_takeCover 36 = .ok (.istore 6, 2) := by decide +kernel
theorem d_M_takeCover_38 : decode b_M_takeCover 38 = .ok (.iload_n 3, 1) := by decide +kernel
theorem d_M_takeCover_39 : decode b_M_takeCover 39 = .ok (.iload 6, 2) := by decide +kernel
theorem d_M_takeCover_41 : decode b_M_takeCover 41 = .ok (.iadd, 1) := by decide +kernel
theorem d_M_takeCover_42 : decode b_M_takeCover 42 = .ok (.aload_n 0, 1) := by decide +kernel
theorem d_M_takeCover_43 : decode b_M_takeCover 43 = .ok (.getfield 76, 3) := by decide +kernel
theorem d_M_takeCover_46 : decode b_M_takeCover 46 = .ok (.if_icmp .gt 115, 3) := by decide +kernel
theorem d_M_takeCover_49 : decode b_M_takeCover 49 = .ok (.iload 5, 2) := by decide +kernel
theorem d_M_takeCover_51 : decode b_M_takeCover 51 = .ok (.ifCond .le 110, 3) := by decide +kernel
theorem d_M_takeCover_54 : decode b_M_takeCover 54 = .ok (.iconst 0, 1) := by decide +kernel
theorem d_M_takeCover_55 : decode b_M_takeCover 55 = .ok (.istore 7, 2) := by decide +kernel
theorem d_M_takeCover_57 : decode b_M_takeCover 57 = .ok (.iload 7, 2) := by decide +kernel
theorem d_M_takeCover_59 : decode b_M_takeCover 59 = .ok (.iload 5, 2) := by decide +kernel
theorem d_M_takeCover_61 : decode b_M_takeCover 61 = .ok (.if_icmp .ge 55, 3) := by decide +kernel
theorem d_M_takeCover_64 : decode b_M_takeCover 64 = .ok (.aload_n 0, 1) := by decide +kernel
theorem d_M_takeCover_65 : decode b_M_takeCover 65 = .ok (.getfield 23, 3) := by decide +kernel
theorem d_M_takeCover_68 : decode b_M_takeCover 68 = .ok (.bipush 24, 2) := by decide +kernel
theorem d_M_takeCover_70 : decode b_M_takeCover 70 = .ok (.iload_n 3, 1) := by decide +kernel
theorem d_M_takeCover_71 : decode b_M_takeCover 71 = .ok (.iload 6, 2) := by decide +kernel
theorem d_M_takeCover_73 : decode b_M_takeCover 73 = .ok (.iadd, 1) := by decide +kernel
theorem d_M_takeCover_74 : decode b_M_takeCover 74 = .ok (.iconst 1, 1) := by decide +kernel
theorem d_M_takeCover_75 : decode b_M_takeCover 75 = .ok (.isub, 1) := by decide +kernel
theorem d_M_takeCover_76 : decode b_M_takeCover 76 = .ok (.imul, 1) := by decide +kernel
theorem d_M_takeCover_77 : decode b_M_takeCover 77 = .ok (.iload 4, 2) := by decide +kernel
theorem d_M_takeCover_79 : decode b_M_takeCover 79 = .ok (.iadd, 1) := by decide +kernel
theorem d_M_takeCover_80 : decode b_M_takeCover 80 = .ok (.iload 7, 2) := by decide +kernel
theorem d_M_takeCover_82 : decode b_M_takeCover 82 = .ok (.iadd, 1) := by decide +kernel
theorem d_M_takeCover_83 : decode b_M_takeCover 83 = .ok (.baload, 1) := by decide +kernel
theorem d_M_takeCover_84 : decode b_M_takeCover 84 = .ok (.ifCond .ne 32, 3) := by decide +kernel
theorem d_M_takeCover_87 : decode b_M_takeCover 87 = .ok (.aload_n 0, 1) := by decide +kernel
theorem d_M_takeCover_88 : decode b_M_takeCover 88 = .ok (.getfield 26, 3) := by decide +kernel
theorem d_M_takeCover_91 : decode b_M_takeCover 91 = .ok (.bipush 24, 2) := by decide +kernel
theorem d_M_takeCover_93 : decode b_M_takeCover 93 = .ok (.iload_n 3, 1) := by decide +kernel
theorem d_M_takeCover_94 : decode b_M_takeCover 94 = .ok (.iload 6, 2) := by decide +kernel
theorem d_M_takeCover_96 : decode b_M_takeCover 96 = .ok (.iadd, 1) := by decide +kernel
theorem d_M_takeCover_97 : decode b_M_takeCover 97 = .ok (.iconst 1, 1) := by decide +kernel
theorem d_M_takeCover_98 : decode b_M_takeCover 98 = .ok (.isub, 1) := by decide +kernel
theorem d_M_takeCover_99 : decode b_M_takeCover 99 = .ok (.imul, 1) := by decide +kernel
theorem d_M_takeCover_100 : decode b_M_takeCover 100 = .ok (.iload 4, 2) := by decide +kernel
theorem d_M_takeCover_102 : decode b_M_takeCover 102 = .ok (.iadd, 1) := by decide +kernel
theorem d_M_takeCover_103 : decode b_M_takeCover 103 = .ok (.iload 7, 2) := by decide +kernel
theorem d_M_takeCover_105 : decode b_M_takeCover 105 = .ok (.iadd, 1) := by decide +kernel
theorem d_M_takeCover_106 : decode b_M_takeCover 106 = .ok (.baload, 1) := by decide +kernel
theorem d_M_takeCover_107 : decode b_M_takeCover 107 = .ok (.ifCond .ne 9, 3) := by decide +kernel
theorem d_M_takeCover_110 : decode b_M_takeCover 110 = .ok (.iinc 7 1, 3) := by decide +kernel
theorem d_M_takeCover_113 : decode b_M_takeCover 113 = .ok (.goto (-56), 3) := by decide +kernel
theorem d_M_takeCover_116 : decode b_M_takeCover 116 = .ok (.iload 7, 2) := by decide +kernel
theorem d_M_takeCover_118 : decode b_M_takeCover 118 = .ok (.istore 5, 2) := by decide +kernel
theorem d_M_takeCover_120 : decode b_M_takeCover 120 = .ok (.iload 5, 2) := by decide +kernel
theorem d_M_takeCover_122 : decode b_M_takeCover 122 = .ok (.iload 6, 2) := by decide +kernel
theorem d_M_takeCover_124 : decode b_M_takeCover 124 = .ok (.imul, 1) := by decide +kernel
theorem d_M_takeCover_125 : decode b_M_takeCover 125 = .ok (.iload_n 1, 1) := by decide +kernel
theorem d_M_takeCover_126 : decode b_M_takeCover 126 = .ok (.if_icmp .le 29, 3) := by decide +kernel
theorem d_M_takeCover_129 : decode b_M_takeCover 129 = .ok (.iload 5, 2) := by decide +kernel
theorem d_M_takeCover_131 : decode b_M_takeCover 131 = .ok (.iload 6, 2) := by decide +kernel
theorem d_M_takeCover_133 : decode b_M_takeCover 133 = .ok (.imul, 1) := by decide +kernel
theorem d_M_takeCover_134 : decode b_M_takeCover 134 = .ok (.istore_n 1, 1) := by decide +kernel
theorem d_M_takeCover_135 : decode b_M_takeCover 135 = .ok (.bipush 24, 2) := by decide +kernel
theorem d_M_takeCover_137 : decode b_M_takeCover 137 = .ok (.iload_n 3, 1) := by decide +kernel
theorem d_M_takeCover_138 : decode b_M_takeCover 138 = .ok (.imul, 1) := by decide +kernel
theorem d_M_takeCover_139 : decode b_M_takeCover 139 = .ok (.iload 4, 2) := by decide +kernel
theorem d_M_takeCover_141 : decode b_M_takeCover 141 = .ok (.iadd, 1) := by decide +kernel
theorem d_M_takeCover_142 : decode b_M_takeCover 142 = .ok (.bipush 32, 2) := by decide +kernel
theorem d_M_takeCover_144 : decode b_M_takeCover 144 = .ok (.imul, 1) := by decide +kernel
theorem d_M_takeCover_145 : decode b_M_takeCover 145 = .ok (.iload 5, 2) := by decide +kernel
theorem d_M_takeCover_147 : decode b_M_takeCover 147 = .ok (.iadd, 1) := by decide +kernel
theorem d_M_takeCover_148 : decode b_M_takeCover 148 = .ok (.bipush 32, 2) := by decide +kernel
theorem d_M_takeCover_150 : decode b_M_takeCover 150 = .ok (.imul, 1) := by decide +kernel
theorem d_M_takeCover_151 : decode b_M_takeCover 151 = .ok (.iload 6, 2) := by decide +kernel
theorem d_M_takeCover_153 : decode b_M_takeCover 153 = .ok (.iadd, 1) := by decide +kernel
theorem d_M_takeCover_154 : decode b_M_takeCover 154 = .ok (.istore_n 2, 1) := by decide +kernel
theorem d_M_takeCover_155 : decode b_M_takeCover 155 = .ok (.iinc 6 1, 3) := by decide +kernel
theorem d_M_takeCover_158 : decode b_M_takeCover 158 = .ok (.goto (-120), 3) := by decide +kernel
theorem d_M_takeCover_161 : decode b_M_takeCover 161 = .ok (.iinc 4 1, 3) := by decide +kernel
theorem d_M_takeCover_164 : decode b_M_takeCover 164 = .ok (.goto (-147), 3) := by decide +kernel
theorem d_M_takeCover_167 : decode b_M_takeCover 167 = .ok (.iinc 3 1, 3) := by decide +kernel
theorem d_M_takeCover_170 : decode b_M_takeCover 170 = .ok (.goto (-164), 3) := by decide +kernel
theorem d_M_takeCover_173 : decode b_M_takeCover 173 = .ok (.iload_n 2, 1) := by decide +kernel
theorem d_M_takeCover_174 : decode b_M_takeCover 174 = .ok (.iconst (-1), 1) := by decide +kernel
theorem d_M_takeCover_175 : decode b_M_takeCover 175 = .ok (.if_icmp .ne 5, 3) := by decide +kernel
theorem d_M_takeCover_178 : decode b_M_takeCover 178 = .ok (.iconst 0, 1) := by decide +kernel
theorem d_M_takeCover_179 : decode b_M_takeCover 179 = .ok (.ireturn, 1) := by decide +kernel
theorem d_M_takeCover_180 : decode b_M_takeCover 180 = .ok (.iload_n 2, 1) := by decide +kernel
theorem d_M_takeCover_181 : decode b_M_takeCover 181 = .ok (.sipush 1024, 3) := by decide +kernel
theorem d_M_takeCover_184 : decode b_M_takeCover 184 = .ok (.idiv, 1) := by decide +kernel
theorem d_M_takeCover_185 : decode b_M_takeCover 185 = .ok (.bipush 24, 2) := by decide +kernel
theorem d_M_takeCover_187 : decode b_M_takeCover 187 = .ok (.irem, 1) := by decide +kernel
theorem d_M_takeCover_188 : decode b_M_takeCover 188 = .ok (.istore_n 3, 1) := by decide +kernel
theorem d_M_takeCover_189 : decode b_M_takeCover 189 = .ok (.iload_n 2, 1) := by decide +kernel
theorem d_M_takeCover_190 : decode b_M_takeCover 190 = .ok (.sipush 1024, 3) := by decide +kernel
theorem d_M_takeCover_193 : decode b_M_takeCover 193 = .ok (.idiv, 1) := by decide +kernel
theorem d_M_takeCover_194 : decode b_M_takeCover 194 = .ok (.bipush 24, 2) := by decide +kernel
theorem d_M_takeCover_196 : decode b_M_takeCover 196 = .ok (.idiv, 1) := by decide +kernel
theorem d_M_takeCover_197 : decode b_M_takeCover 197 = .ok (.istore 4, 2) := by decide +kernel
theorem d_M_takeCover_199 : decode b_M_takeCover 199 = .ok (.iconst 4, 1) := by decide +kernel
theorem d_M_takeCover_200 : decode b_M_takeCover 200 = .ok (.aload_n 0, 1) := by decide +kernel
theorem d_M_takeCover_201 : decode b_M_takeCover 201 = .ok (.getfield 127, 3) := by decide +kernel
theorem d_M_takeCover_204 : decode b_M_takeCover 204 = .ok (.imul, 1) := by decide +kernel
theorem d_M_takeCover_205 : decode b_M_takeCover 205 = .ok (.istore 5, 2) := by decide +kernel
theorem d_M_takeCover_207 : decode b_M_takeCover 207 = .ok (.aload_n 0, 1) := by decide +kernel
theorem d_M_takeCover_208 : decode b_M_takeCover 208 = .ok (.getfield 54, 3) := by decide +kernel
theorem d_M_takeCover_211 : decode b_M_takeCover 211 = .ok (.iload 5, 2) := by decide +kernel
theorem d_M_takeCover_213 : decode b_M_takeCover 213 = .ok (.iload_n 3, 1) := by decide +kernel
theorem d_M_takeCover_214 : decode b_M_takeCover 214 = .ok (.iastore, 1) := by decide +kernel
theorem d_M_takeCover_215 : decode b_M_takeCover 215 = .ok (.aload_n 0, 1) := by decide +kernel
theorem d_M_takeCover_216 : decode b_M_takeCover 216 = .ok (.getfield 54, 3) := by decide +kernel
theorem d_M_takeCover_219 : decode b_M_takeCover 219 = .ok (.iload 5, 2) := by decide +kernel
theorem d_M_takeCover_221 : decode b_M_takeCover 221 = .ok (.iconst 1, 1) := by decide +kernel
theorem d_M_takeCover_222 : decode b_M_takeCover 222 = .ok (.iadd, 1) := by decide +kernel
theorem d_M_takeCover_223 : decode b_M_takeCover 223 = .ok (.iload 4, 2) := by decide +kernel
theorem d_M_takeCover_225 : decode b_M_takeCover 225 = .ok (.iastore, 1) := by decide +kernel
theorem d_M_takeCover_226 : decode b_M_takeCover 226 = .ok (.aload_n 0, 1) := by decide +kernel
theorem d_M_takeCover_227 : decode b_M_takeCover 227 = .ok (.getfield 54, 3) := by decide +kernel
theorem d_M_takeCover_230 : decode b_M_takeCover 230 = .ok (.iload 5, 2) := by decide +kernel
theorem d_M_takeCover_232 : decode b_M_takeCover 232 = .ok (.iconst 2, 1) := by decide +kernel
theorem d_M_takeCover_233 : decode b_M_takeCover 233 = .ok (.iadd, 1) := by decide +kernel
theorem d_M_takeCover_234 : decode b_M_takeCover 234 = .ok (.iload_n 2, 1) := by decide +kernel
theorem d_M_takeCover_235 : decode b_M_takeCover 235 = .ok (.bipush 32, 2) := by decide +kernel
theorem d_M_takeCover_237 : decode b_M_takeCover 237 = .ok (.idiv, 1) := by decide +kernel
theorem d_M_takeCover_238 : decode b_M_takeCover 238 = .ok (.bipush 32, 2) := by decide +kernel
theorem d_M_takeCover_240 : decode b_M_takeCover 240 = .ok (.irem, 1) := by decide +kernel
theorem d_M_takeCover_241 : decode b_M_takeCover 241 = .ok (.iastore, 1) := by decide +kernel
theorem d_M_takeCover_242 : decode b_M_takeCover 242 = .ok (.aload_n 0, 1) := by decide +kernel
theorem d_M_takeCover_243 : decode b_M_takeCover 243 = .ok (.getfield 54, 3) := by decide +kernel
theorem d_M_takeCover_246 : decode b_M_takeCover 246 = .ok (.iload 5, 2) := by decide +kernel
theorem d_M_takeCover_248 : decode b_M_takeCover 248 = .ok (.iconst 3, 1) := by decide +kernel
theorem d_M_takeCover_249 : decode b_M_takeCover 249 = .ok (.iadd, 1) := by decide +kernel
theorem d_M_takeCover_250 : decode b_M_takeCover 250 = .ok (.iload_n 2, 1) := by decide +kernel
theorem d_M_takeCover_251 : decode b_M_takeCover 251 = .ok (.bipush 32, 2) := by decide +kernel
theorem d_M_takeCover_253 : decode b_M_takeCover 253 = .ok (.irem, 1) := by decide +kernel
theorem d_M_takeCover_254 : decode b_M_takeCover 254 = .ok (.iastore, 1) := by decide +kernel
theorem d_M_takeCover_255 : decode b_M_takeCover 255 = .ok (.iload 4, 2) := by decide +kernel
theorem d_M_takeCover_257 : decode b_M_takeCover 257 = .ok (.istore 6, 2) := by decide +kernel
theorem d_M_takeCover_259 : decode b_M_takeCover 259 = .ok (.iload 6, 2) := by decide +kernel
theorem d_M_takeCover_261 : decode b_M_takeCover 261 = .ok (.iload 4, 2) := by decide +kernel
theorem d_M_takeCover_263 : decode b_M_takeCover 263 = .ok (.aload_n 0, 1) := by decide +kernel
theorem d_M_takeCover_264 : decode b_M_takeCover 264 = .ok (.getfield 54, 3) := by decide +kernel
theorem d_M_takeCover_267 : decode b_M_takeCover 267 = .ok (.iload 5, 2) := by decide +kernel
theorem d_M_takeCover_269 : decode b_M_takeCover 269 = .ok (.iconst 3, 1) := by decide +kernel
theorem d_M_takeCover_270 : decode b_M_takeCover 270 = .ok (.iadd, 1) := by decide +kernel
theorem d_M_takeCover_271 : decode b_M_takeCover 271 = .ok (.iaload, 1) := by decide +kernel
theorem d_M_takeCover_272 : decode b_M_takeCover 272 = .ok (.iadd, 1) := by decide +kernel
theorem d_M_takeCover_273 : decode b_M_takeCover 273 = .ok (.if_icmp .ge 48, 3) := by decide +kernel
theorem d_M_takeCover_276 : decode b_M_takeCover 276 = .ok (.iload_n 3, 1) := by decide +kernel
theorem d_M_takeCover_277 : decode b_M_takeCover 277 = .ok (.istore 7, 2) := by decide +kernel
theorem d_M_takeCover_279 : decode b_M_takeCover 279 = .ok (.iload 7, 2) := by decide +kernel
theorem d_M_takeCover_281 : decode b_M_takeCover 281 = .ok (.iload_n 3, 1) := by decide +kernel
theorem d_M_takeCover_282 : decode b_M_takeCover 282 = .ok (.aload_n 0, 1) := by decide +kernel
theorem d_M_takeCover_283 : decode b_M_takeCover 283 = .ok (.getfield 54, 3) := by decide +kernel
theorem d_M_takeCover_286 : decode b_M_takeCover 286 = .ok (.iload 5, 2) := by decide +kernel
theorem d_M_takeCover_288 : decode b_M_takeCover 288 = .ok (.iconst 2, 1) := by decide +kernel
theorem d_M_takeCover_289 : decode b_M_takeCover 289 = .ok (.iadd, 1) := by decide +kernel
theorem d_M_takeCover_290 : decode b_M_takeCover 290 = .ok (.iaload, 1) := by decide +kernel
theorem d_M_takeCover_291 : decode b_M_takeCover 291 = .ok (.iadd, 1) := by decide +kernel
theorem d_M_takeCover_292 : decode b_M_takeCover 292 = .ok (.if_icmp .ge 23, 3) := by decide +kernel
theorem d_M_takeCover_295 : decode b_M_takeCover 295 = .ok (.aload_n 0, 1) := by decide +kernel
theorem d_M_takeCover_296 : decode b_M_takeCover 296 = .ok (.getfield 26, 3) := by decide +kernel
theorem d_M_takeCover_299 : decode b_M_takeCover 299 = .ok (.bipush 24, 2) := by decide +kernel
theorem d_M_takeCover_301 : decode b_M_takeCover 301 = .ok (.iload 6, 2) := by decide +kernel
theorem d_M_takeCover_303 : decode b_M_takeCover 303 = .ok (.imul, 1) := by decide +kernel
theorem d_M_takeCover_304 : decode b_M_takeCover 304 = .ok (.iload 7, 2) := by decide +kernel
theorem d_M_takeCover_306 : decode b_M_takeCover 306 = .ok (.iadd, 1) := by decide +kernel
theorem d_M_takeCover_307 : decode b_M_takeCover 307 = .ok (.iconst 1, 1) := by decide +kernel
theorem d_M_takeCover_308 : decode b_M_takeCover 308 = .ok (.bastore, 1) := by decide +kernel
theorem d_M_takeCover_309 : decode b_M_takeCover 309 = .ok (.iinc 7 1, 3) := by decide +kernel
theorem d_M_takeCover_312 : decode b_M_takeCover 312 = .ok (.goto (-33), 3) := by decide +kernel
theorem d_M_takeCover_315 : decode b_M_takeCover 315 = .ok (.iinc 6 1, 3) := by decide +kernel
theorem d_M_takeCover_318 : decode b_M_takeCover 318 = .ok (.goto (-59), 3) := by decide +kernel
theorem d_M_takeCover_321 : decode b_M_takeCover 321 = .ok (.aload_n 0, 1) := by decide +kernel
theorem d_M_takeCover_322 : decode b_M_takeCover 322 = .ok (.dup, 1) := by decide +kernel
theorem d_M_takeCover_323 : decode b_M_takeCover 323 = .ok (.getfield 127, 3) := by decide +kernel
theorem d_M_takeCover_326 : decode b_M_takeCover 326 = .ok (.iconst 1, 1) := by decide +kernel
theorem d_M_takeCover_327 : decode b_M_takeCover 327 = .ok (.iadd, 1) := by decide +kernel
theorem d_M_takeCover_328 : decode b_M_takeCover 328 = .ok (.putfield 127, 3) := by decide +kernel
theorem d_M_takeCover_331 : decode b_M_takeCover 331 = .ok (.iconst 1, 1) := by decide +kernel
theorem d_M_takeCover_332 : decode b_M_takeCover 332 = .ok (.ireturn, 1) := by decide +kernel
theorem d_M_takeCovers_0 : decode b_M_takeCovers 0 = .ok (.iconst 0, 1) := by decide +kernel
theorem d_M_takeCovers_1 : decode b_M_takeCovers 1 = .ok (.istore_n 1, 1) := by decide +kernel
theorem d_M_takeCovers_2 : decode b_M_takeCovers 2 = .ok (.iload_n 1, 1) := by decide +kernel
theorem d_M_takeCovers_3 : decode b_M_takeCovers 3 = .ok (.sipush 576, 3) := by decide +kernel
theorem d_M_takeCovers_6 : decode b_M_takeCovers 6 = .ok (.if_icmp .ge 16, 3) := by decide +kernel
theorem d_M_takeCovers_9 : decode b_M_takeCovers 9 = .ok (.aload_n 0, 1) := by decide +kernel
theorem d_M_takeCovers_10 : decode b_M_takeCovers 10 = .ok (.getfield 26, 3) := by decide +kernel
theorem d_M_takeCovers_13 : decode b_M_takeCovers 13 = .ok (.iload_n 1, 1) := by decide +kernel
theorem d_M_takeCovers_14 : decode b_M_takeCovers 14 = .ok (.iconst 0, 1) := by decide +kernel
theorem d_M_takeCovers_15 : decode b_M_takeCovers 15 = .ok (.bastore, 1) := by decide +kernel
theorem d_M_takeCovers_16 : decode b_M_takeCovers 16 = .ok (.iinc 1 1, 3) := by decide +kernel
theorem d_M_takeCovers_19 : decode b_M_takeCovers 19 = .ok (.goto (-17), 3) := by decide +kernel
theorem d_M_takeCovers_22 : decode b_M_takeCovers 22 = .ok (.aload_n 0, 1) := by decide +kernel
theorem d_M_takeCovers_23 : decode b_M_takeCovers 23 = .ok (.iconst 0, 1) := by decide +kernel
theorem d_M_takeCovers_24 : decode b_M_takeCovers 24 = .ok (.putfield 127, 3) := by decide +kernel
theorem d_M_takeCovers_27 : decode b_M_takeCovers 27 = .ok (.iconst 1, 1) := by decide +kernel
theorem d_M_takeCovers_28 : decode b_M_takeCovers 28 = .ok (.istore_n 1, 1) := by decide +kernel
theorem d_M_takeCovers_29 : decode b_M_takeCovers 29 = .ok (.iload_n 1, 1) := by decide +kernel
theorem d_M_takeCovers_30 : decode b_M_takeCovers 30 = .ok (.ifCond .eq 20, 3) := by decide +kernel
theorem d_M_takeCovers_33 : decode b_M_takeCovers 33 = .ok (.aload_n 0, 1) := by decide +kernel
theorem d_M_takeCovers_34 : decode b_M_takeCovers 34 = .ok (.getfield 127, 3) := by decide +kernel
theorem d_M_takeCovers_37 : decode b_M_takeCovers 37 = .ok (.bipush 6, 2) := by decide +kernel
theorem d_M_takeCovers_39 : decode b_M_takeCovers 39 = .ok (.if_icmp .ge 11, 3) := by decide +kernel
theorem d_M_takeCovers_42 : decode b_M_takeCovers 42 = .ok (.aload_n 0, 1) := by decide +kernel
theorem d_M_takeCovers_43 : decode b_M_takeCovers 43 = .ok (.invokevirtual 130, 3) := by decide +kernel
theorem d_M_takeCovers_46 : decode b_M_takeCovers 46 = .ok (.istore_n 1, 1) := by decide +kernel
theorem d_M_takeCovers_47 : decode b_M_takeCovers 47 = .ok (.goto (-18), 3) := by decide +kernel
theorem d_M_takeCovers_50 : decode b_M_takeCovers 50 = .ok (.return_, 1) := by decide +kernel
theorem d_M_takeStrips_0 : decode b_M_takeStrips 0 = .ok (.aload_n 0, 1) := by decide +kernel
theorem d_M_takeStrips_1 : decode b_M_takeStrips 1 = .ok (.iconst 0, 1) := by decide +kernel
theorem d_M_takeStrips_2 : decode b_M_takeStrips 2 = .ok (.putfield 134, 3) := by decide +kernel
theorem d_M_takeStrips_5 : decode b_M_takeStrips 5 = .ok (.iconst 0, 1) := by decide +kernel
theorem d_M_takeStrips_6 : decode b_M_takeStrips 6 = .ok (.istore_n 1, 1) := by decide +kernel
theorem d_M_takeStrips_7 : decode b_M_takeStrips 7 = .ok (.iload_n 1, 1) := by decide +kernel
theorem d_M_takeStrips_8 : decode b_M_takeStrips 8 = .ok (.aload_n 0, 1) := by decide +kernel
theorem d_M_takeStrips_9 : decode b_M_takeStrips 9 = .ok (.getfield 73, 3) := by decide +kernel
theorem d_M_takeStrips_12 : decode b_M_takeStrips 12 = .ok (.if_icmp .ge 118, 3) := by decide +kernel
theorem d_M_takeStrips_15 : decode b_M_takeStrips 15 = .ok (.iconst 0, 1) := by decide +kernel
theorem d_M_takeStrips_16 : decode b_M_takeStrips 16 = .ok (.istore_n 2, 1) := by decide +kernel
theorem d_M_takeStrips_17 : decode b_M_takeStrips 17 = .ok (.iconst 0, 1) := by decide +kernel
theorem d_M_takeStrips_18 : decode b_M_takeStrips 18 = .ok (.istore_n 3, 1) := by decide +kernel
theorem d_M_takeStrips_19 : decode b_M_takeStrips 19 = .ok (.iload_n 3, 1) := by decide +kernel
theorem d_M_takeStrips_20 : decode b_M_takeStrips 20 = .ok (.aload_n 0, 1) := by decide +kernel
theorem d_M_takeStrips_21 : decode b_M_takeStrips 21 = .ok (.getfield 76, 3) := by decide +kernel
theorem d_M_takeStrips_24 : decode b_M_takeStrips 24 = .ok (.if_icmp .ge 33, 3) := by decide +kernel
theorem d_M_takeStrips_27 : decode b_M_takeStrips 27 = .ok (.iload_n 2, 1) := by decide +kernel
theorem d_M_takeStrips_28 : decode b_M_takeStrips 28 = .ok (.ifCond .ne 17, 3) := by decide +kernel
theorem d_M_takeStrips_31 : decode b_M_takeStrips 31 = .ok (.aload_n 0, 1) := by decide +kernel
theorem d_M_takeStrips_32 : decode b_M_takeStrips 32 = .ok (.getfield 23, 3) := by decide +kernel
theorem d_M_takeStrips_35 : decode b_M_takeStrips 35 = .ok (.bipush 24, 2) := by decide +kernel
theorem d_M_takeStrips_37 : decode b_M_takeStrips 37 = .ok (.iload_n 3, 1) := by decide +kernel
theorem d_M_takeStrips_38 : decode b_M_takeStrips 38 = .ok (.imul, 1) := by decide +kernel
theorem d_M_takeStrips_39 : decode b_M_takeStrips 39 = .ok (.iload_n 1, 1) := by decide +kernel
theorem d_M_takeStrips_40 : decode b_M_takeStrips 40 = .ok (.iadd, 1) := by decide +kernel
theorem d_M_takeStrips_41 : decode b_M_takeStrips 41 = .ok (.baload, 1) := by decide +kernel
theorem d_M_takeStrips_42 : decode b_M_takeStrips 42 = .ok (.ifCond .eq 7, 3) := by decide +kernel
theorem d_M_takeStrips_45 : decode b_M_takeStrips 45 = .ok (.iconst 1, 1) := by decide +kernel
theorem d_M_takeStrips_46 : decode b_M_takeStrips 46 = .ok (.goto 4, 3) := by decide +kernel
theorem d_M_takeStrips_49 : decode b_M_takeStrips 49 = .ok (.iconst 0, 1) := by decide +kernel
theorem d_M_takeStrips_50 : decode b_M_takeStrips 50 = .ok (.istore_n 2, 1) := by decide +kernel
theorem d_M_takeStrips_51 : decode b_M_takeStrips 51 = .ok (.iinc 3 1, 3) := by decide +kernel
theorem d_M_takeStrips_54 : decode b_M_takeStrips 54 = .ok (.goto (-35), 3) := by decide +kernel
theorem d_M_takeStrips_57 : decode b_M_takeStrips 57 = .ok (.iload_n 1, 1) := by decide +kernel
theorem d_M_takeStrips_58 : decode b_M_takeStrips 58 = .ok (.ifCond .le 19, 3) := by decide +kernel
theorem d_M_takeStrips_61 : decode b_M_takeStrips 61 = .ok (.aload_n 0, 1) := by decide +kernel
theorem d_M_takeStrips_62 : decode b_M_takeStrips 62 = .ok (.getfield 57, 3) := by decide +kernel
theorem d_M_takeStrips_65 : decode b_M_takeStrips 65 = .ok (.iload_n 1, 1) := by decide +kernel
theorem d_M_takeStrips_66 : decode b_M_takeStrips 66 = .ok (.iconst 1, 1) := by decide +kernel
theorem d_M_takeStrips_67 : decode b_M_takeStrips 67 = .ok (.isub, 1) := by decide +kernel
theorem d_M_takeStrips_68 : decode b_M_takeStrips 68 = .ok (.iaload, 1) := by decide +kernel
theorem d_M_takeStrips_69 : decode b_M_takeStrips 69 = .ok (.iconst (-1), 1) := by decide +kernel
theorem d_M_takeStrips_70 : decode b_M_takeStrips 70 = .ok (.if_icmp .eq 7, 3) := by decide +kernel
theorem d_M_takeStrips_73 : decode b_M_takeStrips 73 = .ok (.iconst 1, 1) := by decide +kernel
theorem d_M_takeStrips_74 : decode b_M_takeStrips 74 = .ok (.goto 4, 3) := by decide +kernel
theorem d_M_takeStrips_77 : decode b_M_takeStrips 77 = .ok (.iconst 0, 1) := by decide +kernel
theorem d_M_takeStrips_78 : decode b_M_takeStrips 78 = .ok (.istore_n 3, 1) := by decide +kernel
theorem d_M_takeStrips_79 : decode b_M_takeStrips 79 = .ok (.aload_n 0, 1) := by decide +kernel
theorem d_M_takeStrips_80 : decode b_M_takeStrips 80 = .ok (.iload_n 2, 1) := by decide +kernel
theorem d_M_takeStrips_81 : decode b_M_takeStrips 81 = .ok (.ifCond .eq 16, 3) := by decide +kernel
theorem d_M_takeStrips_84 : decode b_M_takeStrips 84 = .ok (.iload_n 3, 1) := by decide +kernel
theorem d_M_takeStrips_85 : decode b_M_takeStrips 85 = .ok (.ifCond .ne 12, 3) := by decide +kernel
theorem d_M_takeStrips_88 : decode b_M_takeStrips 88 = .ok (.aload_n 0, 1) := by decide +kernel
theorem d_M_takeStrips_89 : decode b_M_takeStrips 89 = .ok (.getfield 134, 3) := by decide +kernel
theorem d_M_takeStrips_92 : decode b_M_takeStrips 92 = .ok (.iconst 1, 1) := by decide +kernel
theorem d_M_takeStrips_93 : decode b_M_takeStrips 93 = .ok (.iadd, 1) := by decide +kernel
theorem d_M_takeStrips_94 : decode b_M_takeStrips 94 = .ok (.goto 7, 3) := by decide +kernel
theorem d_M_takeStrips_97 : decode b_M_takeStrips 97 = .ok (.aload_n 0, 1) := by decide +kernel
theorem d_M_takeStrips_98 : decode b_M_takeStrips 98 = .ok (.getfield 134, 3) := by decide +kernel
theorem d_M_takeStrips_101 : decode b_M_takeStrips 101 = .ok (.putfield 134, 3) := by decide +kernel
theorem d_M_takeStrips_104 : decode b_M_takeStrips 104 = .ok (.aload_n 0, 1) := by decide +kernel
theorem d_M_takeStrips_105 : decode b_M_takeStrips 105 = .ok (.getfield 57, 3) := by decide +kernel
theorem d_M_takeStrips_108 : decode b_M_takeStrips 108 = .ok (.iload_n 1, 1) := by decide +kernel
theorem d_M_takeStrips_109 : decode b_M_takeStrips 109 = .ok (.iload_n 2, 1) := by decide +kernel
theorem d_M_takeStrips_110 : decode b_M_takeStrips 110 = .ok (.ifCond .eq 12, 3) := by decide +kernel
theorem d_M_takeStrips_113 : decode b_M_takeStrips 113 = .ok (.aload_n 0, 1) := by decide +kernel
theorem d_M_takeStrips_114 : decode b_M_takeStrips 114 = .ok (.getfield 134, 3) := by decide +kernel
theorem d_M_takeStrips_117 : decode b_M_takeStrips 117 = .ok (.iconst 1, 1) := by decide +kernel
theorem d_M_takeStrips_118 : decode b_M_takeStrips 118 = .ok (.isub, 1) := by decide +kernel
theorem d_M_takeStrips_119 : decode b_M_takeStrips 119 = .ok (.goto 4, 3) := by decide +kernel
theorem d_M_takeStrips_122 : decode b_M_takeStrips 122 = .ok (.iconst (-1), 1) := by decide +kernel
theorem d_M_takeStrips_123 : decode b_M_takeStrips 123 = .ok (.iastore, 1) := by decide +kernel
theorem d_M_takeStrips_124 : decode b_M_takeStrips 124 = .ok (.iinc 1 1, 3) := by decide +kernel
theorem d_M_takeStrips_127 : decode b_M_takeStrips 127 = .ok (.goto (-120), 3) := by decide +kernel
theorem d_M_takeStrips_130 : decode b_M_takeStrips 130 = .ok (.return_, 1) := by decide +kernel
theorem d_M_takeCells_0 : decode b_M_takeCells 0 = .ok (.aload_n 0, 1) := by decide +kernel
theorem d_M_takeCells_1 : decode b_M_takeCells 1 = .ok (.iconst 2, 1) := by decide +kernel
theorem d_M_takeCells_2 : decode b_M_takeCells 2 = .ok (.iconst 0, 1) := by decide +kernel
theorem d_M_takeCells_3 : decode b_M_takeCells 3 = .ok (.invokevirtual 105, 3) := by decide +kernel
theorem d_M_takeCells_6 : decode b_M_takeCells 6 = .ok (.aload_n 0, 1) := by decide +kernel
theorem d_M_takeCells_7 : decode b_M_takeCells 7 = .ok (.iconst 0, 1) := by decide +kernel
theorem d_M_takeCells_8 : decode b_M_takeCells 8 = .ok (.putfield 137, 3) := by decide +kernel
theorem d_M_takeCells_11 : decode b_M_takeCells 11 = .ok (.iconst 0, 1) := by decide +kernel
theorem d_M_takeCells_12 : decode b_M_takeCells 12 = .ok (.istore_n 1, 1) := by decide +kernel
theorem d_M_takeCells_13 : decode b_M_takeCells 13 = .ok (.iload_n 1, 1) := by decide +kernel
theorem d_M_takeCells_14 : decode b_M_takeCells 14 = .ok (.aload_n 0, 1) := by decide +kernel
theorem d_M_takeCells_15 : decode b_M_takeCells 15 = .ok (.getfield 76, 3) := by decide +kernel
theorem d_M_takeCells_18 : decode b_M_takeCells 18 = .ok (.if_icmp .ge 132, 3) := by decide +kernel
theorem d_M_takeCells_21 : decode b_M_takeCells 21 = .ok (.iconst 0, 1) := by decide +kernel
theorem d_M_takeCells_22 : decode b_M_takeCells 22 = .ok (.istore_n 2, 1) := by decide +kernel
theorem d_M_takeCells_23 : decode b_M_takeCells 23 = .ok (.iload_n 2, 1) := by decide +kernel
theorem d_M_takeCells_24 : decode b_M_takeCells 24 = .ok (.aload_n 0, 1) := by decide +kernel
theorem d_M_takeCells_25 : decode b_M_takeCells 25 = .ok (.getfield 73, 3) := by decide +kernel
theorem d_M_takeCells_28 : decode b_M_takeCells 28 = .ok (.if_icmp .ge 116, 3) := by decide +kernel
theorem d_M_takeCells_31 : decode b_M_takeCells 31 = .ok (.bipush 24, 2) := by decide +kernel
theorem d_M_takeCells_33 : decode b_M_takeCells 33 = .ok (.iload_n 1, 1) := by decide +kernel
theorem d_M_takeCells_34 : decode b_M_takeCells 34 = .ok (.imul, 1) := by decide +kernel
theorem d_M_takeCells_35 : decode b_M_takeCells 35 = .ok (.iload_n 2, 1) := by decide +kernel
theorem d_M_takeCells_36 : decode b_M_takeCells 36 = .ok (.iadd, 1) := by decide +kernel
theorem d_M_takeCells_37 : decode b_M_takeCells 37 = .ok (.istore_n 3, 1) := by decide +kernel
theorem d_M_takeCells_38 : decode b_M_takeCells 38 = .ok (.aload_n 0, 1) := by decide +kernel
theorem d_M_takeCells_39 : decode b_M_takeCells 39 = .ok (.getfield 60, 3) := by decide +kernel
theorem d_M_takeCells_42 : decode b_M_takeCells 42 = .ok (.iload_n 3, 1) := by decide +kernel
theorem d_M_takeCells_43 : decode b_M_takeCells 43 = .ok (.aload_n 0, 1) := by decide +kernel
theorem d_M_takeCells_44 : decode b_M_takeCells 44 = .ok (.getfield 29, 3) := by decide +kernel
theorem d_M_takeCells_47 : decode b_M_takeCells 47 = .ok (.iload_n 3, 1) := by decide +kernel
theorem d_M_takeCells_48 : decode b_M_takeCells 48 = .ok (.iaload, 1) := by decide +kernel
theorem d_M_takeCells_49 : decode b_M_takeCells 49 = .ok (.iload_n 3, 1) := by decide +kernel
theorem d_M_takeCells_50 : decode b_M_takeCells 50 = .ok (.if_icmp .ne 22, 3) := by decide +kernel
theorem d_M_takeCells_53 : decode b_M_takeCells 53 = .ok (.aload_n 0, 1) := by decide +kernel
theorem d_M_takeCells_54 : decode b_M_takeCells 54 = .ok (.iload_n 3, 1) := by decide +kernel
theorem d_M_takeCells_55 : decode b_M_takeCells 55 = .ok (.invokevirtual 140, 3) := by decide +kernel
theorem d_M_takeCells_58 : decode b_M_takeCells 58 = .ok (.ifCond .eq 10, 3) := by decide +kernel
theorem d_M_takeCells_61 : decode b_M_takeCells 61 = .ok (.aload_n 0, 1) := by decide +kernel
theorem d_M_takeCells_62 : decode b_M_takeCells 62 = .ok (.getfield 137, 3) := by decide +kernel
theorem d_M_takeCells_65 : decode b_M_takeCells 65 = .ok (.goto 32, 3) := by decide +kernel
theorem d_M_takeCells_68 : decode b_M_takeCells 68 = .ok (.iconst (-1), 1) := by decide +kernel
theorem d_M_takeCells_69 : decode b_M_takeCells 69 = .ok (.goto 28, 3) := by decide +kernel
theorem d_M_takeCells_72 : decode b_M_takeCells 72 = .ok (.aload_n 0, 1) := by decide +kernel
theorem d_M_takeCells_73 : decode b_M_takeCells 73 = .ok (.getfield 29, 3) := by decide +kernel
theorem d_M_takeCells_76 : decode b_M_takeCells 76 = .ok (.iload_n 3, 1) := by decide +kernel
theorem d_M_takeCells_77 : decode b_M_takeCells 77 = .ok (.iaload, 1) := by decide +kernel
theorem d_M_takeCells_78 : decode b_M_takeCells 78 = .ok (.iconst (-1), 1) := by decide +kernel
theorem d_M_takeCells_79 : decode b_M_takeCells 79 = .ok (.if_icmp .ne 7, 3) := by decide +kernel
theorem d_M_takeCells_82 : decode b_M_takeCells 82 = .ok (.iconst (-1), 1) := by decide +kernel
theorem d_M_takeCells_83 : decode b_M_takeCells 83 = .ok (.goto 14, 3) := by decide +kernel
theorem d_M_takeCells_86 : decode b_M_takeCells 86 = .ok (.aload_n 0, 1) := by decide +kernel
theorem d_M_takeCells_87 : decode b_M_takeCells 87 = .ok (.getfield 60, 3) := by decide +kernel
theorem d_M_takeCells_90 : decode b_M_takeCells 90 = .ok (.aload_n 0, 1) := by decide +kernel
theorem d_M_takeCells_91 : decode b_M_takeCells 91 = .ok (.getfield 29, 3) := by decide +kernel
theorem d_M_takeCells_94 : decode b_M_takeCells 94 = .ok (.iload_n 3, 1) := by decide +kernel
theorem d_M_takeCells_95 : decode b_M_takeCells 95 = .ok (.iaload, 1) := by decide +kernel
theorem d_M_takeCells_96 : decode b_M_takeCells 96 = .ok (.iaload, 1) := by decide +kernel
theorem d_M_takeCells_97 : decode b_M_takeCells 97 = .ok (.iastore, 1) := by decide +kernel
theorem d_M_takeCells_98 : decode b_M_takeCells 98 = .ok (.aload_n 0, 1) := by decide +kernel
theorem d_M_takeCells_99 : decode b_M_takeCells 99 = .ok (.aload_n 0, 1) := by decide +kernel
theorem d_M_takeCells_100 : decode b_M_takeCells 100 = .ok (.getfield 29, 3) := by decide +kernel
theorem d_M_takeCells_103 : decode b_M_takeCells 103 = .ok (.iload_n 3, 1) := by decide +kernel
theorem d_M_takeCells_104 : decode b_M_takeCells 104 = .ok (.iaload, 1) := by decide +kernel
theorem d_M_takeCells_105 : decode b_M_takeCells 105 = .ok (.iload_n 3, 1) := by decide +kernel
theorem d_M_takeCells_106 : decode b_M_takeCells 106 = .ok (.if_icmp .ne 25, 3) := by decide +kernel
theorem d_M_takeCells_109 : decode b_M_takeCells 109 = .ok (.aload_n 0, 1) := by decide +kernel
theorem d_M_takeCells_110 : decode b_M_takeCells 110 = .ok (.getfield 60, 3) := by decide +kernel
theorem d_M_takeCells_113 : decode b_M_takeCells 113 = .ok (.iload_n 3, 1) := by decide +kernel
theorem d_M_takeCells_114 : decode b_M_takeCells 114 = .ok (.iaload, 1) := by decide +kernel
theorem d_M_takeCells_115 : decode b_M_takeCells 115 = .ok (.aload_n 0, 1) := by decide +kernel
theorem d_M_takeCells_116 : decode b_M_takeCells 116 = .ok (.getfield 137, 3) := by decide +kernel
theorem d_M_takeCells_119 : decode b_M_takeCells 119 = .ok (.if_icmp .ne 12, 3) := by decide +kernel
theorem d_M_takeCells_122 : decode b_M_takeCells 122 = .ok (.aload_n 0, 1) := by decide +kernel
theorem d_M_takeCells_123 : decode b_M_takeCells 123 = .ok (.getfield 137, 3) := by decide +kernel
theorem d_M_takeCells_126 : decode b_M_takeCells 126 = .ok (.iconst 1, 1) := by decide +kernel
theorem d_M_takeCells_127 : decode b_M_takeCells 127 = .ok (.iadd, 1) := by decide +kernel
theorem d_M_takeCells_128 : decode b_M_takeCells 128 = .ok (.goto 7, 3) := by decide +kernel
theorem d_M_takeCells_131 : decode b_M_takeCells 131 = .ok (.aload_n 0, 1) := by decide +kernel
theorem d_M_takeCells_132 : decode b_M_takeCells 132 = .ok (.getfield 137, 3) := by decide +kernel
theorem d_M_takeCells_135 : decode b_M_takeCells 135 = .ok (.putfield 137, 3) := by decide +kernel
theorem d_M_takeCells_138 : decode b_M_takeCells 138 = .ok (.iinc 2 1, 3) := by decide +kernel
theorem d_M_takeCells_141 : decode b_M_takeCells 141 = .ok (.goto (-118), 3) := by decide +kernel
theorem d_M_takeCells_144 : decode b_M_takeCells 144 = .ok (.iinc 1 1, 3) := by decide +kernel
theorem d_M_takeCells_147 : decode b_M_takeCells 147 = .ok (.goto (-134), 3) := by decide +kernel
theorem d_M_takeCells_150 : decode b_M_takeCells 150 = .ok (.return_, 1) := by decide +kernel
end
section
theorem d_M_isClosed_0 : decode b_M_isClosed 0 = .ok (.iconst 1, 1) := by decide +kernel
theorem d_M_isClosed_1 : decode b_M_isClosed 1 = .ok (.istore_n 2, 1) := by decide +kernel
theorem d_M_isClosed_2 : decode b_M_isClosed 2 = .ok (.iconst 0, 1) := by decide +kernel
theorem d_M_isClosed_3 : decode b_M_isClosed 3 = .ok (.istore_n 3, 1) := by decide +kernel
theorem d_M_isClosed_4 : decode b_M_isClosed 4 = .ok (.iload_n 3, 1) := by decide +kernel
theorem d_M_isClosed_5 : decode b_M_isClosed 5 = .ok (.aload_n 0, 1) := by decide +kernel
theorem d_M_isClosed_6 : decode b_M_isClosed 6 = .ok (.getfield 76, 3) := by decide +kernel
theorem d_M_isClosed_9 : decode b_M_isClosed 9 = .ok (.if_icmp .ge 95, 3) := by decide +kernel
theorem d_M_isClosed_12 : decode b_M_isClosed 12 = .ok (.iconst 0, 1) := by decide +kernel
theorem d_M_isClosed_13 : decode b_M_isClosed 13 = .ok (.istore 4, 2) := by decide +kernel
theorem d_M_isClosed_15 : decode b_M_isClosed 15 = .ok (.iload 4, 2) := by decide +kernel
theorem d_M_isClosed_17 : decode b_M_isClosed 17 = .ok (.aload_n 0, 1) := by decide +kernel
theorem d_M_isClosed_18 : decode b_M_isClosed 18 = .ok (.getfield 73, 3) := by decide +kernel
theorem d_M_isClosed_21 : decode b_M_isClosed 21 = .ok (.if_icmp .ge 77, 3) := by decide +kernel
theorem d_M_isClosed_24 : decode b_M_isClosed 24 = .ok (.iload 4, 2) := by decide +kernel
theorem d_M_isClosed_26 : decode b_M_isClosed 26 = .ok (.ifCond .eq 28, 3) := by decide +kernel
theorem d_M_isClosed_29 : decode b_M_isClosed 29 = .ok (.iload_n 3, 1) := by decide +kernel
theorem d_M_isClosed_30 : decode b_M_isClosed 30 = .ok (.ifCond .eq 24, 3) := by decide +kernel
theorem d_M_isClosed_33 : decode b_M_isClosed 33 = .ok (.iload 4, 2) := by decide +kernel
theorem d_M_isClosed_35 : decode b_M_isClosed 35 = .ok (.aload_n 0, 1) := by decide +kernel
theorem d_M_isClosed_36 : decode b_M_isClosed 36 = .ok (.getfield 73, 3) := by decide +kernel
theorem d_M_isClosed_39 : decode b_M_isClosed 39 = .ok (.iconst 1, 1) := by decide +kernel
theorem d_M_isClosed_40 : decode b_M_isClosed 40 = .ok (.isub, 1) := by decide +kernel
theorem d_M_isClosed_41 : decode b_M_isClosed 41 = .ok (.if_icmp .eq 13, 3) := by decide +kernel
theorem d_M_isClosed_44 : decode b_M_isClosed 44 = .ok (.iload_n 3, 1) := by decide +kernel
theorem d_M_isClosed_45 : decode b_M_isClosed 45 = .ok (.aload_n 0, 1) := by decide +kernel
theorem d_M_isClosed_46 : decode b_M_isClosed 46 = .ok (.getfield 76, 3) := by decide +kernel
theorem d_M_isClosed_49 : decode b_M_isClosed 49 = .ok (.iconst 1, 1) := by decide +kernel
theorem d_M_isClosed_50 : decode b_M_isClosed 50 = .ok (.isub, 1) := by decide +kernel
theorem d_M_isClosed_51 : decode b_M_isClosed 51 = .ok (.if_icmp .ne 7, 3) := by decide +kernel
theorem d_M_isClosed_54 : decode b_M_isClosed 54 = .ok (.iconst 1, 1) := by decide +kernel
theorem d_M_isClosed_55 : decode b_M_isClosed 55 = .ok (.goto 4, 3) := by decide +kernel
theorem d_M_isClosed_58 : decode b_M_isClosed 58 = .ok (.iconst 0, 1) := by decide +kernel
theorem d_M_isClosed_59 : decode b_M_isClosed 59 = .ok (.istore 5, 2) := by decide +kernel
theorem d_M_isClosed_61 : decode b_M_isClosed 61 = .ok (.iload_n 2, 1) := by decide +kernel
theorem d_M_isClosed_62 : decode b_M_isClosed 62 = .ok (.ifCond .eq 28, 3) := by decide +kernel
theorem d_M_isClosed_65 : decode b_M_isClosed 65 = .ok (.iload 5, 2) := by decide +kernel
theorem d_M_isClosed_67 : decode b_M_isClosed 67 = .ok (.ifCond .eq 19, 3) := by decide +kernel
theorem d_M_isClosed_70 : decode b_M_isClosed 70 = .ok (.aload_n 0, 1) := by decide +kernel
theorem d_M_isClosed_71 : decode b_M_isClosed 71 = .ok (.getfield 29, 3) := by decide +kernel
theorem d_M_isClosed_74 : decode b_M_isClosed 74 = .ok (.bipush 24, 2) := by decide +kernel
theorem d_M_isClosed_76 : decode b_M_isClosed 76 = .ok (.iload_n 3, 1) := by decide +kernel
theorem d_M_isClosed_77 : decode b_M_isClosed 77 = .ok (.imul, 1) := by decide +kernel
theorem d_M_isClosed_78 : decode b_M_isClosed 78 = .ok (.iload 4, 2) := by decide +kernel
theorem d_M_isClosed_80 : decode b_M_isClosed 80 = .ok (.iadd, 1) := by decide +kernel
theorem d_M_isClosed_81 : decode b_M_isClosed 81 = .ok (.iaload, 1) := by decide +kernel
theorem d_M_isClosed_82 : decode b_M_isClosed 82 = .ok (.iload_n 1, 1) := by decide +kernel
theorem d_M_isClosed_83 : decode b_M_isClosed 83 = .ok (.if_icmp .eq 7, 3) := by decide +kernel
theorem d_M_isClosed_86 : decode b_M_isClosed 86 = .ok (.iconst 1, 1) := by decide +kernel
theorem d_M_isClosed_87 : decode b_M_isClosed 87 = .ok (.goto 4, 3) := by decide +kernel
theorem d_M_isClosed_90 : decode b_M_isClosed 90 = .ok (.iconst 0, 1) := by decide +kernel
theorem d_M_isClosed_91 : decode b_M_isClosed 91 = .ok (.istore_n 2, 1) := by decide +kernel
theorem d_M_isClosed_92 : decode b_M_isClosed 92 = .ok (.iinc 4 1, 3) := by decide +kernel
theorem d_M_isClosed_95 : decode b_M_isClosed 95 = .ok (.goto (-80), 3) := by decide +kernel
theorem d_M_isClosed_98 : decode b_M_isClosed 98 = .ok (.iinc 3 1, 3) := by decide +kernel
theorem d_M_isClosed_101 : decode b_M_isClosed 101 = .ok (.goto (-97), 3) := by decide +kernel
theorem d_M_isClosed_104 : decode b_M_isClosed 104 = .ok (.iload_n 2, 1) := by decide +kernel
theorem d_M_isClosed_105 : decode b_M_isClosed 105 = .ok (.ireturn, 1) := by decide +kernel
theorem d_M_low_0 : decode b_M_low 0 = .ok (.iload_n 2, 1) := by decide +kernel
theorem d_M_low_1 : decode b_M_low 1 = .ok (.ifCond .eq 12, 3) := by decide +kernel
theorem d_M_low_4 : decode b_M_low 4 = .ok (.aload_n 0, 1) := by decide +kernel
theorem d_M_low_5 : decode b_M_low 5 = .ok (.getfield 39, 3) := by decide +kernel
theorem d_M_low_8 : decode b_M_low 8 = .ok (.iload_n 1, 1) := by decide +kernel
theorem d_M_low_9 : decode b_M_low 9 = .ok (.iaload, 1) := by decide +kernel
theorem d_M_low_10 : decode b_M_low 10 = .ok (.goto 9, 3) := by decide +kernel
theorem d_M_low_13 : decode b_M_low 13 = .ok (.aload_n 0, 1) := by decide +kernel
theorem d_M_low_14 : decode b_M_low 14 = .ok (.getfield 36, 3) := by decide +kernel
theorem d_M_low_17 : decode b_M_low 17 = .ok (.iload_n 1, 1) := by decide +kernel
theorem d_M_low_18 : decode b_M_low 18 = .ok (.iaload, 1) := by decide +kernel
theorem d_M_low_19 : decode b_M_low 19 = .ok (.ireturn, 1) := by decide +kernel
theorem d_M_high_0 : decode b_M_high 0 = .ok (.iload_n 2, 1) := by decide +kernel
theorem d_M_high_1 : decode b_M_high 1 = .ok (.ifCond .eq 12, 3) := by decide +kernel
theorem d_M_high_4 : decode b_M_high 4 = .ok (.aload_n 0, 1) := by decide +kernel
theorem d_M_high_5 : decode b_M_high 5 = .ok (.getfield 45, 3) := by decide +kernel
theorem d_M_high_8 : decode b_M_high 8 = .ok (.iload_n 1, 1) := by decide +kernel
theorem d_M_high_9 : decode b_M_high 9 = .ok (.iaload, 1) := by decide +kernel
theorem d_M_high_10 : decode b_M_high 10 = .ok (.goto 9, 3) := by decide +kernel
theorem d_M_high_13 : decode b_M_high 13 = .ok (.aload_n 0, 1) := by decide +kernel
theorem d_M_high_14 : decode b_M_high 14 = .ok (.getfield 42, 3) := by decide +kernel
theorem d_M_high_17 : decode b_M_high 17 = .ok (.iload_n 1, 1) := by decide +kernel
theorem d_M_high_18 : decode b_M_high 18 = .ok (.iaload, 1) := by decide +kernel
theorem d_M_high_19 : decode b_M_high 19 = .ok (.ireturn, 1) := by decide +kernel
theorem d_M_gap_0 : decode b_M_gap 0 = .ok (.iconst (-1), 1) := by decide +kernel
theorem d_M_gap_1 : decode b_M_gap 1 = .ok (.istore 5, 2) := by decide +kernel
theorem d_M_gap_3 : decode b_M_gap 3 = .ok (.bipush 24, 2) := by decide +kernel
theorem d_M_gap_5 : decode b_M_gap 5 = .ok (.istore 6, 2) := by decide +kernel
theorem d_M_gap_7 : decode b_M_gap 7 = .ok (.iconst 1, 1) := by decide +kernel
theorem d_M_gap_8 : decode b_M_gap 8 = .ok (.istore 7, 2) := by decide +kernel
theorem d_M_gap_10 : decode b_M_gap 10 = .ok (.iload_n 3, 1) := by decide +kernel
theorem d_M_gap_11 : decode b_M_gap 11 = .ok (.istore 8, 2) := by decide +kernel
theorem d_M_gap_13 : decode b_M_gap 13 = .ok (.iload 8, 2) := by decide +kernel
theorem d_M_gap_15 : decode b_M_gap 15 = .ok (.iload 4, 2) := by decide +kernel
theorem d_M_gap_17 : decode b_M_gap 17 = .ok (.if_icmp .ge 105, 3) := by decide +kernel
theorem d_M_gap_20 : decode b_M_gap 20 = .ok (.aload_n 0, 1) := by decide +kernel
theorem d_M_gap_21 : decode b_M_gap 21 = .ok (.aload_n 0, 1) := by decide +kernel
theorem d_M_gap_22 : decode b_M_gap 22 = .ok (.getfield 51, 3) := by decide +kernel
theorem d_M_gap_25 : decode b_M_gap 25 = .ok (.iload 8, 2) := by decide +kernel
theorem d_M_gap_27 : decode b_M_gap 27 = .ok (.iaload, 1) := by decide +kernel
theorem d_M_gap_28 : decode b_M_gap 28 = .ok (.iload_n 2, 1) := by decide +kernel
theorem d_M_gap_29 : decode b_M_gap 29 = .ok (.invokevirtual 144, 3) := by decide +kernel
theorem d_M_gap_32 : decode b_M_gap 32 = .ok (.istore 9, 2) := by decide +kernel
theorem d_M_gap_34 : decode b_M_gap 34 = .ok (.aload_n 0, 1) := by decide +kernel
theorem d_M_gap_35 : decode b_M_gap 35 = .ok (.aload_n 0, 1) := by decide +kernel
theorem d_M_gap_36 : decode b_M_gap 36 = .ok (.getfield 51, 3) := by decide +kernel
theorem d_M_gap_39 : decode b_M_gap 39 = .ok (.iload 8, 2) := by decide +kernel
theorem d_M_gap_41 : decode b_M_gap 41 = .ok (.iaload, 1) := by decide +kernel
theorem d_M_gap_42 : decode b_M_gap 42 = .ok (.iload_n 2, 1) := by decide +kernel
theorem d_M_gap_43 : decode b_M_gap 43 = .ok (.invokevirtual 148, 3) := by decide +kernel
theorem d_M_gap_46 : decode b_M_gap 46 = .ok (.istore 10, 2) := by decide +kernel
theorem d_M_gap_48 : decode b_M_gap 48 = .ok (.iload 7, 2) := by decide +kernel
theorem d_M_gap_50 : decode b_M_gap 50 = .ok (.ifCond .eq 19, 3) := by decide +kernel
theorem d_M_gap_53 : decode b_M_gap 53 = .ok (.iload 9, 2) := by decide +kernel
theorem d_M_gap_55 : decode b_M_gap 55 = .ok (.iload_n 1, 1) := by decide +kernel
theorem d_M_gap_56 : decode b_M_gap 56 = .ok (.if_icmp .ge 9, 3) := by decide +kernel
theorem d_M_gap_59 : decode b_M_gap 59 = .ok (.iload 10, 2) := by decide +kernel
theorem d_M_gap_61 : decode b_M_gap 61 = .ok (.iload_n 1, 1) := by decide +kernel
theorem d_M_gap_62 : decode b_M_gap 62 = .ok (.if_icmp .ge 7, 3) := by decide +kernel
theorem d_M_gap_65 : decode b_M_gap 65 = .ok (.iconst 1, 1) := by decide +kernel
theorem d_M_gap_66 : decode b_M_gap 66 = .ok (.goto 4, 3) := by decide +kernel
theorem d_M_gap_69 : decode b_M_gap 69 = .ok (.iconst 0, 1) := by decide +kernel
theorem d_M_gap_70 : decode b_M_gap 70 = .ok (.istore 7, 2) := by decide +kernel
theorem d_M_gap_72 : decode b_M_gap 72 = .ok (.iload 10, 2) := by decide +kernel
theorem d_M_gap_74 : decode b_M_gap 74 = .ok (.iload_n 1, 1) := by decide +kernel
theorem d_M_gap_75 : decode b_M_gap 75 = .ok (.if_icmp .ge 15, 3) := by decide +kernel
theorem d_M_gap_78 : decode b_M_gap 78 = .ok (.iload 10, 2) := by decide +kernel
theorem d_M_gap_80 : decode b_M_gap 80 = .ok (.iload 5, 2) := by decide +kernel
theorem d_M_gap_82 : decode b_M_gap 82 = .ok (.if_icmp .le 8, 3) := by decide +kernel
theorem d_M_gap_85 : decode b_M_gap 85 = .ok (.iload 10, 2) := by decide +kernel
theorem d_M_gap_87 : decode b_M_gap 87 = .ok (.goto 5, 3) := by decide +kernel
theorem d_M_gap_90 : decode b_M_gap 90 = .ok (.iload 5, 2) := by decide +kernel
theorem d_M_gap_92 : decode b_M_gap 92 = .ok (.istore 5, 2) := by decide +kernel
theorem d_M_gap_94 : decode b_M_gap 94 = .ok (.iload 9, 2) := by decide +kernel
theorem d_M_gap_96 : decode b_M_gap 96 = .ok (.iload_n 1, 1) := by decide +kernel
theorem d_M_gap_97 : decode b_M_gap 97 = .ok (.if_icmp .lt 15, 3) := by decide +kernel
theorem d_M_gap_100 : decode b_M_gap 100 = .ok (.iload 9, 2) := by decide +kernel
theorem d_M_gap_102 : decode b_M_gap 102 = .ok (.iload 6, 2) := by decide +kernel
theorem d_M_gap_104 : decode b_M_gap 104 = .ok (.if_icmp .ge 8, 3) := by decide +kernel
theorem d_M_gap_107 : decode b_M_gap 107 = .ok (.iload 9, 2) := by decide +kernel
theorem d_M_gap_109 : decode b_M_gap 109 = .ok (.goto 5, 3) := by decide +kernel
theorem d_M_gap_112 : decode b_M_gap 112 = .ok (.iload 6, 2) := by decide +kernel
theorem d_M_gap_114 : decode b_M_gap 114 = .ok (.istore 6, 2) := by decide +kernel
theorem d_M_gap_116 : decode b_M_gap 116 = .ok (.iinc 8 1, 3) := by decide +kernel
theorem d_M_gap_119 : decode b_M_gap 119 = .ok (.goto (-106), 3) := by decide +kernel
theorem d_M_gap_122 : decode b_M_gap 122 = .ok (.iload 7, 2) := by decide +kernel
theorem d_M_gap_124 : decode b_M_gap 124 = .ok (.ifCond .eq 26, 3) := by decide +kernel
theorem d_M_gap_127 : decode b_M_gap 127 = .ok (.iload 5, 2) := by decide +kernel
theorem d_M_gap_129 : decode b_M_gap 129 = .ok (.iconst (-1), 1) := by decide +kernel
theorem d_M_gap_130 : decode b_M_gap 130 = .ok (.if_icmp .eq 20, 3) := by decide +kernel
theorem d_M_gap_133 : decode b_M_gap 133 = .ok (.iload 6, 2) := by decide +kernel
theorem d_M_gap_135 : decode b_M_gap 135 = .ok (.bipush 24, 2) := by decide +kernel
theorem d_M_gap_137 : decode b_M_gap 137 = .ok (.if_icmp .eq 13, 3) := by decide +kernel
theorem d_M_gap_140 : decode b_M_gap 140 = .ok (.iload 6, 2) := by decide +kernel
theorem d_M_gap_142 : decode b_M_gap 142 = .ok (.iload 5, 2) := by decide +kernel
theorem d_M_gap_144 : decode b_M_gap 144 = .ok (.isub, 1) := by decide +kernel
theorem d_M_gap_145 : decode b_M_gap 145 = .ok (.iconst 1, 1) := by decide +kernel
theorem d_M_gap_146 : decode b_M_gap 146 = .ok (.isub, 1) := by decide +kernel
theorem d_M_gap_147 : decode b_M_gap 147 = .ok (.goto 4, 3) := by decide +kernel
theorem d_M_gap_150 : decode b_M_gap 150 = .ok (.iconst (-1), 1) := by decide +kernel
theorem d_M_gap_151 : decode b_M_gap 151 = .ok (.ireturn, 1) := by decide +kernel
theorem d_M_swap_0 : decode b_M_swap 0 = .ok (.aload_n 0, 1) := by decide +kernel
theorem d_M_swap_1 : decode b_M_swap 1 = .ok (.getfield 51, 3) := by decide +kernel
theorem d_M_swap_4 : decode b_M_swap 4 = .ok (.iload_n 1, 1) := by decide +kernel
theorem d_M_swap_5 : decode b_M_swap 5 = .ok (.iaload, 1) := by decide +kernel
theorem d_M_swap_6 : decode b_M_swap 6 = .ok (.istore_n 3, 1) := by decide +kernel
theorem d_M_swap_7 : decode b_M_swap 7 = .ok (.aload_n 0, 1) := by decide +kernel
theorem d_M_swap_8 : decode b_M_swap 8 = .ok (.getfield 51, 3) := by decide +kernel
theorem d_M_swap_11 : decode b_M_swap 11 = .ok (.iload_n 1, 1) := by decide +kernel
theorem d_M_swap_12 : decode b_M_swap 12 = .ok (.aload_n 0, 1) := by decide +kernel
theorem d_M_swap_13 : decode b_M_swap 13 = .ok (.getfield 51, 3) := by decide +kernel
theorem d_M_swap_16 : decode b_M_swap 16 = .ok (.iload_n 2, 1) := by decide +kernel
theorem d_M_swap_17 : decode b_M_swap 17 = .ok (.iaload, 1) := by decide +kernel
theorem d_M_swap_18 : decode b_M_swap 18 = .ok (.iastore, 1) := by decide +kernel
theorem d_M_swap_19 : decode b_M_swap 19 = .ok (.aload_n 0, 1) := by decide +kernel
theorem d_M_swap_20 : decode b_M_swap 20 = .ok (.getfield 51, 3) := by decide +kernel
theorem d_M_swap_23 : decode b_M_swap 23 = .ok (.iload_n 2, 1) := by decide +kernel
theorem d_M_swap_24 : decode b_M_swap 24 = .ok (.iload_n 3, 1) := by decide +kernel
theorem d_M_swap_25 : decode b_M_swap 25 = .ok (.iastore, 1) := by decide +kernel
theorem d_M_swap_26 : decode b_M_swap 26 = .ok (.return_, 1) := by decide +kernel
theorem d_M_isBefore_0 : decode b_M_isBefore 0 = .ok (.aload_n 0, 1) := by decide +kernel
theorem d_M_isBefore_1 : decode b_M_isBefore 1 = .ok (.getfield 39, 3) := by decide +kernel
theorem d_M_isBefore_4 : decode b_M_isBefore 4 = .ok (.iload_n 1, 1) := by decide +kernel
theorem d_M_isBefore_5 : decode b_M_isBefore 5 = .ok (.iaload, 1) := by decide +kernel
theorem d_M_isBefore_6 : decode b_M_isBefore 6 = .ok (.aload_n 0, 1) := by decide +kernel
theorem d_M_isBefore_7 : decode b_M_isBefore 7 = .ok (.getfield 39, 3) := by decide +kernel
theorem d_M_isBefore_10 : decode b_M_isBefore 10 = .ok (.iload_n 2, 1) := by decide +kernel
theorem d_M_isBefore_11 : decode b_M_isBefore 11 = .ok (.iaload, 1) := by decide +kernel
theorem d_M_isBefore_12 : decode b_M_isBefore 12 = .ok (.if_icmp .eq 26, 3) := by decide +kernel
theorem d_M_isBefore_15 : decode b_M_isBefore 15 = .ok (.aload_n 0, 1) := by decide +kernel
theorem d_M_isBefore_16 : decode b_M_isBefore 16 = .ok (.getfield 39, 3) := by decide +kernel
theorem d_M_isBefore_19 : decode b_M_isBefore 19 = .ok (.iload_n 1, 1) := by decide +kernel
theorem d_M_isBefore_20 : decode b_M_isBefore 20 = .ok (.iaload, 1) := by decide +kernel
theorem d_M_isBefore_21 : decode b_M_isBefore 21 = .ok (.aload_n 0, 1) := by decide +kernel
theorem d_M_isBefore_22 : decode b_M_isBefore 22 = .ok (.getfield 39, 3) := by decide +kernel
theorem d_M_isBefore_25 : decode b_M_isBefore 25 = .ok (.iload_n 2, 1) := by decide +kernel
theorem d_M_isBefore_26 : decode b_M_isBefore 26 = .ok (.iaload, 1) := by decide +kernel
theorem d_M_isBefore_27 : decode b_M_isBefore 27 = .ok (.if_icmp .ge 7, 3) := by decide +kernel
theorem d_M_isBefore_30 : decode b_M_isBefore 30 = .ok (.iconst 1, 1) := by decide +kernel
theorem d_M_isBefore_31 : decode b_M_isBefore 31 = .ok (.goto 55, 3) := by decide +kernel
theorem d_M_isBefore_34 : decode b_M_isBefore 34 = .ok (.iconst 0, 1) := by decide +kernel
theorem d_M_isBefore_35 : decode b_M_isBefore 35 = .ok (.goto 51, 3) := by decide +kernel
theorem d_M_isBefore_38 : decode b_M_isBefore 38 = .ok (.aload_n 0, 1) := by decide +kernel
theorem d_M_isBefore_39 : decode b_M_isBefore 39 = .ok (.getfield 36, 3) := by decide +kernel
theorem d_M_isBefore_42 : decode b_M_isBefore 42 = .ok (.iload_n 1, 1) := by decide +kernel
theorem d_M_isBefore_43 : decode b_M_isBefore 43 = .ok (.iaload, 1) := by decide +kernel
theorem d_M_isBefore_44 : decode b_M_isBefore 44 = .ok (.aload_n 0, 1) := by decide +kernel
theorem d_M_isBefore_45 : decode b_M_isBefore 45 = .ok (.getfield 36, 3) := by decide +kernel
theorem d_M_isBefore_48 : decode b_M_isBefore 48 = .ok (.iload_n 2, 1) := by decide +kernel
theorem d_M_isBefore_49 : decode b_M_isBefore 49 = .ok (.iaload, 1) := by decide +kernel
theorem d_M_isBefore_50 : decode b_M_isBefore 50 = .ok (.if_icmp .eq 26, 3) := by decide +kernel
theorem d_M_isBefore_53 : decode b_M_isBefore 53 = .ok (.aload_n 0, 1) := by decide +kernel
theorem d_M_isBefore_54 : decode b_M_isBefore 54 = .ok (.getfield 36, 3) := by decide +kernel
theorem d_M_isBefore_57 : decode b_M_isBefore 57 = .ok (.iload_n 1, 1) := by decide +kernel
theorem d_M_isBefore_58 : decode b_M_isBefore 58 = .ok (.iaload, 1) := by decide +kernel
theorem d_M_isBefore_59 : decode b_M_isBefore 59 = .ok (.aload_n 0, 1) := by decide +kernel
theorem d_M_isBefore_60 : decode b_M_isBefore 60 = .ok (.getfield 36, 3) := by decide +kernel
theorem d_M_isBefore_63 : decode b_M_isBefore 63 = .ok (.iload_n 2, 1) := by decide +kernel
theorem d_M_isBefore_64 : decode b_M_isBefore 64 = .ok (.iaload, 1) := by decide +kernel
theorem d_M_isBefore_65 : decode b_M_isBefore 65 = .ok (.if_icmp .ge 7, 3) := by decide +kernel
theorem d_M_isBefore_68 : decode b_M_isBefore 68 = .ok (.iconst 1, 1) := by decide +kernel
theorem d_M_isBefore_69 : decode b_M_isBefore 69 = .ok (.goto 17, 3) := by decide +kernel
theorem d_M_isBefore_72 : decode b_M_isBefore 72 = .ok (.iconst 0, 1) := by decide +kernel
theorem d_M_isBefore_73 : decode b_M_isBefore 73 = .ok (.goto 13, 3) := by decide +kernel
theorem d_M_isBefore_76 : decode b_M_isBefore 76 = .ok (.iload_n 1, 1) := by decide +kernel
theorem d_M_isBefore_77 : decode b_M_isBefore 77 = .ok (.iload_n 2, 1) := by decide +kernel
theorem d_M_isBefore_78 : decode b_M_isBefore 78 = .ok (.if_icmp .ge 7, 3) := by decide +kernel
theorem d_M_isBefore_81 : decode b_M_isBefore 81 = .ok (.iconst 1, 1) := by decide +kernel
theorem d_M_isBefore_82 : decode b_M_isBefore 82 = .ok (.goto 4, 3) := by decide +kernel
theorem d_M_isBefore_85 : decode b_M_isBefore 85 = .ok (.iconst 0, 1) := by decide +kernel
theorem d_M_isBefore_86 : decode b_M_isBefore 86 = .ok (.ireturn, 1) := by decide +kernel
theorem d_M_sort_0 : decode b_M_sort 0 = .ok (.iload_n 1, 1) := by decide +kernel
theorem d_M_sort_1 : decode b_M_sort 1 = .ok (.istore_n 3, 1) := by decide +kernel
theorem d_M_sort_2 : decode b_M_sort 2 = .ok (.iload_n 3, 1) := by decide +kernel
theorem d_M_sort_3 : decode b_M_sort 3 = .ok (.iload_n 2, 1) := by decide +kernel
theorem d_M_sort_4 : decode b_M_sort 4 = .ok (.if_icmp .ge 57, 3) := by decide +kernel
theorem d_M_sort_7 : decode b_M_sort 7 = .ok (.iload_n 3, 1) := by decide +kernel
theorem d_M_sort_8 : decode b_M_sort 8 = .ok (.istore 4, 2) := by decide +kernel
theorem d_M_sort_10 : decode b_M_sort 10 = .ok (.iload 4, 2) := by decide +kernel
theorem d_M_sort_12 : decode b_M_sort 12 = .ok (.iload_n 1, 1) := by decide +kernel
theorem d_M_sort_13 : decode b_M_sort 13 = .ok (.if_icmp .le 42, 3) := by decide +kernel
theorem d_M_sort_16 : decode b_M_sort 16 = .ok (.aload_n 0, 1) := by decide +kernel
theorem d_M_sort_17 : decode b_M_sort 17 = .ok (.aload_n 0, 1) := by decide +kernel
theorem d_M_sort_18 : decode b_M_sort 18 = .ok (.getfield 51, 3) := by decide +kernel
theorem d_M_sort_21 : decode b_M_sort 21 = .ok (.iload 4, 2) := by decide +kernel
theorem d_M_sort_23 : decode b_M_sort 23 = .ok (.iaload, 1) := by decide +kernel
theorem d_M_sort_24 : decode b_M_sort 24 = .ok (.aload_n 0, 1) := by decide +kernel
theorem d_M_sort_25 : decode b_M_sort 25 = .ok (.getfield 51, 3) := by decide +kernel
theorem d_M_sort_28 : decode b_M_sort 28 = .ok (.iload 4, 2) := by decide +kernel
theorem d_M_sort_30 : decode b_M_sort 30 = .ok (.iconst 1, 1) := by decide +kernel
theorem d_M_sort_31 : decode b_M_sort 31 = .ok (.isub, 1) := by decide +kernel
theorem d_M_sort_32 : decode b_M_sort 32 = .ok (.iaload, 1) := by decide +kernel
theorem d_M_sort_33 : decode b_M_sort 33 = .ok (.invokevirtual 151, 3) := by decide +kernel
theorem d_M_sort_36 : decode b_M_sort 36 = .ok (.ifCond .eq 19, 3) := by decide +kernel
theorem d_M_sort_39 : decode b_M_sort 39 = .ok (.aload_n 0, 1) := by decide +kernel
theorem d_M_sort_40 : decode b_M_sort 40 = .ok (.iload 4, 2) := by decide +kernel
theorem d_M_sort_42 : decode b_M_sort 42 = .ok (.iload 4, 2) := by decide +kernel
theorem d_M_sort_44 : decode b_M_sort 44 = .ok (.iconst 1, 1) := by decide +kernel
theorem d_M_sort_45 : decode b_M_sort 45 = .ok (.isub, 1) := by decide +kernel
theorem d_M_sort_46 : decode b_M_sort 46 = .ok (.invokevirtual 154, 3) := by decide +kernel
theorem d_M_sort_49 : decode b_M_sort 49 = .ok (.iinc 4 (-1), 3) := by decide +kernel
theorem d_M_sort_52 : decode b_M_sort 52 = .ok (.goto (-42), 3) := by decide +kernel
theorem d_M_sort_55 : decode b_M_sort 55 = .ok (.iinc 3 1, 3) := by decide +kernel
theorem d_M_sort_58 : decode b_M_sort 58 = .ok (.goto (-56), 3) := by decide +kernel
theorem d_M_sort_61 : decode b_M_sort 61 = .ok (.return_, 1) := by decide +kernel
theorem d_M_parts_0 : decode b_M_parts 0 = .ok (.iconst (-1), 1) := by decide +kernel
theorem d_M_parts_1 : decode b_M_parts 1 = .ok (.istore_n 3, 1) := by decide +kernel
theorem d_M_parts_2 : decode b_M_parts 2 = .ok (.iconst 0, 1) := by decide +kernel
theorem d_M_parts_3 : decode b_M_parts 3 = .ok (.istore 4, 2) := by decide +kernel
theorem d_M_parts_5 : decode b_M_parts 5 = .ok (.iconst 0, 1) := by decide +kernel
theorem d_M_parts_6 : decode b_M_parts 6 = .ok (.istore 5, 2) := by decide +kernel
theorem d_M_parts_8 : decode b_M_parts 8 = .ok (.iconst 0, 1) := by decide +kernel
theorem d_M_parts_9 : decode b_M_parts 9 = .ok (.istore 6, 2) := by decide +kernel
theorem d_M_parts_11 : decode b_M_parts 11 = .ok (.iload 6, 2) := by decide +kernel
theorem d_M_parts_13 : decode b_M_parts 13 = .ok (.bipush 48, 2) := by decide +kernel
theorem d_M_parts_15 : decode b_M_parts 15 = .ok (.if_icmp .ge 58, 3) := by decide +kernel
theorem d_M_parts_18 : decode b_M_parts 18 = .ok (.iload 6, 2) := by decide +kernel
theorem d_M_parts_20 : decode b_M_parts 20 = .ok (.bipush 24, 2) := by decide +kernel
theorem d_M_parts_22 : decode b_M_parts 22 = .ok (.if_icmp .lt 7, 3) := by decide +kernel
theorem d_M_parts_25 : decode b_M_parts 25 = .ok (.iconst 1, 1) := by decide +kernel
theorem d_M_parts_26 : decode b_M_parts 26 = .ok (.goto 4, 3) := by decide +kernel
theorem d_M_parts_29 : decode b_M_parts 29 = .ok (.iconst 0, 1) := by decide +kernel
theorem d_M_parts_30 : decode b_M_parts 30 = .ok (.istore 7, 2) := by decide +kernel
theorem d_M_parts_32 : decode b_M_parts 32 = .ok (.aload_n 0, 1) := by decide +kernel
theorem d_M_parts_33 : decode b_M_parts 33 = .ok (.iload 6, 2) := by decide +kernel
theorem d_M_parts_35 : decode b_M_parts 35 = .ok (.bipush 24, 2) := by decide +kernel
theorem d_M_parts_37 : decode b_M_parts 37 = .ok (.irem, 1) := by decide +kernel
theorem d_M_parts_38 : decode b_M_parts 38 = .ok (.iload 7, 2) := by decide +kernel
theorem d_M_parts_40 : decode b_M_parts 40 = .ok (.iload_n 1, 1) := by decide +kernel
theorem d_M_parts_41 : decode b_M_parts 41 = .ok (.iload_n 2, 1) := by decide +kernel
theorem d_M_parts_42 : decode b_M_parts 42 = .ok (.invokevirtual 158, 3) := by decide +kernel
theorem d_M_parts_45 : decode b_M_parts 45 = .ok (.istore 8, 2) := by decide +kernel
theorem d_M_parts_47 : decode b_M_parts 47 = .ok (.iload 8, 2) := by decide +kernel
theorem d_M_parts_49 : decode b_M_parts 49 = .ok (.iload_n 3, 1) := by decide +kernel
theorem d_M_parts_50 : decode b_M_parts 50 = .ok (.if_icmp .le 17, 3) := by decide +kernel
theorem d_M_parts_53 : decode b_M_parts 53 = .ok (.iload 8, 2) := by decide +kernel
theorem d_M_parts_55 : decode b_M_parts 55 = .ok (.istore_n 3, 1) := by decide +kernel
theorem d_M_parts_56 : decode b_M_parts 56 = .ok (.iload 6, 2) := by decide +kernel
theorem d_M_parts_58 : decode b_M_parts 58 = .ok (.bipush 24, 2) := by decide +kernel
theorem d_M_parts_60 : decode b_M_parts 60 = .ok (.irem, 1) := by decide +kernel
theorem d_M_parts_61 : decode b_M_parts 61 = .ok (.istore 4, 2) := by decide +kernel
theorem d_M_parts_63 : decode b_M_parts 63 = .ok (.iload 7, 2) := by decide +kernel
theorem d_M_parts_65 : decode b_M_parts 65 = .ok (.istore 5, 2) := by decide +kernel
theorem d_M_parts_67 : decode b_M_parts 67 = .ok (.iinc 6 1, 3) := by decide +kernel
theorem d_M_parts_70 : decode b_M_parts 70 = .ok (.goto (-59), 3) := by decide +kernel
theorem d_M_parts_73 : decode b_M_parts 73 = .ok (.iload_n 3, 1) := by decide +kernel
theorem d_M_parts_74 : decode b_M_parts 74 = .ok (.iconst (-1), 1) := by decide +kernel
theorem d_M_parts_75 : decode b_M_parts 75 = .ok (.if_icmp .ne 5, 3) := by decide +kernel
theorem d_M_parts_78 : decode b_M_parts 78 = .ok (.iload_n 2, 1) := by decide +kernel
theorem d_M_parts_79 : decode b_M_parts 79 = .ok (.ireturn, 1) := by decide +kernel
theorem d_M_parts_80 : decode b_M_parts 80 = .ok (.iload_n 1, 1) := by decide +kernel
theorem d_M_parts_81 : decode b_M_parts 81 = .ok (.istore 6, 2) := by decide +kernel
theorem d_M_parts_83 : decode b_M_parts 83 = .ok (.iload_n 1, 1) := by decide +kernel
theorem d_M_parts_84 : decode b_M_parts 84 = .ok (.istore 7, 2) := by decide +kernel
theorem d_M_parts_86 : decode b_M_parts 86 = .ok (.iload 7, 2) := by decide +kernel
theorem d_M_parts_88 : decode b_M_parts 88 = .ok (.iload_n 2, 1) := by decide +kernel
theorem d_M_parts_89 : decode b_M_parts 89 = .ok (.if_icmp .ge 38, 3) := by decide +kernel
theorem d_M_parts_92 : decode b_M_parts 92 = .ok (.aload_n 0, 1) := by decide +kernel
theorem d_M_parts_93 : decode b_M_parts 93 = .ok (.aload_n 0, 1) := by decide +kernel
theorem d_M_parts_94 : decode b_M_parts 94 = .ok (.getfield 51, 3) := by decide +kernel
theorem d_M_parts_97 : decode b_M_parts 97 = .ok (.iload 7, 2) := by decide +kernel
theorem d_M_parts_99 : decode b_M_parts 99 = .ok (.iaload, 1) := by decide +kernel
theorem d_M_parts_100 : decode b_M_parts 100 = .ok (.iload 5, 2) := by decide +kernel
theorem d_M_parts_102 : decode b_M_parts 102 = .ok (.invokevirtual 148, 3) := by decide +kernel
theorem d_M_parts_105 : decode b_M_parts 105 = .ok (.iload 4, 2) := by decide +kernel
theorem d_M_parts_107 : decode b_M_parts 107 = .ok (.if_icmp .ge 14, 3) := by decide +kernel
theorem d_M_parts_110 : decode b_M_parts 110 = .ok (.aload_n 0, 1) := by decide +kernel
theorem d_M_parts_111 : decode b_M_parts 111 = .ok (.iload 7, 2) := by decide +kernel
theorem d_M_parts_113 : decode b_M_parts 113 = .ok (.iload 6, 2) := by decide +kernel
theorem d_M_parts_115 : decode b_M_parts 115 = .ok (.invokevirtual 154, 3) := by decide +kernel
theorem d_M_parts_118 : decode b_M_parts 118 = .ok (.iinc 6 1, 3) := by decide +kernel
theorem d_M_parts_121 : decode b_M_parts 121 = .ok (.iinc 7 1, 3) := by decide +kernel
theorem d_M_parts_124 : decode b_M_parts 124 = .ok (.goto (-38), 3) := by decide +kernel
theorem d_M_parts_127 : decode b_M_parts 127 = .ok (.iload 6, 2) := by decide +kernel
theorem d_M_parts_129 : decode b_M_parts 129 = .ok (.ireturn, 1) := by decide +kernel
theorem d_M_takeOrder_0 : decode b_M_takeOrder 0 = .ok (.iconst 0, 1) := by decide +kernel
theorem d_M_takeOrder_1 : decode b_M_takeOrder 1 = .ok (.istore_n 1, 1) := by decide +kernel
theorem d_M_takeOrder_2 : decode b_M_takeOrder 2 = .ok (.iload_n 1, 1) := by decide +kernel
theorem d_M_takeOrder_3 : decode b_M_takeOrder 3 = .ok (.aload_n 0, 1) := by decide +kernel
theorem d_M_takeOrder_4 : decode b_M_takeOrder 4 = .ok (.getfield 116, 3) := by decide +kernel
theorem d_M_takeOrder_7 : decode b_M_takeOrder 7 = .ok (.if_icmp .ge 16, 3) := by decide +kernel
theorem d_M_takeOrder_10 : decode b_M_takeOrder 10 = .ok (.aload_n 0, 1) := by decide +kernel
theorem d_M_takeOrder_11 : decode b_M_takeOrder 11 = .ok (.getfield 51, 3) := by decide +kernel
theorem d_M_takeOrder_14 : decode b_M_takeOrder 14 = .ok (.iload_n 1, 1) := by decide +kernel
theorem d_M_takeOrder_15 : decode b_M_takeOrder 15 = .ok (.iload_n 1, 1) := by decide +kernel
theorem d_M_takeOrder_16 : decode b_M_takeOrder 16 = .ok (.iastore, 1) := by decide +kernel
theorem d_M_takeOrder_17 : decode b_M_takeOrder 17 = .ok (.iinc 1 1, 3) := by decide +kernel
theorem d_M_takeOrder_20 : decode b_M_takeOrder 20 = .ok (.goto (-18), 3) := by decide +kernel
theorem d_M_takeOrder_23 : decode b_M_takeOrder 23 = .ok (.iconst 1, 1) := by decide +kernel
theorem d_M_takeOrder_24 : decode b_M_takeOrder 24 = .ok (.istore_n 1, 1) := by decide +kernel
theorem d_M_takeOrder_25 : decode b_M_takeOrder 25 = .ok (.aload_n 0, 1) := by decide +kernel
theorem d_M_takeOrder_26 : decode b_M_takeOrder 26 = .ok (.getfield 63, 3) := by decide +kernel
theorem d_M_takeOrder_29 : decode b_M_takeOrder 29 = .ok (.iconst 0, 1) := by decide +kernel
theorem d_M_takeOrder_30 : decode b_M_takeOrder 30 = .ok (.iconst 0, 1) := by decide +kernel
theorem d_M_takeOrder_31 : decode b_M_takeOrder 31 = .ok (.iastore, 1) := by decide +kernel
theorem d_M_takeOrder_32 : decode b_M_takeOrder 32 = .ok (.aload_n 0, 1) := by decide +kernel
theorem d_M_takeOrder_33 : decode b_M_takeOrder 33 = .ok (.getfield 66, 3) := by decide +kernel
theorem d_M_takeOrder_36 : decode b_M_takeOrder 36 = .ok (.iconst 0, 1) := by decide +kernel
theorem d_M_takeOrder_37 : decode b_M_takeOrder 37 = .ok (.aload_n 0, 1) := by decide +kernel
theorem d_M_takeOrder_38 : decode b_M_takeOrder 38 = .ok (.getfield 116, 3) := by decide +kernel
theorem d_M_takeOrder_41 : decode b_M_takeOrder 41 = .ok (.iastore, 1) := by decide +kernel
theorem d_M_takeOrder_42 : decode b_M_takeOrder 42 = .ok (.iload_n 1, 1) := by decide +kernel
theorem d_M_takeOrder_43 : decode b_M_takeOrder 43 = .ok (.ifCond .le 95, 3) := by decide +kernel
theorem d_M_takeOrder_46 : decode b_M_takeOrder 46 = .ok (.iinc 1 (-1), 3) := by decide +kernel
theorem d_M_takeOrder_49 : decode b_M_takeOrder 49 = .ok (.aload_n 0, 1) := by decide +kernel
theorem d_M_takeOrder_50 : decode b_M_takeOrder 50 = .ok (.getfield 63, 3) := by decide +kernel
theorem d_M_takeOrder_53 : decode b_M_takeOrder 53 = .ok (.iload_n 1, 1) := by decide +kernel
theorem d_M_takeOrder_54 : decode b_M_takeOrder 54 = .ok (.iaload, 1) := by decide +kernel
theorem d_M_takeOrder_55 : decode b_M_takeOrder 55 = .ok (.istore_n 2, 1) := by decide +kernel
theorem d_M_takeOrder_56 : decode b_M_takeOrder 56 = .ok (.aload_n 0, 1) := by decide +kernel
theorem d_M_takeOrder_57 : decode b_M_takeOrder 57 = .ok (.getfield 66, 3) := by decide +kernel
theorem d_M_takeOrder_60 : decode b_M_takeOrder 60 = .ok (.iload_n 1, 1) := by decide +kernel
theorem d_M_takeOrder_61 : decode b_M_takeOrder 61 = .ok (.iaload, 1) := by decide +kernel
theorem d_M_takeOrder_62 : decode b_M_takeOrder 62 = .ok (.istore_n 3, 1) := by decide +kernel
theorem d_M_takeOrder_63 : decode b_M_takeOrder 63 = .ok (.iload_n 3, 1) := by decide +kernel
theorem d_M_takeOrder_64 : decode b_M_takeOrder 64 = .ok (.iload_n 2, 1) := by decide +kernel
theorem d_M_takeOrder_65 : decode b_M_takeOrder 65 = .ok (.isub, 1) := by decide +kernel
theorem d_M_takeOrder_66 : decode b_M_takeOrder 66 = .ok (.iconst 1, 1) := by decide +kernel
theorem d_M_takeOrder_67 : decode b_M_takeOrder 67 = .ok (.if_icmp .le 12, 3) := by decide +kernel
theorem d_M_takeOrder_70 : decode b_M_takeOrder 70 = .ok (.aload_n 0, 1) := by decide +kernel
theorem d_M_takeOrder_71 : decode b_M_takeOrder 71 = .ok (.iload_n 2, 1) := by decide +kernel
theorem d_M_takeOrder_72 : decode b_M_takeOrder 72 = .ok (.iload_n 3, 1) := by decide +kernel
theorem d_M_takeOrder_73 : decode b_M_takeOrder 73 = .ok (.invokevirtual 162, 3) := by decide +kernel
theorem d_M_takeOrder_76 : decode b_M_takeOrder 76 = .ok (.goto 4, 3) := by decide +kernel
theorem d_M_takeOrder_79 : decode b_M_takeOrder 79 = .ok (.iload_n 3, 1) := by decide +kernel
theorem d_M_takeOrder_80 : decode b_M_takeOrder 80 = .ok (.istore 4, 2) := by decide +kernel
theorem d_M_takeOrder_82 : decode b_M_takeOrder 82 = .ok (.iload 4, 2) := by decide +kernel
theorem d_M_takeOrder_84 : decode b_M_takeOrder 84 = .ok (.iload_n 3, 1) := by decide +kernel
theorem d_M_takeOrder_85 : decode b_M_takeOrder 85 = .ok (.if_icmp .ne 12, 3) := by decide +kernel
theorem d_M_takeOrder_88 : decode b_M_takeOrder 88 = .ok (.aload_n 0, 1) := by decide +kernel
theorem d_M_takeOrder_89 : decode b_M_takeOrder 89 = .ok (.iload_n 2, 1) := by decide +kernel
theorem d_M_takeOrder_90 : decode b_M_takeOrder 90 = .ok (.iload_n 3, 1) := by decide +kernel
theorem d_M_takeOrder_91 : decode b_M_takeOrder 91 = .ok (.invokevirtual 165, 3) := by decide +kernel
theorem d_M_takeOrder_94 : decode b_M_takeOrder 94 = .ok (.goto 41, 3) := by decide +kernel
theorem d_M_takeOrder_97 : decode b_M_takeOrder 97 = .ok (.aload_n 0, 1) := by decide +kernel
theorem d_M_takeOrder_98 : decode b_M_takeOrder 98 = .ok (.getfield 63, 3) := by decide +kernel
theorem d_M_takeOrder_101 : decode b_M_takeOrder 101 = .ok (.iload_n 1, 1) := by decide +kernel
theorem d_M_takeOrder_102 : decode b_M_takeOrder 102 = .ok (.iload_n 2, 1) := by decide +kernel
theorem d_M_takeOrder_103 : decode b_M_takeOrder 103 = .ok (.iastore, 1) := by decide +kernel
theorem d_M_takeOrder_104 : decode b_M_takeOrder 104 = .ok (.aload_n 0, 1) := by decide +kernel
theorem d_M_takeOrder_105 : decode b_M_takeOrder 105 = .ok (.getfield 66, 3) := by decide +kernel
theorem d_M_takeOrder_108 : decode b_M_takeOrder 108 = .ok (.iload_n 1, 1) := by decide +kernel
theorem d_M_takeOrder_109 : decode b_M_takeOrder 109 = .ok (.iload 4, 2) := by decide +kernel
theorem d_M_takeOrder_111 : decode b_M_takeOrder 111 = .ok (.iastore, 1) := by decide +kernel
theorem d_M_takeOrder_112 : decode b_M_takeOrder 112 = .ok (.aload_n 0, 1) := by decide +kernel
theorem d_M_takeOrder_113 : decode b_M_takeOrder 113 = .ok (.getfield 63, 3) := by decide +kernel
theorem d_M_takeOrder_116 : decode b_M_takeOrder 116 = .ok (.iload_n 1, 1) := by decide +kernel
theorem d_M_takeOrder_117 : decode b_M_takeOrder 117 = .ok (.iconst 1, 1) := by decide +kernel
theorem d_M_takeOrder_118 : decode b_M_takeOrder 118 = .ok (.iadd, 1) := by decide +kernel
theorem d_M_takeOrder_119 : decode b_M_takeOrder 119 = .ok (.iload 4, 2) := by decide +kernel
theorem d_M_takeOrder_121 : decode b_M_takeOrder 121 = .ok (.iastore, 1) := by decide +kernel
theorem d_M_takeOrder_122 : decode b_M_takeOrder 122 = .ok (.aload_n 0, 1) := by decide +kernel
theorem d_M_takeOrder_123 : decode b_M_takeOrder 123 = .ok (.getfield 66, 3) := by decide +kernel
theorem d_M_takeOrder_126 : decode b_M_takeOrder 126 = .ok (.iload_n 1, 1) := by decide +kernel
theorem d_M_takeOrder_127 : decode b_M_takeOrder 127 = .ok (.iconst 1, 1) := by decide +kernel
theorem d_M_takeOrder_128 : decode b_M_takeOrder 128 = .ok (.iadd, 1) := by decide +kernel
theorem d_M_takeOrder_129 : decode b_M_takeOrder 129 = .ok (.iload_n 3, 1) := by decide +kernel
theorem d_M_takeOrder_130 : decode b_M_takeOrder 130 = .ok (.iastore, 1) := by decide +kernel
theorem d_M_takeOrder_131 : decode b_M_takeOrder 131 = .ok (.iload_n 1, 1) := by decide +kernel
theorem d_M_takeOrder_132 : decode b_M_takeOrder 132 = .ok (.iconst 2, 1) := by decide +kernel
theorem d_M_takeOrder_133 : decode b_M_takeOrder 133 = .ok (.iadd, 1) := by decide +kernel
theorem d_M_takeOrder_134 : decode b_M_takeOrder 134 = .ok (.istore_n 1, 1) := by decide +kernel
theorem d_M_takeOrder_135 : decode b_M_takeOrder 135 = .ok (.goto (-93), 3) := by decide +kernel
theorem d_M_takeOrder_138 : decode b_M_takeOrder 138 = .ok (.return_, 1) := by decide +kernel
theorem d_M_run_0 : decode b_M_run 0 = .ok (.aload_n 0, 1) := by decide +kernel
theorem d_M_run_1 : decode b_M_run 1 = .ok (.iload_n 1, 1) := by decide +kernel
theorem d_M_run_2 : decode b_M_run 2 = .ok (.iconst 0, 1) := by decide +kernel
theorem d_M_run_3 : decode b_M_run 3 = .ok (.bipush 24, 2) := by decide +kernel
theorem d_M_run_5 : decode b_M_run 5 = .ok (.invokestatic 82, 3) := by decide +kernel
theorem d_M_run_8 : decode b_M_run 8 = .ok (.ifCond .eq 17, 3) := by decide +kernel
theorem d_M_run_11 : decode b_M_run 11 = .ok (.iload_n 2, 1) := by decide +kernel
theorem d_M_run_12 : decode b_M_run 12 = .ok (.iconst 0, 1) := by decide +kernel
theorem d_M_run_13 : decode b_M_run 13 = .ok (.bipush 24, 2) := by decide +kernel
theorem d_M_run_15 : decode b_M_run 15 = .ok (.invokestatic 82, 3) := by decide +kernel
theorem d_M_run_18 : decode b_M_run 18 = .ok (.ifCond .eq 7, 3) := by decide +kernel
theorem d_M_run_21 : decode b_M_run 21 = .ok (.iconst 1, 1) := by decide +kernel
theorem d_M_run_22 : decode b_M_run 22 = .ok (.goto 4, 3) := by decide +kernel
theorem d_M_run_25 : decode b_M_run 25 = .ok (.iconst 0, 1) := by decide +kernel
theorem d_M_run_26 : decode b_M_run 26 = .ok (.iconst 1, 1) := by decide +kernel
theorem d_M_run_27 : decode b_M_run 27 = .ok (.iconst 1, 1) := by decide +kernel
theorem d_M_run_28 : decode b_M_run 28 = .ok (.invokevirtual 90, 3) := by decide +kernel
theorem d_M_run_31 : decode b_M_run 31 = .ok (.ifCond .ne 5, 3) := by decide +kernel
theorem d_M_run_34 : decode b_M_run 34 = .ok (.iconst 0, 1) := by decide +kernel
theorem d_M_run_35 : decode b_M_run 35 = .ok (.ireturn, 1) := by decide +kernel
theorem d_M_run_36 : decode b_M_run 36 = .ok (.aload_n 0, 1) := by decide +kernel
theorem d_M_run_37 : decode b_M_run 37 = .ok (.iload_n 1, 1) := by decide +kernel
theorem d_M_run_38 : decode b_M_run 38 = .ok (.iload_n 2, 1) := by decide +kernel
theorem d_M_run_39 : decode b_M_run 39 = .ok (.invokevirtual 168, 3) := by decide +kernel
theorem d_M_run_42 : decode b_M_run 42 = .ok (.aload_n 0, 1) := by decide +kernel
theorem d_M_run_43 : decode b_M_run 43 = .ok (.invokevirtual 171, 3) := by decide +kernel
theorem d_M_run_46 : decode b_M_run 46 = .ok (.aload_n 0, 1) := by decide +kernel
theorem d_M_run_47 : decode b_M_run 47 = .ok (.invokevirtual 174, 3) := by decide +kernel
theorem d_M_run_50 : decode b_M_run 50 = .ok (.aload_n 0, 1) := by decide +kernel
theorem d_M_run_51 : decode b_M_run 51 = .ok (.invokevirtual 177, 3) := by decide +kernel
theorem d_M_run_54 : decode b_M_run 54 = .ok (.aload_n 0, 1) := by decide +kernel
theorem d_M_run_55 : decode b_M_run 55 = .ok (.invokevirtual 180, 3) := by decide +kernel
theorem d_M_run_58 : decode b_M_run 58 = .ok (.aload_n 0, 1) := by decide +kernel
theorem d_M_run_59 : decode b_M_run 59 = .ok (.invokevirtual 183, 3) := by decide +kernel
theorem d_M_run_62 : decode b_M_run 62 = .ok (.aload_n 0, 1) := by decide +kernel
theorem d_M_run_63 : decode b_M_run 63 = .ok (.iconst 1, 1) := by decide +kernel
theorem d_M_run_64 : decode b_M_run 64 = .ok (.putfield 94, 3) := by decide +kernel
theorem d_M_run_67 : decode b_M_run 67 = .ok (.aload_n 0, 1) := by decide +kernel
theorem d_M_run_68 : decode b_M_run 68 = .ok (.getfield 116, 3) := by decide +kernel
theorem d_M_run_71 : decode b_M_run 71 = .ok (.ireturn, 1) := by decide +kernel
theorem d_M_lines_0 : decode b_M_lines 0 = .ok (.iconst 0, 1) := by decide +kernel
theorem d_M_lines_1 : decode b_M_lines 1 = .ok (.istore_n 2, 1) := by decide +kernel
theorem d_M_lines_2 : decode b_M_lines 2 = .ok (.iconst 0, 1) := by decide +kernel
theorem d_M_lines_3 : decode b_M_lines 3 = .ok (.istore_n 3, 1) := by decide +kernel
theorem d_M_lines_4 : decode b_M_lines 4 = .ok (.aload_n 0, 1) := by decide +kernel
theorem d_M_lines_5 : decode b_M_lines 5 = .ok (.getfield 39, 3) := by decide +kernel
theorem d_M_lines_8 : decode b_M_lines 8 = .ok (.iload_n 1, 1) := by decide +kernel
theorem d_M_lines_9 : decode b_M_lines 9 = .ok (.iaload, 1) := by decide +kernel
theorem d_M_lines_10 : decode b_M_lines 10 = .ok (.istore 4, 2) := by decide +kernel
theorem d_M_lines_12 : decode b_M_lines 12 = .ok (.iload 4, 2) := by decide +kernel
theorem d_M_lines_14 : decode b_M_lines 14 = .ok (.aload_n 0, 1) := by decide +kernel
theorem d_M_lines_15 : decode b_M_lines 15 = .ok (.getfield 45, 3) := by decide +kernel
theorem d_M_lines_18 : decode b_M_lines 18 = .ok (.iload_n 1, 1) := by decide +kernel
theorem d_M_lines_19 : decode b_M_lines 19 = .ok (.iaload, 1) := by decide +kernel
theorem d_M_lines_20 : decode b_M_lines 20 = .ok (.if_icmp .gt 60, 3) := by decide +kernel
theorem d_M_lines_23 : decode b_M_lines 23 = .ok (.aload_n 0, 1) := by decide +kernel
theorem d_M_lines_24 : decode b_M_lines 24 = .ok (.aload_n 0, 1) := by decide +kernel
theorem d_M_lines_25 : decode b_M_lines 25 = .ok (.getfield 36, 3) := by decide +kernel
theorem d_M_lines_28 : decode b_M_lines 28 = .ok (.iload_n 1, 1) := by decide +kernel
theorem d_M_lines_29 : decode b_M_lines 29 = .ok (.iaload, 1) := by decide +kernel
theorem d_M_lines_30 : decode b_M_lines 30 = .ok (.iload 4, 2) := by decide +kernel
theorem d_M_lines_32 : decode b_M_lines 32 = .ok (.aload_n 0, 1) := by decide +kernel
theorem d_M_lines_33 : decode b_M_lines 33 = .ok (.getfield 42, 3) := by decide +kernel
theorem d_M_lines_36 : decode b_M_lines 36 = .ok (.iload_n 1, 1) := by decide +kernel
theorem d_M_lines_37 : decode b_M_lines 37 = .ok (.iaload, 1) := by decide +kernel
theorem d_M_lines_38 : decode b_M_lines 38 = .ok (.iload 4, 2) := by decide +kernel
theorem d_M_lines_40 : decode b_M_lines 40 = .ok (.iload_n 1, 1) := by decide +kernel
theorem d_M_lines_41 : decode b_M_lines 41 = .ok (.invokevirtual 123, 3) := by decide +kernel
theorem d_M_lines_44 : decode b_M_lines 44 = .ok (.ifCond .le 7, 3) := by decide +kernel
theorem d_M_lines_47 : decode b_M_lines 47 = .ok (.iconst 1, 1) := by decide +kernel
theorem d_M_lines_48 : decode b_M_lines 48 = .ok (.goto 4, 3) := by decide +kernel
theorem d_M_lines_51 : decode b_M_lines 51 = .ok (.iconst 0, 1) := by decide +kernel
theorem d_M_lines_52 : decode b_M_lines 52 = .ok (.istore 5, 2) := by decide +kernel
theorem d_M_lines_54 : decode b_M_lines 54 = .ok (.iload 5, 2) := by decide +kernel
theorem d_M_lines_56 : decode b_M_lines 56 = .ok (.ifCond .eq 13, 3) := by decide +kernel
theorem d_M_lines_59 : decode b_M_lines 59 = .ok (.iload_n 3, 1) := by decide +kernel
theorem d_M_lines_60 : decode b_M_lines 60 = .ok (.ifCond .ne 9, 3) := by decide +kernel
theorem d_M_lines_63 : decode b_M_lines 63 = .ok (.iload_n 2, 1) := by decide +kernel
theorem d_M_lines_64 : decode b_M_lines 64 = .ok (.iconst 1, 1) := by decide +kernel
theorem d_M_lines_65 : decode b_M_lines 65 = .ok (.iadd, 1) := by decide +kernel
theorem d_M_lines_66 : decode b_M_lines 66 = .ok (.goto 4, 3) := by decide +kernel
theorem d_M_lines_69 : decode b_M_lines 69 = .ok (.iload_n 2, 1) := by decide +kernel
theorem d_M_lines_70 : decode b_M_lines 70 = .ok (.istore_n 2, 1) := by decide +kernel
theorem d_M_lines_71 : decode b_M_lines 71 = .ok (.iload 5, 2) := by decide +kernel
theorem d_M_lines_73 : decode b_M_lines 73 = .ok (.istore_n 3, 1) := by decide +kernel
theorem d_M_lines_74 : decode b_M_lines 74 = .ok (.iinc 4 1, 3) := by decide +kernel
theorem d_M_lines_77 : decode b_M_lines 77 = .ok (.goto (-65), 3) := by decide +kernel
theorem d_M_lines_80 : decode b_M_lines 80 = .ok (.iload_n 2, 1) := by decide +kernel
theorem d_M_lines_81 : decode b_M_lines 81 = .ok (.ireturn, 1) := by decide +kernel
theorem d_M_inkOf_0 : decode b_M_inkOf 0 = .ok (.iconst 0, 1) := by decide +kernel
theorem d_M_inkOf_1 : decode b_M_inkOf 1 = .ok (.istore_n 2, 1) := by decide +kernel
theorem d_M_inkOf_2 : decode b_M_inkOf 2 = .ok (.iconst 0, 1) := by decide +kernel
theorem d_M_inkOf_3 : decode b_M_inkOf 3 = .ok (.istore_n 3, 1) := by decide +kernel
theorem d_M_inkOf_4 : decode b_M_inkOf 4 = .ok (.iload_n 3, 1) := by decide +kernel
theorem d_M_inkOf_5 : decode b_M_inkOf 5 = .ok (.aload_n 0, 1) := by decide +kernel
theorem d_M_inkOf_6 : decode b_M_inkOf 6 = .ok (.getfield 76, 3) := by decide +kernel
theorem d_M_inkOf_9 : decode b_M_inkOf 9 = .ok (.if_icmp .ge 51, 3) := by decide +kernel
theorem d_M_inkOf_12 : decode b_M_inkOf 12 = .ok (.iconst 0, 1) := by decide +kernel
theorem d_M_inkOf_13 : decode b_M_inkOf 13 = .ok (.istore 4, 2) := by decide +kernel
theorem d_M_inkOf_15 : decode b_M_inkOf 15 = .ok (.iload 4, 2) := by decide +kernel
theorem d_M_inkOf_17 : decode b_M_inkOf 17 = .ok (.aload_n 0, 1) := by decide +kernel
theorem d_M_inkOf_18 : decode b_M_inkOf 18 = .ok (.getfield 73, 3) := by decide +kernel
theorem d_M_inkOf_21 : decode b_M_inkOf 21 = .ok (.if_icmp .ge 33, 3) := by decide +kernel
theorem d_M_inkOf_24 : decode b_M_inkOf 24 = .ok (.aload_n 0, 1) := by decide +kernel
theorem d_M_inkOf_25 : decode b_M_inkOf 25 = .ok (.getfield 33, 3) := by decide +kernel
theorem d_M_inkOf_28 : decode b_M_inkOf 28 = .ok (.bipush 24, 2) := by decide +kernel
theorem d_M_inkOf_30 : decode b_M_inkOf 30 = .ok (.iload_n 3, 1) := by decide +kernel
theorem d_M_inkOf_31 : decode b_M_inkOf 31 = .ok (.imul, 1) := by decide +kernel
theorem d_M_inkOf_32 : decode b_M_inkOf 32 = .ok (.iload 4, 2) := by decide +kernel
theorem d_M_inkOf_34 : decode b_M_inkOf 34 = .ok (.iadd, 1) := by decide +kernel
theorem d_M_inkOf_35 : decode b_M_inkOf 35 = .ok (.iaload, 1) := by decide +kernel
theorem d_M_inkOf_36 : decode b_M_inkOf 36 = .ok (.iload_n 1, 1) := by decide +kernel
theorem d_M_inkOf_37 : decode b_M_inkOf 37 = .ok (.if_icmp .ne 9, 3) := by decide +kernel
theorem d_M_inkOf_40 : decode b_M_inkOf 40 = .ok (.iload_n 2, 1) := by decide +kernel
theorem d_M_inkOf_41 : decode b_M_inkOf 41 = .ok (.iconst 1, 1) := by decide +kernel
theorem d_M_inkOf_42 : decode b_M_inkOf 42 = .ok (.iadd, 1) := by decide +kernel
theorem d_M_inkOf_43 : decode b_M_inkOf 43 = .ok (.goto 4, 3) := by decide +kernel
theorem d_M_inkOf_46 : decode b_M_inkOf 46 = .ok (.iload_n 2, 1) := by decide +kernel
theorem d_M_inkOf_47 : decode b_M_inkOf 47 = .ok (.istore_n 2, 1) := by decide +kernel
theorem d_M_inkOf_48 : decode b_M_inkOf 48 = .ok (.iinc 4 1, 3) := by decide +kernel
theorem d_M_inkOf_51 : decode b_M_inkOf 51 = .ok (.goto (-36), 3) := by decide +kernel
theorem d_M_inkOf_54 : decode b_M_inkOf 54 = .ok (.iinc 3 1, 3) := by decide +kernel
theorem d_M_inkOf_57 : decode b_M_inkOf 57 = .ok (.goto (-53), 3) := by decide +kernel
theorem d_M_inkOf_60 : decode b_M_inkOf 60 = .ok (.iload_n 2, 1) := by decide +kernel
theorem d_M_inkOf_61 : decode b_M_inkOf 61 = .ok (.ireturn, 1) := by decide +kernel
theorem d_M_part_0 : decode b_M_part 0 = .ok (.aload_n 0, 1) := by decide +kernel
theorem d_M_part_1 : decode b_M_part 1 = .ok (.aload_n 0, 1) := by decide +kernel
theorem d_M_part_2 : decode b_M_part 2 = .ok (.getfield 94, 3) := by decide +kernel
theorem d_M_part_5 : decode b_M_part 5 = .ok (.iload_n 1, 1) := by decide +kernel
theorem d_M_part_6 : decode b_M_part 6 = .ok (.iconst 0, 1) := by decide +kernel
theorem d_M_part_7 : decode b_M_part 7 = .ok (.aload_n 0, 1) := by decide +kernel
theorem d_M_part_8 : decode b_M_part 8 = .ok (.getfield 116, 3) := by decide +kernel
theorem d_M_part_11 : decode b_M_part 11 = .ok (.iconst 1, 1) := by decide +kernel
theorem d_M_part_12 : decode b_M_part 12 = .ok (.isub, 1) := by decide +kernel
theorem d_M_part_13 : decode b_M_part 13 = .ok (.invokestatic 82, 3) := by decide +kernel
theorem d_M_part_16 : decode b_M_part 16 = .ok (.iload_n 2, 1) := by decide +kernel
theorem d_M_part_17 : decode b_M_part 17 = .ok (.iconst 0, 1) := by decide +kernel
theorem d_M_part_18 : decode b_M_part 18 = .ok (.bipush 7, 2) := by decide +kernel
theorem d_M_part_20 : decode b_M_part 20 = .ok (.invokestatic 82, 3) := by decide +kernel
theorem d_M_part_23 : decode b_M_part 23 = .ok (.invokevirtual 90, 3) := by decide +kernel
theorem d_M_part_26 : decode b_M_part 26 = .ok (.ifCond .ne 5, 3) := by decide +kernel
theorem d_M_part_29 : decode b_M_part 29 = .ok (.iconst 0, 1) := by decide +kernel
theorem d_M_part_30 : decode b_M_part 30 = .ok (.ireturn, 1) := by decide +kernel
theorem d_M_part_31 : decode b_M_part 31 = .ok (.iload_n 2, 1) := by decide +kernel
theorem d_M_part_32 : decode b_M_part 32 = .ok (.tableswitch 123 0 6 #[44, 51, 58, 74, 90, 110, 117], 44) := by decide +kernel
theorem d_M_part_76 : decode b_M_part 76 = .ok (.aload_n 0, 1) := by decide +kernel
theorem d_M_part_77 : decode b_M_part 77 = .ok (.getfield 36, 3) := by decide +kernel
theorem d_M_part_80 : decode b_M_part 80 = .ok (.iload_n 1, 1) := by decide +kernel
theorem d_M_part_81 : decode b_M_part 81 = .ok (.iaload, 1) := by decide +kernel
theorem d_M_part_82 : decode b_M_part 82 = .ok (.ireturn, 1) := by decide +kernel
theorem d_M_part_83 : decode b_M_part 83 = .ok (.aload_n 0, 1) := by decide +kernel
theorem d_M_part_84 : decode b_M_part 84 = .ok (.getfield 39, 3) := by decide +kernel
theorem d_M_part_87 : decode b_M_part 87 = .ok (.iload_n 1, 1) := by decide +kernel
theorem d_M_part_88 : decode b_M_part 88 = .ok (.iaload, 1) := by decide +kernel
theorem d_M_part_89 : decode b_M_part 89 = .ok (.ireturn, 1) := by decide +kernel
theorem d_M_part_90 : decode b_M_part 90 = .ok (.aload_n 0, 1) := by decide +kernel
theorem d_M_part_91 : decode b_M_part 91 = .ok (.getfield 42, 3) := by decide +kernel
theorem d_M_part_94 : decode b_M_part 94 = .ok (.iload_n 1, 1) := by decide +kernel
theorem d_M_part_95 : decode b_M_part 95 = .ok (.iaload, 1) := by decide +kernel
theorem d_M_part_96 : decode b_M_part 96 = .ok (.aload_n 0, 1) := by decide +kernel
theorem d_M_part_97 : decode b_M_part 97 = .ok (.getfield 36, 3) := by decide +kernel
theorem d_M_part_100 : decode b_M_part 100 = .ok (.iload_n 1, 1) := by decide +kernel
theorem d_M_part_101 : decode b_M_part 101 = .ok (.iaload, 1) := by decide +kernel
theorem d_M_part_102 : decode b_M_part 102 = .ok (.isub, 1) := by decide +kernel
theorem d_M_part_103 : decode b_M_part 103 = .ok (.iconst 1, 1) := by decide +kernel
theorem d_M_part_104 : decode b_M_part 104 = .ok (.iadd, 1) := by decide +kernel
theorem d_M_part_105 : decode b_M_part 105 = .ok (.ireturn, 1) := by decide +kernel
theorem d_M_part_106 : decode b_M_part 106 = .ok (.aload_n 0, 1) := by decide +kernel
theorem d_M_part_107 : decode b_M_part 107 = .ok (.getfield 45, 3) := by decide +kernel
theorem d_M_part_110 : decode b_M_part 110 = .ok (.iload_n 1, 1) := by decide +kernel
theorem d_M_part_111 : decode b_M_part 111 = .ok (.iaload, 1) := by decide +kernel
theorem d_M_part_112 : decode b_M_part 112 = .ok (.aload_n 0, 1) := by decide +kernel
theorem d_M_part_113 : decode b_M_part 113 = .ok (.getfield 39, 3) := by decide +kernel
theorem d_M_part_116 : decode b_M_part 116 = .ok (.iload_n 1, 1) := by decide +kernel
theorem d_M_part_117 : decode b_M_part 117 = .ok (.iaload, 1) := by decide +kernel
theorem d_M_part_118 : decode b_M_part 118 = .ok (.isub, 1) := by decide +kernel
theorem d_M_part_119 : decode b_M_part 119 = .ok (.iconst 1, 1) := by decide +kernel
theorem d_M_part_120 : decode b_M_part 120 = .ok (.iadd, 1) := by decide +kernel
theorem d_M_part_121 : decode b_M_part 121 = .ok (.ireturn, 1) := by decide +kernel
theorem d_M_part_122 : decode b_M_part 122 = .ok (.aload_n 0, 1) := by decide +kernel
theorem d_M_part_123 : decode b_M_part 123 = .ok (.iconst 0, 1) := by decide +kernel
theorem d_M_part_124 : decode b_M_part 124 = .ok (.iconst 0, 1) := by decide +kernel
theorem d_M_part_125 : decode b_M_part 125 = .ok (.aload_n 0, 1) := by decide +kernel
theorem d_M_part_126 : decode b_M_part 126 = .ok (.getfield 73, 3) := by decide +kernel
theorem d_M_part_129 : decode b_M_part 129 = .ok (.iconst 1, 1) := by decide +kernel
theorem d_M_part_130 : decode b_M_part 130 = .ok (.isub, 1) := by decide +kernel
theorem d_M_part_131 : decode b_M_part 131 = .ok (.aload_n 0, 1) := by decide +kernel
theorem d_M_part_132 : decode b_M_part 132 = .ok (.getfield 76, 3) := by decide +kernel
theorem d_M_part_135 : decode b_M_part 135 = .ok (.iconst 1, 1) := by decide +kernel
theorem d_M_part_136 : decode b_M_part 136 = .ok (.isub, 1) := by decide +kernel
theorem d_M_part_137 : decode b_M_part 137 = .ok (.iload_n 1, 1) := by decide +kernel
theorem d_M_part_138 : decode b_M_part 138 = .ok (.invokevirtual 123, 3) := by decide +kernel
theorem d_M_part_141 : decode b_M_part 141 = .ok (.ireturn, 1) := by decide +kernel
theorem d_M_part_142 : decode b_M_part 142 = .ok (.aload_n 0, 1) := by decide +kernel
theorem d_M_part_143 : decode b_M_part 143 = .ok (.getfield 48, 3) := by decide +kernel
theorem d_M_part_146 : decode b_M_part 146 = .ok (.iload_n 1, 1) := by decide +kernel
theorem d_M_part_147 : decode b_M_part 147 = .ok (.iaload, 1) := by decide +kernel
theorem d_M_part_148 : decode b_M_part 148 = .ok (.ireturn, 1) := by decide +kernel
theorem d_M_part_149 : decode b_M_part 149 = .ok (.aload_n 0, 1) := by decide +kernel
theorem d_M_part_150 : decode b_M_part 150 = .ok (.iload_n 1, 1) := by decide +kernel
theorem d_M_part_151 : decode b_M_part 151 = .ok (.invokevirtual 186, 3) := by decide +kernel
theorem d_M_part_154 : decode b_M_part 154 = .ok (.ireturn, 1) := by decide +kernel
theorem d_M_part_155 : decode b_M_part 155 = .ok (.aload_n 0, 1) := by decide +kernel
theorem d_M_part_156 : decode b_M_part 156 = .ok (.iload_n 1, 1) := by decide +kernel
theorem d_M_part_157 : decode b_M_part 157 = .ok (.invokevirtual 189, 3) := by decide +kernel
theorem d_M_part_160 : decode b_M_part 160 = .ok (.ireturn, 1) := by decide +kernel
theorem d_M_partOf_0 : decode b_M_partOf 0 = .ok (.aload_n 0, 1) := by decide +kernel
theorem d_M_partOf_1 : decode b_M_partOf 1 = .ok (.aload_n 0, 1) := by decide +kernel
theorem d_M_partOf_2 : decode b_M_partOf 2 = .ok (.getfield 94, 3) := by decide +kernel
theorem d_M_partOf_5 : decode b_M_partOf 5 = .ok (.aload_n 0, 1) := by decide +kernel
theorem d_M_partOf_6 : decode b_M_partOf 6 = .ok (.iload_n 1, 1) := by decide +kernel
theorem d_M_partOf_7 : decode b_M_partOf 7 = .ok (.iload_n 2, 1) := by decide +kernel
theorem d_M_partOf_8 : decode b_M_partOf 8 = .ok (.invokevirtual 86, 3) := by decide +kernel
theorem d_M_partOf_11 : decode b_M_partOf 11 = .ok (.iconst 1, 1) := by decide +kernel
theorem d_M_partOf_12 : decode b_M_partOf 12 = .ok (.invokevirtual 90, 3) := by decide +kernel
theorem d_M_partOf_15 : decode b_M_partOf 15 = .ok (.ifCond .eq 17, 3) := by decide +kernel
theorem d_M_partOf_18 : decode b_M_partOf 18 = .ok (.aload_n 0, 1) := by decide +kernel
theorem d_M_partOf_19 : decode b_M_partOf 19 = .ok (.getfield 33, 3) := by decide +kernel
theorem d_M_partOf_22 : decode b_M_partOf 22 = .ok (.bipush 24, 2) := by decide +kernel
theorem d_M_partOf_24 : decode b_M_partOf 24 = .ok (.iload_n 2, 1) := by decide +kernel
theorem d_M_partOf_25 : decode b_M_partOf 25 = .ok (.imul, 1) := by decide +kernel
theorem d_M_partOf_26 : decode b_M_partOf 26 = .ok (.iload_n 1, 1) := by decide +kernel
theorem d_M_partOf_27 : decode b_M_partOf 27 = .ok (.iadd, 1) := by decide +kernel
theorem d_M_partOf_28 : decode b_M_partOf 28 = .ok (.iaload, 1) := by decide +kernel
theorem d_M_partOf_29 : decode b_M_partOf 29 = .ok (.goto 4, 3) := by decide +kernel
theorem d_M_partOf_32 : decode b_M_partOf 32 = .ok (.iconst 0, 1) := by decide +kernel
theorem d_M_partOf_33 : decode b_M_partOf 33 = .ok (.ireturn, 1) := by decide +kernel
theorem d_M_line_0 : decode b_M_line 0 = .ok (.aload_n 0, 1) := by decide +kernel
theorem d_M_line_1 : decode b_M_line 1 = .ok (.getfield 94, 3) := by decide +kernel
theorem d_M_line_4 : decode b_M_line 4 = .ok (.ifCond .eq 36, 3) := by decide +kernel
theorem d_M_line_7 : decode b_M_line 7 = .ok (.iload_n 1, 1) := by decide +kernel
theorem d_M_line_8 : decode b_M_line 8 = .ok (.iconst 0, 1) := by decide +kernel
theorem d_M_line_9 : decode b_M_line 9 = .ok (.aload_n 0, 1) := by decide +kernel
theorem d_M_line_10 : decode b_M_line 10 = .ok (.getfield 116, 3) := by decide +kernel
theorem d_M_line_13 : decode b_M_line 13 = .ok (.iconst 1, 1) := by decide +kernel
theorem d_M_line_14 : decode b_M_line 14 = .ok (.isub, 1) := by decide +kernel
theorem d_M_line_15 : decode b_M_line 15 = .ok (.invokestatic 82, 3) := by decide +kernel
theorem d_M_line_18 : decode b_M_line 18 = .ok (.ifCond .eq 22, 3) := by decide +kernel
theorem d_M_line_21 : decode b_M_line 21 = .ok (.iload_n 2, 1) := by decide +kernel
theorem d_M_line_22 : decode b_M_line 22 = .ok (.iconst 0, 1) := by decide +kernel
theorem d_M_line_23 : decode b_M_line 23 = .ok (.aload_n 0, 1) := by decide +kernel
theorem d_M_line_24 : decode b_M_line 24 = .ok (.iload_n 1, 1) := by decide +kernel
theorem d_M_line_25 : decode b_M_line 25 = .ok (.invokevirtual 186, 3) := by decide +kernel
theorem d_M_line_28 : decode b_M_line 28 = .ok (.iconst 1, 1) := by decide +kernel
theorem d_M_line_29 : decode b_M_line 29 = .ok (.isub, 1) := by decide +kernel
theorem d_M_line_30 : decode b_M_line 30 = .ok (.invokestatic 82, 3) := by decide +kernel
theorem d_M_line_33 : decode b_M_line 33 = .ok (.ifCond .eq 7, 3) := by decide +kernel
theorem d_M_line_36 : decode b_M_line 36 = .ok (.iconst 1, 1) := by decide +kernel
theorem d_M_line_37 : decode b_M_line 37 = .ok (.goto 4, 3) := by decide +kernel
theorem d_M_line_40 : decode b_M_line 40 = .ok (.iconst 0, 1) := by decide +kernel
theorem d_M_line_41 : decode b_M_line 41 = .ok (.istore 4, 2) := by decide +kernel
theorem d_M_line_43 : decode b_M_line 43 = .ok (.aload_n 0, 1) := by decide +kernel
theorem d_M_line_44 : decode b_M_line 44 = .ok (.aload_n 0, 1) := by decide +kernel
theorem d_M_line_45 : decode b_M_line 45 = .ok (.getfield 94, 3) := by decide +kernel
theorem d_M_line_48 : decode b_M_line 48 = .ok (.iload 4, 2) := by decide +kernel
theorem d_M_line_50 : decode b_M_line 50 = .ok (.iload_n 3, 1) := by decide +kernel
theorem d_M_line_51 : decode b_M_line 51 = .ok (.iconst 0, 1) := by decide +kernel
theorem d_M_line_52 : decode b_M_line 52 = .ok (.iconst 1, 1) := by decide +kernel
theorem d_M_line_53 : decode b_M_line 53 = .ok (.invokestatic 82, 3) := by decide +kernel
theorem d_M_line_56 : decode b_M_line 56 = .ok (.invokevirtual 90, 3) := by decide +kernel
theorem d_M_line_59 : decode b_M_line 59 = .ok (.ifCond .ne 5, 3) := by decide +kernel
theorem d_M_line_62 : decode b_M_line 62 = .ok (.iconst 0, 1) := by decide +kernel
theorem d_M_line_63 : decode b_M_line 63 = .ok (.ireturn, 1) := by decide +kernel
theorem d_M_line_64 : decode b_M_line 64 = .ok (.iload_n 2, 1) := by decide +kernel
theorem d_M_line_65 : decode b_M_line 65 = .ok (.istore 5, 2) := by decide +kernel
theorem d_M_line_67 : decode b_M_line 67 = .ok (.aload_n 0, 1) := by decide +kernel
theorem d_M_line_68 : decode b_M_line 68 = .ok (.getfield 39, 3) := by decide +kernel
theorem d_M_line_71 : decode b_M_line 71 = .ok (.iload_n 1, 1) := by decide +kernel
theorem d_M_line_72 : decode b_M_line 72 = .ok (.iaload, 1) := by decide +kernel
theorem d_M_line_73 : decode b_M_line 73 = .ok (.istore 6, 2) := by decide +kernel
theorem d_M_line_75 : decode b_M_line 75 = .ok (.aload_n 0, 1) := by decide +kernel
theorem d_M_line_76 : decode b_M_line 76 = .ok (.aload_n 0, 1) := by decide +kernel
theorem d_M_line_77 : decode b_M_line 77 = .ok (.getfield 36, 3) := by decide +kernel
theorem d_M_line_80 : decode b_M_line 80 = .ok (.iload_n 1, 1) := by decide +kernel
theorem d_M_line_81 : decode b_M_line 81 = .ok (.iaload, 1) := by decide +kernel
theorem d_M_line_82 : decode b_M_line 82 = .ok (.iload 6, 2) := by decide +kernel
theorem d_M_line_84 : decode b_M_line 84 = .ok (.aload_n 0, 1) := by decide +kernel
theorem d_M_line_85 : decode b_M_line 85 = .ok (.getfield 42, 3) := by decide +kernel
theorem d_M_line_88 : decode b_M_line 88 = .ok (.iload_n 1, 1) := by decide +kernel
theorem d_M_line_89 : decode b_M_line 89 = .ok (.iaload, 1) := by decide +kernel
theorem d_M_line_90 : decode b_M_line 90 = .ok (.iload 6, 2) := by decide +kernel
theorem d_M_line_92 : decode b_M_line 92 = .ok (.iload_n 1, 1) := by decide +kernel
theorem d_M_line_93 : decode b_M_line 93 = .ok (.invokevirtual 123, 3) := by decide +kernel
theorem d_M_line_96 : decode b_M_line 96 = .ok (.ifCond .ne 9, 3) := by decide +kernel
theorem d_M_line_99 : decode b_M_line 99 = .ok (.iinc 6 1, 3) := by decide +kernel
theorem d_M_line_102 : decode b_M_line 102 = .ok (.goto (-27), 3) := by decide +kernel
theorem d_M_line_105 : decode b_M_line 105 = .ok (.iload 6, 2) := by decide +kernel
theorem d_M_line_107 : decode b_M_line 107 = .ok (.istore 7, 2) := by decide +kernel
theorem d_M_line_109 : decode b_M_line 109 = .ok (.iload 7, 2) := by decide +kernel
theorem d_M_line_111 : decode b_M_line 111 = .ok (.aload_n 0, 1) := by decide +kernel
theorem d_M_line_112 : decode b_M_line 112 = .ok (.getfield 45, 3) := by decide +kernel
theorem d_M_line_115 : decode b_M_line 115 = .ok (.iload_n 1, 1) := by decide +kernel
theorem d_M_line_116 : decode b_M_line 116 = .ok (.iaload, 1) := by decide +kernel
theorem d_M_line_117 : decode b_M_line 117 = .ok (.if_icmp .gt 33, 3) := by decide +kernel
theorem d_M_line_120 : decode b_M_line 120 = .ok (.aload_n 0, 1) := by decide +kernel
theorem d_M_line_121 : decode b_M_line 121 = .ok (.aload_n 0, 1) := by decide +kernel
theorem d_M_line_122 : decode b_M_line 122 = .ok (.getfield 36, 3) := by decide +kernel
theorem d_M_line_125 : decode b_M_line 125 = .ok (.iload_n 1, 1) := by decide +kernel
theorem d_M_line_126 : decode b_M_line 126 = .ok (.iaload, 1) := by decide +kernel
theorem d_M_line_127 : decode b_M_line 127 = .ok (.iload 7, 2) := by decide +kernel
theorem d_M_line_129 : decode b_M_line 129 = .ok (.aload_n 0, 1) := by decide +kernel
theorem d_M_line_130 : decode b_M_line 130 = .ok (.getfield 42, 3) := by decide +kernel
theorem d_M_line_133 : decode b_M_line 133 = .ok (.iload_n 1, 1) := by decide +kernel
theorem d_M_line_134 : decode b_M_line 134 = .ok (.iaload, 1) := by decide +kernel
theorem d_M_line_135 : decode b_M_line 135 = .ok (.iload 7, 2) := by decide +kernel
theorem d_M_line_137 : decode b_M_line 137 = .ok (.iload_n 1, 1) := by decide +kernel
theorem d_M_line_138 : decode b_M_line 138 = .ok (.invokevirtual 123, 3) := by decide +kernel
theorem d_M_line_141 : decode b_M_line 141 = .ok (.ifCond .le 9, 3) := by decide +kernel
theorem d_M_line_144 : decode b_M_line 144 = .ok (.iinc 7 1, 3) := by decide +kernel
theorem d_M_line_147 : decode b_M_line 147 = .ok (.goto (-38), 3) := by decide +kernel
theorem d_M_line_150 : decode b_M_line 150 = .ok (.iload 5, 2) := by decide +kernel
theorem d_M_line_152 : decode b_M_line 152 = .ok (.ifCond .ne 18, 3) := by decide +kernel
theorem d_M_line_155 : decode b_M_line 155 = .ok (.iload_n 3, 1) := by decide +kernel
theorem d_M_line_156 : decode b_M_line 156 = .ok (.ifCond .ne 8, 3) := by decide +kernel
theorem d_M_line_159 : decode b_M_line 159 = .ok (.iload 6, 2) := by decide +kernel
theorem d_M_line_161 : decode b_M_line 161 = .ok (.goto 8, 3) := by decide +kernel
theorem d_M_line_164 : decode b_M_line 164 = .ok (.iload 7, 2) := by decide +kernel
theorem d_M_line_166 : decode b_M_line 166 = .ok (.iload 6, 2) := by decide +kernel
theorem d_M_line_168 : decode b_M_line 168 = .ok (.isub, 1) := by decide +kernel
theorem d_M_line_169 : decode b_M_line 169 = .ok (.ireturn, 1) := by decide +kernel
theorem d_M_line_170 : decode b_M_line 170 = .ok (.iinc 5 (-1), 3) := by decide +kernel
theorem d_M_line_173 : decode b_M_line 173 = .ok (.iload 7, 2) := by decide +kernel
theorem d_M_line_175 : decode b_M_line 175 = .ok (.istore 6, 2) := by decide +kernel
theorem d_M_line_177 : decode b_M_line 177 = .ok (.goto (-102), 3) := by decide +kernel
end
section
theorem d_M_order_0 : decode b_M_order 0 = .ok (.aload_n 0, 1) := by decide +kernel
theorem d_M_order_1 : decode b_M_order 1 = .ok (.aload_n 0, 1) := by decide +kernel
theorem d_M_order_2 : decode b_M_order 2 = .ok (.getfield 94, 3) := by decide +kernel
theorem d_M_order_5 : decode b_M_order 5 = .ok (.iload_n 1, 1) := by decide +kernel
theorem d_M_order_6 : decode b_M_order 6 = .ok (.iconst 0, 1) := by decide +kernel
theorem d_M_order_7 : decode b_M_order 7 = .ok (.aload_n 0, 1) := by decide +kernel
theorem d_M_order_8 : decode b_M_order 8 = .ok (.getfield 116, 3) := by decide +kernel
theorem d_M_order_11 : decode b_M_order 11 = .ok (.iconst 1, 1) := by decide +kernel
theorem d_M_order_12 : decode b_M_order 12 = .ok (.isub, 1) := by decide +kernel
theorem d_M_order_13 : decode b_M_order 13 = .ok (.invokestatic 82, 3) := by decide +kernel
theorem d_M_order_16 : decode b_M_order 16 = .ok (.iconst 1, 1) := by decide +kernel
theorem d_M_order_17 : decode b_M_order 17 = .ok (.invokevirtual 90, 3) := by decide +kernel
theorem d_M_order_20 : decode b_M_order 20 = .ok (.ifCond .eq 12, 3) := by decide +kernel
theorem d_M_order_23 : decode b_M_order 23 = .ok (.aload_n 0, 1) := by decide +kernel
theorem d_M_order_24 : decode b_M_order 24 = .ok (.getfield 51, 3) := by decide +kernel
theorem d_M_order_27 : decode b_M_order 27 = .ok (.iload_n 1, 1) := by decide +kernel
theorem d_M_order_28 : decode b_M_order 28 = .ok (.iaload, 1) := by decide +kernel
theorem d_M_order_29 : decode b_M_order 29 = .ok (.goto 4, 3) := by decide +kernel
theorem d_M_order_32 : decode b_M_order 32 = .ok (.iconst 0, 1) := by decide +kernel
theorem d_M_order_33 : decode b_M_order 33 = .ok (.ireturn, 1) := by decide +kernel
theorem d_M_cover_0 : decode b_M_cover 0 = .ok (.aload_n 0, 1) := by decide +kernel
theorem d_M_cover_1 : decode b_M_cover 1 = .ok (.aload_n 0, 1) := by decide +kernel
theorem d_M_cover_2 : decode b_M_cover 2 = .ok (.getfield 94, 3) := by decide +kernel
theorem d_M_cover_5 : decode b_M_cover 5 = .ok (.iload_n 1, 1) := by decide +kernel
theorem d_M_cover_6 : decode b_M_cover 6 = .ok (.iconst 0, 1) := by decide +kernel
theorem d_M_cover_7 : decode b_M_cover 7 = .ok (.aload_n 0, 1) := by decide +kernel
theorem d_M_cover_8 : decode b_M_cover 8 = .ok (.getfield 127, 3) := by decide +kernel
theorem d_M_cover_11 : decode b_M_cover 11 = .ok (.iconst 1, 1) := by decide +kernel
theorem d_M_cover_12 : decode b_M_cover 12 = .ok (.isub, 1) := by decide +kernel
theorem d_M_cover_13 : decode b_M_cover 13 = .ok (.invokestatic 82, 3) := by decide +kernel
theorem d_M_cover_16 : decode b_M_cover 16 = .ok (.iload_n 2, 1) := by decide +kernel
theorem d_M_cover_17 : decode b_M_cover 17 = .ok (.iconst 0, 1) := by decide +kernel
theorem d_M_cover_18 : decode b_M_cover 18 = .ok (.iconst 3, 1) := by decide +kernel
theorem d_M_cover_19 : decode b_M_cover 19 = .ok (.invokestatic 82, 3) := by decide +kernel
theorem d_M_cover_22 : decode b_M_cover 22 = .ok (.invokevirtual 90, 3) := by decide +kernel
theorem d_M_cover_25 : decode b_M_cover 25 = .ok (.ifCond .eq 16, 3) := by decide +kernel
theorem d_M_cover_28 : decode b_M_cover 28 = .ok (.aload_n 0, 1) := by decide +kernel
theorem d_M_cover_29 : decode b_M_cover 29 = .ok (.getfield 54, 3) := by decide +kernel
theorem d_M_cover_32 : decode b_M_cover 32 = .ok (.iconst 4, 1) := by decide +kernel
theorem d_M_cover_33 : decode b_M_cover 33 = .ok (.iload_n 1, 1) := by decide +kernel
theorem d_M_cover_34 : decode b_M_cover 34 = .ok (.imul, 1) := by decide +kernel
theorem d_M_cover_35 : decode b_M_cover 35 = .ok (.iload_n 2, 1) := by decide +kernel
theorem d_M_cover_36 : decode b_M_cover 36 = .ok (.iadd, 1) := by decide +kernel
theorem d_M_cover_37 : decode b_M_cover 37 = .ok (.iaload, 1) := by decide +kernel
theorem d_M_cover_38 : decode b_M_cover 38 = .ok (.goto 4, 3) := by decide +kernel
theorem d_M_cover_41 : decode b_M_cover 41 = .ok (.iconst 0, 1) := by decide +kernel
theorem d_M_cover_42 : decode b_M_cover 42 = .ok (.ireturn, 1) := by decide +kernel
theorem d_M_strip_0 : decode b_M_strip 0 = .ok (.aload_n 0, 1) := by decide +kernel
theorem d_M_strip_1 : decode b_M_strip 1 = .ok (.aload_n 0, 1) := by decide +kernel
theorem d_M_strip_2 : decode b_M_strip 2 = .ok (.getfield 94, 3) := by decide +kernel
theorem d_M_strip_5 : decode b_M_strip 5 = .ok (.iload_n 1, 1) := by decide +kernel
theorem d_M_strip_6 : decode b_M_strip 6 = .ok (.iconst 0, 1) := by decide +kernel
theorem d_M_strip_7 : decode b_M_strip 7 = .ok (.aload_n 0, 1) := by decide +kernel
theorem d_M_strip_8 : decode b_M_strip 8 = .ok (.getfield 73, 3) := by decide +kernel
theorem d_M_strip_11 : decode b_M_strip 11 = .ok (.iconst 1, 1) := by decide +kernel
theorem d_M_strip_12 : decode b_M_strip 12 = .ok (.isub, 1) := by decide +kernel
theorem d_M_strip_13 : decode b_M_strip 13 = .ok (.invokestatic 82, 3) := by decide +kernel
theorem d_M_strip_16 : decode b_M_strip 16 = .ok (.iconst 1, 1) := by decide +kernel
theorem d_M_strip_17 : decode b_M_strip 17 = .ok (.invokevirtual 90, 3) := by decide +kernel
theorem d_M_strip_20 : decode b_M_strip 20 = .ok (.ifCond .eq 12, 3) := by decide +kernel
theorem d_M_strip_23 : decode b_M_strip 23 = .ok (.aload_n 0, 1) := by decide +kernel
theorem d_M_strip_24 : decode b_M_strip 24 = .ok (.getfield 57, 3) := by decide +kernel
theorem d_M_strip_27 : decode b_M_strip 27 = .ok (.iload_n 1, 1) := by decide +kernel
theorem d_M_strip_28 : decode b_M_strip 28 = .ok (.iaload, 1) := by decide +kernel
theorem d_M_strip_29 : decode b_M_strip 29 = .ok (.goto 4, 3) := by decide +kernel
theorem d_M_strip_32 : decode b_M_strip 32 = .ok (.iconst 0, 1) := by decide +kernel
theorem d_M_strip_33 : decode b_M_strip 33 = .ok (.ireturn, 1) := by decide +kernel
theorem d_M_cell_0 : decode b_M_cell 0 = .ok (.aload_n 0, 1) := by decide +kernel
theorem d_M_cell_1 : decode b_M_cell 1 = .ok (.aload_n 0, 1) := by decide +kernel
theorem d_M_cell_2 : decode b_M_cell 2 = .ok (.getfield 94, 3) := by decide +kernel
theorem d_M_cell_5 : decode b_M_cell 5 = .ok (.iload_n 1, 1) := by decide +kernel
theorem d_M_cell_6 : decode b_M_cell 6 = .ok (.iconst 0, 1) := by decide +kernel
theorem d_M_cell_7 : decode b_M_cell 7 = .ok (.aload_n 0, 1) := by decide +kernel
theorem d_M_cell_8 : decode b_M_cell 8 = .ok (.getfield 137, 3) := by decide +kernel
theorem d_M_cell_11 : decode b_M_cell 11 = .ok (.iconst 1, 1) := by decide +kernel
theorem d_M_cell_12 : decode b_M_cell 12 = .ok (.isub, 1) := by decide +kernel
theorem d_M_cell_13 : decode b_M_cell 13 = .ok (.invokestatic 82, 3) := by decide +kernel
theorem d_M_cell_16 : decode b_M_cell 16 = .ok (.iload_n 2, 1) := by decide +kernel
theorem d_M_cell_17 : decode b_M_cell 17 = .ok (.iconst 0, 1) := by decide +kernel
theorem d_M_cell_18 : decode b_M_cell 18 = .ok (.iconst 4, 1) := by decide +kernel
theorem d_M_cell_19 : decode b_M_cell 19 = .ok (.invokestatic 82, 3) := by decide +kernel
theorem d_M_cell_22 : decode b_M_cell 22 = .ok (.invokevirtual 90, 3) := by decide +kernel
theorem d_M_cell_25 : decode b_M_cell 25 = .ok (.ifCond .ne 5, 3) := by decide +kernel
theorem d_M_cell_28 : decode b_M_cell 28 = .ok (.iconst 0, 1) := by decide +kernel
theorem d_M_cell_29 : decode b_M_cell 29 = .ok (.ireturn, 1) := by decide +kernel
theorem d_M_cell_30 : decode b_M_cell 30 = .ok (.bipush 24, 2) := by decide +kernel
theorem d_M_cell_32 : decode b_M_cell 32 = .ok (.istore_n 3, 1) := by decide +kernel
theorem d_M_cell_33 : decode b_M_cell 33 = .ok (.iconst 0, 1) := by decide +kernel
theorem d_M_cell_34 : decode b_M_cell 34 = .ok (.istore 4, 2) := by decide +kernel
theorem d_M_cell_36 : decode b_M_cell 36 = .ok (.bipush 24, 2) := by decide +kernel
theorem d_M_cell_38 : decode b_M_cell 38 = .ok (.istore 5, 2) := by decide +kernel
theorem d_M_cell_40 : decode b_M_cell 40 = .ok (.iconst 0, 1) := by decide +kernel
theorem d_M_cell_41 : decode b_M_cell 41 = .ok (.istore 6, 2) := by decide +kernel
theorem d_M_cell_43 : decode b_M_cell 43 = .ok (.iconst 0, 1) := by decide +kernel
theorem d_M_cell_44 : decode b_M_cell 44 = .ok (.istore 7, 2) := by decide +kernel
theorem d_M_cell_46 : decode b_M_cell 46 = .ok (.iconst 0, 1) := by decide +kernel
theorem d_M_cell_47 : decode b_M_cell 47 = .ok (.istore 8, 2) := by decide +kernel
theorem d_M_cell_49 : decode b_M_cell 49 = .ok (.iload 8, 2) := by decide +kernel
theorem d_M_cell_51 : decode b_M_cell 51 = .ok (.aload_n 0, 1) := by decide +kernel
theorem d_M_cell_52 : decode b_M_cell 52 = .ok (.getfield 76, 3) := by decide +kernel
theorem d_M_cell_55 : decode b_M_cell 55 = .ok (.if_icmp .ge 96, 3) := by decide +kernel
theorem d_M_cell_58 : decode b_M_cell 58 = .ok (.iconst 0, 1) := by decide +kernel
theorem d_M_cell_59 : decode b_M_cell 59 = .ok (.istore 9, 2) := by decide +kernel
theorem d_M_cell_61 : decode b_M_cell 61 = .ok (.iload 9, 2) := by decide +kernel
theorem d_M_cell_63 : decode b_M_cell 63 = .ok (.aload_n 0, 1) := by decide +kernel
theorem d_M_cell_64 : decode b_M_cell 64 = .ok (.getfield 73, 3) := by decide +kernel
theorem d_M_cell_67 : decode b_M_cell 67 = .ok (.if_icmp .ge 78, 3) := by decide +kernel
theorem d_M_cell_70 : decode b_M_cell 70 = .ok (.aload_n 0, 1) := by decide +kernel
theorem d_M_cell_71 : decode b_M_cell 71 = .ok (.getfield 60, 3) := by decide +kernel
theorem d_M_cell_74 : decode b_M_cell 74 = .ok (.bipush 24, 2) := by decide +kernel
theorem d_M_cell_76 : decode b_M_cell 76 = .ok (.iload 8, 2) := by decide +kernel
theorem d_M_cell_78 : decode b_M_cell 78 = .ok (.imul, 1) := by decide +kernel
theorem d_M_cell_79 : decode b_M_cell 79 = .ok (.iload 9, 2) := by decide +kernel
theorem d_M_cell_81 : decode b_M_cell 81 = .ok (.iadd, 1) := by decide +kernel
theorem d_M_cell_82 : decode b_M_cell 82 = .ok (.iaload, 1) := by decide +kernel
theorem d_M_cell_83 : decode b_M_cell 83 = .ok (.iload_n 1, 1) := by decide +kernel
theorem d_M_cell_84 : decode b_M_cell 84 = .ok (.if_icmp .ne 55, 3) := by decide +kernel
theorem d_M_cell_87 : decode b_M_cell 87 = .ok (.iload 9, 2) := by decide +kernel
theorem d_M_cell_89 : decode b_M_cell 89 = .ok (.iload_n 3, 1) := by decide +kernel
theorem d_M_cell_90 : decode b_M_cell 90 = .ok (.if_icmp .ge 8, 3) := by decide +kernel
theorem d_M_cell_93 : decode b_M_cell 93 = .ok (.iload 9, 2) := by decide +kernel
theorem d_M_cell_95 : decode b_M_cell 95 = .ok (.goto 4, 3) := by decide +kernel
theorem d_M_cell_98 : decode b_M_cell 98 = .ok (.iload_n 3, 1) := by decide +kernel
theorem d_M_cell_99 : decode b_M_cell 99 = .ok (.istore_n 3, 1) := by decide +kernel
theorem d_M_cell_100 : decode b_M_cell 100 = .ok (.iload 9, 2) := by decide +kernel
theorem d_M_cell_102 : decode b_M_cell 102 = .ok (.iload 4, 2) := by decide +kernel
theorem d_M_cell_104 : decode b_M_cell 104 = .ok (.if_icmp .le 8, 3) := by decide +kernel
theorem d_M_cell_107 : decode b_M_cell 107 = .ok (.iload 9, 2) := by decide +kernel
theorem d_M_cell_109 : decode b_M_cell 109 = .ok (.goto 5, 3) := by decide +kernel
theorem d_M_cell_112 : decode b_M_cell 112 = .ok (.iload 4, 2) := by decide +kernel
theorem d_M_cell_114 : decode b_M_cell 114 = .ok (.istore 4, 2) := by decide +kernel
theorem d_M_cell_116 : decode b_M_cell 116 = .ok (.iload 8, 2) := by decide +kernel
theorem d_M_cell_118 : decode b_M_cell 118 = .ok (.iload 5, 2) := by decide +kernel
theorem d_M_cell_120 : decode b_M_cell 120 = .ok (.if_icmp .ge 8, 3) := by decide +kernel
theorem d_M_cell_123 : decode b_M_cell 123 = .ok (.iload 8, 2) := by decide +kernel
theorem d_M_cell_125 : decode b_M_cell 125 = .ok (.goto 5, 3) := by decide +kernel
theorem d_M_cell_128 : decode b_M_cell 128 = .ok (.iload 5, 2) := by decide +kernel
theorem d_M_cell_130 : decode b_M_cell 130 = .ok (.istore 5, 2) := by decide +kernel
theorem d_M_cell_132 : decode b_M_cell 132 = .ok (.iload 8, 2) := by decide +kernel
theorem d_M_cell_134 : decode b_M_cell 134 = .ok (.istore 6, 2) := by decide +kernel
theorem d_M_cell_136 : decode b_M_cell 136 = .ok (.iinc 7 1, 3) := by decide +kernel
theorem d_M_cell_139 : decode b_M_cell 139 = .ok (.iinc 9 1, 3) := by decide +kernel
theorem d_M_cell_142 : decode b_M_cell 142 = .ok (.goto (-81), 3) := by decide +kernel
theorem d_M_cell_145 : decode b_M_cell 145 = .ok (.iinc 8 1, 3) := by decide +kernel
theorem d_M_cell_148 : decode b_M_cell 148 = .ok (.goto (-99), 3) := by decide +kernel
theorem d_M_cell_151 : decode b_M_cell 151 = .ok (.iload_n 2, 1) := by decide +kernel
theorem d_M_cell_152 : decode b_M_cell 152 = .ok (.ifCond .ne 7, 3) := by decide +kernel
theorem d_M_cell_155 : decode b_M_cell 155 = .ok (.iload_n 3, 1) := by decide +kernel
theorem d_M_cell_156 : decode b_M_cell 156 = .ok (.goto 44, 3) := by decide +kernel
theorem d_M_cell_159 : decode b_M_cell 159 = .ok (.iload_n 2, 1) := by decide +kernel
theorem d_M_cell_160 : decode b_M_cell 160 = .ok (.iconst 1, 1) := by decide +kernel
theorem d_M_cell_161 : decode b_M_cell 161 = .ok (.if_icmp .ne 8, 3) := by decide +kernel
theorem d_M_cell_164 : decode b_M_cell 164 = .ok (.iload 5, 2) := by decide +kernel
theorem d_M_cell_166 : decode b_M_cell 166 = .ok (.goto 34, 3) := by decide +kernel
theorem d_M_cell_169 : decode b_M_cell 169 = .ok (.iload_n 2, 1) := by decide +kernel
theorem d_M_cell_170 : decode b_M_cell 170 = .ok (.iconst 2, 1) := by decide +kernel
theorem d_M_cell_171 : decode b_M_cell 171 = .ok (.if_icmp .ne 12, 3) := by decide +kernel
theorem d_M_cell_174 : decode b_M_cell 174 = .ok (.iload 4, 2) := by decide +kernel
theorem d_M_cell_176 : decode b_M_cell 176 = .ok (.iload_n 3, 1) := by decide +kernel
theorem d_M_cell_177 : decode b_M_cell 177 = .ok (.isub, 1) := by decide +kernel
theorem d_M_cell_178 : decode b_M_cell 178 = .ok (.iconst 1, 1) := by decide +kernel
theorem d_M_cell_179 : decode b_M_cell 179 = .ok (.iadd, 1) := by decide +kernel
theorem d_M_cell_180 : decode b_M_cell 180 = .ok (.goto 20, 3) := by decide +kernel
theorem d_M_cell_183 : decode b_M_cell 183 = .ok (.iload_n 2, 1) := by decide +kernel
theorem d_M_cell_184 : decode b_M_cell 184 = .ok (.iconst 3, 1) := by decide +kernel
theorem d_M_cell_185 : decode b_M_cell 185 = .ok (.if_icmp .ne 13, 3) := by decide +kernel
theorem d_M_cell_188 : decode b_M_cell 188 = .ok (.iload 6, 2) := by decide +kernel
theorem d_M_cell_190 : decode b_M_cell 190 = .ok (.iload 5, 2) := by decide +kernel
theorem d_M_cell_192 : decode b_M_cell 192 = .ok (.isub, 1) := by decide +kernel
theorem d_M_cell_193 : decode b_M_cell 193 = .ok (.iconst 1, 1) := by decide +kernel
theorem d_M_cell_194 : decode b_M_cell 194 = .ok (.iadd, 1) := by decide +kernel
theorem d_M_cell_195 : decode b_M_cell 195 = .ok (.goto 5, 3) := by decide +kernel
theorem d_M_cell_198 : decode b_M_cell 198 = .ok (.iload 7, 2) := by decide +kernel
theorem d_M_cell_200 : decode b_M_cell 200 = .ok (.ireturn, 1) := by decide +kernel
theorem d_M_isSpeck_0 : decode b_M_isSpeck 0 = .ok (.aload_n 0, 1) := by decide +kernel
theorem d_M_isSpeck_1 : decode b_M_isSpeck 1 = .ok (.aload_n 0, 1) := by decide +kernel
theorem d_M_isSpeck_2 : decode b_M_isSpeck 2 = .ok (.getfield 94, 3) := by decide +kernel
theorem d_M_isSpeck_5 : decode b_M_isSpeck 5 = .ok (.aload_n 0, 1) := by decide +kernel
theorem d_M_isSpeck_6 : decode b_M_isSpeck 6 = .ok (.iload_n 1, 1) := by decide +kernel
theorem d_M_isSpeck_7 : decode b_M_isSpeck 7 = .ok (.iload_n 2, 1) := by decide +kernel
theorem d_M_isSpeck_8 : decode b_M_isSpeck 8 = .ok (.invokevirtual 86, 3) := by decide +kernel
theorem d_M_isSpeck_11 : decode b_M_isSpeck 11 = .ok (.iconst 1, 1) := by decide +kernel
theorem d_M_isSpeck_12 : decode b_M_isSpeck 12 = .ok (.invokevirtual 90, 3) := by decide +kernel
theorem d_M_isSpeck_15 : decode b_M_isSpeck 15 = .ok (.ifCond .eq 21, 3) := by decide +kernel
theorem d_M_isSpeck_18 : decode b_M_isSpeck 18 = .ok (.aload_n 0, 1) := by decide +kernel
theorem d_M_isSpeck_19 : decode b_M_isSpeck 19 = .ok (.getfield 17, 3) := by decide +kernel
theorem d_M_isSpeck_22 : decode b_M_isSpeck 22 = .ok (.bipush 24, 2) := by decide +kernel
theorem d_M_isSpeck_24 : decode b_M_isSpeck 24 = .ok (.iload_n 2, 1) := by decide +kernel
theorem d_M_isSpeck_25 : decode b_M_isSpeck 25 = .ok (.imul, 1) := by decide +kernel
theorem d_M_isSpeck_26 : decode b_M_isSpeck 26 = .ok (.iload_n 1, 1) := by decide +kernel
theorem d_M_isSpeck_27 : decode b_M_isSpeck 27 = .ok (.iadd, 1) := by decide +kernel
theorem d_M_isSpeck_28 : decode b_M_isSpeck 28 = .ok (.baload, 1) := by decide +kernel
theorem d_M_isSpeck_29 : decode b_M_isSpeck 29 = .ok (.ifCond .eq 7, 3) := by decide +kernel
theorem d_M_isSpeck_32 : decode b_M_isSpeck 32 = .ok (.iconst 1, 1) := by decide +kernel
theorem d_M_isSpeck_33 : decode b_M_isSpeck 33 = .ok (.goto 4, 3) := by decide +kernel
theorem d_M_isSpeck_36 : decode b_M_isSpeck 36 = .ok (.iconst 0, 1) := by decide +kernel
theorem d_M_isSpeck_37 : decode b_M_isSpeck 37 = .ok (.ireturn, 1) := by decide +kernel
theorem d_M_told_0 : decode b_M_told 0 = .ok (.aload_n 0, 1) := by decide +kernel
theorem d_M_told_1 : decode b_M_told 1 = .ok (.iconst 0, 1) := by decide +kernel
theorem d_M_told_2 : decode b_M_told 2 = .ok (.putfield 79, 3) := by decide +kernel
theorem d_M_told_5 : decode b_M_told 5 = .ok (.iconst 0, 1) := by decide +kernel
theorem d_M_told_6 : decode b_M_told 6 = .ok (.istore_n 2, 1) := by decide +kernel
theorem d_M_told_7 : decode b_M_told 7 = .ok (.iconst 0, 1) := by decide +kernel
theorem d_M_told_8 : decode b_M_told 8 = .ok (.istore_n 3, 1) := by decide +kernel
theorem d_M_told_9 : decode b_M_told 9 = .ok (.iconst 0, 1) := by decide +kernel
theorem d_M_told_10 : decode b_M_told 10 = .ok (.istore 4, 2) := by decide +kernel
theorem d_M_told_12 : decode b_M_told 12 = .ok (.iload 4, 2) := by decide +kernel
theorem d_M_told_14 : decode b_M_told 14 = .ok (.aload_n 0, 1) := by decide +kernel
theorem d_M_told_15 : decode b_M_told 15 = .ok (.getfield 76, 3) := by decide +kernel
theorem d_M_told_18 : decode b_M_told 18 = .ok (.if_icmp .ge 82, 3) := by decide +kernel
theorem d_M_told_21 : decode b_M_told 21 = .ok (.iconst 0, 1) := by decide +kernel
theorem d_M_told_22 : decode b_M_told 22 = .ok (.istore 5, 2) := by decide +kernel
theorem d_M_told_24 : decode b_M_told 24 = .ok (.iload 5, 2) := by decide +kernel
theorem d_M_told_26 : decode b_M_told 26 = .ok (.aload_n 0, 1) := by decide +kernel
theorem d_M_told_27 : decode b_M_told 27 = .ok (.getfield 73, 3) := by decide +kernel
theorem d_M_told_30 : decode b_M_told 30 = .ok (.if_icmp .ge 64, 3) := by decide +kernel
theorem d_M_told_33 : decode b_M_told 33 = .ok (.aload_n 0, 1) := by decide +kernel
theorem d_M_told_34 : decode b_M_told 34 = .ok (.getfield 7, 3) := by decide +kernel
theorem d_M_told_37 : decode b_M_told 37 = .ok (.bipush 24, 2) := by decide +kernel
theorem d_M_told_39 : decode b_M_told 39 = .ok (.iload 4, 2) := by decide +kernel
theorem d_M_told_41 : decode b_M_told 41 = .ok (.imul, 1) := by decide +kernel
theorem d_M_told_42 : decode b_M_told 42 = .ok (.iload 5, 2) := by decide +kernel
theorem d_M_told_44 : decode b_M_told 44 = .ok (.iadd, 1) := by decide +kernel
theorem d_M_told_45 : decode b_M_told 45 = .ok (.baload, 1) := by decide +kernel
theorem d_M_told_46 : decode b_M_told 46 = .ok (.ifCond .eq 9, 3) := by decide +kernel
theorem d_M_told_49 : decode b_M_told 49 = .ok (.iload_n 2, 1) := by decide +kernel
theorem d_M_told_50 : decode b_M_told 50 = .ok (.iconst 1, 1) := by decide +kernel
theorem d_M_told_51 : decode b_M_told 51 = .ok (.iadd, 1) := by decide +kernel
theorem d_M_told_52 : decode b_M_told 52 = .ok (.goto 4, 3) := by decide +kernel
theorem d_M_told_55 : decode b_M_told 55 = .ok (.iload_n 2, 1) := by decide +kernel
theorem d_M_told_56 : decode b_M_told 56 = .ok (.istore_n 2, 1) := by decide +kernel
theorem d_M_told_57 : decode b_M_told 57 = .ok (.aload_n 0, 1) := by decide +kernel
theorem d_M_told_58 : decode b_M_told 58 = .ok (.getfield 94, 3) := by decide +kernel
theorem d_M_told_61 : decode b_M_told 61 = .ok (.ifCond .eq 25, 3) := by decide +kernel
theorem d_M_told_64 : decode b_M_told 64 = .ok (.aload_n 0, 1) := by decide +kernel
theorem d_M_told_65 : decode b_M_told 65 = .ok (.getfield 17, 3) := by decide +kernel
theorem d_M_told_68 : decode b_M_told 68 = .ok (.bipush 24, 2) := by decide +kernel
theorem d_M_told_70 : decode b_M_told 70 = .ok (.iload 4, 2) := by decide +kernel
theorem d_M_told_72 : decode b_M_told 72 = .ok (.imul, 1) := by decide +kernel
theorem d_M_told_73 : decode b_M_told 73 = .ok (.iload 5, 2) := by decide +kernel
theorem d_M_told_75 : decode b_M_told 75 = .ok (.iadd, 1) := by decide +kernel
theorem d_M_told_76 : decode b_M_told 76 = .ok (.baload, 1) := by decide +kernel
theorem d_M_told_77 : decode b_M_told 77 = .ok (.ifCond .eq 9, 3) := by decide +kernel
theorem d_M_told_80 : decode b_M_told 80 = .ok (.iload_n 3, 1) := by decide +kernel
theorem d_M_told_81 : decode b_M_told 81 = .ok (.iconst 1, 1) := by decide +kernel
theorem d_M_told_82 : decode b_M_told 82 = .ok (.iadd, 1) := by decide +kernel
theorem d_M_told_83 : decode b_M_told 83 = .ok (.goto 4, 3) := by decide +kernel
theorem d_M_told_86 : decode b_M_told 86 = .ok (.iload_n 3, 1) := by decide +kernel
theorem d_M_told_87 : decode b_M_told 87 = .ok (.istore_n 3, 1) := by decide +kernel
theorem d_M_told_88 : decode b_M_told 88 = .ok (.iinc 5 1, 3) := by decide +kernel
theorem d_M_told_91 : decode b_M_told 91 = .ok (.goto (-67), 3) := by decide +kernel
theorem d_M_told_94 : decode b_M_told 94 = .ok (.iinc 4 1, 3) := by decide +kernel
theorem d_M_told_97 : decode b_M_told 97 = .ok (.goto (-85), 3) := by decide +kernel
theorem d_M_told_100 : decode b_M_told 100 = .ok (.iload_n 1, 1) := by decide +kernel
theorem d_M_told_101 : decode b_M_told 101 = .ok (.iconst 3, 1) := by decide +kernel
theorem d_M_told_102 : decode b_M_told 102 = .ok (.if_icmp .ge 37, 3) := by decide +kernel
theorem d_M_told_105 : decode b_M_told 105 = .ok (.iload_n 1, 1) := by decide +kernel
theorem d_M_told_106 : decode b_M_told 106 = .ok (.ifCond .ne 10, 3) := by decide +kernel
theorem d_M_told_109 : decode b_M_told 109 = .ok (.aload_n 0, 1) := by decide +kernel
theorem d_M_told_110 : decode b_M_told 110 = .ok (.getfield 73, 3) := by decide +kernel
theorem d_M_told_113 : decode b_M_told 113 = .ok (.goto 25, 3) := by decide +kernel
theorem d_M_told_116 : decode b_M_told 116 = .ok (.iload_n 1, 1) := by decide +kernel
theorem d_M_told_117 : decode b_M_told 117 = .ok (.iconst 1, 1) := by decide +kernel
theorem d_M_told_118 : decode b_M_told 118 = .ok (.if_icmp .ne 10, 3) := by decide +kernel
theorem d_M_told_121 : decode b_M_told 121 = .ok (.aload_n 0, 1) := by decide +kernel
theorem d_M_told_122 : decode b_M_told 122 = .ok (.getfield 76, 3) := by decide +kernel
theorem d_M_told_125 : decode b_M_told 125 = .ok (.goto 13, 3) := by decide +kernel
theorem d_M_told_128 : decode b_M_told 128 = .ok (.iload_n 1, 1) := by decide +kernel
theorem d_M_told_129 : decode b_M_told 129 = .ok (.iconst 2, 1) := by decide +kernel
theorem d_M_told_130 : decode b_M_told 130 = .ok (.if_icmp .ne 7, 3) := by decide +kernel
theorem d_M_told_133 : decode b_M_told 133 = .ok (.iload_n 2, 1) := by decide +kernel
theorem d_M_told_134 : decode b_M_told 134 = .ok (.goto 4, 3) := by decide +kernel
theorem d_M_told_137 : decode b_M_told 137 = .ok (.iconst (-1), 1) := by decide +kernel
theorem d_M_told_138 : decode b_M_told 138 = .ok (.ireturn, 1) := by decide +kernel
theorem d_M_told_139 : decode b_M_told 139 = .ok (.aload_n 0, 1) := by decide +kernel
theorem d_M_told_140 : decode b_M_told 140 = .ok (.getfield 94, 3) := by decide +kernel
theorem d_M_told_143 : decode b_M_told 143 = .ok (.ifCond .ne 5, 3) := by decide +kernel
theorem d_M_told_146 : decode b_M_told 146 = .ok (.iconst (-1), 1) := by decide +kernel
theorem d_M_told_147 : decode b_M_told 147 = .ok (.ireturn, 1) := by decide +kernel
theorem d_M_told_148 : decode b_M_told 148 = .ok (.iload_n 1, 1) := by decide +kernel
theorem d_M_told_149 : decode b_M_told 149 = .ok (.iconst 3, 1) := by decide +kernel
theorem d_M_told_150 : decode b_M_told 150 = .ok (.if_icmp .ne 10, 3) := by decide +kernel
theorem d_M_told_153 : decode b_M_told 153 = .ok (.aload_n 0, 1) := by decide +kernel
theorem d_M_told_154 : decode b_M_told 154 = .ok (.getfield 116, 3) := by decide +kernel
theorem d_M_told_157 : decode b_M_told 157 = .ok (.goto 51, 3) := by decide +kernel
theorem d_M_told_160 : decode b_M_told 160 = .ok (.iload_n 1, 1) := by decide +kernel
theorem d_M_told_161 : decode b_M_told 161 = .ok (.iconst 4, 1) := by decide +kernel
theorem d_M_told_162 : decode b_M_told 162 = .ok (.if_icmp .ne 10, 3) := by decide +kernel
theorem d_M_told_165 : decode b_M_told 165 = .ok (.aload_n 0, 1) := by decide +kernel
theorem d_M_told_166 : decode b_M_told 166 = .ok (.getfield 127, 3) := by decide +kernel
theorem d_M_told_169 : decode b_M_told 169 = .ok (.goto 39, 3) := by decide +kernel
theorem d_M_told_172 : decode b_M_told 172 = .ok (.iload_n 1, 1) := by decide +kernel
theorem d_M_told_173 : decode b_M_told 173 = .ok (.iconst 5, 1) := by decide +kernel
theorem d_M_told_174 : decode b_M_told 174 = .ok (.if_icmp .ne 10, 3) := by decide +kernel
theorem d_M_told_177 : decode b_M_told 177 = .ok (.aload_n 0, 1) := by decide +kernel
theorem d_M_told_178 : decode b_M_told 178 = .ok (.getfield 134, 3) := by decide +kernel
theorem d_M_told_181 : decode b_M_told 181 = .ok (.goto 27, 3) := by decide +kernel
theorem d_M_told_184 : decode b_M_told 184 = .ok (.iload_n 1, 1) := by decide +kernel
theorem d_M_told_185 : decode b_M_told 185 = .ok (.bipush 6, 2) := by decide +kernel
theorem d_M_told_187 : decode b_M_told 187 = .ok (.if_icmp .ne 10, 3) := by decide +kernel
theorem d_M_told_190 : decode b_M_told 190 = .ok (.aload_n 0, 1) := by decide +kernel
theorem d_M_told_191 : decode b_M_told 191 = .ok (.getfield 137, 3) := by decide +kernel
theorem d_M_told_194 : decode b_M_told 194 = .ok (.goto 14, 3) := by decide +kernel
theorem d_M_told_197 : decode b_M_told 197 = .ok (.iload_n 1, 1) := by decide +kernel
theorem d_M_told_198 : decode b_M_told 198 = .ok (.bipush 7, 2) := by decide +kernel
theorem d_M_told_200 : decode b_M_told 200 = .ok (.if_icmp .ne 7, 3) := by decide +kernel
theorem d_M_told_203 : decode b_M_told 203 = .ok (.iload_n 3, 1) := by decide +kernel
theorem d_M_told_204 : decode b_M_told 204 = .ok (.goto 4, 3) := by decide +kernel
theorem d_M_told_207 : decode b_M_told 207 = .ok (.iconst (-1), 1) := by decide +kernel
theorem d_M_told_208 : decode b_M_told 208 = .ok (.ireturn, 1) := by decide +kernel
end
section
def L_A_fill_5 (fb : Nat) (post : zS → Prop) (v1 : Int32) (v3 : Int32) : Nat → Int32 → zS → Prop
  | 0, _, _ => False
  | n + 1, v2, S =>
    (v3 ≤ v2 →
    post S) ∧
    (¬ v3 ≤ v2 →
    vp_in v2 576 ∧ ∀ S13 : zS, S13 = z_su S fb (z_ix v2) v1 → ∀ x14 : Int32, x14 = v2 + 1 → L_A_fill_5 fb post v1 v3 n x14 S13)
def P_A_fill (fb : Nat) (v1 : Int32) (S : zS) (post : zS → Prop) : Prop :=
    ∃ k5, L_A_fill_5 fb post v1 576 k5 0 S
def P_P_nearestSide (v0 : Int32) (S : zS) (post : Int32 → zS → Prop) : Prop :=
    post (if 1 < (if v0 < 24 then v0 else 24) then (if v0 < 24 then v0 else 24) else 1) S
def P_P_mustBeSample (v1 : Int32) (v2 : Int32) (S : zS) (post : zS → Prop) : Prop :=
    (v1 < 0 →
    False) ∧
    (¬ v1 < 0 →
    ((S 0 0) ≤ v1 →
    False) ∧
    (¬ (S 0 0) ≤ v1 →
    (v2 < 0 →
    False) ∧
    (¬ v2 < 0 →
    (v2 < (S 0 1) →
    post S) ∧
    (¬ v2 < (S 0 1) →
    False))))
def P_P_paint (v1 : Int32) (v2 : Int32) (v3 : Int32) (S : zS) (post : Int32 → zS → Prop) : Prop :=
    ∀ x6 : Int32, x6 = ((v2 * 24) + v1) → vp_in x6 576 ∧ (¬ (S 1 (z_ix x6)) = v3 →
    vp_in x6 576 ∧ z_bo v3 ∧ ∀ S28 : zS, S28 = z_su S 1 (z_ix x6) v3 → (v3 = 0 →
    ∀ S44 : zS, S44 = z_su S28 0 10 ((S28 0 10) + (-1)) → post 1 S44) ∧
    (¬ v3 = 0 →
    ∀ S44 : zS, S44 = z_su S28 0 10 ((S28 0 10) + 1) → post 1 S44)) ∧
    ((S 1 (z_ix x6)) = v3 →
    post 0 S)
def P_P_put (v1 : Int32) (v2 : Int32) (v3 : Int32) (S : zS) (post : Int32 → zS → Prop) : Prop :=
    P_P_mustBeSample v1 v2 S (fun S3 =>
    ∀ S8 : zS, S8 = z_su S3 0 14 0 → P_P_paint v1 v2 v3 S8 (fun r15 S15 =>
    z_bo r15 ∧ post r15 S15))
def L_P_fill_77 (post : Int32 → zS → Prop) (K106 : Int32 → zS → Prop) (v1 : Int32) (v5 : Int32) (v6 : Int32) (v7 : Int32) (v9 : Int32) : Nat → Int32 → Int32 → zS → Prop
  | 0, _, _, _ => False
  | n + 1, v8, v10, S =>
    (v6 ≤ v10 →
    K106 v8 S) ∧
    (¬ v6 ≤ v10 →
    P_P_paint v10 v9 v5 S (fun r91 S91 =>
    (r91 = 0 →
    ∀ x100 : Int32, x100 = v10 + 1 → L_P_fill_77 post K106 v1 v5 v6 v7 v9 n v8 x100 S91) ∧
    (¬ r91 = 0 →
    ∀ x97 : Int32, x97 = v8 + 1 → ∀ x100 : Int32, x100 = v10 + 1 → L_P_fill_77 post K106 v1 v5 v6 v7 v9 n x97 x100 S91)))
def L_P_fill_67 (post : Int32 → zS → Prop) (v1 : Int32) (v5 : Int32) (v6 : Int32) (v7 : Int32) : Nat → Int32 → Int32 → zS → Prop
  | 0, _, _, _ => False
  | n + 1, v8, v9, S =>
    (v7 ≤ v9 →
    post v8 S) ∧
    (¬ v7 ≤ v9 →
    ∃ k77, L_P_fill_77 post (fun v8_77e S77e =>
    ∀ x106 : Int32, x106 = v9 + 1 → L_P_fill_67 post v1 v5 v6 v7 n v8_77e x106 S77e) v1 v5 v6 v7 v9 k77 v8 v1 S)
def P_P_fill (v1 : Int32) (v2 : Int32) (v3 : Int32) (v4 : Int32) (v5 : Int32) (S : zS) (post : Int32 → zS → Prop) : Prop :=
    P_P_mustBeSample v1 v2 S (fun S3 =>
    (v3 < 1 →
    False) ∧
    (¬ v3 < 1 →
    (1 ≤ v4 →
    ∀ S29 : zS, S29 = z_su S3 0 14 0 → ∀ x44 : Int32, x44 = (v1 + (if ((S29 0 0) - v1) < v3 then ((S29 0 0) - v1) else v3)) → ∀ x59 : Int32, x59 = (v2 + (if ((S29 0 1) - v2) < v4 then ((S29 0 1) - v2) else v4)) → ∃ k67, L_P_fill_67 post v1 v5 x44 x59 k67 0 v2 S29) ∧
    (¬ 1 ≤ v4 →
    False)))
def P_P_noise (v1 : Int32) (S : zS) (post : Int32 → zS → Prop) : Prop :=
    (v1 < 0 →
    False) ∧
    (¬ v1 < 0 →
    (v1 ≤ 100 →
    ∀ x24 : Int32, x24 = (S 0 13) → ∀ S27 : zS, S27 = z_su S 0 13 v1 → ∀ S32 : zS, S32 = z_su S27 0 14 0 → post x24 S32) ∧
    (¬ v1 ≤ 100 →
    False))
def P_G_isOpen (g : Nat) (mk : Nat) (v2 : Int32) (v3 : Int32) (v4 : Int32) (S : zS) (post : Int32 → zS → Prop) : Prop :=
    (v3 < 0 →
    post 0 S) ∧
    (¬ v3 < 0 →
    ((S g 8) ≤ v3 →
    post 0 S) ∧
    (¬ (S g 8) ≤ v3 →
    (v4 < 0 →
    post 0 S) ∧
    (¬ v4 < 0 →
    (v4 < (S g 9) →
    ∀ x35 : Int32, x35 = ((v4 * 24) + v3) → vp_in x35 576 ∧ (¬ (S mk (z_ix x35)) = v2 →
    post 0 S) ∧
    ((S mk (z_ix x35)) = v2 →
    vp_in x35 576 ∧ (¬ (S (g + 1) (z_ix x35)) = (-1) →
    post 0 S) ∧
    ((S (g + 1) (z_ix x35)) = (-1) →
    post 1 S))) ∧
    (¬ v4 < (S g 9) →
    post 0 S))))
def P_G_take (g : Nat) (v1 : Int32) (v2 : Int32) (S : zS) (post : zS → Prop) : Prop :=
    ∀ x6 : Int32, x6 = ((v2 * 24) + v1) → vp_in x6 576 ∧ ∀ S16 : zS, S16 = z_su S (g + 1) (z_ix x6) (S g 6) → vp_in (S16 g 6) 288 ∧ vp_in (S16 (g + 6) (z_ix (S16 g 6))) 576 ∧ ∀ S31 : zS, S31 = z_su S16 (g + 7) (z_ix (S16 (g + 6) (z_ix (S16 g 6)))) x6 → vp_in (S31 g 6) 288 ∧ vp_in (S31 g 6) 288 ∧ ∀ S44 : zS, S44 = z_su S31 (g + 6) (z_ix (S31 g 6)) ((S31 (g + 6) (z_ix (S31 g 6))) + 1) → vp_in (S44 g 6) 288 ∧ vp_in (S44 g 6) 288 ∧ ∀ S66 : zS, S66 = z_su S44 (g + 2) (z_ix (S44 g 6)) (if v1 < (S44 (g + 2) (z_ix (S44 g 6))) then v1 else (S44 (g + 2) (z_ix (S44 g 6)))) → vp_in (S66 g 6) 288 ∧ vp_in (S66 g 6) 288 ∧ ∀ S88 : zS, S88 = z_su S66 (g + 4) (z_ix (S66 g 6)) (if (S66 (g + 4) (z_ix (S66 g 6))) < v1 then v1 else (S66 (g + 4) (z_ix (S66 g 6)))) → vp_in (S88 g 6) 288 ∧ vp_in (S88 g 6) 288 ∧ ∀ S110 : zS, S110 = z_su S88 (g + 5) (z_ix (S88 g 6)) (if (S88 (g + 5) (z_ix (S88 g 6))) < v2 then v2 else (S88 (g + 5) (z_ix (S88 g 6)))) → post S110
def P_G_begin (g : Nat) (v1 : Int32) (v2 : Int32) (S : zS) (post : zS → Prop) : Prop :=
    vp_in (S g 6) 288 ∧ ∀ S9 : zS, S9 = z_su S (g + 2) (z_ix (S g 6)) v1 → vp_in (S9 g 6) 288 ∧ ∀ S19 : zS, S19 = z_su S9 (g + 3) (z_ix (S9 g 6)) v2 → vp_in (S19 g 6) 288 ∧ ∀ S29 : zS, S29 = z_su S19 (g + 4) (z_ix (S19 g 6)) v1 → vp_in (S29 g 6) 288 ∧ ∀ S39 : zS, S39 = z_su S29 (g + 5) (z_ix (S29 g 6)) v2 → vp_in (S39 g 6) 288 ∧ ∀ S49 : zS, S49 = z_su S39 (g + 6) (z_ix (S39 g 6)) 0 → P_G_take g v1 v2 S49 (fun S53 =>
    post S53)
def J_G_gather_109 (g : Nat) (mk : Nat) (post : zS → Prop) (K70 : Int32 → zS → Prop) (v2 : Int32) (v3 : Int32) (v4 : Int32) (v5 : Int32) (v6 : Int32) (v7 : Int32) (v8 : Int32) (S : zS) : Prop :=
    P_G_isOpen g mk v2 v8 v7 S (fun r116 S116 =>
    (r116 = 0 →
    ∀ x130 : Int32, x130 = v8 + 1 → K70 x130 S116) ∧
    (¬ r116 = 0 →
    P_G_take g v8 v7 S116 (fun S127 =>
    ∀ x130 : Int32, x130 = v8 + 1 → K70 x130 S127)))
def J_G_gather_98 (g : Nat) (mk : Nat) (post : zS → Prop) (K70 : Int32 → zS → Prop) (v2 : Int32) (v3 : Int32) (v4 : Int32) (v5 : Int32) (v6 : Int32) (v7 : Int32) (v8 : Int32) (t0 : Int32) (S : zS) : Prop :=
    (¬ t0 = 0 →
    J_G_gather_109 g mk post K70 v2 v3 v4 v5 v6 v7 v8 S) ∧
    (t0 = 0 →
    (v3 = 0 →
    ∀ x130 : Int32, x130 = v8 + 1 → K70 x130 S) ∧
    (¬ v3 = 0 →
    J_G_gather_109 g mk post K70 v2 v3 v4 v5 v6 v7 v8 S))
def J_G_gather_93 (g : Nat) (mk : Nat) (post : zS → Prop) (K70 : Int32 → zS → Prop) (v2 : Int32) (v3 : Int32) (v4 : Int32) (v5 : Int32) (v6 : Int32) (v7 : Int32) (v8 : Int32) (S : zS) : Prop :=
    J_G_gather_98 g mk post K70 v2 v3 v4 v5 v6 v7 v8 1 S
def L_G_gather_70 (g : Nat) (mk : Nat) (post : zS → Prop) (K136 : zS → Prop) (v2 : Int32) (v3 : Int32) (v4 : Int32) (v5 : Int32) (v6 : Int32) (v7 : Int32) : Nat → Int32 → zS → Prop
  | 0, _, _ => False
  | n + 1, v8, S =>
    ((v5 + 1) < v8 →
    K136 S) ∧
    (¬ (v5 + 1) < v8 →
    (v8 = v5 →
    J_G_gather_93 g mk post (L_G_gather_70 g mk post K136 v2 v3 v4 v5 v6 v7 n) v2 v3 v4 v5 v6 v7 v8 S) ∧
    (¬ v8 = v5 →
    (¬ v7 = v6 →
    J_G_gather_98 g mk post (L_G_gather_70 g mk post K136 v2 v3 v4 v5 v6 v7 n) v2 v3 v4 v5 v6 v7 v8 0 S) ∧
    (v7 = v6 →
    J_G_gather_93 g mk post (L_G_gather_70 g mk post K136 v2 v3 v4 v5 v6 v7 n) v2 v3 v4 v5 v6 v7 v8 S)))
def L_G_gather_55 (g : Nat) (mk : Nat) (post : zS → Prop) (K142 : zS → Prop) (v2 : Int32) (v3 : Int32) (v4 : Int32) (v5 : Int32) (v6 : Int32) : Nat → Int32 → zS → Prop
  | 0, _, _ => False
  | n + 1, v7, S =>
    ((v6 + 1) < v7 →
    K142 S) ∧
    (¬ (v6 + 1) < v7 →
    ∀ x68 : Int32, x68 = (v5 - 1) → ∃ k70, L_G_gather_70 g mk post (fun S70e =>
    ∀ x136 : Int32, x136 = v7 + 1 → L_G_gather_55 g mk post K142 v2 v3 v4 v5 v6 n x136 S70e) v2 v3 v4 v5 v6 v7 k70 x68 S)
def L_G_gather_3 (g : Nat) (mk : Nat) (post : zS → Prop) (v2 : Int32) (v3 : Int32) : Nat → Int32 → zS → Prop
  | 0, _, _ => False
  | n + 1, v4, S =>
    (576 ≤ v4 →
    post S) ∧
    (¬ 576 ≤ v4 →
    vp_in (S g 6) 288 ∧ ((S (g + 6) (z_ix (S g 6))) ≤ v4 →
    post S) ∧
    (¬ (S (g + 6) (z_ix (S g 6))) ≤ v4 →
    vp_in v4 576 ∧ ∀ x35 : Int32, x35 = ((S (g + 7) (z_ix v4)) - (S (g + 7) (z_ix v4)) / 24 * 24) → vp_in v4 576 ∧ ∀ x47 : Int32, x47 = ((S (g + 7) (z_ix v4)) / 24) → ∀ x53 : Int32, x53 = (x47 - 1) → ∃ k55, L_G_gather_55 g mk post (fun S55e =>
    ∀ x142 : Int32, x142 = v4 + 1 → L_G_gather_3 g mk post v2 v3 n x142 S55e) v2 v3 v4 x35 x47 k55 x53 S))
def P_G_gather (g : Nat) (mk : Nat) (v2 : Int32) (v3 : Int32) (S : zS) (post : zS → Prop) : Prop :=
    ∃ k3, L_G_gather_3 g mk post v2 v3 k3 0 S
def L_G_find_28 (g : Nat) (mk : Nat) (post : zS → Prop) (K91 : zS → Prop) (v2 : Int32) (v3 : Int32) (v4 : Int32) : Nat → Int32 → zS → Prop
  | 0, _, _ => False
  | n + 1, v5, S =>
    ((S g 8) ≤ v5 →
    K91 S) ∧
    (¬ (S g 8) ≤ v5 →
    P_G_isOpen g mk v2 v5 v4 S (fun r44 S44 =>
    (r44 = 0 →
    ∀ x85 : Int32, x85 = v5 + 1 → L_G_find_28 g mk post K91 v2 v3 v4 n x85 S44) ∧
    (¬ r44 = 0 →
    (288 ≤ (S44 g 6) →
    ∀ x85 : Int32, x85 = v5 + 1 → L_G_find_28 g mk post K91 v2 v3 v4 n x85 S44) ∧
    (¬ 288 ≤ (S44 g 6) →
    P_G_begin g v5 v4 S44 (fun S65 =>
    P_G_gather g mk v2 v3 S65 (fun S72 =>
    ∀ S82 : zS, S82 = z_su S72 g 6 ((S72 g 6) + 1) → ∀ x85 : Int32, x85 = v5 + 1 → L_G_find_28 g mk post K91 v2 v3 v4 n x85 S82))))))
def L_G_find_16 (g : Nat) (mk : Nat) (post : zS → Prop) (v2 : Int32) (v3 : Int32) : Nat → Int32 → zS → Prop
  | 0, _, _ => False
  | n + 1, v4, S =>
    ((S g 9) ≤ v4 →
    post S) ∧
    (¬ (S g 9) ≤ v4 →
    ∃ k28, L_G_find_28 g mk post (fun S28e =>
    ∀ x91 : Int32, x91 = v4 + 1 → L_G_find_16 g mk post v2 v3 n x91 S28e) v2 v3 v4 k28 0 S)
def P_G_find (g : Nat) (mk : Nat) (v2 : Int32) (v3 : Int32) (S : zS) (post : zS → Prop) : Prop :=
    P_A_fill (g + 1) (-1) S (fun S5 =>
    ∀ S10 : zS, S10 = z_su S5 g 6 0 → ∃ k16, L_G_find_16 g mk post v2 v3 k16 0 S10)
def J_P_findClean_68 (post : zS → Prop) (K20 : Int32 → zS → Prop) (v1 : Int32) (t0 : Int32) (t1 : Int32) (S : zS) : Prop :=
    vp_in t1 576 ∧ z_bo t0 ∧ ∀ S68 : zS, S68 = z_su S 2 (z_ix t1) t0 → vp_in v1 576 ∧ vp_in v1 576 ∧ z_bo (S68 2 (z_ix v1)) ∧ ∀ S80 : zS, S80 = z_su S68 3 (z_ix v1) (S68 2 (z_ix v1)) → vp_in v1 576 ∧ ((S80 2 (z_ix v1)) = 0 →
    ∀ x100 : Int32, x100 = v1 + 1 → K20 x100 S80) ∧
    (¬ (S80 2 (z_ix v1)) = 0 →
    ∀ S97 : zS, S97 = z_su S80 0 11 ((S80 0 11) + 1) → ∀ x100 : Int32, x100 = v1 + 1 → K20 x100 S97)
def J_P_findClean_67 (post : zS → Prop) (K20 : Int32 → zS → Prop) (v1 : Int32) (t0 : Int32) (S : zS) : Prop :=
    J_P_findClean_68 post K20 v1 0 t0 S
def L_P_findClean_20 (post : zS → Prop) : Nat → Int32 → zS → Prop
  | 0, _, _ => False
  | n + 1, v1, S =>
    (576 ≤ v1 →
    post S) ∧
    (¬ 576 ≤ v1 →
    vp_in v1 576 ∧ ∀ x36 : Int32, x36 = (S 14 (z_ix v1)) → (x36 = (-1) →
    J_P_findClean_67 post (L_P_findClean_20 post n) v1 v1 S) ∧
    (¬ x36 = (-1) →
    vp_in x36 288 ∧ ((S 19 (z_ix x36)) < (S 0 13) →
    J_P_findClean_67 post (L_P_findClean_20 post n) v1 v1 S) ∧
    (¬ (S 19 (z_ix x36)) < (S 0 13) →
    J_P_findClean_68 post (L_P_findClean_20 post n) v1 1 v1 S)))
def P_P_findClean (S : zS) (post : zS → Prop) : Prop :=
    P_G_find 13 1 1 1 S (fun S10 =>
    ∀ S15 : zS, S15 = z_su S10 0 11 0 → ∃ k20, L_P_findClean_20 post k20 0 S15)
def L_P_smearAlong_53 (post : zS → Prop) (K78 : zS → Prop) (v1 : Int32) (v2 : Int32) (v3 : Int32) (v4 : Int32) (v6 : Int32) : Nat → Int32 → zS → Prop
  | 0, _, _ => False
  | n + 1, v7, S =>
    (v6 ≤ v7 →
    K78 S) ∧
    (¬ v6 ≤ v7 →
    vp_in (v1 + (v7 * v2)) 576 ∧ ∀ S71 : zS, S71 = z_su S 3 (z_ix (v1 + (v7 * v2))) 1 → ∀ x72 : Int32, x72 = v7 + 1 → L_P_smearAlong_53 post K78 v1 v2 v3 v4 v6 n x72 S71)
def L_P_smearAlong_6 (post : zS → Prop) (v1 : Int32) (v2 : Int32) (v3 : Int32) (v4 : Int32) : Nat → Int32 → Int32 → zS → Prop
  | 0, _, _, _ => False
  | n + 1, v5, v6, S =>
    (v3 ≤ v6 →
    post S) ∧
    (¬ v3 ≤ v6 →
    vp_in (v1 + (v6 * v2)) 576 ∧ (¬ (S 2 (z_ix (v1 + (v6 * v2)))) = 0 →
    (v5 = (-1) →
    ∀ x82 : Int32, x82 = v6 + 1 → L_P_smearAlong_6 post v1 v2 v3 v4 n v6 x82 S) ∧
    (¬ v5 = (-1) →
    (v4 < ((v6 - v5) - 1) →
    ∀ x82 : Int32, x82 = v6 + 1 → L_P_smearAlong_6 post v1 v2 v3 v4 n v6 x82 S) ∧
    (¬ v4 < ((v6 - v5) - 1) →
    ∀ x51 : Int32, x51 = (v5 + 1) → ∃ k53, L_P_smearAlong_53 post (fun S53e =>
    ∀ x82 : Int32, x82 = v6 + 1 → L_P_smearAlong_6 post v1 v2 v3 v4 n v6 x82 S53e) v1 v2 v3 v4 v6 k53 x51 S))) ∧
    ((S 2 (z_ix (v1 + (v6 * v2)))) = 0 →
    ∀ x82 : Int32, x82 = v6 + 1 → L_P_smearAlong_6 post v1 v2 v3 v4 n v5 x82 S))
def P_P_smearAlong (v1 : Int32) (v2 : Int32) (v3 : Int32) (v4 : Int32) (S : zS) (post : zS → Prop) : Prop :=
    ∃ k6, L_P_smearAlong_6 post v1 v2 v3 v4 k6 (-1) 0 S
def L_P_smear_2 (post : zS → Prop) (K30 : zS → Prop) (v1 : Int32) (v2 : Int32) : Nat → Int32 → zS → Prop
  | 0, _, _ => False
  | n + 1, v3, S =>
    ((S 0 1) ≤ v3 →
    K30 S) ∧
    (¬ (S 0 1) ≤ v3 →
    P_P_smearAlong (v3 * 24) 1 (S 0 0) v1 S (fun S21 =>
    ∀ x24 : Int32, x24 = v3 + 1 → L_P_smear_2 post K30 v1 v2 n x24 S21))
def L_P_smear_32 (post : zS → Prop) (v2 : Int32) : Nat → Int32 → zS → Prop
  | 0, _, _ => False
  | n + 1, v3, S =>
    ((S 0 0) ≤ v3 →
    post S) ∧
    (¬ (S 0 0) ≤ v3 →
    P_P_smearAlong v3 24 (S 0 1) v2 S (fun S49 =>
    ∀ x52 : Int32, x52 = v3 + 1 → L_P_smear_32 post v2 n x52 S49))
def P_P_smear (v1 : Int32) (v2 : Int32) (S : zS) (post : zS → Prop) : Prop :=
    ∃ k2, L_P_smear_2 post (fun S2e =>
    ∃ k32, L_P_smear_32 post v2 k32 0 S2e) v1 v2 k2 0 S
def J_C_measure_48 (post : zS → Prop) (K20 : Int32 → Int32 → zS → Prop) (v2 : Int32) (v4 : Int32) (v5 : Int32) (t0 : Int32) (S : zS) : Prop :=
    vp_in v5 576 ∧ ∀ S56 : zS, S56 = z_su S 26 (z_ix v5) t0 → ∀ x57 : Int32, x57 = v4 + (-1) → K20 t0 x57 S56
def L_C_measure_20 (post : zS → Prop) (K63 : zS → Prop) (v2 : Int32) : Nat → Int32 → Int32 → zS → Prop
  | 0, _, _, _ => False
  | n + 1, v3, v4, S =>
    (v4 < 0 →
    K63 S) ∧
    (¬ v4 < 0 →
    ∀ x32 : Int32, x32 = ((v2 * 24) + v4) → vp_in x32 576 ∧ ((S 3 (z_ix x32)) = 0 →
    J_C_measure_48 post (L_C_measure_20 post K63 v2 n) v2 v4 x32 (v3 + 1) S) ∧
    (¬ (S 3 (z_ix x32)) = 0 →
    J_C_measure_48 post (L_C_measure_20 post K63 v2 n) v2 v4 x32 0 S))
def L_C_measure_2 (post : zS → Prop) : Nat → Int32 → zS → Prop
  | 0, _, _ => False
  | n + 1, v2, S =>
    ((S 21 7) ≤ v2 →
    post S) ∧
    (¬ (S 21 7) ≤ v2 →
    ∀ x18 : Int32, x18 = ((S 21 6) - 1) → ∃ k20, L_C_measure_20 post (fun S20e =>
    ∀ x63 : Int32, x63 = v2 + 1 → L_C_measure_2 post n x63 S20e) v2 k20 0 x18 S)
def P_C_measure (S : zS) (post : zS → Prop) : Prop :=
    ∃ k2, L_C_measure_2 post k2 0 S
def L_C_growFrom_11 (post : zS → Prop) (v1 : Int32) (v2 : Int32) (v3 : Int32) : Nat → Int32 → Int32 → zS → Prop
  | 0, _, _, _ => False
  | n + 1, v4, v5, S =>
    (((S 21 7) - v3) < v5 →
    post S) ∧
    (¬ ((S 21 7) - v3) < v5 →
    vp_in ((((v3 + v5) - 1) * 24) + v2) 576 ∧ ∀ x43 : Int32, x43 = (if (S 26 (z_ix ((((v3 + v5) - 1) * 24) + v2))) < v4 then (S 26 (z_ix ((((v3 + v5) - 1) * 24) + v2))) else v4) → ((S 21 8) < (x43 * ((S 21 7) - v3)) →
    ((x43 * v5) ≤ (S 21 8) →
    ∀ x113 : Int32, x113 = v5 + 1 → L_C_growFrom_11 post v1 v2 v3 n x43 x113 S) ∧
    (¬ (x43 * v5) ≤ (S 21 8) →
    ∀ S80 : zS, S80 = z_su S 21 8 (x43 * v5) → vp_in v1 6 ∧ ∀ S89 : zS, S89 = z_su S80 22 (z_ix v1) v2 → vp_in v1 6 ∧ ∀ S96 : zS, S96 = z_su S89 23 (z_ix v1) v3 → vp_in v1 6 ∧ ∀ S104 : zS, S104 = z_su S96 24 (z_ix v1) x43 → vp_in v1 6 ∧ ∀ S112 : zS, S112 = z_su S104 25 (z_ix v1) v5 → ∀ x113 : Int32, x113 = v5 + 1 → L_C_growFrom_11 post v1 v2 v3 n x43 x113 S112)) ∧
    (¬ (S 21 8) < (x43 * ((S 21 7) - v3)) →
    post S))
def P_C_growFrom (v1 : Int32) (v2 : Int32) (v3 : Int32) (S : zS) (post : zS → Prop) : Prop :=
    ∀ x6 : Int32, x6 = ((S 21 6) - v2) → ∃ k11, L_C_growFrom_11 post v1 v2 v3 k11 x6 1 S
def L_C_findGreatest_17 (post : zS → Prop) (K38 : zS → Prop) (v1 : Int32) (v2 : Int32) : Nat → Int32 → zS → Prop
  | 0, _, _ => False
  | n + 1, v3, S =>
    ((S 21 6) ≤ v3 →
    K38 S) ∧
    (¬ (S 21 6) ≤ v3 →
    P_C_growFrom v1 v3 v2 S (fun S29 =>
    ∀ x32 : Int32, x32 = v3 + 1 → L_C_findGreatest_17 post K38 v1 v2 n x32 S29))
def L_C_findGreatest_7 (post : zS → Prop) (v1 : Int32) : Nat → Int32 → zS → Prop
  | 0, _, _ => False
  | n + 1, v2, S =>
    ((S 21 7) ≤ v2 →
    post S) ∧
    (¬ (S 21 7) ≤ v2 →
    ∃ k17, L_C_findGreatest_17 post (fun S17e =>
    ∀ x38 : Int32, x38 = v2 + 1 → L_C_findGreatest_7 post v1 n x38 S17e) v1 v2 k17 0 S)
def P_C_findGreatest (v1 : Int32) (S : zS) (post : zS → Prop) : Prop :=
    ∀ S2 : zS, S2 = z_su S 21 8 0 → ∃ k7, L_C_findGreatest_7 post v1 k7 0 S2
def L_C_shortenBefore_4 (post : zS → Prop) (v1 : Int32) (v2 : Int32) : Nat → Int32 → zS → Prop
  | 0, _, _ => False
  | n + 1, v3, S =>
    (v3 < 0 →
    post S) ∧
    (¬ v3 < 0 →
    ∀ x14 : Int32, x14 = ((v2 * 24) + v3) → vp_in x14 576 ∧ vp_in x14 576 ∧ ∀ S35 : zS, S35 = z_su S 26 (z_ix x14) (if (v1 - v3) < (S 26 (z_ix x14)) then (v1 - v3) else (S 26 (z_ix x14))) → ∀ x36 : Int32, x36 = v3 + (-1) → L_C_shortenBefore_4 post v1 v2 n x36 S35)
def P_C_shortenBefore (v1 : Int32) (v2 : Int32) (S : zS) (post : zS → Prop) : Prop :=
    ∀ x3 : Int32, x3 = (v1 - 1) → ∃ k4, L_C_shortenBefore_4 post v1 v2 k4 x3 S
def L_C_block_46 (post : zS → Prop) (K71 : zS → Prop) (v1 : Int32) (v2 : Int32) (v3 : Int32) : Nat → Int32 → zS → Prop
  | 0, _, _ => False
  | n + 1, v4, S =>
    (v2 ≤ v4 →
    K71 S) ∧
    (¬ v2 ≤ v4 →
    vp_in ((v3 * 24) + v4) 576 ∧ ∀ S64 : zS, S64 = z_su S 26 (z_ix ((v3 * 24) + v4)) 0 → ∀ x65 : Int32, x65 = v4 + 1 → L_C_block_46 post K71 v1 v2 v3 n x65 S64)
def L_C_block_21 (post : zS → Prop) (v1 : Int32) (v2 : Int32) : Nat → Int32 → zS → Prop
  | 0, _, _ => False
  | n + 1, v3, S =>
    vp_in v1 6 ∧ vp_in v1 6 ∧ (((S 23 (z_ix v1)) + (S 25 (z_ix v1))) ≤ v3 →
    post S) ∧
    (¬ ((S 23 (z_ix v1)) + (S 25 (z_ix v1))) ≤ v3 →
    vp_in v1 6 ∧ ∀ x44 : Int32, x44 = (S 22 (z_ix v1)) → ∃ k46, L_C_block_46 post (fun S46e =>
    vp_in v1 6 ∧ P_C_shortenBefore (S46e 22 (z_ix v1)) v3 S46e (fun S79 =>
    ∀ x82 : Int32, x82 = v3 + 1 → L_C_block_21 post v1 v2 n x82 S79)) v1 v2 v3 k46 x44 S)
def P_C_block (v1 : Int32) (S : zS) (post : zS → Prop) : Prop :=
    vp_in v1 6 ∧ vp_in v1 6 ∧ ∀ x13 : Int32, x13 = ((S 22 (z_ix v1)) + (S 24 (z_ix v1))) → vp_in v1 6 ∧ ∀ x20 : Int32, x20 = (S 23 (z_ix v1)) → ∃ k21, L_C_block_21 post v1 x13 k21 x20 S
def L_C_find_12 (post : zS → Prop) : Nat → Int32 → zS → Prop
  | 0, _, _ => False
  | n + 1, v2, S =>
    (6 ≤ v2 →
    post S) ∧
    (¬ 6 ≤ v2 →
    P_C_findGreatest v2 S (fun S20 =>
    (4 ≤ (S20 21 8) →
    P_C_block v2 S20 (fun S34 =>
    ∀ S44 : zS, S44 = z_su S34 21 4 ((S34 21 4) + 1) → ∀ x47 : Int32, x47 = v2 + 1 → L_C_find_12 post n x47 S44)) ∧
    (¬ 4 ≤ (S20 21 8) →
    post S20)))
def P_C_find (S : zS) (post : zS → Prop) : Prop :=
    P_C_measure S (fun S2 =>
    ∀ S7 : zS, S7 = z_su S2 21 4 0 → ∃ k12, L_C_find_12 post k12 0 S7)
def L_P_hasInk_2 (post : Int32 → zS → Prop) (v1 : Int32) : Nat → Int32 → zS → Prop
  | 0, _, _ => False
  | n + 1, v2, S =>
    ((S 0 1) ≤ v2 →
    post 0 S) ∧
    (¬ (S 0 1) ≤ v2 →
    vp_in ((v2 * 24) + v1) 576 ∧ ((S 3 (z_ix ((v2 * 24) + v1))) = 0 →
    ∀ x26 : Int32, x26 = v2 + 1 → L_P_hasInk_2 post v1 n x26 S) ∧
    (¬ (S 3 (z_ix ((v2 * 24) + v1))) = 0 →
    post 1 S))
def P_P_hasInk (v1 : Int32) (S : zS) (post : Int32 → zS → Prop) : Prop :=
    ∃ k2, L_P_hasInk_2 post v1 k2 0 S
def J_P_findStrips_60 (post : zS → Prop) (K9 : Int32 → Int32 → zS → Prop) (v2 : Int32) (v3 : Int32) (t0 : Int32) (t1 : Int32) (S : zS) : Prop :=
    vp_in t1 24 ∧ ∀ S60 : zS, S60 = z_su S 4 (z_ix t1) t0 → ∀ x63 : Int32, x63 = v2 + 1 → K9 v3 x63 S60
def J_P_findStrips_41 (post : zS → Prop) (K9 : Int32 → Int32 → zS → Prop) (v2 : Int32) (v3 : Int32) (S : zS) : Prop :=
    (v3 = 0 →
    J_P_findStrips_60 post K9 v2 v3 (-1) v2 S) ∧
    (¬ v3 = 0 →
    J_P_findStrips_60 post K9 v2 v3 ((S 0 12) - 1) v2 S)
def L_P_findStrips_9 (post : zS → Prop) : Nat → Int32 → Int32 → zS → Prop
  | 0, _, _, _ => False
  | n + 1, v1, v2, S =>
    ((S 0 0) ≤ v2 →
    post S) ∧
    (¬ (S 0 0) ≤ v2 →
    P_P_hasInk v2 S (fun r19 S19 =>
    (r19 = 0 →
    J_P_findStrips_41 post (L_P_findStrips_9 post n) v2 r19 S19) ∧
    (¬ r19 = 0 →
    (¬ v1 = 0 →
    J_P_findStrips_41 post (L_P_findStrips_9 post n) v2 r19 S19) ∧
    (v1 = 0 →
    ∀ S38 : zS, S38 = z_su S19 0 12 ((S19 0 12) + 1) → J_P_findStrips_41 post (L_P_findStrips_9 post n) v2 r19 S38))))
def P_P_findStrips (S : zS) (post : zS → Prop) : Prop :=
    ∀ S2 : zS, S2 = z_su S 0 12 0 → ∃ k9, L_P_findStrips_9 post k9 0 0 S2
def L_G_dropAtEdge_4 (g : Nat) (post : zS → Prop) (K129 : Int32 → zS → Prop) : Nat → Int32 → Int32 → zS → Prop
  | 0, _, _, _ => False
  | n + 1, v1, v2, S =>
    ((S g 6) ≤ v2 →
    K129 v1 S) ∧
    (¬ (S g 6) ≤ v2 →
    vp_in v2 288 ∧ ((S (g + 2) (z_ix v2)) ≤ 0 →
    ∀ x123 : Int32, x123 = v2 + 1 → L_G_dropAtEdge_4 g post K129 n v1 x123 S) ∧
    (¬ (S (g + 2) (z_ix v2)) ≤ 0 →
    vp_in v2 288 ∧ ((S (g + 3) (z_ix v2)) ≤ 0 →
    ∀ x123 : Int32, x123 = v2 + 1 → L_G_dropAtEdge_4 g post K129 n v1 x123 S) ∧
    (¬ (S (g + 3) (z_ix v2)) ≤ 0 →
    vp_in v2 288 ∧ (((S g 8) - 1) ≤ (S (g + 4) (z_ix v2)) →
    ∀ x123 : Int32, x123 = v2 + 1 → L_G_dropAtEdge_4 g post K129 n v1 x123 S) ∧
    (¬ ((S g 8) - 1) ≤ (S (g + 4) (z_ix v2)) →
    vp_in v2 288 ∧ (((S g 9) - 1) ≤ (S (g + 5) (z_ix v2)) →
    ∀ x123 : Int32, x123 = v2 + 1 → L_G_dropAtEdge_4 g post K129 n v1 x123 S) ∧
    (¬ ((S g 9) - 1) ≤ (S (g + 5) (z_ix v2)) →
    vp_in v2 288 ∧ vp_in v1 288 ∧ ∀ S71 : zS, S71 = z_su S (g + 2) (z_ix v1) (S (g + 2) (z_ix v2)) → vp_in v2 288 ∧ vp_in v1 288 ∧ ∀ S83 : zS, S83 = z_su S71 (g + 3) (z_ix v1) (S71 (g + 3) (z_ix v2)) → vp_in v2 288 ∧ vp_in v1 288 ∧ ∀ S95 : zS, S95 = z_su S83 (g + 4) (z_ix v1) (S83 (g + 4) (z_ix v2)) → vp_in v2 288 ∧ vp_in v1 288 ∧ ∀ S107 : zS, S107 = z_su S95 (g + 5) (z_ix v1) (S95 (g + 5) (z_ix v2)) → vp_in v2 288 ∧ vp_in v1 288 ∧ ∀ S119 : zS, S119 = z_su S107 (g + 6) (z_ix v1) (S107 (g + 6) (z_ix v2)) → ∀ x120 : Int32, x120 = v1 + 1 → ∀ x123 : Int32, x123 = v2 + 1 → L_G_dropAtEdge_4 g post K129 n x120 x123 S119)))))
def P_G_dropAtEdge (g : Nat) (S : zS) (post : zS → Prop) : Prop :=
    ∃ k4, L_G_dropAtEdge_4 g post (fun v1_4e S4e =>
    ∀ S131 : zS, S131 = z_su S4e g 6 v1_4e → post S131) k4 0 0 S
def P_R_isBefore (v1 : Int32) (v2 : Int32) (S : zS) (post : Int32 → zS → Prop) : Prop :=
    vp_in v1 288 ∧ vp_in v2 288 ∧ ((S 8 (z_ix v1)) = (S 8 (z_ix v2)) →
    vp_in v1 288 ∧ vp_in v2 288 ∧ ((S 7 (z_ix v1)) = (S 7 (z_ix v2)) →
    (v2 ≤ v1 →
    post 0 S) ∧
    (¬ v2 ≤ v1 →
    post 1 S)) ∧
    (¬ (S 7 (z_ix v1)) = (S 7 (z_ix v2)) →
    vp_in v1 288 ∧ vp_in v2 288 ∧ ((S 7 (z_ix v2)) ≤ (S 7 (z_ix v1)) →
    post 0 S) ∧
    (¬ (S 7 (z_ix v2)) ≤ (S 7 (z_ix v1)) →
    post 1 S))) ∧
    (¬ (S 8 (z_ix v1)) = (S 8 (z_ix v2)) →
    vp_in v1 288 ∧ vp_in v2 288 ∧ ((S 8 (z_ix v2)) ≤ (S 8 (z_ix v1)) →
    post 0 S) ∧
    (¬ (S 8 (z_ix v2)) ≤ (S 8 (z_ix v1)) →
    post 1 S))
def L_R_sortByBoxes_12 (post : zS → Prop) (K52 : Int32 → zS → Prop) (v2 : Int32) : Nat → Int32 → zS → Prop
  | 0, _, _ => False
  | n + 1, v3, S =>
    (v3 ≤ 0 →
    K52 v3 S) ∧
    (¬ v3 ≤ 0 →
    vp_in (v3 - 1) 288 ∧ P_R_isBefore v2 (S 28 (z_ix (v3 - 1))) S (fun r26 S26 =>
    (r26 = 0 →
    K52 v3 S26) ∧
    (¬ r26 = 0 →
    vp_in (v3 - 1) 288 ∧ vp_in v3 288 ∧ ∀ S45 : zS, S45 = z_su S26 28 (z_ix v3) (S26 28 (z_ix (v3 - 1))) → ∀ x46 : Int32, x46 = v3 + (-1) → L_R_sortByBoxes_12 post K52 v2 n x46 S45)))
def J_R_sortByBoxes_52 (post : zS → Prop) (K2 : Int32 → zS → Prop) (v2 : Int32) (v3 : Int32) (S : zS) : Prop :=
    vp_in v3 288 ∧ ∀ S58 : zS, S58 = z_su S 28 (z_ix v3) v2 → ∀ x59 : Int32, x59 = v2 + 1 → K2 x59 S58
def L_R_sortByBoxes_2 (post : zS → Prop) : Nat → Int32 → zS → Prop
  | 0, _, _ => False
  | n + 1, v2, S =>
    ((S 5 6) ≤ v2 →
    post S) ∧
    (¬ (S 5 6) ≤ v2 →
    ∃ k12, L_R_sortByBoxes_12 post (fun v3_12e S12e =>
    J_R_sortByBoxes_52 post (L_R_sortByBoxes_2 post n) v2 v3_12e S12e) v2 k12 v2 S)
def P_R_sortByBoxes (S : zS) (post : zS → Prop) : Prop :=
    ∃ k2, L_R_sortByBoxes_2 post k2 0 S
def P_R_bits (v0 : Int32) (v1 : Int32) (S : zS) (post : Int32 → zS → Prop) : Prop :=
    post ((1 <<< ((v1 + 1) &&& 31)) - (1 <<< (v0 &&& 31))) S
def P_R_hasBit (v0 : Int32) (v1 : Int32) (S : zS) (post : Int32 → zS → Prop) : Prop :=
    (((v0 >>> (v1 &&& 31)) &&& 1) = 0 →
    post 0 S) ∧
    (¬ ((v0 >>> (v1 &&& 31)) &&& 1) = 0 →
    post 1 S)
def L_R_lookAlong_9 (fa : Nat) (la : Nat) (post : zS → Prop) (K65 : Int32 → Int32 → zS → Prop) (v4 : Int32) (v5 : Int32) : Nat → Int32 → Int32 → Int32 → zS → Prop
  | 0, _, _, _, _ => False
  | n + 1, v6, v7, v8, S =>
    (v4 ≤ v8 →
    K65 v6 v7 S) ∧
    (¬ v4 ≤ v8 →
    vp_in v8 288 ∧ ∀ x23 : Int32, x23 = (S 28 (z_ix v8)) → vp_in x23 288 ∧ vp_in x23 288 ∧ P_R_bits (S fa (z_ix x23)) (S la (z_ix x23)) S (fun r35 S35 =>
    ∀ x39 : Int32, x39 = (v6 ||| r35) → vp_in x23 288 ∧ vp_in x23 288 ∧ P_R_bits ((S35 fa (z_ix x23)) + 1) (S35 la (z_ix x23)) S35 (fun r53 S53 =>
    ∀ x57 : Int32, x57 = (v7 ||| r53) → ∀ x59 : Int32, x59 = v8 + 1 → L_R_lookAlong_9 fa la post K65 v4 v5 n x39 x57 x59 S53)))
def J_R_lookAlong_140 (fa : Nat) (la : Nat) (post : zS → Prop) (K71 : Int32 → Int32 → zS → Prop) (v5 : Int32) (v6 : Int32) (v7 : Int32) (v9 : Int32) (S : zS) : Prop :=
    ∀ x144 : Int32, x144 = (v9 + 1) → ∀ x146 : Int32, x146 = v9 + 1 → K71 x144 x146 S
def L_R_lookAlong_71 (fa : Nat) (la : Nat) (post : zS → Prop) (v5 : Int32) (v6 : Int32) (v7 : Int32) : Nat → Int32 → Int32 → zS → Prop
  | 0, _, _, _ => False
  | n + 1, v8, v9, S =>
    (24 ≤ v9 →
    post S) ∧
    (¬ 24 ≤ v9 →
    P_R_hasBit v6 v9 S (fun r82 S82 =>
    (¬ r82 = 0 →
    (v8 = (-1) →
    J_R_lookAlong_140 fa la post (L_R_lookAlong_71 fa la post v5 v6 v7 n) v5 v6 v7 v9 S82) ∧
    (¬ v8 = (-1) →
    P_R_hasBit v7 v9 S82 (fun r101 S101 =>
    (¬ r101 = 0 →
    J_R_lookAlong_140 fa la post (L_R_lookAlong_71 fa la post v5 v6 v7 n) v5 v6 v7 v9 S101) ∧
    (r101 = 0 →
    ((v9 - v8) ≤ (S101 27 4) →
    J_R_lookAlong_140 fa la post (L_R_lookAlong_71 fa la post v5 v6 v7 n) v5 v6 v7 v9 S101) ∧
    (¬ (v9 - v8) ≤ (S101 27 4) →
    ∀ S125 : zS, S125 = z_su S101 27 4 (v9 - v8) → ∀ S131 : zS, S131 = z_su S125 27 3 v9 → z_bo v5 ∧ ∀ S137 : zS, S137 = z_su S131 27 5 v5 → J_R_lookAlong_140 fa la post (L_R_lookAlong_71 fa la post v5 v6 v7 n) v5 v6 v7 v9 S137))))) ∧
    (r82 = 0 →
    ∀ x146 : Int32, x146 = v9 + 1 → L_R_lookAlong_71 fa la post v5 v6 v7 n v8 x146 S82)))
def P_R_lookAlong (fa : Nat) (la : Nat) (v3 : Int32) (v4 : Int32) (v5 : Int32) (S : zS) (post : zS → Prop) : Prop :=
    ∃ k9, L_R_lookAlong_9 fa la post (fun v6_9e v7_9e S9e =>
    ∃ k71, L_R_lookAlong_71 fa la post v5 v6_9e v7_9e k71 (-1) 0 S9e) v4 v5 k9 0 0 v3 S
def P_R_findCut (v2 : Int32) (v3 : Int32) (S : zS) (post : Int32 → zS → Prop) : Prop :=
    ∀ S2 : zS, S2 = z_su S 27 4 (-1) → P_R_lookAlong 7 9 v2 v3 0 S2 (fun S17 =>
    P_R_lookAlong 8 10 v2 v3 1 S17 (fun S32 =>
    ((S32 27 4) = (-1) →
    post 0 S32) ∧
    (¬ (S32 27 4) = (-1) →
    post 1 S32)))
def L_R_divide_29 (la : Nat) (post : Int32 → zS → Prop) (K89 : Int32 → Int32 → zS → Prop) (v3 : Int32) : Nat → Int32 → Int32 → Int32 → zS → Prop
  | 0, _, _, _, _ => False
  | n + 1, v5, v6, v7, S =>
    (v3 ≤ v7 →
    K89 v5 v6 S) ∧
    (¬ v3 ≤ v7 →
    vp_in v7 288 ∧ ∀ x42 : Int32, x42 = (S 28 (z_ix v7)) → vp_in x42 288 ∧ ((S 27 3) ≤ (S la (z_ix x42)) →
    vp_in v6 288 ∧ ∀ S79 : zS, S79 = z_su S 29 (z_ix v6) x42 → ∀ x80 : Int32, x80 = v6 + 1 → ∀ x83 : Int32, x83 = v7 + 1 → L_R_divide_29 la post K89 v3 n v5 x80 x83 S79) ∧
    (¬ (S 27 3) ≤ (S la (z_ix x42)) →
    vp_in v5 288 ∧ ∀ S64 : zS, S64 = z_su S 28 (z_ix v5) x42 → ∀ x65 : Int32, x65 = v5 + 1 → ∀ x83 : Int32, x83 = v7 + 1 → L_R_divide_29 la post K89 v3 n x65 v6 x83 S64))
def J_R_divide_18 (la : Nat) (post : Int32 → zS → Prop) (v2 : Int32) (v3 : Int32) (S : zS) : Prop :=
    ∃ k29, L_R_divide_29 la post (fun v5_29e v6_29e S29e =>
    z_cp 0 v5_29e v6_29e 288 288 ∧ ∀ S102 : zS, S102 = z_sc S29e 29 28 (z_ix 0) (z_ix v5_29e) (z_ix v6_29e) → post v5_29e S102) v3 k29 v2 0 v2 S
def P_R_divide (v2 : Int32) (v3 : Int32) (S : zS) (post : Int32 → zS → Prop) : Prop :=
    ((S 27 5) = 0 →
    J_R_divide_18 9 post v2 v3 S) ∧
    (¬ (S 27 5) = 0 →
    J_R_divide_18 10 post v2 v3 S)
def J_R_arrange_82 (post : zS → Prop) (K22 : Int32 → Int32 → Int32 → zS → Prop) (v3 : Int32) (v4 : Int32) (v5 : Int32) (S : zS) : Prop :=
    ∀ x85 : Int32, x85 = v3 + (-1) → ∀ x88 : Int32, x88 = v4 + 1 → K22 v5 x85 x88 S
def L_R_arrange_22 (post : zS → Prop) : Nat → Int32 → Int32 → Int32 → zS → Prop
  | 0, _, _, _, _ => False
  | n + 1, v2, v3, v4, S =>
    (576 ≤ v4 →
    post S) ∧
    (¬ 576 ≤ v4 →
    (v3 < 0 →
    post S) ∧
    (¬ v3 < 0 →
    vp_in v3 288 ∧ ∀ x40 : Int32, x40 = (S 30 (z_ix v3)) → P_R_findCut v2 x40 S (fun r47 S47 =>
    (r47 = 0 →
    J_R_arrange_82 post (L_R_arrange_22 post n) v3 v4 x40 S47) ∧
    (¬ r47 = 0 →
    (288 ≤ (v3 + 1) →
    J_R_arrange_82 post (L_R_arrange_22 post n) v3 v4 x40 S47) ∧
    (¬ 288 ≤ (v3 + 1) →
    ∀ x62 : Int32, x62 = v3 + 1 → P_R_divide v2 x40 S47 (fun r75 S75 =>
    vp_in x62 288 ∧ ∀ S78 : zS, S78 = z_su S75 30 (z_ix x62) r75 → ∀ x88 : Int32, x88 = v4 + 1 → L_R_arrange_22 post n v2 x62 x88 S78))))))
def P_R_arrange (S : zS) (post : zS → Prop) : Prop :=
    P_R_sortByBoxes S (fun S2 =>
    vp_in 0 288 ∧ ∀ S18 : zS, S18 = z_su S2 30 (z_ix 0) (S2 5 6) → ∃ k22, L_R_arrange_22 post k22 0 0 0 S18)
def P_P_run (v1 : Int32) (v2 : Int32) (S : zS) (post : Int32 → zS → Prop) : Prop :=
    (v1 < 0 →
    False) ∧
    (¬ v1 < 0 →
    (24 < v1 →
    False) ∧
    (¬ 24 < v1 →
    (v2 < 0 →
    False) ∧
    (¬ v2 < 0 →
    (v2 ≤ 24 →
    P_P_findClean S (fun S31 =>
    P_P_smear v1 v2 S31 (fun S37 =>
    P_G_find 5 3 1 0 S37 (fun S50 =>
    P_C_find S50 (fun S61 =>
    P_P_findStrips S61 (fun S65 =>
    P_G_find 13 2 0 0 S65 (fun S78 =>
    P_G_dropAtEdge 13 S78 (fun S85 =>
    P_R_arrange S85 (fun S96 =>
    ∀ S101 : zS, S101 = z_su S96 0 14 1 → post (S101 5 6) S101))))))))) ∧
    (¬ v2 ≤ 24 →
    False))))
def P_P_mustBeParted (S : zS) (post : zS → Prop) : Prop :=
    (¬ (S 0 14) = 0 →
    post S) ∧
    ((S 0 14) = 0 →
    False)
def P_P_mustBeBelow (v0 : Int32) (v1 : Int32) (S : zS) (post : zS → Prop) : Prop :=
    (v0 < 0 →
    False) ∧
    (¬ v0 < 0 →
    (v0 < v1 →
    post S) ∧
    (¬ v0 < v1 →
    False))
def P_P_mustBeTold (v0 : Int32) (v1 : Int32) (S : zS) (post : zS → Prop) : Prop :=
    (v0 < 0 →
    False) ∧
    (¬ v0 < 0 →
    (v0 < v1 →
    post S) ∧
    (¬ v0 < v1 →
    False))
def L_P_weightOf_4 (post : Int32 → zS → Prop) (v1 : Int32) : Nat → Int32 → Int32 → zS → Prop
  | 0, _, _, _ => False
  | n + 1, v2, v3, S =>
    (576 ≤ v3 →
    post v2 S) ∧
    (¬ 576 ≤ v3 →
    vp_in v3 576 ∧ ((S 2 (z_ix v3)) = 0 →
    ∀ x36 : Int32, x36 = v3 + 1 → L_P_weightOf_4 post v1 n v2 x36 S) ∧
    (¬ (S 2 (z_ix v3)) = 0 →
    vp_in v3 576 ∧ (¬ (S 6 (z_ix v3)) = v1 →
    ∀ x36 : Int32, x36 = v3 + 1 → L_P_weightOf_4 post v1 n v2 x36 S) ∧
    ((S 6 (z_ix v3)) = v1 →
    ∀ x33 : Int32, x33 = v2 + 1 → ∀ x36 : Int32, x36 = v3 + 1 → L_P_weightOf_4 post v1 n x33 x36 S)))
def P_P_weightOf (v1 : Int32) (S : zS) (post : Int32 → zS → Prop) : Prop :=
    ∃ k4, L_P_weightOf_4 post v1 k4 0 0 S
def P_G_wideOf (g : Nat) (v1 : Int32) (S : zS) (post : Int32 → zS → Prop) : Prop :=
    vp_in v1 288 ∧ vp_in v1 288 ∧ post (((S (g + 4) (z_ix v1)) - (S (g + 2) (z_ix v1))) + 1) S
def P_G_highOf (g : Nat) (v1 : Int32) (S : zS) (post : Int32 → zS → Prop) : Prop :=
    vp_in v1 288 ∧ vp_in v1 288 ∧ post (((S (g + 5) (z_ix v1)) - (S (g + 3) (z_ix v1))) + 1) S
def P_P_isThin (v0 : Int32) (v1 : Int32) (S : zS) (post : Int32 → zS → Prop) : Prop :=
    (2 < v1 →
    post 0 S) ∧
    (¬ 2 < v1 →
    (v0 < (5 * v1) →
    post 0 S) ∧
    (¬ v0 < (5 * v1) →
    post 1 S))
def L_P_countClean_18 (post : Int32 → zS → Prop) (K51 : Int32 → zS → Prop) (v1 : Int32) (v2 : Int32) (v3 : Int32) (v4 : Int32) (v6 : Int32) : Nat → Int32 → Int32 → zS → Prop
  | 0, _, _, _ => False
  | n + 1, v5, v7, S =>
    ((v1 + v3) ≤ v7 →
    K51 v5 S) ∧
    (¬ (v1 + v3) ≤ v7 →
    vp_in ((v6 * 24) + v7) 576 ∧ ((S 2 (z_ix ((v6 * 24) + v7))) = 0 →
    ∀ x45 : Int32, x45 = v7 + 1 → L_P_countClean_18 post K51 v1 v2 v3 v4 v6 n v5 x45 S) ∧
    (¬ (S 2 (z_ix ((v6 * 24) + v7))) = 0 →
    ∀ x42 : Int32, x42 = v5 + 1 → ∀ x45 : Int32, x45 = v7 + 1 → L_P_countClean_18 post K51 v1 v2 v3 v4 v6 n x42 x45 S))
def L_P_countClean_6 (post : Int32 → zS → Prop) (v1 : Int32) (v2 : Int32) (v3 : Int32) (v4 : Int32) : Nat → Int32 → Int32 → zS → Prop
  | 0, _, _, _ => False
  | n + 1, v5, v6, S =>
    ((v2 + v4) ≤ v6 →
    post v5 S) ∧
    (¬ (v2 + v4) ≤ v6 →
    ∃ k18, L_P_countClean_18 post (fun v5_18e S18e =>
    ∀ x51 : Int32, x51 = v6 + 1 → L_P_countClean_6 post v1 v2 v3 v4 n v5_18e x51 S18e) v1 v2 v3 v4 v6 k18 v5 v1 S)
def P_P_countClean (v1 : Int32) (v2 : Int32) (v3 : Int32) (v4 : Int32) (S : zS) (post : Int32 → zS → Prop) : Prop :=
    ∃ k6, L_P_countClean_6 post v1 v2 v3 v4 k6 0 v2 S
def P_P_isFramed (v1 : Int32) (S : zS) (post : Int32 → zS → Prop) : Prop :=
    vp_in v1 288 ∧ ∀ x9 : Int32, x9 = (S 7 (z_ix v1)) → vp_in v1 288 ∧ ∀ x19 : Int32, x19 = (S 8 (z_ix v1)) → P_G_wideOf 5 v1 S (fun r25 S25 =>
    P_G_highOf 5 v1 S25 (fun r35 S35 =>
    P_P_countClean x9 x19 r25 1 S35 (fun r47 S47 =>
    ((4 * r47) < (3 * r25) →
    post 0 S47) ∧
    (¬ (4 * r47) < (3 * r25) →
    vp_in v1 288 ∧ P_P_countClean x9 (S47 10 (z_ix v1)) r25 1 S47 (fun r73 S73 =>
    ((4 * r73) < (3 * r25) →
    post 0 S73) ∧
    (¬ (4 * r73) < (3 * r25) →
    P_P_countClean x9 x19 1 r35 S73 (fun r91 S91 =>
    ((4 * r91) < (3 * r35) →
    post 0 S91) ∧
    (¬ (4 * r91) < (3 * r35) →
    vp_in v1 288 ∧ P_P_countClean (S91 9 (z_ix v1)) x19 1 r35 S91 (fun r117 S117 =>
    ((4 * r117) < (3 * r35) →
    post 0 S117) ∧
    (¬ (4 * r117) < (3 * r35) →
    post 1 S117))))))))))
def P_P_isMostlyEmptyWithin (v1 : Int32) (S : zS) (post : Int32 → zS → Prop) : Prop :=
    P_G_wideOf 5 v1 S (fun r5 S5 =>
    ∀ x10 : Int32, x10 = (r5 - 2) → P_G_highOf 5 v1 S5 (fun r16 S16 =>
    ∀ x21 : Int32, x21 = (r16 - 2) → vp_in v1 288 ∧ vp_in v1 288 ∧ P_P_countClean ((S16 7 (z_ix v1)) + 1) ((S16 8 (z_ix v1)) + 1) x10 x21 S16 (fun r48 S48 =>
    ((x10 * x21) < (4 * r48) →
    post 0 S48) ∧
    (¬ (x10 * x21) < (4 * r48) →
    post 1 S48))))
def J_P_kindOf_68 (post : Int32 → zS → Prop) (v1 : Int32) (v2 : Int32) (v3 : Int32) (S : zS) : Prop :=
    vp_in v1 288 ∧ vp_in v1 288 ∧ P_P_countClean (S 7 (z_ix v1)) (S 8 (z_ix v1)) v2 v3 S (fun r89 S89 =>
    ((2 * r89) < (v2 * v3) →
    post 0 S89) ∧
    (¬ (2 * r89) < (v2 * v3) →
    post 2 S89))
def P_P_kindOf (v1 : Int32) (S : zS) (post : Int32 → zS → Prop) : Prop :=
    P_G_wideOf 5 v1 S (fun r5 S5 =>
    P_G_highOf 5 v1 S5 (fun r14 S14 =>
    P_P_isThin r5 r14 S14 (fun r20 S20 =>
    (¬ r20 = 0 →
    post 1 S20) ∧
    (r20 = 0 →
    P_P_isThin r14 r5 S20 (fun r28 S28 =>
    (r28 = 0 →
    (r5 < 7 →
    post 0 S28) ∧
    (¬ r5 < 7 →
    (7 ≤ r14 →
    P_P_isFramed v1 S28 (fun r52 S52 =>
    (r52 = 0 →
    J_P_kindOf_68 post v1 r5 r14 S52) ∧
    (¬ r52 = 0 →
    P_P_isMostlyEmptyWithin v1 S52 (fun r60 S60 =>
    (r60 = 0 →
    J_P_kindOf_68 post v1 r5 r14 S60) ∧
    (¬ r60 = 0 →
    post 3 S60))))) ∧
    (¬ 7 ≤ r14 →
    post 0 S28))) ∧
    (¬ r28 = 0 →
    post 1 S28))))))
def L_P_hasCleanOf_24 (post : Int32 → zS → Prop) (v1 : Int32) (v2 : Int32) : Nat → Int32 → zS → Prop
  | 0, _, _ => False
  | n + 1, v3, S =>
    vp_in v1 288 ∧ ((S 9 (z_ix v1)) < v3 →
    post 0 S) ∧
    (¬ (S 9 (z_ix v1)) < v3 →
    ∀ x43 : Int32, x43 = ((v2 * 24) + v3) → vp_in x43 576 ∧ ((S 2 (z_ix x43)) = 0 →
    ∀ x71 : Int32, x71 = v3 + 1 → L_P_hasCleanOf_24 post v1 v2 n x71 S) ∧
    (¬ (S 2 (z_ix x43)) = 0 →
    vp_in x43 576 ∧ (¬ (S 6 (z_ix x43)) = v1 →
    ∀ x71 : Int32, x71 = v3 + 1 → L_P_hasCleanOf_24 post v1 v2 n x71 S) ∧
    ((S 6 (z_ix x43)) = v1 →
    post 1 S)))
def P_P_hasCleanOf (v1 : Int32) (v2 : Int32) (S : zS) (post : Int32 → zS → Prop) : Prop :=
    (v2 < 0 →
    post 0 S) ∧
    (¬ v2 < 0 →
    (v2 < (S 0 1) →
    vp_in v1 288 ∧ ∀ x23 : Int32, x23 = (S 7 (z_ix v1)) → ∃ k24, L_P_hasCleanOf_24 post v1 v2 k24 x23 S) ∧
    (¬ v2 < (S 0 1) →
    post 0 S))
def P_P_beginsLine (v1 : Int32) (v2 : Int32) (S : zS) (post : Int32 → zS → Prop) : Prop :=
    P_P_hasCleanOf v1 v2 S (fun r3 S3 =>
    (r3 = 0 →
    post 0 S3) ∧
    (¬ r3 = 0 →
    P_P_hasCleanOf v1 (v2 - 1) S3 (fun r14 S14 =>
    (¬ r14 = 0 →
    post 0 S14) ∧
    (r14 = 0 →
    post 1 S14))))
def L_P_countLines_12 (post : Int32 → zS → Prop) (v1 : Int32) : Nat → Int32 → Int32 → zS → Prop
  | 0, _, _, _ => False
  | n + 1, v2, v3, S =>
    vp_in v1 288 ∧ ((S 10 (z_ix v1)) < v3 →
    post v2 S) ∧
    (¬ (S 10 (z_ix v1)) < v3 →
    P_P_beginsLine v1 v3 S (fun r28 S28 =>
    (r28 = 0 →
    ∀ x37 : Int32, x37 = v3 + 1 → L_P_countLines_12 post v1 n v2 x37 S28) ∧
    (¬ r28 = 0 →
    ∀ x34 : Int32, x34 = v2 + 1 → ∀ x37 : Int32, x37 = v3 + 1 → L_P_countLines_12 post v1 n x34 x37 S28)))
def P_P_countLines (v1 : Int32) (S : zS) (post : Int32 → zS → Prop) : Prop :=
    vp_in v1 288 ∧ ∀ x11 : Int32, x11 = (S 8 (z_ix v1)) → ∃ k12, L_P_countLines_12 post v1 k12 0 x11 S
def P_G_boxOf (g : Nat) (v1 : Int32) (v2 : Int32) (S : zS) (post : Int32 → zS → Prop) : Prop :=
    (v2 = 0 →
    vp_in v1 288 ∧ post (S (g + 2) (z_ix v1)) S) ∧
    (v2 = 1 →
    vp_in v1 288 ∧ post (S (g + 3) (z_ix v1)) S) ∧
    (v2 = 2 →
    P_G_wideOf g v1 S (fun r44 S44 =>
    post r44 S44)) ∧
    (¬ v2 = 0 → ¬ v2 = 1 → ¬ v2 = 2 → 
    P_G_highOf g v1 S (fun r50 S50 =>
    post r50 S50))
def P_P_part (v1 : Int32) (v2 : Int32) (S : zS) (post : Int32 → zS → Prop) : Prop :=
    P_P_mustBeParted S (fun S1 =>
    P_P_mustBeBelow v1 (S1 5 6) S1 (fun S12 =>
    P_P_mustBeTold v2 8 S12 (fun S18 =>
    (v2 = 4 →
    P_P_weightOf v1 S18 (fun r54 S54 =>
    post r54 S54)) ∧
    (v2 = 5 →
    P_P_kindOf v1 S18 (fun r60 S60 =>
    post r60 S60)) ∧
    (v2 = 6 →
    P_P_countLines v1 S18 (fun r66 S66 =>
    post r66 S66)) ∧
    (v2 = 7 →
    vp_in v1 288 ∧ post (S18 11 (z_ix v1)) S18) ∧
    (¬ v2 = 4 → ¬ v2 = 5 → ¬ v2 = 6 → ¬ v2 = 7 → 
    P_G_boxOf 5 v1 v2 S18 (fun r86 S86 =>
    post r86 S86)))))
def P_P_partOf (v1 : Int32) (v2 : Int32) (S : zS) (post : Int32 → zS → Prop) : Prop :=
    P_P_mustBeParted S (fun S1 =>
    P_P_mustBeSample v1 v2 S1 (fun S7 =>
    vp_in ((v2 * 24) + v1) 576 ∧ post (S7 6 (z_ix ((v2 * 24) + v1))) S7))
def L_P_firstRowOfLine_13 (post : Int32 → zS → Prop) (v1 : Int32) (v2 : Int32) : Nat → Int32 → Int32 → zS → Prop
  | 0, _, _, _ => False
  | n + 1, v3, v4, S =>
    vp_in v1 288 ∧ ((S 10 (z_ix v1)) < v4 →
    post (-1) S) ∧
    (¬ (S 10 (z_ix v1)) < v4 →
    P_P_beginsLine v1 v4 S (fun r31 S31 =>
    (r31 = 0 →
    ∀ x48 : Int32, x48 = v4 + 1 → L_P_firstRowOfLine_13 post v1 v2 n v3 x48 S31) ∧
    (¬ r31 = 0 →
    (¬ v3 = v2 →
    ∀ x45 : Int32, x45 = v3 + 1 → ∀ x48 : Int32, x48 = v4 + 1 → L_P_firstRowOfLine_13 post v1 v2 n x45 x48 S31) ∧
    (v3 = v2 →
    post v4 S31))))
def P_P_firstRowOfLine (v1 : Int32) (v2 : Int32) (S : zS) (post : Int32 → zS → Prop) : Prop :=
    vp_in v1 288 ∧ ∀ x11 : Int32, x11 = (S 8 (z_ix v1)) → ∃ k13, L_P_firstRowOfLine_13 post v1 v2 k13 0 x11 S
def L_P_countRowsOfLine_2 (post : Int32 → zS → Prop) (K30 : Int32 → zS → Prop) (v1 : Int32) (v2 : Int32) : Nat → Int32 → zS → Prop
  | 0, _, _ => False
  | n + 1, v3, S =>
    vp_in v1 288 ∧ ((S 10 (z_ix v1)) < v3 →
    K30 v3 S) ∧
    (¬ (S 10 (z_ix v1)) < v3 →
    P_P_hasCleanOf v1 v3 S (fun r18 S18 =>
    (r18 = 0 →
    K30 v3 S18) ∧
    (¬ r18 = 0 →
    ∀ x24 : Int32, x24 = v3 + 1 → L_P_countRowsOfLine_2 post K30 v1 v2 n x24 S18)))
def P_P_countRowsOfLine (v1 : Int32) (v2 : Int32) (S : zS) (post : Int32 → zS → Prop) : Prop :=
    ∃ k2, L_P_countRowsOfLine_2 post (fun v3_2e S2e =>
    post (v3_2e - v2) S2e) v1 v2 k2 v2 S
def P_P_line (v1 : Int32) (v2 : Int32) (v3 : Int32) (S : zS) (post : Int32 → zS → Prop) : Prop :=
    P_P_mustBeParted S (fun S1 =>
    P_P_mustBeBelow v1 (S1 5 6) S1 (fun S12 =>
    P_P_countLines v1 S12 (fun r18 S18 =>
    P_P_mustBeBelow v2 r18 S18 (fun S21 =>
    P_P_mustBeTold v3 2 S21 (fun S26 =>
    P_P_firstRowOfLine v1 v2 S26 (fun r32 S32 =>
    (¬ v3 = 0 →
    P_P_countRowsOfLine v1 r32 S32 (fun r50 S50 =>
    post r50 S50)) ∧
    (v3 = 0 →
    post r32 S32)))))))
def P_P_order (v1 : Int32) (S : zS) (post : Int32 → zS → Prop) : Prop :=
    P_P_mustBeParted S (fun S1 =>
    P_P_mustBeBelow v1 (S1 5 6) S1 (fun S12 =>
    vp_in v1 288 ∧ post (S12 28 (z_ix v1)) S12))
def P_P_cover (v1 : Int32) (v2 : Int32) (S : zS) (post : Int32 → zS → Prop) : Prop :=
    P_P_mustBeParted S (fun S1 =>
    P_P_mustBeBelow v1 (S1 21 4) S1 (fun S12 =>
    P_P_mustBeTold v2 4 S12 (fun S17 =>
    (v2 = 0 →
    vp_in v1 6 ∧ post (S17 22 (z_ix v1)) S17) ∧
    (v2 = 1 →
    vp_in v1 6 ∧ post (S17 23 (z_ix v1)) S17) ∧
    (v2 = 2 →
    vp_in v1 6 ∧ post (S17 24 (z_ix v1)) S17) ∧
    (¬ v2 = 0 → ¬ v2 = 1 → ¬ v2 = 2 → 
    vp_in v1 6 ∧ post (S17 25 (z_ix v1)) S17))))
def P_P_strip (v1 : Int32) (S : zS) (post : Int32 → zS → Prop) : Prop :=
    P_P_mustBeParted S (fun S1 =>
    P_P_mustBeBelow v1 (S1 0 0) S1 (fun S9 =>
    vp_in v1 24 ∧ post (S9 4 (z_ix v1)) S9))
def P_P_cell (v1 : Int32) (v2 : Int32) (S : zS) (post : Int32 → zS → Prop) : Prop :=
    P_P_mustBeParted S (fun S1 =>
    P_P_mustBeBelow v1 (S1 13 6) S1 (fun S12 =>
    P_P_mustBeTold v2 5 S12 (fun S17 =>
    (¬ v2 = 4 →
    P_G_boxOf 13 v1 v2 S17 (fun r43 S43 =>
    post r43 S43)) ∧
    (v2 = 4 →
    vp_in v1 288 ∧ post (S17 19 (z_ix v1)) S17))))
def P_P_isSpeck (v1 : Int32) (v2 : Int32) (S : zS) (post : Int32 → zS → Prop) : Prop :=
    P_P_mustBeParted S (fun S1 =>
    P_P_mustBeSample v1 v2 S1 (fun S7 =>
    ∀ x16 : Int32, x16 = ((v2 * 24) + v1) → vp_in x16 576 ∧ ((S7 1 (z_ix x16)) = 0 →
    post 0 S7) ∧
    (¬ (S7 1 (z_ix x16)) = 0 →
    vp_in x16 576 ∧ (¬ (S7 2 (z_ix x16)) = 0 →
    post 0 S7) ∧
    ((S7 2 (z_ix x16)) = 0 →
    post 1 S7))))
def P_P_toldOfParted (v1 : Int32) (S : zS) (post : Int32 → zS → Prop) : Prop :=
    (v1 = 3 →
    post (S 5 6) S) ∧
    (v1 = 4 →
    post (S 21 4) S) ∧
    (v1 = 5 →
    post (S 0 12) S) ∧
    (v1 = 6 →
    post (S 13 6) S) ∧
    (v1 = 7 →
    post ((S 0 10) - (S 0 11)) S) ∧
    (¬ v1 = 3 → ¬ v1 = 4 → ¬ v1 = 5 → ¬ v1 = 6 → ¬ v1 = 7 → 
    post (-1) S)
def P_P_told (v1 : Int32) (S : zS) (post : Int32 → zS → Prop) : Prop :=
    (v1 = 0 →
    post (S 0 0) S) ∧
    (v1 = 1 →
    post (S 0 1) S) ∧
    (v1 = 2 →
    post (S 0 10) S) ∧
    (¬ v1 = 0 → ¬ v1 = 1 → ¬ v1 = 2 → 
    ((S 0 14) = 0 →
    post (-1) S) ∧
    (¬ (S 0 14) = 0 →
    P_P_toldOfParted v1 S (fun r52 S52 =>
    post r52 S52)))
def L_P_clear_2 (post : zS → Prop) (K22 : zS → Prop) : Nat → Int32 → zS → Prop
  | 0, _, _ => False
  | n + 1, v1, S =>
    (576 ≤ v1 →
    K22 S) ∧
    (¬ 576 ≤ v1 →
    vp_in v1 576 ∧ ∀ S15 : zS, S15 = z_su S 1 (z_ix v1) 0 → ∀ x16 : Int32, x16 = v1 + 1 → L_P_clear_2 post K22 n x16 S15)
def P_P_clear (S : zS) (post : zS → Prop) : Prop :=
    ∃ k2, L_P_clear_2 post (fun S2e =>
    ∀ S24 : zS, S24 = z_su S2e 0 10 0 → ∀ S29 : zS, S29 = z_su S24 0 13 3 → ∀ S34 : zS, S34 = z_su S29 0 14 0 → post S34) k2 0 S
def P_M_nearest (v0 : Int32) (S : zS) (post : Int32 → zS → Prop) : Prop :=
    (1 ≤ v0 →
    (v0 ≤ 24 →
    post v0 S) ∧
    (¬ v0 ≤ 24 →
    post 24 S)) ∧
    (¬ 1 ≤ v0 →
    post 1 S)
def P_M_thrown (S : zS) (post : Int32 → zS → Prop) : Prop :=
    post (S 31 0) S
def P_M_in (v0 : Int32) (v1 : Int32) (v2 : Int32) (S : zS) (post : Int32 → zS → Prop) : Prop :=
    (v0 < v1 →
    post 0 S) ∧
    (¬ v0 < v1 →
    (v2 < v0 →
    post 0 S) ∧
    (¬ v2 < v0 →
    post 1 S))
def P_M_isSample (v1 : Int32) (v2 : Int32) (S : zS) (post : Int32 → zS → Prop) : Prop :=
    P_M_in v1 0 ((S 31 1) - 1) S (fun r8 S8 =>
    (r8 = 0 →
    post 0 S8) ∧
    (¬ r8 = 0 →
    P_M_in v2 0 ((S8 31 2) - 1) S8 (fun r22 S22 =>
    (r22 = 0 →
    post 0 S22) ∧
    (¬ r22 = 0 →
    post 1 S22))))
def J_M_goes_26 (post : Int32 → zS → Prop) (t0 : Int32) (S : zS) : Prop :=
    ∀ S26 : zS, S26 = z_su S 31 0 t0 → (¬ (S26 31 0) = 0 →
    post 0 S26) ∧
    ((S26 31 0) = 0 →
    post 1 S26)
def P_M_goes (v1 : Int32) (v2 : Int32) (v3 : Int32) (S : zS) (post : Int32 → zS → Prop) : Prop :=
    (¬ v1 = 0 →
    (¬ v2 = 0 →
    (¬ v3 = 0 →
    J_M_goes_26 post 0 S) ∧
    (v3 = 0 →
    J_M_goes_26 post 3 S)) ∧
    (v2 = 0 →
    J_M_goes_26 post 2 S)) ∧
    (v1 = 0 →
    J_M_goes_26 post 1 S)
def J_M_put_41 (post : Int32 → zS → Prop) (v3 : Int32) (v4 : Int32) (t0 : Int32) (S : zS) : Prop :=
    vp_in v4 576 ∧ z_bo v3 ∧ ∀ S50 : zS, S50 = z_su S 32 (z_ix v4) v3 → ∀ S53 : zS, S53 = z_su S50 31 5 0 → z_bo t0 ∧ post t0 S53
def P_M_put (v1 : Int32) (v2 : Int32) (v3 : Int32) (S : zS) (post : Int32 → zS → Prop) : Prop :=
    P_M_isSample v1 v2 S (fun r4 S4 =>
    P_M_goes r4 1 1 S4 (fun r9 S9 =>
    (¬ r9 = 0 →
    ∀ x23 : Int32, x23 = ((24 * v2) + v1) → vp_in x23 576 ∧ ((S9 32 (z_ix x23)) = v3 →
    J_M_put_41 post v3 x23 0 S9) ∧
    (¬ (S9 32 (z_ix x23)) = v3 →
    J_M_put_41 post v3 x23 1 S9)) ∧
    (r9 = 0 →
    post 0 S9)))
def J_M_fill_103 (post : Int32 → zS → Prop) (K59 : Int32 → Int32 → zS → Prop) (v1 : Int32) (v2 : Int32) (v3 : Int32) (v4 : Int32) (v5 : Int32) (v7 : Int32) (v8 : Int32) (t0 : Int32) (S : zS) : Prop :=
    vp_in ((24 * v7) + v8) 576 ∧ z_bo v5 ∧ ∀ S119 : zS, S119 = z_su S 32 (z_ix ((24 * v7) + v8)) v5 → ∀ x120 : Int32, x120 = v8 + 1 → K59 t0 x120 S119
def L_M_fill_59 (post : Int32 → zS → Prop) (K126 : Int32 → zS → Prop) (v1 : Int32) (v2 : Int32) (v3 : Int32) (v4 : Int32) (v5 : Int32) (v7 : Int32) : Nat → Int32 → Int32 → zS → Prop
  | 0, _, _, _ => False
  | n + 1, v6, v8, S =>
    ((S 31 1) ≤ v8 →
    K126 v6 S) ∧
    (¬ (S 31 1) ≤ v8 →
    (v3 ≤ (v8 - v1) →
    K126 v6 S) ∧
    (¬ v3 ≤ (v8 - v1) →
    vp_in ((24 * v7) + v8) 576 ∧ ((S 32 (z_ix ((24 * v7) + v8))) = v5 →
    J_M_fill_103 post (L_M_fill_59 post K126 v1 v2 v3 v4 v5 v7 n) v1 v2 v3 v4 v5 v7 v8 v6 S) ∧
    (¬ (S 32 (z_ix ((24 * v7) + v8))) = v5 →
    J_M_fill_103 post (L_M_fill_59 post K126 v1 v2 v3 v4 v5 v7 n) v1 v2 v3 v4 v5 v7 v8 (v6 + 1) S)))
def L_M_fill_38 (post : Int32 → zS → Prop) (K132 : Int32 → zS → Prop) (v1 : Int32) (v2 : Int32) (v3 : Int32) (v4 : Int32) (v5 : Int32) : Nat → Int32 → Int32 → zS → Prop
  | 0, _, _, _ => False
  | n + 1, v6, v7, S =>
    ((S 31 2) ≤ v7 →
    K132 v6 S) ∧
    (¬ (S 31 2) ≤ v7 →
    (v4 ≤ (v7 - v2) →
    K132 v6 S) ∧
    (¬ v4 ≤ (v7 - v2) →
    ∃ k59, L_M_fill_59 post (fun v6_59e S59e =>
    ∀ x126 : Int32, x126 = v7 + 1 → L_M_fill_38 post K132 v1 v2 v3 v4 v5 n v6_59e x126 S59e) v1 v2 v3 v4 v5 v7 k59 v6 v1 S))
def J_M_fill_23 (post : Int32 → zS → Prop) (v1 : Int32) (v2 : Int32) (v3 : Int32) (v4 : Int32) (v5 : Int32) (t0 : Int32) (t1 : Int32) (S : zS) : Prop :=
    P_M_goes t1 t0 1 S (fun r24 S24 =>
    (¬ r24 = 0 →
    ∃ k38, L_M_fill_38 post (fun v6_38e S38e =>
    ∀ S134 : zS, S134 = z_su S38e 31 5 0 → post v6_38e S134) v1 v2 v3 v4 v5 k38 0 v2 S24) ∧
    (r24 = 0 →
    post 0 S24))
def J_M_fill_22 (post : Int32 → zS → Prop) (v1 : Int32) (v2 : Int32) (v3 : Int32) (v4 : Int32) (v5 : Int32) (t0 : Int32) (S : zS) : Prop :=
    J_M_fill_23 post v1 v2 v3 v4 v5 0 t0 S
def P_M_fill (v1 : Int32) (v2 : Int32) (v3 : Int32) (v4 : Int32) (v5 : Int32) (S : zS) (post : Int32 → zS → Prop) : Prop :=
    P_M_isSample v1 v2 S (fun r4 S4 =>
    (v3 < 1 →
    J_M_fill_22 post v1 v2 v3 v4 v5 r4 S4) ∧
    (¬ v3 < 1 →
    (v4 < 1 →
    J_M_fill_22 post v1 v2 v3 v4 v5 r4 S4) ∧
    (¬ v4 < 1 →
    J_M_fill_23 post v1 v2 v3 v4 v5 1 r4 S4)))
def P_M_noise (v1 : Int32) (S : zS) (post : Int32 → zS → Prop) : Prop :=
    P_M_in v1 0 100 S (fun r5 S5 =>
    P_M_goes r5 1 1 S5 (fun r10 S10 =>
    (¬ r10 = 0 →
    ∀ x22 : Int32, x22 = (S10 31 4) → ∀ S25 : zS, S25 = z_su S10 31 4 v1 → ∀ S30 : zS, S30 = z_su S25 31 5 0 → post x22 S30) ∧
    (r10 = 0 →
    post 0 S10)))
def L_M_clear_7 (post : zS → Prop) (K27 : zS → Prop) : Nat → Int32 → zS → Prop
  | 0, _, _ => False
  | n + 1, v1, S =>
    (576 ≤ v1 →
    K27 S) ∧
    (¬ 576 ≤ v1 →
    vp_in v1 576 ∧ ∀ S20 : zS, S20 = z_su S 32 (z_ix v1) 0 → ∀ x21 : Int32, x21 = v1 + 1 → L_M_clear_7 post K27 n x21 S20)
def P_M_clear (S : zS) (post : zS → Prop) : Prop :=
    ∀ S2 : zS, S2 = z_su S 31 0 0 → ∃ k7, L_M_clear_7 post (fun S7e =>
    ∀ S29 : zS, S29 = z_su S7e 31 4 3 → ∀ S34 : zS, S34 = z_su S29 31 5 0 → post S34) k7 0 S2
def P_M_is (v1 : Int32) (v2 : Int32) (S : zS) (post : Int32 → zS → Prop) : Prop :=
    (¬ v1 = 0 →
    (¬ v1 = 1 →
    vp_in v2 576 ∧ (¬ (S 34 (z_ix v2)) = 0 →
    post 0 S) ∧
    ((S 34 (z_ix v2)) = 0 →
    post 1 S)) ∧
    (v1 = 1 →
    vp_in v2 576 ∧ z_bo (S 35 (z_ix v2)) ∧ post (S 35 (z_ix v2)) S)) ∧
    (v1 = 0 →
    vp_in v2 576 ∧ z_bo (S 32 (z_ix v2)) ∧ post (S 32 (z_ix v2)) S)
def J_M_settles_60 (post : Int32 → zS → Prop) (K35 : Int32 → Int32 → zS → Prop) (v1 : Int32) (v2 : Int32) (v3 : Int32) (v4 : Int32) (v5 : Int32) (v6 : Int32) (v7 : Int32) (t0 : Int32) (S : zS) : Prop :=
    (t0 = 0 →
    ∀ x122 : Int32, x122 = v7 + 1 → K35 v5 x122 S) ∧
    (¬ t0 = 0 →
    P_M_isSample (v1 + v7) (v2 + v6) S (fun r76 S76 =>
    (r76 = 0 →
    ∀ x122 : Int32, x122 = v7 + 1 → K35 v5 x122 S76) ∧
    (¬ r76 = 0 →
    vp_in ((v4 + (24 * v6)) + v7) 576 ∧ ∀ x98 : Int32, x98 = (S76 37 (z_ix ((v4 + (24 * v6)) + v7))) → (x98 = (-1) →
    ∀ x122 : Int32, x122 = v7 + 1 → K35 v5 x122 S76) ∧
    (¬ x98 = (-1) →
    (v5 ≤ x98 →
    ∀ x122 : Int32, x122 = v7 + 1 → K35 v5 x122 S76) ∧
    (¬ v5 ≤ x98 →
    ∀ x122 : Int32, x122 = v7 + 1 → K35 x98 x122 S76)))))
def J_M_settles_55 (post : Int32 → zS → Prop) (K35 : Int32 → Int32 → zS → Prop) (v1 : Int32) (v2 : Int32) (v3 : Int32) (v4 : Int32) (v5 : Int32) (v6 : Int32) (v7 : Int32) (S : zS) : Prop :=
    J_M_settles_60 post K35 v1 v2 v3 v4 v5 v6 v7 1 S
def L_M_settles_35 (post : Int32 → zS → Prop) (K128 : Int32 → zS → Prop) (v1 : Int32) (v2 : Int32) (v3 : Int32) (v4 : Int32) (v6 : Int32) : Nat → Int32 → Int32 → zS → Prop
  | 0, _, _, _ => False
  | n + 1, v5, v7, S =>
    (1 < v7 →
    K128 v5 S) ∧
    (¬ 1 < v7 →
    (¬ v3 = 0 →
    J_M_settles_55 post (L_M_settles_35 post K128 v1 v2 v3 v4 v6 n) v1 v2 v3 v4 v5 v6 v7 S) ∧
    (v3 = 0 →
    (v7 = 0 →
    J_M_settles_55 post (L_M_settles_35 post K128 v1 v2 v3 v4 v6 n) v1 v2 v3 v4 v5 v6 v7 S) ∧
    (¬ v7 = 0 →
    (¬ v6 = 0 →
    J_M_settles_60 post (L_M_settles_35 post K128 v1 v2 v3 v4 v6 n) v1 v2 v3 v4 v5 v6 v7 0 S) ∧
    (v6 = 0 →
    J_M_settles_55 post (L_M_settles_35 post K128 v1 v2 v3 v4 v6 n) v1 v2 v3 v4 v5 v6 v7 S))))
def L_M_settles_20 (post : Int32 → zS → Prop) (K134 : Int32 → zS → Prop) (v1 : Int32) (v2 : Int32) (v3 : Int32) (v4 : Int32) : Nat → Int32 → Int32 → zS → Prop
  | 0, _, _, _ => False
  | n + 1, v5, v6, S =>
    (1 < v6 →
    K134 v5 S) ∧
    (¬ 1 < v6 →
    (v5 = (-1) →
    K134 v5 S) ∧
    (¬ v5 = (-1) →
    ∃ k35, L_M_settles_35 post (fun v5_35e S35e =>
    ∀ x128 : Int32, x128 = v6 + 1 → L_M_settles_20 post K134 v1 v2 v3 v4 n v5_35e x128 S35e) v1 v2 v3 v4 v6 k35 v5 (-1) S))
def J_M_settles_134 (post : Int32 → zS → Prop) (v4 : Int32) (v5 : Int32) (S : zS) : Prop :=
    vp_in v4 576 ∧ (v5 = (S 37 (z_ix v4)) →
    vp_in v4 576 ∧ ∀ S161 : zS, S161 = z_su S 37 (z_ix v4) v5 → post 0 S161) ∧
    (¬ v5 = (S 37 (z_ix v4)) →
    vp_in v4 576 ∧ ∀ S161 : zS, S161 = z_su S 37 (z_ix v4) v5 → post 1 S161)
def P_M_settles (v1 : Int32) (v2 : Int32) (v3 : Int32) (S : zS) (post : Int32 → zS → Prop) : Prop :=
    ∀ x6 : Int32, x6 = ((24 * v2) + v1) → vp_in x6 576 ∧ ∀ x15 : Int32, x15 = (S 37 (z_ix x6)) → ∃ k20, L_M_settles_20 post (fun v5_20e S20e =>
    J_M_settles_134 post x6 v5_20e S20e) v1 v2 v3 x6 k20 x15 (-1) S
def L_M_group_13 (post : zS → Prop) (K66 : zS → Prop) (v1 : Int32) (v2 : Int32) (v3 : Int32) : Nat → Int32 → zS → Prop
  | 0, _, _ => False
  | n + 1, v4, S =>
    ((S 31 1) ≤ v4 →
    K66 S) ∧
    (¬ (S 31 1) ≤ v4 →
    P_M_is v1 ((24 * v3) + v4) S (fun r42 S42 =>
    (r42 = 0 →
    vp_in ((24 * v3) + v4) 576 ∧ ∀ S59 : zS, S59 = z_su S42 37 (z_ix ((24 * v3) + v4)) (-1) → ∀ x60 : Int32, x60 = v4 + 1 → L_M_group_13 post K66 v1 v2 v3 n x60 S59) ∧
    (¬ r42 = 0 →
    vp_in ((24 * v3) + v4) 576 ∧ ∀ S59 : zS, S59 = z_su S42 37 (z_ix ((24 * v3) + v4)) ((24 * v3) + v4) → ∀ x60 : Int32, x60 = v4 + 1 → L_M_group_13 post K66 v1 v2 v3 n x60 S59)))
def L_M_group_2 (post : zS → Prop) (K72 : zS → Prop) (v1 : Int32) (v2 : Int32) : Nat → Int32 → zS → Prop
  | 0, _, _ => False
  | n + 1, v3, S =>
    ((S 31 2) ≤ v3 →
    K72 S) ∧
    (¬ (S 31 2) ≤ v3 →
    ∃ k13, L_M_group_13 post (fun S13e =>
    ∀ x66 : Int32, x66 = v3 + 1 → L_M_group_2 post K72 v1 v2 n x66 S13e) v1 v2 v3 k13 0 S)
def J_M_group_152 (post : zS → Prop) (K86 : Int32 → Int32 → zS → Prop) (v2 : Int32) (v4 : Int32) (v5 : Int32) (S : zS) : Prop :=
    ∀ x158 : Int32, x158 = v5 + 1 → K86 1 x158 S
def J_M_group_124 (post : zS → Prop) (K86 : Int32 → Int32 → zS → Prop) (v2 : Int32) (v3 : Int32) (v4 : Int32) (v5 : Int32) (t0 : Int32) (S : zS) : Prop :=
    ¬ (S 31 1) = 0 ∧ ¬ (S 31 1) = 0 ∧ P_M_settles (t0 - t0 / (S 31 1) * (S 31 1)) (t0 / (S 31 1)) v2 S (fun r142 S142 =>
    (¬ r142 = 0 →
    J_M_group_152 post K86 v2 v4 v5 S142) ∧
    (r142 = 0 →
    (v3 = 0 →
    ∀ x158 : Int32, x158 = v5 + 1 → K86 0 x158 S142) ∧
    (¬ v3 = 0 →
    J_M_group_152 post K86 v2 v4 v5 S142)))
def L_M_group_86 (post : zS → Prop) (K164 : Int32 → zS → Prop) (v2 : Int32) (v4 : Int32) : Nat → Int32 → Int32 → zS → Prop
  | 0, _, _, _ => False
  | n + 1, v3, v5, S =>
    (((S 31 1) * (S 31 2)) ≤ v5 →
    K164 v3 S) ∧
    (¬ ((S 31 1) * (S 31 2)) ≤ v5 →
    (v4 = 0 →
    J_M_group_124 post (L_M_group_86 post K164 v2 v4 n) v2 v3 v4 v5 ((((S 31 1) * (S 31 2)) - 1) - v5) S) ∧
    (¬ v4 = 0 →
    J_M_group_124 post (L_M_group_86 post K164 v2 v4 n) v2 v3 v4 v5 v5 S))
def L_M_group_77 (post : zS → Prop) (v2 : Int32) : Nat → Int32 → Int32 → zS → Prop
  | 0, _, _, _ => False
  | n + 1, v3, v4, S =>
    (v3 = 0 →
    post S) ∧
    (¬ v3 = 0 →
    ∃ k86, L_M_group_86 post (fun v3_86e S86e =>
    (¬ v4 = 0 →
    L_M_group_77 post v2 n v3_86e 0 S86e) ∧
    (v4 = 0 →
    L_M_group_77 post v2 n v3_86e 1 S86e)) v2 v4 k86 0 0 S)
def P_M_group (v1 : Int32) (v2 : Int32) (S : zS) (post : zS → Prop) : Prop :=
    ∃ k2, L_M_group_2 post (fun S2e =>
    ∃ k77, L_M_group_77 post v2 k77 1 1 S2e) v1 v2 k2 0 S
def L_M_sizeOf_15 (post : Int32 → zS → Prop) (K54 : Int32 → zS → Prop) (v1 : Int32) (v3 : Int32) : Nat → Int32 → Int32 → zS → Prop
  | 0, _, _, _ => False
  | n + 1, v2, v4, S =>
    ((S 31 1) ≤ v4 →
    K54 v2 S) ∧
    (¬ (S 31 1) ≤ v4 →
    vp_in ((24 * v3) + v4) 576 ∧ (¬ (S 37 (z_ix ((24 * v3) + v4))) = v1 →
    ∀ x48 : Int32, x48 = v4 + 1 → L_M_sizeOf_15 post K54 v1 v3 n v2 x48 S) ∧
    ((S 37 (z_ix ((24 * v3) + v4))) = v1 →
    ∀ x47 : Int32, x47 = (v2 + 1) → ∀ x48 : Int32, x48 = v4 + 1 → L_M_sizeOf_15 post K54 v1 v3 n x47 x48 S))
def L_M_sizeOf_4 (post : Int32 → zS → Prop) (v1 : Int32) : Nat → Int32 → Int32 → zS → Prop
  | 0, _, _, _ => False
  | n + 1, v2, v3, S =>
    ((S 31 2) ≤ v3 →
    post v2 S) ∧
    (¬ (S 31 2) ≤ v3 →
    ∃ k15, L_M_sizeOf_15 post (fun v2_15e S15e =>
    ∀ x54 : Int32, x54 = v3 + 1 → L_M_sizeOf_4 post v1 n v2_15e x54 S15e) v1 v3 k15 v2 0 S)
def P_M_sizeOf (v1 : Int32) (S : zS) (post : Int32 → zS → Prop) : Prop :=
    ∃ k4, L_M_sizeOf_4 post v1 k4 0 0 S
def L_M_inGap_6 (post : Int32 → zS → Prop) (K49 : Int32 → Int32 → zS → Prop) (v3 : Int32) (v4 : Int32) (v5 : Int32) : Nat → Int32 → Int32 → zS → Prop
  | 0, _, _, _ => False
  | n + 1, v6, v7, S =>
    P_M_isSample v6 v7 S (fun r11 S11 =>
    (r11 = 0 →
    K49 v6 v7 S11) ∧
    (¬ r11 = 0 →
    vp_in ((24 * v7) + v6) 576 ∧ (¬ (S11 34 (z_ix ((24 * v7) + v6))) = 0 →
    K49 v6 v7 S11) ∧
    ((S11 34 (z_ix ((24 * v7) + v6))) = 0 →
    ∀ x37 : Int32, x37 = (v6 - v3) → ∀ x44 : Int32, x44 = (v7 - v4) → L_M_inGap_6 post K49 v3 v4 v5 n x37 x44 S11)))
def L_M_inGap_78 (post : Int32 → zS → Prop) (K124 : Int32 → Int32 → Int32 → zS → Prop) (v3 : Int32) (v4 : Int32) (v5 : Int32) : Nat → Int32 → Int32 → Int32 → zS → Prop
  | 0, _, _, _, _ => False
  | n + 1, v6, v7, v8, S =>
    P_M_isSample v6 v7 S (fun r83 S83 =>
    (r83 = 0 →
    K124 v6 v7 v8 S83) ∧
    (¬ r83 = 0 →
    vp_in ((24 * v7) + v6) 576 ∧ (¬ (S83 34 (z_ix ((24 * v7) + v6))) = 0 →
    K124 v6 v7 v8 S83) ∧
    ((S83 34 (z_ix ((24 * v7) + v6))) = 0 →
    ∀ x105 : Int32, x105 = v8 + 1 → ∀ x112 : Int32, x112 = (v6 + v3) → ∀ x119 : Int32, x119 = (v7 + v4) → L_M_inGap_78 post K124 v3 v4 v5 n x112 x119 x105 S83)))
def J_M_inGap_124 (post : Int32 → zS → Prop) (v5 : Int32) (v6 : Int32) (v7 : Int32) (v8 : Int32) (S : zS) : Prop :=
    P_M_isSample v6 v7 S (fun r129 S129 =>
    (r129 = 0 →
    post 0 S129) ∧
    (¬ r129 = 0 →
    (v5 < v8 →
    post 0 S129) ∧
    (¬ v5 < v8 →
    post 1 S129)))
def J_M_inGap_49 (post : Int32 → zS → Prop) (v3 : Int32) (v4 : Int32) (v5 : Int32) (v6 : Int32) (v7 : Int32) (S : zS) : Prop :=
    P_M_isSample v6 v7 S (fun r54 S54 =>
    (¬ r54 = 0 →
    ∀ x69 : Int32, x69 = (v6 + v3) → ∀ x76 : Int32, x76 = (v7 + v4) → ∃ k78, L_M_inGap_78 post (fun v6_78e v7_78e v8_78e S78e =>
    J_M_inGap_124 post v5 v6_78e v7_78e v8_78e S78e) v3 v4 v5 k78 x69 x76 0 S54) ∧
    (r54 = 0 →
    post 0 S54))
def P_M_inGap (v1 : Int32) (v2 : Int32) (v3 : Int32) (v4 : Int32) (v5 : Int32) (S : zS) (post : Int32 → zS → Prop) : Prop :=
    ∃ k6, L_M_inGap_6 post (fun v6_6e v7_6e S6e =>
    J_M_inGap_49 post v3 v4 v5 v6_6e v7_6e S6e) v3 v4 v5 k6 v1 v2 S
def J_M_takeInk_76 (post : zS → Prop) (K19 : Int32 → zS → Prop) (v1 : Int32) (v2 : Int32) (v3 : Int32) (v4 : Int32) (v5 : Int32) (t0 : Int32) (t1 : Int32) (S : zS) : Prop :=
    vp_in t1 576 ∧ z_bo t0 ∧ ∀ S76 : zS, S76 = z_su S 33 (z_ix t1) t0 → vp_in v5 576 ∧ ((S76 32 (z_ix v5)) = 0 →
    vp_in v5 576 ∧ ∀ S108 : zS, S108 = z_su S76 34 (z_ix v5) 0 → ∀ x109 : Int32, x109 = v4 + 1 → K19 x109 S108) ∧
    (¬ (S76 32 (z_ix v5)) = 0 →
    vp_in v5 576 ∧ (¬ (S76 33 (z_ix v5)) = 0 →
    vp_in v5 576 ∧ ∀ S108 : zS, S108 = z_su S76 34 (z_ix v5) 0 → ∀ x109 : Int32, x109 = v4 + 1 → K19 x109 S108) ∧
    ((S76 33 (z_ix v5)) = 0 →
    vp_in v5 576 ∧ ∀ S108 : zS, S108 = z_su S76 34 (z_ix v5) 1 → ∀ x109 : Int32, x109 = v4 + 1 → K19 x109 S108))
def J_M_takeInk_75 (post : zS → Prop) (K19 : Int32 → zS → Prop) (v1 : Int32) (v2 : Int32) (v3 : Int32) (v4 : Int32) (v5 : Int32) (t0 : Int32) (S : zS) : Prop :=
    J_M_takeInk_76 post K19 v1 v2 v3 v4 v5 0 t0 S
def L_M_takeInk_19 (post : zS → Prop) (K115 : zS → Prop) (v1 : Int32) (v2 : Int32) (v3 : Int32) : Nat → Int32 → zS → Prop
  | 0, _, _ => False
  | n + 1, v4, S =>
    ((S 31 1) ≤ v4 →
    K115 S) ∧
    (¬ (S 31 1) ≤ v4 →
    ∀ x35 : Int32, x35 = ((24 * v3) + v4) → vp_in x35 576 ∧ ((S 32 (z_ix x35)) = 0 →
    J_M_takeInk_75 post (L_M_takeInk_19 post K115 v1 v2 v3 n) v1 v2 v3 v4 x35 x35 S) ∧
    (¬ (S 32 (z_ix x35)) = 0 →
    vp_in x35 576 ∧ P_M_sizeOf (S 37 (z_ix x35)) S (fun r61 S61 =>
    ((S61 31 4) ≤ r61 →
    J_M_takeInk_75 post (L_M_takeInk_19 post K115 v1 v2 v3 n) v1 v2 v3 v4 x35 x35 S61) ∧
    (¬ (S61 31 4) ≤ r61 →
    J_M_takeInk_76 post (L_M_takeInk_19 post K115 v1 v2 v3 n) v1 v2 v3 v4 x35 1 x35 S61))))
def L_M_takeInk_8 (post : zS → Prop) (K121 : zS → Prop) (v1 : Int32) (v2 : Int32) : Nat → Int32 → zS → Prop
  | 0, _, _ => False
  | n + 1, v3, S =>
    ((S 31 2) ≤ v3 →
    K121 S) ∧
    (¬ (S 31 2) ≤ v3 →
    ∃ k19, L_M_takeInk_19 post (fun S19e =>
    ∀ x115 : Int32, x115 = v3 + 1 → L_M_takeInk_8 post K121 v1 v2 n x115 S19e) v1 v2 v3 k19 0 S)
def J_M_takeInk_195 (post : zS → Prop) (K134 : Int32 → zS → Prop) (v1 : Int32) (v2 : Int32) (v3 : Int32) (v4 : Int32) (t0 : Int32) (S : zS) : Prop :=
    vp_in t0 576 ∧ ∀ S200 : zS, S200 = z_su S 35 (z_ix t0) 1 → ∀ x201 : Int32, x201 = v4 + 1 → K134 x201 S200
def L_M_takeInk_134 (post : zS → Prop) (K207 : zS → Prop) (v1 : Int32) (v2 : Int32) (v3 : Int32) : Nat → Int32 → zS → Prop
  | 0, _, _ => False
  | n + 1, v4, S =>
    ((S 31 1) ≤ v4 →
    K207 S) ∧
    (¬ (S 31 1) ≤ v4 →
    vp_in ((24 * v3) + v4) 576 ∧ (¬ (S 34 (z_ix ((24 * v3) + v4))) = 0 →
    J_M_takeInk_195 post (L_M_takeInk_134 post K207 v1 v2 v3 n) v1 v2 v3 v4 ((24 * v3) + v4) S) ∧
    ((S 34 (z_ix ((24 * v3) + v4))) = 0 →
    P_M_inGap v4 v3 1 0 v1 S (fun r176 S176 =>
    (¬ r176 = 0 →
    J_M_takeInk_195 post (L_M_takeInk_134 post K207 v1 v2 v3 n) v1 v2 v3 v4 ((24 * v3) + v4) S176) ∧
    (r176 = 0 →
    P_M_inGap v4 v3 0 1 v2 S176 (fun r189 S189 =>
    (r189 = 0 →
    vp_in ((24 * v3) + v4) 576 ∧ ∀ S200 : zS, S200 = z_su S189 35 (z_ix ((24 * v3) + v4)) 0 → ∀ x201 : Int32, x201 = v4 + 1 → L_M_takeInk_134 post K207 v1 v2 v3 n x201 S200) ∧
    (¬ r189 = 0 →
    J_M_takeInk_195 post (L_M_takeInk_134 post K207 v1 v2 v3 n) v1 v2 v3 v4 ((24 * v3) + v4) S189))))))
def L_M_takeInk_123 (post : zS → Prop) (v1 : Int32) (v2 : Int32) : Nat → Int32 → zS → Prop
  | 0, _, _ => False
  | n + 1, v3, S =>
    ((S 31 2) ≤ v3 →
    post S) ∧
    (¬ (S 31 2) ≤ v3 →
    ∃ k134, L_M_takeInk_134 post (fun S134e =>
    ∀ x207 : Int32, x207 = v3 + 1 → L_M_takeInk_123 post v1 v2 n x207 S134e) v1 v2 v3 k134 0 S)
def P_M_takeInk (v1 : Int32) (v2 : Int32) (S : zS) (post : zS → Prop) : Prop :=
    P_M_group 0 1 S (fun S3 =>
    ∃ k8, L_M_takeInk_8 post (fun S8e =>
    ∃ k123, L_M_takeInk_123 post v1 v2 k123 0 S8e) v1 v2 k8 0 S3)
def J_M_cleanIn_60 (post : Int32 → zS → Prop) (K16 : Int32 → Int32 → zS → Prop) (v1 : Int32) (v3 : Int32) (v4 : Int32) (v5 : Int32) (v6 : Int32) (v7 : Int32) (v8 : Int32) (S : zS) : Prop :=
    ∀ x69 : Int32, x69 = (v6 + 1) → ∀ x71 : Int32, x71 = v8 + 1 → K16 x69 x71 S
def L_M_cleanIn_16 (post : Int32 → zS → Prop) (K77 : Int32 → zS → Prop) (v1 : Int32) (v3 : Int32) (v4 : Int32) (v5 : Int32) (v7 : Int32) : Nat → Int32 → Int32 → zS → Prop
  | 0, _, _, _ => False
  | n + 1, v6, v8, S =>
    (v3 < v8 →
    K77 v6 S) ∧
    (¬ v3 < v8 →
    ∀ x30 : Int32, x30 = ((24 * v7) + v8) → vp_in x30 576 ∧ ((S 34 (z_ix x30)) = 0 →
    ∀ x71 : Int32, x71 = v8 + 1 → L_M_cleanIn_16 post K77 v1 v3 v4 v5 v7 n v6 x71 S) ∧
    (¬ (S 34 (z_ix x30)) = 0 →
    (v5 = (-1) →
    J_M_cleanIn_60 post (L_M_cleanIn_16 post K77 v1 v3 v4 v5 v7 n) v1 v3 v4 v5 v6 v7 v8 S) ∧
    (¬ v5 = (-1) →
    vp_in x30 576 ∧ (¬ (S 38 (z_ix x30)) = v5 →
    ∀ x71 : Int32, x71 = v8 + 1 → L_M_cleanIn_16 post K77 v1 v3 v4 v5 v7 n v6 x71 S) ∧
    ((S 38 (z_ix x30)) = v5 →
    J_M_cleanIn_60 post (L_M_cleanIn_16 post K77 v1 v3 v4 v5 v7 n) v1 v3 v4 v5 v6 v7 v8 S))))
def L_M_cleanIn_6 (post : Int32 → zS → Prop) (v1 : Int32) (v3 : Int32) (v4 : Int32) (v5 : Int32) : Nat → Int32 → Int32 → zS → Prop
  | 0, _, _, _ => False
  | n + 1, v6, v7, S =>
    (v4 < v7 →
    post v6 S) ∧
    (¬ v4 < v7 →
    ∃ k16, L_M_cleanIn_16 post (fun v6_16e S16e =>
    ∀ x77 : Int32, x77 = v7 + 1 → L_M_cleanIn_6 post v1 v3 v4 v5 n v6_16e x77 S16e) v1 v3 v4 v5 v7 k16 v6 v1 S)
def P_M_cleanIn (v1 : Int32) (v2 : Int32) (v3 : Int32) (v4 : Int32) (v5 : Int32) (S : zS) (post : Int32 → zS → Prop) : Prop :=
    ∃ k6, L_M_cleanIn_6 post v1 v3 v4 v5 k6 0 v2 S
def J_M_kindOf_197 (post : Int32 → zS → Prop) (v1 : Int32) (v2 : Int32) (v3 : Int32) (v4 : Int32) (v5 : Int32) (v6 : Int32) (S : zS) : Prop :=
    P_M_cleanIn v1 v2 v3 v4 (-1) S (fun r205 S205 =>
    ((2 * r205) < (v5 * v6) →
    post 0 S205) ∧
    (¬ (2 * r205) < (v5 * v6) →
    post 2 S205))
def J_M_kindOf_151 (post : Int32 → zS → Prop) (v1 : Int32) (v2 : Int32) (v3 : Int32) (v4 : Int32) (v5 : Int32) (v6 : Int32) (v7 : Int32) (t0 : Int32) (S : zS) : Prop :=
    (v7 = 0 →
    J_M_kindOf_197 post v1 v2 v3 v4 v5 v6 S) ∧
    (¬ v7 = 0 →
    (t0 = 0 →
    J_M_kindOf_197 post v1 v2 v3 v4 v5 v6 S) ∧
    (¬ t0 = 0 →
    P_M_cleanIn (v1 + 1) (v2 + 1) (v3 - 1) (v4 - 1) (-1) S (fun r179 S179 =>
    (((v5 - 2) * (v6 - 2)) < (4 * r179) →
    J_M_kindOf_197 post v1 v2 v3 v4 v5 v6 S179) ∧
    (¬ ((v5 - 2) * (v6 - 2)) < (4 * r179) →
    post 3 S179))))
def J_M_kindOf_150 (post : Int32 → zS → Prop) (v1 : Int32) (v2 : Int32) (v3 : Int32) (v4 : Int32) (v5 : Int32) (v6 : Int32) (v7 : Int32) (S : zS) : Prop :=
    J_M_kindOf_151 post v1 v2 v3 v4 v5 v6 v7 0 S
def J_M_kindOf_106 (post : Int32 → zS → Prop) (v1 : Int32) (v2 : Int32) (v3 : Int32) (v4 : Int32) (v5 : Int32) (v6 : Int32) (t0 : Int32) (S : zS) : Prop :=
    P_M_cleanIn v1 v2 v1 v4 (-1) S (fun r116 S116 =>
    ((4 * r116) < (3 * v6) →
    J_M_kindOf_150 post v1 v2 v3 v4 v5 v6 t0 S116) ∧
    (¬ (4 * r116) < (3 * v6) →
    P_M_cleanIn v3 v2 v3 v4 (-1) S116 (fun r135 S135 =>
    ((4 * r135) < (3 * v6) →
    J_M_kindOf_150 post v1 v2 v3 v4 v5 v6 t0 S135) ∧
    (¬ (4 * r135) < (3 * v6) →
    J_M_kindOf_151 post v1 v2 v3 v4 v5 v6 t0 1 S135))))
def J_M_kindOf_105 (post : Int32 → zS → Prop) (v1 : Int32) (v2 : Int32) (v3 : Int32) (v4 : Int32) (v5 : Int32) (v6 : Int32) (S : zS) : Prop :=
    J_M_kindOf_106 post v1 v2 v3 v4 v5 v6 0 S
def J_M_kindOf_47 (post : Int32 → zS → Prop) (v1 : Int32) (v2 : Int32) (v3 : Int32) (v4 : Int32) (v5 : Int32) (v6 : Int32) (S : zS) : Prop :=
    (v5 < 7 →
    post 0 S) ∧
    (¬ v5 < 7 →
    (7 ≤ v6 →
    P_M_cleanIn v1 v2 v3 v2 (-1) S (fun r70 S70 =>
    ((4 * r70) < (3 * v5) →
    J_M_kindOf_105 post v1 v2 v3 v4 v5 v6 S70) ∧
    (¬ (4 * r70) < (3 * v5) →
    P_M_cleanIn v1 v4 v3 v4 (-1) S70 (fun r90 S90 =>
    ((4 * r90) < (3 * v5) →
    J_M_kindOf_105 post v1 v2 v3 v4 v5 v6 S90) ∧
    (¬ (4 * r90) < (3 * v5) →
    J_M_kindOf_106 post v1 v2 v3 v4 v5 v6 1 S90))))) ∧
    (¬ 7 ≤ v6 →
    post 0 S))
def J_M_kindOf_30 (post : Int32 → zS → Prop) (v1 : Int32) (v2 : Int32) (v3 : Int32) (v4 : Int32) (v5 : Int32) (v6 : Int32) (S : zS) : Prop :=
    (2 < v5 →
    J_M_kindOf_47 post v1 v2 v3 v4 v5 v6 S) ∧
    (¬ 2 < v5 →
    (v6 < (5 * v5) →
    J_M_kindOf_47 post v1 v2 v3 v4 v5 v6 S) ∧
    (¬ v6 < (5 * v5) →
    post 1 S))
def P_M_kindOf (v1 : Int32) (v2 : Int32) (v3 : Int32) (v4 : Int32) (S : zS) (post : Int32 → zS → Prop) : Prop :=
    ∀ x5 : Int32, x5 = ((v3 - v1) + 1) → ∀ x13 : Int32, x13 = ((v4 - v2) + 1) → (2 < x13 →
    J_M_kindOf_30 post v1 v2 v3 v4 x5 x13 S) ∧
    (¬ 2 < x13 →
    ((5 * x13) ≤ x5 →
    post 1 S) ∧
    (¬ (5 * x13) ≤ x5 →
    J_M_kindOf_30 post v1 v2 v3 v4 x5 x13 S))
def J_M_takeParts_206 (post : zS → Prop) (K23 : Int32 → zS → Prop) (v1 : Int32) (v2 : Int32) (v4 : Int32) (t0 : Int32) (t1 : Int32) (S : zS) : Prop :=
    vp_in t1 300 ∧ ∀ S206 : zS, S206 = z_su S 41 (z_ix t1) t0 → vp_in v4 300 ∧ ∀ S214 : zS, S214 = z_su S206 42 (z_ix v4) v1 → ∀ x215 : Int32, x215 = v2 + 1 → K23 x215 S214
def J_M_takeParts_177 (post : zS → Prop) (K23 : Int32 → zS → Prop) (v1 : Int32) (v2 : Int32) (v4 : Int32) (t0 : Int32) (t1 : Int32) (S : zS) : Prop :=
    vp_in t1 300 ∧ ∀ S177 : zS, S177 = z_su S 39 (z_ix t1) t0 → vp_in v4 300 ∧ (v2 ≤ (S177 41 (z_ix v4)) →
    vp_in v4 300 ∧ J_M_takeParts_206 post K23 v1 v2 v4 (S177 41 (z_ix v4)) v4 S177) ∧
    (¬ v2 ≤ (S177 41 (z_ix v4)) →
    J_M_takeParts_206 post K23 v1 v2 v4 v2 v4 S177)
def L_M_takeParts_23 (post : zS → Prop) (K221 : zS → Prop) (v1 : Int32) : Nat → Int32 → zS → Prop
  | 0, _, _ => False
  | n + 1, v2, S =>
    ((S 31 1) ≤ v2 →
    K221 S) ∧
    (¬ (S 31 1) ≤ v2 →
    ∀ x37 : Int32, x37 = ((24 * v1) + v2) → vp_in x37 576 ∧ ∀ S44 : zS, S44 = z_su S 38 (z_ix x37) (-1) → vp_in x37 576 ∧ (¬ (S44 37 (z_ix x37)) = x37 →
    vp_in x37 576 ∧ ((S44 37 (z_ix x37)) = (-1) →
    ∀ x215 : Int32, x215 = v2 + 1 → L_M_takeParts_23 post K221 v1 n x215 S44) ∧
    (¬ (S44 37 (z_ix x37)) = (-1) →
    vp_in x37 576 ∧ vp_in (S44 37 (z_ix x37)) 576 ∧ ∀ x139 : Int32, x139 = (S44 38 (z_ix (S44 37 (z_ix x37)))) → vp_in x37 576 ∧ ∀ S148 : zS, S148 = z_su S44 38 (z_ix x37) x139 → vp_in x139 300 ∧ ((S148 39 (z_ix x139)) ≤ v2 →
    vp_in x139 300 ∧ J_M_takeParts_177 post (L_M_takeParts_23 post K221 v1 n) v1 v2 x139 (S148 39 (z_ix x139)) x139 S148) ∧
    (¬ (S148 39 (z_ix x139)) ≤ v2 →
    J_M_takeParts_177 post (L_M_takeParts_23 post K221 v1 n) v1 v2 x139 v2 x139 S148))) ∧
    ((S44 37 (z_ix x37)) = x37 →
    vp_in x37 576 ∧ ∀ S64 : zS, S64 = z_su S44 38 (z_ix x37) (S44 31 12) → vp_in (S64 31 12) 300 ∧ ∀ S74 : zS, S74 = z_su S64 39 (z_ix (S64 31 12)) v2 → vp_in (S74 31 12) 300 ∧ ∀ S84 : zS, S84 = z_su S74 41 (z_ix (S74 31 12)) v2 → vp_in (S84 31 12) 300 ∧ ∀ S94 : zS, S94 = z_su S84 40 (z_ix (S84 31 12)) v1 → vp_in (S94 31 12) 300 ∧ ∀ S104 : zS, S104 = z_su S94 42 (z_ix (S94 31 12)) v1 → ∀ S112 : zS, S112 = z_su S104 31 12 ((S104 31 12) + 1) → ∀ x215 : Int32, x215 = v2 + 1 → L_M_takeParts_23 post K221 v1 n x215 S112))
def L_M_takeParts_13 (post : zS → Prop) (K227 : zS → Prop) : Nat → Int32 → zS → Prop
  | 0, _, _ => False
  | n + 1, v1, S =>
    ((S 31 2) ≤ v1 →
    K227 S) ∧
    (¬ (S 31 2) ≤ v1 →
    ∃ k23, L_M_takeParts_23 post (fun S23e =>
    ∀ x221 : Int32, x221 = v1 + 1 → L_M_takeParts_13 post K227 n x221 S23e) v1 k23 0 S)
def L_M_takeParts_229 (post : zS → Prop) : Nat → Int32 → zS → Prop
  | 0, _, _ => False
  | n + 1, v1, S =>
    ((S 31 12) ≤ v1 →
    post S) ∧
    (¬ (S 31 12) ≤ v1 →
    vp_in v1 300 ∧ vp_in v1 300 ∧ vp_in v1 300 ∧ vp_in v1 300 ∧ P_M_kindOf (S 39 (z_ix v1)) (S 40 (z_ix v1)) (S 41 (z_ix v1)) (S 42 (z_ix v1)) S (fun r267 S267 =>
    vp_in v1 300 ∧ ∀ S270 : zS, S270 = z_su S267 43 (z_ix v1) r267 → ∀ x271 : Int32, x271 = v1 + 1 → L_M_takeParts_229 post n x271 S270))
def P_M_takeParts (S : zS) (post : zS → Prop) : Prop :=
    P_M_group 1 0 S (fun S3 =>
    ∀ S8 : zS, S8 = z_su S3 31 12 0 → ∃ k13, L_M_takeParts_13 post (fun S13e =>
    ∃ k229, L_M_takeParts_229 post k229 0 S13e) k13 0 S8)
def L_M_takeCover_57 (post : Int32 → zS → Prop) (K116 : Int32 → zS → Prop) (v1 : Int32) (v2 : Int32) (v3 : Int32) (v4 : Int32) (v5 : Int32) (v6 : Int32) : Nat → Int32 → zS → Prop
  | 0, _, _ => False
  | n + 1, v7, S =>
    (v5 ≤ v7 →
    K116 v7 S) ∧
    (¬ v5 ≤ v7 →
    vp_in (((24 * ((v3 + v6) - 1)) + v4) + v7) 576 ∧ (¬ (S 35 (z_ix (((24 * ((v3 + v6) - 1)) + v4) + v7))) = 0 →
    K116 v7 S) ∧
    ((S 35 (z_ix (((24 * ((v3 + v6) - 1)) + v4) + v7))) = 0 →
    vp_in (((24 * ((v3 + v6) - 1)) + v4) + v7) 576 ∧ (¬ (S 36 (z_ix (((24 * ((v3 + v6) - 1)) + v4) + v7))) = 0 →
    K116 v7 S) ∧
    ((S 36 (z_ix (((24 * ((v3 + v6) - 1)) + v4) + v7))) = 0 →
    ∀ x110 : Int32, x110 = v7 + 1 → L_M_takeCover_57 post K116 v1 v2 v3 v4 v5 v6 n x110 S)))
def J_M_takeCover_116 (post : Int32 → zS → Prop) (K38 : Int32 → Int32 → Int32 → Int32 → zS → Prop) (v1 : Int32) (v2 : Int32) (v3 : Int32) (v4 : Int32) (v6 : Int32) (v7 : Int32) (S : zS) : Prop :=
    ((v7 * v6) ≤ v1 →
    ∀ x155 : Int32, x155 = v6 + 1 → K38 v1 v2 v7 x155 S) ∧
    (¬ (v7 * v6) ≤ v1 →
    ∀ x134 : Int32, x134 = (v7 * v6) → ∀ x154 : Int32, x154 = ((((((24 * v3) + v4) * 32) + v7) * 32) + v6) → ∀ x155 : Int32, x155 = v6 + 1 → K38 x134 x154 v7 x155 S)
def L_M_takeCover_38 (post : Int32 → zS → Prop) (K161 : Int32 → Int32 → zS → Prop) (v3 : Int32) (v4 : Int32) : Nat → Int32 → Int32 → Int32 → Int32 → zS → Prop
  | 0, _, _, _, _, _ => False
  | n + 1, v1, v2, v5, v6, S =>
    ((S 31 2) < (v3 + v6) →
    K161 v1 v2 S) ∧
    (¬ (S 31 2) < (v3 + v6) →
    (v5 ≤ 0 →
    K161 v1 v2 S) ∧
    (¬ v5 ≤ 0 →
    ∃ k57, L_M_takeCover_57 post (fun v7_57e S57e =>
    J_M_takeCover_116 post (L_M_takeCover_38 post K161 v3 v4 n) v1 v2 v3 v4 v6 v7_57e S57e) v1 v2 v3 v4 v5 v6 k57 0 S))
def L_M_takeCover_17 (post : Int32 → zS → Prop) (K167 : Int32 → Int32 → zS → Prop) (v3 : Int32) : Nat → Int32 → Int32 → Int32 → zS → Prop
  | 0, _, _, _, _ => False
  | n + 1, v1, v2, v4, S =>
    ((S 31 1) ≤ v4 →
    K167 v1 v2 S) ∧
    (¬ (S 31 1) ≤ v4 →
    ∀ x33 : Int32, x33 = ((S 31 1) - v4) → ∃ k38, L_M_takeCover_38 post (fun v1_38e v2_38e S38e =>
    ∀ x161 : Int32, x161 = v4 + 1 → L_M_takeCover_17 post K167 v3 n v1_38e v2_38e x161 S38e) v3 v4 k38 v1 v2 x33 1 S)
def L_M_takeCover_6 (post : Int32 → zS → Prop) (K173 : Int32 → zS → Prop) : Nat → Int32 → Int32 → Int32 → zS → Prop
  | 0, _, _, _, _ => False
  | n + 1, v1, v2, v3, S =>
    ((S 31 2) ≤ v3 →
    K173 v2 S) ∧
    (¬ (S 31 2) ≤ v3 →
    ∃ k17, L_M_takeCover_17 post (fun v1_17e v2_17e S17e =>
    ∀ x167 : Int32, x167 = v3 + 1 → L_M_takeCover_6 post K173 n v1_17e v2_17e x167 S17e) v3 k17 v1 v2 0 S)
def L_M_takeCover_279 (post : Int32 → zS → Prop) (K315 : zS → Prop) (v3 : Int32) (v4 : Int32) (v5 : Int32) (v6 : Int32) : Nat → Int32 → zS → Prop
  | 0, _, _ => False
  | n + 1, v7, S =>
    vp_in (v5 + 2) 24 ∧ ((v3 + (S 45 (z_ix (v5 + 2)))) ≤ v7 →
    K315 S) ∧
    (¬ (v3 + (S 45 (z_ix (v5 + 2)))) ≤ v7 →
    vp_in ((24 * v6) + v7) 576 ∧ ∀ S308 : zS, S308 = z_su S 36 (z_ix ((24 * v6) + v7)) 1 → ∀ x309 : Int32, x309 = v7 + 1 → L_M_takeCover_279 post K315 v3 v4 v5 v6 n x309 S308)
def L_M_takeCover_259 (post : Int32 → zS → Prop) (K321 : zS → Prop) (v3 : Int32) (v4 : Int32) (v5 : Int32) : Nat → Int32 → zS → Prop
  | 0, _, _ => False
  | n + 1, v6, S =>
    vp_in (v5 + 3) 24 ∧ ((v4 + (S 45 (z_ix (v5 + 3)))) ≤ v6 →
    K321 S) ∧
    (¬ (v4 + (S 45 (z_ix (v5 + 3)))) ≤ v6 →
    ∃ k279, L_M_takeCover_279 post (fun S279e =>
    ∀ x315 : Int32, x315 = v6 + 1 → L_M_takeCover_259 post K321 v3 v4 v5 n x315 S279e) v3 v4 v5 v6 k279 v3 S)
def P_M_takeCover (S : zS) (post : Int32 → zS → Prop) : Prop :=
    ∃ k6, L_M_takeCover_6 post (fun v2_6e S6e =>
    (¬ v2_6e = (-1) →
    ∀ x188 : Int32, x188 = ((v2_6e / 1024) - (v2_6e / 1024) / 24 * 24) → ∀ x197 : Int32, x197 = ((v2_6e / 1024) / 24) → ∀ x205 : Int32, x205 = (4 * (S6e 31 19)) → vp_in x205 24 ∧ ∀ S214 : zS, S214 = z_su S6e 45 (z_ix x205) x188 → vp_in (x205 + 1) 24 ∧ ∀ S225 : zS, S225 = z_su S214 45 (z_ix (x205 + 1)) x197 → vp_in (x205 + 2) 24 ∧ ∀ S241 : zS, S241 = z_su S225 45 (z_ix (x205 + 2)) ((v2_6e / 32) - (v2_6e / 32) / 32 * 32) → vp_in (x205 + 3) 24 ∧ ∀ S254 : zS, S254 = z_su S241 45 (z_ix (x205 + 3)) (v2_6e - v2_6e / 32 * 32) → ∃ k259, L_M_takeCover_259 post (fun S259e =>
    ∀ S328 : zS, S328 = z_su S259e 31 19 ((S259e 31 19) + 1) → post 1 S328) x188 x197 x205 k259 x197 S254) ∧
    (v2_6e = (-1) →
    post 0 S6e)) k6 3 (-1) 0 S
def L_M_takeCovers_2 (post : zS → Prop) (K22 : zS → Prop) : Nat → Int32 → zS → Prop
  | 0, _, _ => False
  | n + 1, v1, S =>
    (576 ≤ v1 →
    K22 S) ∧
    (¬ 576 ≤ v1 →
    vp_in v1 576 ∧ ∀ S15 : zS, S15 = z_su S 36 (z_ix v1) 0 → ∀ x16 : Int32, x16 = v1 + 1 → L_M_takeCovers_2 post K22 n x16 S15)
def L_M_takeCovers_29 (post : zS → Prop) : Nat → Int32 → zS → Prop
  | 0, _, _ => False
  | n + 1, v1, S =>
    (v1 = 0 →
    post S) ∧
    (¬ v1 = 0 →
    (6 ≤ (S 31 19) →
    post S) ∧
    (¬ 6 ≤ (S 31 19) →
    P_M_takeCover S (fun r43 S43 =>
    L_M_takeCovers_29 post n r43 S43)))
def P_M_takeCovers (S : zS) (post : zS → Prop) : Prop :=
    ∃ k2, L_M_takeCovers_2 post (fun S2e =>
    ∀ S24 : zS, S24 = z_su S2e 31 19 0 → ∃ k29, L_M_takeCovers_29 post k29 1 S24) k2 0 S
def J_M_takeStrips_45 (post : zS → Prop) (K19 : Int32 → Int32 → zS → Prop) (v1 : Int32) (v3 : Int32) (S : zS) : Prop :=
    ∀ x51 : Int32, x51 = v3 + 1 → K19 1 x51 S
def L_M_takeStrips_19 (post : zS → Prop) (K57 : Int32 → zS → Prop) (v1 : Int32) : Nat → Int32 → Int32 → zS → Prop
  | 0, _, _, _ => False
  | n + 1, v2, v3, S =>
    ((S 31 2) ≤ v3 →
    K57 v2 S) ∧
    (¬ (S 31 2) ≤ v3 →
    (¬ v2 = 0 →
    J_M_takeStrips_45 post (L_M_takeStrips_19 post K57 v1 n) v1 v3 S) ∧
    (v2 = 0 →
    vp_in ((24 * v3) + v1) 576 ∧ ((S 35 (z_ix ((24 * v3) + v1))) = 0 →
    ∀ x51 : Int32, x51 = v3 + 1 → L_M_takeStrips_19 post K57 v1 n 0 x51 S) ∧
    (¬ (S 35 (z_ix ((24 * v3) + v1))) = 0 →
    J_M_takeStrips_45 post (L_M_takeStrips_19 post K57 v1 n) v1 v3 S)))
def J_M_takeStrips_101 (post : zS → Prop) (K7 : Int32 → zS → Prop) (v1 : Int32) (v2 : Int32) (t0 : Int32) (S : zS) : Prop :=
    ∀ S101 : zS, S101 = z_su S 31 21 t0 → (v2 = 0 →
    vp_in v1 24 ∧ ∀ S123 : zS, S123 = z_su S101 46 (z_ix v1) (-1) → ∀ x124 : Int32, x124 = v1 + 1 → K7 x124 S123) ∧
    (¬ v2 = 0 →
    vp_in v1 24 ∧ ∀ S123 : zS, S123 = z_su S101 46 (z_ix v1) ((S101 31 21) - 1) → ∀ x124 : Int32, x124 = v1 + 1 → K7 x124 S123)
def J_M_takeStrips_97 (post : zS → Prop) (K7 : Int32 → zS → Prop) (v1 : Int32) (v2 : Int32) (S : zS) : Prop :=
    J_M_takeStrips_101 post K7 v1 v2 (S 31 21) S
def J_M_takeStrips_78 (post : zS → Prop) (K7 : Int32 → zS → Prop) (v1 : Int32) (v2 : Int32) (t0 : Int32) (S : zS) : Prop :=
    (v2 = 0 →
    J_M_takeStrips_97 post K7 v1 v2 S) ∧
    (¬ v2 = 0 →
    (¬ t0 = 0 →
    J_M_takeStrips_97 post K7 v1 v2 S) ∧
    (t0 = 0 →
    J_M_takeStrips_101 post K7 v1 v2 ((S 31 21) + 1) S))
def J_M_takeStrips_77 (post : zS → Prop) (K7 : Int32 → zS → Prop) (v1 : Int32) (v2 : Int32) (S : zS) : Prop :=
    J_M_takeStrips_78 post K7 v1 v2 0 S
def L_M_takeStrips_7 (post : zS → Prop) : Nat → Int32 → zS → Prop
  | 0, _, _ => False
  | n + 1, v1, S =>
    ((S 31 1) ≤ v1 →
    post S) ∧
    (¬ (S 31 1) ≤ v1 →
    ∃ k19, L_M_takeStrips_19 post (fun v2_19e S19e =>
    (v1 ≤ 0 →
    J_M_takeStrips_77 post (L_M_takeStrips_7 post n) v1 v2_19e S19e) ∧
    (¬ v1 ≤ 0 →
    vp_in (v1 - 1) 24 ∧ ((S19e 46 (z_ix (v1 - 1))) = (-1) →
    J_M_takeStrips_77 post (L_M_takeStrips_7 post n) v1 v2_19e S19e) ∧
    (¬ (S19e 46 (z_ix (v1 - 1))) = (-1) →
    J_M_takeStrips_78 post (L_M_takeStrips_7 post n) v1 v2_19e 1 S19e))) v1 k19 0 0 S)
def P_M_takeStrips (S : zS) (post : zS → Prop) : Prop :=
    ∀ S2 : zS, S2 = z_su S 31 21 0 → ∃ k7, L_M_takeStrips_7 post k7 0 S2
def J_M_isClosed_86 (post : Int32 → zS → Prop) (K15 : Int32 → Int32 → zS → Prop) (v1 : Int32) (v3 : Int32) (v4 : Int32) (S : zS) : Prop :=
    ∀ x92 : Int32, x92 = v4 + 1 → K15 1 x92 S
def J_M_isClosed_59 (post : Int32 → zS → Prop) (K15 : Int32 → Int32 → zS → Prop) (v1 : Int32) (v2 : Int32) (v3 : Int32) (v4 : Int32) (t0 : Int32) (S : zS) : Prop :=
    (v2 = 0 →
    ∀ x92 : Int32, x92 = v4 + 1 → K15 0 x92 S) ∧
    (¬ v2 = 0 →
    (t0 = 0 →
    J_M_isClosed_86 post K15 v1 v3 v4 S) ∧
    (¬ t0 = 0 →
    vp_in ((24 * v3) + v4) 576 ∧ ((S 37 (z_ix ((24 * v3) + v4))) = v1 →
    ∀ x92 : Int32, x92 = v4 + 1 → K15 0 x92 S) ∧
    (¬ (S 37 (z_ix ((24 * v3) + v4))) = v1 →
    J_M_isClosed_86 post K15 v1 v3 v4 S)))
def J_M_isClosed_54 (post : Int32 → zS → Prop) (K15 : Int32 → Int32 → zS → Prop) (v1 : Int32) (v2 : Int32) (v3 : Int32) (v4 : Int32) (S : zS) : Prop :=
    J_M_isClosed_59 post K15 v1 v2 v3 v4 1 S
def L_M_isClosed_15 (post : Int32 → zS → Prop) (K98 : Int32 → zS → Prop) (v1 : Int32) (v3 : Int32) : Nat → Int32 → Int32 → zS → Prop
  | 0, _, _, _ => False
  | n + 1, v2, v4, S =>
    ((S 31 1) ≤ v4 →
    K98 v2 S) ∧
    (¬ (S 31 1) ≤ v4 →
    (v4 = 0 →
    J_M_isClosed_54 post (L_M_isClosed_15 post K98 v1 v3 n) v1 v2 v3 v4 S) ∧
    (¬ v4 = 0 →
    (v3 = 0 →
    J_M_isClosed_54 post (L_M_isClosed_15 post K98 v1 v3 n) v1 v2 v3 v4 S) ∧
    (¬ v3 = 0 →
    (v4 = ((S 31 1) - 1) →
    J_M_isClosed_54 post (L_M_isClosed_15 post K98 v1 v3 n) v1 v2 v3 v4 S) ∧
    (¬ v4 = ((S 31 1) - 1) →
    (¬ v3 = ((S 31 2) - 1) →
    J_M_isClosed_59 post (L_M_isClosed_15 post K98 v1 v3 n) v1 v2 v3 v4 0 S) ∧
    (v3 = ((S 31 2) - 1) →
    J_M_isClosed_54 post (L_M_isClosed_15 post K98 v1 v3 n) v1 v2 v3 v4 S)))))
def L_M_isClosed_4 (post : Int32 → zS → Prop) (v1 : Int32) : Nat → Int32 → Int32 → zS → Prop
  | 0, _, _, _ => False
  | n + 1, v2, v3, S =>
    ((S 31 2) ≤ v3 →
    z_bo v2 ∧ post v2 S) ∧
    (¬ (S 31 2) ≤ v3 →
    ∃ k15, L_M_isClosed_15 post (fun v2_15e S15e =>
    ∀ x98 : Int32, x98 = v3 + 1 → L_M_isClosed_4 post v1 n v2_15e x98 S15e) v1 v3 k15 v2 0 S)
def P_M_isClosed (v1 : Int32) (S : zS) (post : Int32 → zS → Prop) : Prop :=
    ∃ k4, L_M_isClosed_4 post v1 k4 1 0 S
def J_M_takeCells_131 (post : zS → Prop) (K23 : Int32 → zS → Prop) (v1 : Int32) (v2 : Int32) (S : zS) : Prop :=
    ∀ S135 : zS, S135 = z_su S 31 23 (S 31 23) → ∀ x138 : Int32, x138 = v2 + 1 → K23 x138 S135
def J_M_takeCells_97 (post : zS → Prop) (K23 : Int32 → zS → Prop) (v1 : Int32) (v2 : Int32) (v3 : Int32) (t0 : Int32) (t1 : Int32) (S : zS) : Prop :=
    vp_in t1 576 ∧ ∀ S97 : zS, S97 = z_su S 47 (z_ix t1) t0 → vp_in v3 576 ∧ (¬ (S97 37 (z_ix v3)) = v3 →
    J_M_takeCells_131 post K23 v1 v2 S97) ∧
    ((S97 37 (z_ix v3)) = v3 →
    vp_in v3 576 ∧ (¬ (S97 47 (z_ix v3)) = (S97 31 23) →
    J_M_takeCells_131 post K23 v1 v2 S97) ∧
    ((S97 47 (z_ix v3)) = (S97 31 23) →
    ∀ S135 : zS, S135 = z_su S97 31 23 ((S97 31 23) + 1) → ∀ x138 : Int32, x138 = v2 + 1 → K23 x138 S135))
def L_M_takeCells_23 (post : zS → Prop) (K144 : zS → Prop) (v1 : Int32) : Nat → Int32 → zS → Prop
  | 0, _, _ => False
  | n + 1, v2, S =>
    ((S 31 1) ≤ v2 →
    K144 S) ∧
    (¬ (S 31 1) ≤ v2 →
    ∀ x37 : Int32, x37 = ((24 * v1) + v2) → vp_in x37 576 ∧ (¬ (S 37 (z_ix x37)) = x37 →
    vp_in x37 576 ∧ (¬ (S 37 (z_ix x37)) = (-1) →
    vp_in x37 576 ∧ vp_in (S 37 (z_ix x37)) 576 ∧ J_M_takeCells_97 post (L_M_takeCells_23 post K144 v1 n) v1 v2 x37 (S 47 (z_ix (S 37 (z_ix x37)))) x37 S) ∧
    ((S 37 (z_ix x37)) = (-1) →
    J_M_takeCells_97 post (L_M_takeCells_23 post K144 v1 n) v1 v2 x37 (-1) x37 S)) ∧
    ((S 37 (z_ix x37)) = x37 →
    P_M_isClosed x37 S (fun r55 S55 =>
    (r55 = 0 →
    J_M_takeCells_97 post (L_M_takeCells_23 post K144 v1 n) v1 v2 x37 (-1) x37 S55) ∧
    (¬ r55 = 0 →
    J_M_takeCells_97 post (L_M_takeCells_23 post K144 v1 n) v1 v2 x37 (S55 31 23) x37 S55))))
def L_M_takeCells_13 (post : zS → Prop) : Nat → Int32 → zS → Prop
  | 0, _, _ => False
  | n + 1, v1, S =>
    ((S 31 2) ≤ v1 →
    post S) ∧
    (¬ (S 31 2) ≤ v1 →
    ∃ k23, L_M_takeCells_23 post (fun S23e =>
    ∀ x144 : Int32, x144 = v1 + 1 → L_M_takeCells_13 post n x144 S23e) v1 k23 0 S)
def P_M_takeCells (S : zS) (post : zS → Prop) : Prop :=
    P_M_group 2 0 S (fun S3 =>
    ∀ S8 : zS, S8 = z_su S3 31 23 0 → ∃ k13, L_M_takeCells_13 post k13 0 S8)
def P_M_low (v1 : Int32) (v2 : Int32) (S : zS) (post : Int32 → zS → Prop) : Prop :=
    (v2 = 0 →
    vp_in v1 300 ∧ post (S 39 (z_ix v1)) S) ∧
    (¬ v2 = 0 →
    vp_in v1 300 ∧ post (S 40 (z_ix v1)) S)
def P_M_high (v1 : Int32) (v2 : Int32) (S : zS) (post : Int32 → zS → Prop) : Prop :=
    (v2 = 0 →
    vp_in v1 300 ∧ post (S 41 (z_ix v1)) S) ∧
    (¬ v2 = 0 →
    vp_in v1 300 ∧ post (S 42 (z_ix v1)) S)
def J_M_gap_92 (post : Int32 → zS → Prop) (K13 : Int32 → Int32 → Int32 → Int32 → zS → Prop) (v1 : Int32) (v2 : Int32) (v4 : Int32) (v6 : Int32) (v7 : Int32) (v8 : Int32) (v9 : Int32) (t0 : Int32) (S : zS) : Prop :=
    (v9 < v1 →
    ∀ x116 : Int32, x116 = v8 + 1 → K13 t0 v6 v7 x116 S) ∧
    (¬ v9 < v1 →
    (v6 ≤ v9 →
    ∀ x116 : Int32, x116 = v8 + 1 → K13 t0 v6 v7 x116 S) ∧
    (¬ v6 ≤ v9 →
    ∀ x116 : Int32, x116 = v8 + 1 → K13 t0 v9 v7 x116 S))
def J_M_gap_90 (post : Int32 → zS → Prop) (K13 : Int32 → Int32 → Int32 → Int32 → zS → Prop) (v1 : Int32) (v2 : Int32) (v4 : Int32) (v5 : Int32) (v6 : Int32) (v7 : Int32) (v8 : Int32) (v9 : Int32) (S : zS) : Prop :=
    J_M_gap_92 post K13 v1 v2 v4 v6 v7 v8 v9 v5 S
def J_M_gap_70 (post : Int32 → zS → Prop) (K13 : Int32 → Int32 → Int32 → Int32 → zS → Prop) (v1 : Int32) (v2 : Int32) (v4 : Int32) (v5 : Int32) (v6 : Int32) (v8 : Int32) (v9 : Int32) (v10 : Int32) (t0 : Int32) (S : zS) : Prop :=
    (v1 ≤ v10 →
    J_M_gap_90 post K13 v1 v2 v4 v5 v6 t0 v8 v9 S) ∧
    (¬ v1 ≤ v10 →
    (v10 ≤ v5 →
    J_M_gap_90 post K13 v1 v2 v4 v5 v6 t0 v8 v9 S) ∧
    (¬ v10 ≤ v5 →
    J_M_gap_92 post K13 v1 v2 v4 v6 t0 v8 v9 v10 S))
def J_M_gap_69 (post : Int32 → zS → Prop) (K13 : Int32 → Int32 → Int32 → Int32 → zS → Prop) (v1 : Int32) (v2 : Int32) (v4 : Int32) (v5 : Int32) (v6 : Int32) (v8 : Int32) (v9 : Int32) (v10 : Int32) (S : zS) : Prop :=
    J_M_gap_70 post K13 v1 v2 v4 v5 v6 v8 v9 v10 0 S
def J_M_gap_65 (post : Int32 → zS → Prop) (K13 : Int32 → Int32 → Int32 → Int32 → zS → Prop) (v1 : Int32) (v2 : Int32) (v4 : Int32) (v5 : Int32) (v6 : Int32) (v8 : Int32) (v9 : Int32) (v10 : Int32) (S : zS) : Prop :=
    J_M_gap_70 post K13 v1 v2 v4 v5 v6 v8 v9 v10 1 S
def L_M_gap_13 (post : Int32 → zS → Prop) (K122 : Int32 → Int32 → Int32 → zS → Prop) (v1 : Int32) (v2 : Int32) (v4 : Int32) : Nat → Int32 → Int32 → Int32 → Int32 → zS → Prop
  | 0, _, _, _, _, _ => False
  | n + 1, v5, v6, v7, v8, S =>
    (v4 ≤ v8 →
    K122 v5 v6 v7 S) ∧
    (¬ v4 ≤ v8 →
    vp_in v8 300 ∧ P_M_low (S 44 (z_ix v8)) v2 S (fun r29 S29 =>
    vp_in v8 300 ∧ P_M_high (S29 44 (z_ix v8)) v2 S29 (fun r43 S43 =>
    (v7 = 0 →
    J_M_gap_69 post (L_M_gap_13 post K122 v1 v2 v4 n) v1 v2 v4 v5 v6 v8 r29 r43 S43) ∧
    (¬ v7 = 0 →
    (v1 ≤ r29 →
    J_M_gap_65 post (L_M_gap_13 post K122 v1 v2 v4 n) v1 v2 v4 v5 v6 v8 r29 r43 S43) ∧
    (¬ v1 ≤ r29 →
    (v1 ≤ r43 →
    J_M_gap_69 post (L_M_gap_13 post K122 v1 v2 v4 n) v1 v2 v4 v5 v6 v8 r29 r43 S43) ∧
    (¬ v1 ≤ r43 →
    J_M_gap_65 post (L_M_gap_13 post K122 v1 v2 v4 n) v1 v2 v4 v5 v6 v8 r29 r43 S43))))))
def P_M_gap (v1 : Int32) (v2 : Int32) (v3 : Int32) (v4 : Int32) (S : zS) (post : Int32 → zS → Prop) : Prop :=
    ∃ k13, L_M_gap_13 post (fun v5_13e v6_13e v7_13e S13e =>
    (v7_13e = 0 →
    post (-1) S13e) ∧
    (¬ v7_13e = 0 →
    (v5_13e = (-1) →
    post (-1) S13e) ∧
    (¬ v5_13e = (-1) →
    (v6_13e = 24 →
    post (-1) S13e) ∧
    (¬ v6_13e = 24 →
    post ((v6_13e - v5_13e) - 1) S13e)))) v1 v2 v4 k13 (-1) 24 1 v3 S
def P_M_swap (v1 : Int32) (v2 : Int32) (S : zS) (post : zS → Prop) : Prop :=
    vp_in v1 300 ∧ ∀ x6 : Int32, x6 = (S 44 (z_ix v1)) → vp_in v2 300 ∧ vp_in v1 300 ∧ ∀ S18 : zS, S18 = z_su S 44 (z_ix v1) (S 44 (z_ix v2)) → vp_in v2 300 ∧ ∀ S25 : zS, S25 = z_su S18 44 (z_ix v2) x6 → post S25
def P_M_isBefore (v1 : Int32) (v2 : Int32) (S : zS) (post : Int32 → zS → Prop) : Prop :=
    vp_in v1 300 ∧ vp_in v2 300 ∧ ((S 40 (z_ix v1)) = (S 40 (z_ix v2)) →
    vp_in v1 300 ∧ vp_in v2 300 ∧ ((S 39 (z_ix v1)) = (S 39 (z_ix v2)) →
    (v2 ≤ v1 →
    post 0 S) ∧
    (¬ v2 ≤ v1 →
    post 1 S)) ∧
    (¬ (S 39 (z_ix v1)) = (S 39 (z_ix v2)) →
    vp_in v1 300 ∧ vp_in v2 300 ∧ ((S 39 (z_ix v2)) ≤ (S 39 (z_ix v1)) →
    post 0 S) ∧
    (¬ (S 39 (z_ix v2)) ≤ (S 39 (z_ix v1)) →
    post 1 S))) ∧
    (¬ (S 40 (z_ix v1)) = (S 40 (z_ix v2)) →
    vp_in v1 300 ∧ vp_in v2 300 ∧ ((S 40 (z_ix v2)) ≤ (S 40 (z_ix v1)) →
    post 0 S) ∧
    (¬ (S 40 (z_ix v2)) ≤ (S 40 (z_ix v1)) →
    post 1 S))
def L_M_sort_10 (post : zS → Prop) (K55 : zS → Prop) (v1 : Int32) (v2 : Int32) (v3 : Int32) : Nat → Int32 → zS → Prop
  | 0, _, _ => False
  | n + 1, v4, S =>
    (v4 ≤ v1 →
    K55 S) ∧
    (¬ v4 ≤ v1 →
    vp_in v4 300 ∧ vp_in (v4 - 1) 300 ∧ P_M_isBefore (S 44 (z_ix v4)) (S 44 (z_ix (v4 - 1))) S (fun r33 S33 =>
    (r33 = 0 →
    K55 S33) ∧
    (¬ r33 = 0 →
    P_M_swap v4 (v4 - 1) S33 (fun S46 =>
    ∀ x49 : Int32, x49 = v4 + (-1) → L_M_sort_10 post K55 v1 v2 v3 n x49 S46))))
def L_M_sort_2 (post : zS → Prop) (v1 : Int32) (v2 : Int32) : Nat → Int32 → zS → Prop
  | 0, _, _ => False
  | n + 1, v3, S =>
    (v2 ≤ v3 →
    post S) ∧
    (¬ v2 ≤ v3 →
    ∃ k10, L_M_sort_10 post (fun S10e =>
    ∀ x55 : Int32, x55 = v3 + 1 → L_M_sort_2 post v1 v2 n x55 S10e) v1 v2 v3 k10 v3 S)
def P_M_sort (v1 : Int32) (v2 : Int32) (S : zS) (post : zS → Prop) : Prop :=
    ∃ k2, L_M_sort_2 post v1 v2 k2 v1 S
def J_M_parts_30 (post : Int32 → zS → Prop) (K11 : Int32 → Int32 → Int32 → Int32 → zS → Prop) (v1 : Int32) (v2 : Int32) (v3 : Int32) (v4 : Int32) (v5 : Int32) (v6 : Int32) (t0 : Int32) (S : zS) : Prop :=
    P_M_gap (v6 - v6 / 24 * 24) t0 v1 v2 S (fun r42 S42 =>
    (r42 ≤ v3 →
    ∀ x67 : Int32, x67 = v6 + 1 → K11 v3 v4 v5 x67 S42) ∧
    (¬ r42 ≤ v3 →
    ∀ x61 : Int32, x61 = (v6 - v6 / 24 * 24) → ∀ x67 : Int32, x67 = v6 + 1 → K11 r42 x61 t0 x67 S42))
def L_M_parts_11 (post : Int32 → zS → Prop) (K73 : Int32 → Int32 → Int32 → zS → Prop) (v1 : Int32) (v2 : Int32) : Nat → Int32 → Int32 → Int32 → Int32 → zS → Prop
  | 0, _, _, _, _, _ => False
  | n + 1, v3, v4, v5, v6, S =>
    (48 ≤ v6 →
    K73 v3 v4 v5 S) ∧
    (¬ 48 ≤ v6 →
    (v6 < 24 →
    J_M_parts_30 post (L_M_parts_11 post K73 v1 v2 n) v1 v2 v3 v4 v5 v6 0 S) ∧
    (¬ v6 < 24 →
    J_M_parts_30 post (L_M_parts_11 post K73 v1 v2 n) v1 v2 v3 v4 v5 v6 1 S))
def L_M_parts_86 (post : Int32 → zS → Prop) (v2 : Int32) (v4 : Int32) (v5 : Int32) : Nat → Int32 → Int32 → zS → Prop
  | 0, _, _, _ => False
  | n + 1, v6, v7, S =>
    (v2 ≤ v7 →
    post v6 S) ∧
    (¬ v2 ≤ v7 →
    vp_in v7 300 ∧ P_M_high (S 44 (z_ix v7)) v5 S (fun r102 S102 =>
    (v4 ≤ r102 →
    ∀ x121 : Int32, x121 = v7 + 1 → L_M_parts_86 post v2 v4 v5 n v6 x121 S102) ∧
    (¬ v4 ≤ r102 →
    P_M_swap v7 v6 S102 (fun S115 =>
    ∀ x118 : Int32, x118 = v6 + 1 → ∀ x121 : Int32, x121 = v7 + 1 → L_M_parts_86 post v2 v4 v5 n x118 x121 S115))))
def P_M_parts (v1 : Int32) (v2 : Int32) (S : zS) (post : Int32 → zS → Prop) : Prop :=
    ∃ k11, L_M_parts_11 post (fun v3_11e v4_11e v5_11e S11e =>
    (¬ v3_11e = (-1) →
    ∃ k86, L_M_parts_86 post v2 v4_11e v5_11e k86 v1 v1 S11e) ∧
    (v3_11e = (-1) →
    post v2 S11e)) v1 v2 k11 (-1) 0 0 0 S
def L_M_takeOrder_2 (post : zS → Prop) (K23 : zS → Prop) : Nat → Int32 → zS → Prop
  | 0, _, _ => False
  | n + 1, v1, S =>
    ((S 31 12) ≤ v1 →
    K23 S) ∧
    (¬ (S 31 12) ≤ v1 →
    vp_in v1 300 ∧ ∀ S16 : zS, S16 = z_su S 44 (z_ix v1) v1 → ∀ x17 : Int32, x17 = v1 + 1 → L_M_takeOrder_2 post K23 n x17 S16)
def J_M_takeOrder_80 (post : zS → Prop) (K42 : Int32 → zS → Prop) (v1 : Int32) (v2 : Int32) (v3 : Int32) (t0 : Int32) (S : zS) : Prop :=
    (¬ t0 = v3 →
    vp_in v1 300 ∧ ∀ S103 : zS, S103 = z_su S 48 (z_ix v1) v2 → vp_in v1 300 ∧ ∀ S111 : zS, S111 = z_su S103 49 (z_ix v1) t0 → vp_in (v1 + 1) 300 ∧ ∀ S121 : zS, S121 = z_su S111 48 (z_ix (v1 + 1)) t0 → vp_in (v1 + 1) 300 ∧ ∀ S130 : zS, S130 = z_su S121 49 (z_ix (v1 + 1)) v3 → ∀ x134 : Int32, x134 = (v1 + 2) → K42 x134 S130) ∧
    (t0 = v3 →
    P_M_sort v2 v3 S (fun S91 =>
    K42 v1 S91))
def L_M_takeOrder_42 (post : zS → Prop) : Nat → Int32 → zS → Prop
  | 0, _, _ => False
  | n + 1, v1, S =>
    (v1 ≤ 0 →
    post S) ∧
    (¬ v1 ≤ 0 →
    ∀ x46 : Int32, x46 = v1 + (-1) → vp_in x46 300 ∧ ∀ x55 : Int32, x55 = (S 48 (z_ix x46)) → vp_in x46 300 ∧ ∀ x62 : Int32, x62 = (S 49 (z_ix x46)) → ((x62 - x55) ≤ 1 →
    J_M_takeOrder_80 post (L_M_takeOrder_42 post n) x46 x55 x62 x62 S) ∧
    (¬ (x62 - x55) ≤ 1 →
    P_M_parts x55 x62 S (fun r73 S73 =>
    J_M_takeOrder_80 post (L_M_takeOrder_42 post n) x46 x55 x62 r73 S73)))
def P_M_takeOrder (S : zS) (post : zS → Prop) : Prop :=
    ∃ k2, L_M_takeOrder_2 post (fun S2e =>
    vp_in 0 300 ∧ ∀ S31 : zS, S31 = z_su S2e 48 (z_ix 0) 0 → vp_in 0 300 ∧ ∀ S41 : zS, S41 = z_su S31 49 (z_ix 0) (S31 31 12) → ∃ k42, L_M_takeOrder_42 post k42 1 S41) k2 0 S
def J_M_run_26 (post : Int32 → zS → Prop) (v1 : Int32) (v2 : Int32) (t0 : Int32) (S : zS) : Prop :=
    P_M_goes t0 1 1 S (fun r28 S28 =>
    (¬ r28 = 0 →
    P_M_takeInk v1 v2 S28 (fun S39 =>
    P_M_takeParts S39 (fun S43 =>
    P_M_takeCovers S43 (fun S47 =>
    P_M_takeStrips S47 (fun S51 =>
    P_M_takeCells S51 (fun S55 =>
    P_M_takeOrder S55 (fun S59 =>
    ∀ S64 : zS, S64 = z_su S59 31 5 1 → post (S64 31 12) S64))))))) ∧
    (r28 = 0 →
    post 0 S28))
def J_M_run_25 (post : Int32 → zS → Prop) (v1 : Int32) (v2 : Int32) (S : zS) : Prop :=
    J_M_run_26 post v1 v2 0 S
def P_M_run (v1 : Int32) (v2 : Int32) (S : zS) (post : Int32 → zS → Prop) : Prop :=
    P_M_in v1 0 24 S (fun r5 S5 =>
    (r5 = 0 →
    J_M_run_25 post v1 v2 S5) ∧
    (¬ r5 = 0 →
    P_M_in v2 0 24 S5 (fun r15 S15 =>
    (r15 = 0 →
    J_M_run_25 post v1 v2 S15) ∧
    (¬ r15 = 0 →
    J_M_run_26 post v1 v2 1 S15))))
def J_M_lines_70 (post : Int32 → zS → Prop) (K12 : Int32 → Int32 → Int32 → zS → Prop) (v1 : Int32) (v4 : Int32) (v5 : Int32) (t0 : Int32) (S : zS) : Prop :=
    ∀ x74 : Int32, x74 = v4 + 1 → K12 t0 v5 x74 S
def J_M_lines_69 (post : Int32 → zS → Prop) (K12 : Int32 → Int32 → Int32 → zS → Prop) (v1 : Int32) (v2 : Int32) (v4 : Int32) (v5 : Int32) (S : zS) : Prop :=
    J_M_lines_70 post K12 v1 v4 v5 v2 S
def J_M_lines_52 (post : Int32 → zS → Prop) (K12 : Int32 → Int32 → Int32 → zS → Prop) (v1 : Int32) (v2 : Int32) (v3 : Int32) (v4 : Int32) (t0 : Int32) (S : zS) : Prop :=
    (t0 = 0 →
    J_M_lines_69 post K12 v1 v2 v4 t0 S) ∧
    (¬ t0 = 0 →
    (¬ v3 = 0 →
    J_M_lines_69 post K12 v1 v2 v4 t0 S) ∧
    (v3 = 0 →
    J_M_lines_70 post K12 v1 v4 t0 (v2 + 1) S))
def L_M_lines_12 (post : Int32 → zS → Prop) (v1 : Int32) : Nat → Int32 → Int32 → Int32 → zS → Prop
  | 0, _, _, _, _ => False
  | n + 1, v2, v3, v4, S =>
    vp_in v1 300 ∧ ((S 42 (z_ix v1)) < v4 →
    post v2 S) ∧
    (¬ (S 42 (z_ix v1)) < v4 →
    vp_in v1 300 ∧ vp_in v1 300 ∧ P_M_cleanIn (S 39 (z_ix v1)) v4 (S 41 (z_ix v1)) v4 v1 S (fun r41 S41 =>
    (r41 ≤ 0 →
    J_M_lines_52 post (L_M_lines_12 post v1 n) v1 v2 v3 v4 0 S41) ∧
    (¬ r41 ≤ 0 →
    J_M_lines_52 post (L_M_lines_12 post v1 n) v1 v2 v3 v4 1 S41)))
def P_M_lines (v1 : Int32) (S : zS) (post : Int32 → zS → Prop) : Prop :=
    vp_in v1 300 ∧ ∀ x10 : Int32, x10 = (S 40 (z_ix v1)) → ∃ k12, L_M_lines_12 post v1 k12 0 0 x10 S
def L_M_inkOf_15 (post : Int32 → zS → Prop) (K54 : Int32 → zS → Prop) (v1 : Int32) (v3 : Int32) : Nat → Int32 → Int32 → zS → Prop
  | 0, _, _, _ => False
  | n + 1, v2, v4, S =>
    ((S 31 1) ≤ v4 →
    K54 v2 S) ∧
    (¬ (S 31 1) ≤ v4 →
    vp_in ((24 * v3) + v4) 576 ∧ (¬ (S 38 (z_ix ((24 * v3) + v4))) = v1 →
    ∀ x48 : Int32, x48 = v4 + 1 → L_M_inkOf_15 post K54 v1 v3 n v2 x48 S) ∧
    ((S 38 (z_ix ((24 * v3) + v4))) = v1 →
    ∀ x47 : Int32, x47 = (v2 + 1) → ∀ x48 : Int32, x48 = v4 + 1 → L_M_inkOf_15 post K54 v1 v3 n x47 x48 S))
def L_M_inkOf_4 (post : Int32 → zS → Prop) (v1 : Int32) : Nat → Int32 → Int32 → zS → Prop
  | 0, _, _, _ => False
  | n + 1, v2, v3, S =>
    ((S 31 2) ≤ v3 →
    post v2 S) ∧
    (¬ (S 31 2) ≤ v3 →
    ∃ k15, L_M_inkOf_15 post (fun v2_15e S15e =>
    ∀ x54 : Int32, x54 = v3 + 1 → L_M_inkOf_4 post v1 n v2_15e x54 S15e) v1 v3 k15 v2 0 S)
def P_M_inkOf (v1 : Int32) (S : zS) (post : Int32 → zS → Prop) : Prop :=
    ∃ k4, L_M_inkOf_4 post v1 k4 0 0 S
def P_M_part (v1 : Int32) (v2 : Int32) (S : zS) (post : Int32 → zS → Prop) : Prop :=
    P_M_in v1 0 ((S 31 12) - 1) S (fun r13 S13 =>
    P_M_in v2 0 7 S13 (fun r20 S20 =>
    P_M_goes (S 31 5) r13 r20 S20 (fun r23 S23 =>
    (¬ r23 = 0 →
    (v2 = 0 →
    vp_in v1 300 ∧ post (S23 39 (z_ix v1)) S23) ∧
    (v2 = 1 →
    vp_in v1 300 ∧ post (S23 40 (z_ix v1)) S23) ∧
    (v2 = 2 →
    vp_in v1 300 ∧ vp_in v1 300 ∧ post (((S23 41 (z_ix v1)) - (S23 39 (z_ix v1))) + 1) S23) ∧
    (v2 = 3 →
    vp_in v1 300 ∧ vp_in v1 300 ∧ post (((S23 42 (z_ix v1)) - (S23 40 (z_ix v1))) + 1) S23) ∧
    (v2 = 4 →
    P_M_cleanIn 0 0 ((S23 31 1) - 1) ((S23 31 2) - 1) v1 S23 (fun r138 S138 =>
    post r138 S138)) ∧
    (v2 = 5 →
    vp_in v1 300 ∧ post (S23 43 (z_ix v1)) S23) ∧
    (v2 = 6 →
    P_M_lines v1 S23 (fun r151 S151 =>
    post r151 S151)) ∧
    (¬ v2 = 0 → ¬ v2 = 1 → ¬ v2 = 2 → ¬ v2 = 3 → ¬ v2 = 4 → ¬ v2 = 5 → ¬ v2 = 6 → 
    P_M_inkOf v1 S23 (fun r157 S157 =>
    post r157 S157))) ∧
    (r23 = 0 →
    post 0 S23))))
def P_M_partOf (v1 : Int32) (v2 : Int32) (S : zS) (post : Int32 → zS → Prop) : Prop :=
    P_M_isSample v1 v2 S (fun r8 S8 =>
    P_M_goes (S 31 5) r8 1 S8 (fun r12 S12 =>
    (r12 = 0 →
    post 0 S12) ∧
    (¬ r12 = 0 →
    vp_in ((24 * v2) + v1) 576 ∧ post (S12 38 (z_ix ((24 * v2) + v1))) S12)))
def L_M_line_109 (post : Int32 → zS → Prop) (K150 : Int32 → zS → Prop) (v1 : Int32) (v3 : Int32) (v5 : Int32) (v6 : Int32) : Nat → Int32 → zS → Prop
  | 0, _, _ => False
  | n + 1, v7, S =>
    vp_in v1 300 ∧ ((S 42 (z_ix v1)) < v7 →
    K150 v7 S) ∧
    (¬ (S 42 (z_ix v1)) < v7 →
    vp_in v1 300 ∧ vp_in v1 300 ∧ P_M_cleanIn (S 39 (z_ix v1)) v7 (S 41 (z_ix v1)) v7 v1 S (fun r138 S138 =>
    (r138 ≤ 0 →
    K150 v7 S138) ∧
    (¬ r138 ≤ 0 →
    ∀ x144 : Int32, x144 = v7 + 1 → L_M_line_109 post K150 v1 v3 v5 v6 n x144 S138)))
def J_M_line_150 (post : Int32 → zS → Prop) (K75 : Int32 → Int32 → zS → Prop) (K155 : Int32 → Int32 → zS → Prop) (v1 : Int32) (v3 : Int32) (v5 : Int32) (v6 : Int32) (v7 : Int32) (S : zS) : Prop :=
    (¬ v5 = 0 →
    ∀ x170 : Int32, x170 = v5 + (-1) → K75 x170 v7 S) ∧
    (v5 = 0 →
    K155 v6 v7 S)
def L_M_line_75 (post : Int32 → zS → Prop) (K155 : Int32 → Int32 → zS → Prop) (v1 : Int32) (v3 : Int32) : Nat → Int32 → Int32 → zS → Prop
  | 0, _, _, _ => False
  | n + 1, v5, v6, S =>
    vp_in v1 300 ∧ vp_in v1 300 ∧ P_M_cleanIn (S 39 (z_ix v1)) v6 (S 41 (z_ix v1)) v6 v1 S (fun r93 S93 =>
    (¬ r93 = 0 →
    ∃ k109, L_M_line_109 post (fun v7_109e S109e =>
    J_M_line_150 post (L_M_line_75 post K155 v1 v3 n) K155 v1 v3 v5 v6 v7_109e S109e) v1 v3 v5 v6 k109 v6 S93) ∧
    (r93 = 0 →
    ∀ x99 : Int32, x99 = v6 + 1 → L_M_line_75 post K155 v1 v3 n v5 x99 S93))
def J_M_line_41 (post : Int32 → zS → Prop) (v1 : Int32) (v2 : Int32) (v3 : Int32) (t0 : Int32) (S : zS) : Prop :=
    P_M_in v3 0 1 S (fun r53 S53 =>
    P_M_goes (S 31 5) t0 r53 S53 (fun r56 S56 =>
    (¬ r56 = 0 →
    vp_in v1 300 ∧ ∀ x73 : Int32, x73 = (S56 40 (z_ix v1)) → ∃ k75, L_M_line_75 post (fun v6_75e v7_75e S75e =>
    (¬ v3 = 0 →
    post (v7_75e - v6_75e) S75e) ∧
    (v3 = 0 →
    post v6_75e S75e)) v1 v3 k75 v2 x73 S56) ∧
    (r56 = 0 →
    post 0 S56)))
def J_M_line_40 (post : Int32 → zS → Prop) (v1 : Int32) (v2 : Int32) (v3 : Int32) (S : zS) : Prop :=
    J_M_line_41 post v1 v2 v3 0 S
def P_M_line (v1 : Int32) (v2 : Int32) (v3 : Int32) (S : zS) (post : Int32 → zS → Prop) : Prop :=
    ((S 31 5) = 0 →
    J_M_line_40 post v1 v2 v3 S) ∧
    (¬ (S 31 5) = 0 →
    P_M_in v1 0 ((S 31 12) - 1) S (fun r15 S15 =>
    (r15 = 0 →
    J_M_line_40 post v1 v2 v3 S15) ∧
    (¬ r15 = 0 →
    P_M_lines v1 S15 (fun r25 S25 =>
    P_M_in v2 0 (r25 - 1) S25 (fun r30 S30 =>
    (r30 = 0 →
    J_M_line_40 post v1 v2 v3 S30) ∧
    (¬ r30 = 0 →
    J_M_line_41 post v1 v2 v3 1 S30))))))
def P_M_order (v1 : Int32) (S : zS) (post : Int32 → zS → Prop) : Prop :=
    P_M_in v1 0 ((S 31 12) - 1) S (fun r13 S13 =>
    P_M_goes (S 31 5) r13 1 S13 (fun r17 S17 =>
    (r17 = 0 →
    post 0 S17) ∧
    (¬ r17 = 0 →
    vp_in v1 300 ∧ post (S17 44 (z_ix v1)) S17)))
def P_M_cover (v1 : Int32) (v2 : Int32) (S : zS) (post : Int32 → zS → Prop) : Prop :=
    P_M_in v1 0 ((S 31 19) - 1) S (fun r13 S13 =>
    P_M_in v2 0 3 S13 (fun r19 S19 =>
    P_M_goes (S 31 5) r13 r19 S19 (fun r22 S22 =>
    (r22 = 0 →
    post 0 S22) ∧
    (¬ r22 = 0 →
    vp_in ((4 * v1) + v2) 24 ∧ post (S22 45 (z_ix ((4 * v1) + v2))) S22))))
def P_M_strip (v1 : Int32) (S : zS) (post : Int32 → zS → Prop) : Prop :=
    P_M_in v1 0 ((S 31 1) - 1) S (fun r13 S13 =>
    P_M_goes (S 31 5) r13 1 S13 (fun r17 S17 =>
    (r17 = 0 →
    post 0 S17) ∧
    (¬ r17 = 0 →
    vp_in v1 24 ∧ post (S17 46 (z_ix v1)) S17)))
def J_M_cell_130 (post : Int32 → zS → Prop) (K61 : Int32 → Int32 → Int32 → Int32 → Int32 → Int32 → zS → Prop) (v1 : Int32) (v2 : Int32) (v3 : Int32) (v4 : Int32) (v7 : Int32) (v8 : Int32) (v9 : Int32) (t0 : Int32) (S : zS) : Prop :=
    ∀ x136 : Int32, x136 = v7 + 1 → ∀ x139 : Int32, x139 = v9 + 1 → K61 v3 v4 t0 v8 x136 x139 S
def J_M_cell_114 (post : Int32 → zS → Prop) (K61 : Int32 → Int32 → Int32 → Int32 → Int32 → Int32 → zS → Prop) (v1 : Int32) (v2 : Int32) (v3 : Int32) (v5 : Int32) (v7 : Int32) (v8 : Int32) (v9 : Int32) (t0 : Int32) (S : zS) : Prop :=
    (v5 ≤ v8 →
    J_M_cell_130 post K61 v1 v2 v3 t0 v7 v8 v9 v5 S) ∧
    (¬ v5 ≤ v8 →
    J_M_cell_130 post K61 v1 v2 v3 t0 v7 v8 v9 v8 S)
def J_M_cell_99 (post : Int32 → zS → Prop) (K61 : Int32 → Int32 → Int32 → Int32 → Int32 → Int32 → zS → Prop) (v1 : Int32) (v2 : Int32) (v4 : Int32) (v5 : Int32) (v7 : Int32) (v8 : Int32) (v9 : Int32) (t0 : Int32) (S : zS) : Prop :=
    (v9 ≤ v4 →
    J_M_cell_114 post K61 v1 v2 t0 v5 v7 v8 v9 v4 S) ∧
    (¬ v9 ≤ v4 →
    J_M_cell_114 post K61 v1 v2 t0 v5 v7 v8 v9 v9 S)
def L_M_cell_61 (post : Int32 → zS → Prop) (K145 : Int32 → Int32 → Int32 → Int32 → Int32 → zS → Prop) (v1 : Int32) (v2 : Int32) (v8 : Int32) : Nat → Int32 → Int32 → Int32 → Int32 → Int32 → Int32 → zS → Prop
  | 0, _, _, _, _, _, _, _ => False
  | n + 1, v3, v4, v5, v6, v7, v9, S =>
    ((S 31 1) ≤ v9 →
    K145 v3 v4 v5 v6 v7 S) ∧
    (¬ (S 31 1) ≤ v9 →
    vp_in ((24 * v8) + v9) 576 ∧ (¬ (S 47 (z_ix ((24 * v8) + v9))) = v1 →
    ∀ x139 : Int32, x139 = v9 + 1 → L_M_cell_61 post K145 v1 v2 v8 n v3 v4 v5 v6 v7 x139 S) ∧
    ((S 47 (z_ix ((24 * v8) + v9))) = v1 →
    (v3 ≤ v9 →
    J_M_cell_99 post (L_M_cell_61 post K145 v1 v2 v8 n) v1 v2 v4 v5 v7 v8 v9 v3 S) ∧
    (¬ v3 ≤ v9 →
    J_M_cell_99 post (L_M_cell_61 post K145 v1 v2 v8 n) v1 v2 v4 v5 v7 v8 v9 v9 S)))
def L_M_cell_49 (post : Int32 → zS → Prop) (K151 : Int32 → Int32 → Int32 → Int32 → Int32 → zS → Prop) (v1 : Int32) (v2 : Int32) : Nat → Int32 → Int32 → Int32 → Int32 → Int32 → Int32 → zS → Prop
  | 0, _, _, _, _, _, _, _ => False
  | n + 1, v3, v4, v5, v6, v7, v8, S =>
    ((S 31 2) ≤ v8 →
    K151 v3 v4 v5 v6 v7 S) ∧
    (¬ (S 31 2) ≤ v8 →
    ∃ k61, L_M_cell_61 post (fun v3_61e v4_61e v5_61e v6_61e v7_61e S61e =>
    ∀ x145 : Int32, x145 = v8 + 1 → L_M_cell_49 post K151 v1 v2 n v3_61e v4_61e v5_61e v6_61e v7_61e x145 S61e) v1 v2 v8 k61 v3 v4 v5 v6 v7 0 S)
def P_M_cell (v1 : Int32) (v2 : Int32) (S : zS) (post : Int32 → zS → Prop) : Prop :=
    P_M_in v1 0 ((S 31 23) - 1) S (fun r13 S13 =>
    P_M_in v2 0 4 S13 (fun r19 S19 =>
    P_M_goes (S 31 5) r13 r19 S19 (fun r22 S22 =>
    (¬ r22 = 0 →
    ∃ k49, L_M_cell_49 post (fun v3_49e v4_49e v5_49e v6_49e v7_49e S49e =>
    (¬ v2 = 0 →
    (¬ v2 = 1 →
    (¬ v2 = 2 →
    (¬ v2 = 3 →
    post v7_49e S49e) ∧
    (v2 = 3 →
    post ((v6_49e - v5_49e) + 1) S49e)) ∧
    (v2 = 2 →
    post ((v4_49e - v3_49e) + 1) S49e)) ∧
    (v2 = 1 →
    post v5_49e S49e)) ∧
    (v2 = 0 →
    post v3_49e S49e)) v1 v2 k49 24 0 24 0 0 0 S22) ∧
    (r22 = 0 →
    post 0 S22))))
def P_M_isSpeck (v1 : Int32) (v2 : Int32) (S : zS) (post : Int32 → zS → Prop) : Prop :=
    P_M_isSample v1 v2 S (fun r8 S8 =>
    P_M_goes (S 31 5) r8 1 S8 (fun r12 S12 =>
    (r12 = 0 →
    post 0 S12) ∧
    (¬ r12 = 0 →
    vp_in ((24 * v2) + v1) 576 ∧ ((S12 33 (z_ix ((24 * v2) + v1))) = 0 →
    post 0 S12) ∧
    (¬ (S12 33 (z_ix ((24 * v2) + v1))) = 0 →
    post 1 S12))))
def J_M_told_56 (post : Int32 → zS → Prop) (K24 : Int32 → Int32 → Int32 → zS → Prop) (v1 : Int32) (v3 : Int32) (v4 : Int32) (v5 : Int32) (t0 : Int32) (S : zS) : Prop :=
    ((S 31 5) = 0 →
    ∀ x88 : Int32, x88 = v5 + 1 → K24 t0 v3 x88 S) ∧
    (¬ (S 31 5) = 0 →
    vp_in ((24 * v4) + v5) 576 ∧ ((S 33 (z_ix ((24 * v4) + v5))) = 0 →
    ∀ x88 : Int32, x88 = v5 + 1 → K24 t0 v3 x88 S) ∧
    (¬ (S 33 (z_ix ((24 * v4) + v5))) = 0 →
    ∀ x87 : Int32, x87 = (v3 + 1) → ∀ x88 : Int32, x88 = v5 + 1 → K24 t0 x87 x88 S))
def L_M_told_24 (post : Int32 → zS → Prop) (K94 : Int32 → Int32 → zS → Prop) (v1 : Int32) (v4 : Int32) : Nat → Int32 → Int32 → Int32 → zS → Prop
  | 0, _, _, _, _ => False
  | n + 1, v2, v3, v5, S =>
    ((S 31 1) ≤ v5 →
    K94 v2 v3 S) ∧
    (¬ (S 31 1) ≤ v5 →
    vp_in ((24 * v4) + v5) 576 ∧ ((S 32 (z_ix ((24 * v4) + v5))) = 0 →
    J_M_told_56 post (L_M_told_24 post K94 v1 v4 n) v1 v3 v4 v5 v2 S) ∧
    (¬ (S 32 (z_ix ((24 * v4) + v5))) = 0 →
    J_M_told_56 post (L_M_told_24 post K94 v1 v4 n) v1 v3 v4 v5 (v2 + 1) S))
def L_M_told_12 (post : Int32 → zS → Prop) (K100 : Int32 → Int32 → zS → Prop) (v1 : Int32) : Nat → Int32 → Int32 → Int32 → zS → Prop
  | 0, _, _, _, _ => False
  | n + 1, v2, v3, v4, S =>
    ((S 31 2) ≤ v4 →
    K100 v2 v3 S) ∧
    (¬ (S 31 2) ≤ v4 →
    ∃ k24, L_M_told_24 post (fun v2_24e v3_24e S24e =>
    ∀ x94 : Int32, x94 = v4 + 1 → L_M_told_12 post K100 v1 n v2_24e v3_24e x94 S24e) v1 v4 k24 v2 v3 0 S)
def P_M_told (v1 : Int32) (S : zS) (post : Int32 → zS → Prop) : Prop :=
    ∀ S2 : zS, S2 = z_su S 31 0 0 → ∃ k12, L_M_told_12 post (fun v2_12e v3_12e S12e =>
    (3 ≤ v1 →
    (¬ (S12e 31 5) = 0 →
    (¬ v1 = 3 →
    (¬ v1 = 4 →
    (¬ v1 = 5 →
    (¬ v1 = 6 →
    (¬ v1 = 7 →
    post (-1) S12e) ∧
    (v1 = 7 →
    post v3_12e S12e)) ∧
    (v1 = 6 →
    post (S12e 31 23) S12e)) ∧
    (v1 = 5 →
    post (S12e 31 21) S12e)) ∧
    (v1 = 4 →
    post (S12e 31 19) S12e)) ∧
    (v1 = 3 →
    post (S12e 31 12) S12e)) ∧
    ((S12e 31 5) = 0 →
    post (-1) S12e)) ∧
    (¬ 3 ≤ v1 →
    (¬ v1 = 0 →
    (¬ v1 = 1 →
    (¬ v1 = 2 →
    post (-1) S12e) ∧
    (v1 = 2 →
    post v2_12e S12e)) ∧
    (v1 = 1 →
    post (S12e 31 2) S12e)) ∧
    (v1 = 0 →
    post (S12e 31 1) S12e))) v1 k12 0 0 0 S2
def X_P_mustBeSample (v1 : Int32) (v2 : Int32) (S : zS) (px : Nat → zS → Prop) : Prop :=
    (v1 < 0 →
    px 1 S) ∧
    (¬ v1 < 0 →
    ((S 0 0) ≤ v1 →
    px 1 S) ∧
    (¬ (S 0 0) ≤ v1 →
    (v2 < 0 →
    px 1 S) ∧
    (¬ v2 < 0 →
    (v2 < (S 0 1) →
    False) ∧
    (¬ v2 < (S 0 1) →
    px 1 S))))
def X_P_put (v1 : Int32) (v2 : Int32) (v3 : Int32) (S : zS) (px : Nat → zS → Prop) : Prop :=
    X_P_mustBeSample v1 v2 S px
def X_P_fill (v1 : Int32) (v2 : Int32) (v3 : Int32) (v4 : Int32) (v5 : Int32) (S : zS) (px : Nat → zS → Prop) : Prop :=
    (X_P_mustBeSample v1 v2 S px) ∨
    (P_P_mustBeSample v1 v2 S (fun S3 =>
    (v3 < 1 →
    px 2 S3) ∧
    (¬ v3 < 1 →
    (1 ≤ v4 →
    False) ∧
    (¬ 1 ≤ v4 →
    px 2 S3))))
def X_P_noise (v1 : Int32) (S : zS) (px : Nat → zS → Prop) : Prop :=
    (v1 < 0 →
    px 2 S) ∧
    (¬ v1 < 0 →
    (v1 ≤ 100 →
    False) ∧
    (¬ v1 ≤ 100 →
    px 2 S))
def X_P_run (v1 : Int32) (v2 : Int32) (S : zS) (px : Nat → zS → Prop) : Prop :=
    (v1 < 0 →
    px 2 S) ∧
    (¬ v1 < 0 →
    (24 < v1 →
    px 2 S) ∧
    (¬ 24 < v1 →
    (v2 < 0 →
    px 2 S) ∧
    (¬ v2 < 0 →
    (v2 ≤ 24 →
    False) ∧
    (¬ v2 ≤ 24 →
    px 2 S))))
def X_P_mustBeParted (S : zS) (px : Nat → zS → Prop) : Prop :=
    (¬ (S 0 14) = 0 →
    False) ∧
    ((S 0 14) = 0 →
    px 0 S)
def X_P_mustBeBelow (v0 : Int32) (v1 : Int32) (S : zS) (px : Nat → zS → Prop) : Prop :=
    (v0 < 0 →
    px 1 S) ∧
    (¬ v0 < 0 →
    (v0 < v1 →
    False) ∧
    (¬ v0 < v1 →
    px 1 S))
def X_P_mustBeTold (v0 : Int32) (v1 : Int32) (S : zS) (px : Nat → zS → Prop) : Prop :=
    (v0 < 0 →
    px 2 S) ∧
    (¬ v0 < 0 →
    (v0 < v1 →
    False) ∧
    (¬ v0 < v1 →
    px 2 S))
def X_P_part (v1 : Int32) (v2 : Int32) (S : zS) (px : Nat → zS → Prop) : Prop :=
    (X_P_mustBeParted S px) ∨
    (P_P_mustBeParted S (fun S1 =>
    (X_P_mustBeBelow v1 (S1 5 6) S1 px) ∨
    (P_P_mustBeBelow v1 (S1 5 6) S1 (fun S12 =>
    X_P_mustBeTold v2 8 S12 px))))
def X_P_partOf (v1 : Int32) (v2 : Int32) (S : zS) (px : Nat → zS → Prop) : Prop :=
    (X_P_mustBeParted S px) ∨
    (P_P_mustBeParted S (fun S1 =>
    X_P_mustBeSample v1 v2 S1 px))
def X_P_line (v1 : Int32) (v2 : Int32) (v3 : Int32) (S : zS) (px : Nat → zS → Prop) : Prop :=
    (X_P_mustBeParted S px) ∨
    (P_P_mustBeParted S (fun S1 =>
    (X_P_mustBeBelow v1 (S1 5 6) S1 px) ∨
    (P_P_mustBeBelow v1 (S1 5 6) S1 (fun S12 =>
    P_P_countLines v1 S12 (fun r18 S18 =>
    (X_P_mustBeBelow v2 r18 S18 px) ∨
    (P_P_mustBeBelow v2 r18 S18 (fun S21 =>
    X_P_mustBeTold v3 2 S21 px)))))))
def X_P_order (v1 : Int32) (S : zS) (px : Nat → zS → Prop) : Prop :=
    (X_P_mustBeParted S px) ∨
    (P_P_mustBeParted S (fun S1 =>
    X_P_mustBeBelow v1 (S1 5 6) S1 px))
def X_P_cover (v1 : Int32) (v2 : Int32) (S : zS) (px : Nat → zS → Prop) : Prop :=
    (X_P_mustBeParted S px) ∨
    (P_P_mustBeParted S (fun S1 =>
    (X_P_mustBeBelow v1 (S1 21 4) S1 px) ∨
    (P_P_mustBeBelow v1 (S1 21 4) S1 (fun S12 =>
    X_P_mustBeTold v2 4 S12 px))))
def X_P_strip (v1 : Int32) (S : zS) (px : Nat → zS → Prop) : Prop :=
    (X_P_mustBeParted S px) ∨
    (P_P_mustBeParted S (fun S1 =>
    X_P_mustBeBelow v1 (S1 0 0) S1 px))
def X_P_cell (v1 : Int32) (v2 : Int32) (S : zS) (px : Nat → zS → Prop) : Prop :=
    (X_P_mustBeParted S px) ∨
    (P_P_mustBeParted S (fun S1 =>
    (X_P_mustBeBelow v1 (S1 13 6) S1 px) ∨
    (P_P_mustBeBelow v1 (S1 13 6) S1 (fun S12 =>
    X_P_mustBeTold v2 5 S12 px))))
def X_P_isSpeck (v1 : Int32) (v2 : Int32) (S : zS) (px : Nat → zS → Prop) : Prop :=
    (X_P_mustBeParted S px) ∨
    (P_P_mustBeParted S (fun S1 =>
    X_P_mustBeSample v1 v2 S1 px))
def J_L_put_18 (post : Int32 → zS → Prop) (t0 : Int32) (t1 : Int32) (S : zS) : Prop :=
    vp_in t1 1 ∧ ∀ S18 : zS, S18 = z_su S 50 (z_ix t1) t0 → post 0 S18
def P_L_put (v1 : Int32) (v2 : Int32) (v3 : Int32) (S : zS) (post : Int32 → zS → Prop) : Prop :=
    (X_P_put v1 v2 v3 S (fun cd S7x => (cd = 1 ∧ post 1 S7x))) ∨
    (P_P_put v1 v2 v3 S (fun r7 S7 =>
    (r7 = 0 →
    J_L_put_18 post 0 0 S7) ∧
    (¬ r7 = 0 →
    J_L_put_18 post 1 0 S7)))
def P_L_fill (v1 : Int32) (v2 : Int32) (v3 : Int32) (v4 : Int32) (v5 : Int32) (S : zS) (post : Int32 → zS → Prop) : Prop :=
    (X_P_fill v1 v2 v3 v4 v5 S (fun cd S11x => (cd = 1 ∧ post 1 S11x) ∨ (cd = 2 ∧ post 2 S11x))) ∨
    (P_P_fill v1 v2 v3 v4 v5 S (fun r11 S11 =>
    vp_in 0 1 ∧ ∀ S15 : zS, S15 = z_su S11 50 (z_ix 0) r11 → post 0 S15))
def P_L_noise (v1 : Int32) (S : zS) (post : Int32 → zS → Prop) : Prop :=
    (X_P_noise v1 S (fun cd S4x => (cd = 2 ∧ post 1 S4x))) ∨
    (P_P_noise v1 S (fun r4 S4 =>
    vp_in 0 1 ∧ ∀ S8 : zS, S8 = z_su S4 50 (z_ix 0) r4 → post 0 S8))
def P_L_run (v1 : Int32) (v2 : Int32) (S : zS) (post : Int32 → zS → Prop) : Prop :=
    (X_P_run v1 v2 S (fun cd S5x => (cd = 2 ∧ post 1 S5x))) ∨
    (P_P_run v1 v2 S (fun r5 S5 =>
    vp_in 0 1 ∧ ∀ S9 : zS, S9 = z_su S5 50 (z_ix 0) r5 → post 0 S9))
def P_L_part (v1 : Int32) (v2 : Int32) (S : zS) (post : Int32 → zS → Prop) : Prop :=
    (X_P_part v1 v2 S (fun cd S5x => (cd = 0 ∧ post 1 S5x) ∨ (cd = 1 ∧ post 2 S5x) ∨ (cd = 2 ∧ post 3 S5x))) ∨
    (P_P_part v1 v2 S (fun r5 S5 =>
    vp_in 0 1 ∧ ∀ S9 : zS, S9 = z_su S5 50 (z_ix 0) r5 → post 0 S9))
def P_L_partOf (v1 : Int32) (v2 : Int32) (S : zS) (post : Int32 → zS → Prop) : Prop :=
    (X_P_partOf v1 v2 S (fun cd S5x => (cd = 0 ∧ post 1 S5x) ∨ (cd = 1 ∧ post 2 S5x))) ∨
    (P_P_partOf v1 v2 S (fun r5 S5 =>
    vp_in 0 1 ∧ ∀ S9 : zS, S9 = z_su S5 50 (z_ix 0) r5 → post 0 S9))
def P_L_line (v1 : Int32) (v2 : Int32) (v3 : Int32) (S : zS) (post : Int32 → zS → Prop) : Prop :=
    (X_P_line v1 v2 v3 S (fun cd S7x => (cd = 0 ∧ post 1 S7x) ∨ (cd = 1 ∧ post 2 S7x) ∨ (cd = 2 ∧ post 3 S7x))) ∨
    (P_P_line v1 v2 v3 S (fun r7 S7 =>
    vp_in 0 1 ∧ ∀ S11 : zS, S11 = z_su S7 50 (z_ix 0) r7 → post 0 S11))
def P_L_order (v1 : Int32) (S : zS) (post : Int32 → zS → Prop) : Prop :=
    (X_P_order v1 S (fun cd S4x => (cd = 0 ∧ post 1 S4x) ∨ (cd = 1 ∧ post 2 S4x))) ∨
    (P_P_order v1 S (fun r4 S4 =>
    vp_in 0 1 ∧ ∀ S8 : zS, S8 = z_su S4 50 (z_ix 0) r4 → post 0 S8))
def P_L_cover (v1 : Int32) (v2 : Int32) (S : zS) (post : Int32 → zS → Prop) : Prop :=
    (X_P_cover v1 v2 S (fun cd S5x => (cd = 0 ∧ post 1 S5x) ∨ (cd = 1 ∧ post 2 S5x) ∨ (cd = 2 ∧ post 3 S5x))) ∨
    (P_P_cover v1 v2 S (fun r5 S5 =>
    vp_in 0 1 ∧ ∀ S9 : zS, S9 = z_su S5 50 (z_ix 0) r5 → post 0 S9))
def P_L_strip (v1 : Int32) (S : zS) (post : Int32 → zS → Prop) : Prop :=
    (X_P_strip v1 S (fun cd S4x => (cd = 0 ∧ post 1 S4x) ∨ (cd = 1 ∧ post 2 S4x))) ∨
    (P_P_strip v1 S (fun r4 S4 =>
    vp_in 0 1 ∧ ∀ S8 : zS, S8 = z_su S4 50 (z_ix 0) r4 → post 0 S8))
def P_L_cell2 (v1 : Int32) (v2 : Int32) (S : zS) (post : Int32 → zS → Prop) : Prop :=
    (X_P_cell v1 v2 S (fun cd S5x => (cd = 0 ∧ post 1 S5x) ∨ (cd = 1 ∧ post 2 S5x) ∨ (cd = 2 ∧ post 3 S5x))) ∨
    (P_P_cell v1 v2 S (fun r5 S5 =>
    vp_in 0 1 ∧ ∀ S9 : zS, S9 = z_su S5 50 (z_ix 0) r5 → post 0 S9))
def J_L_isSpeck_16 (post : Int32 → zS → Prop) (t0 : Int32) (t1 : Int32) (S : zS) : Prop :=
    vp_in t1 1 ∧ ∀ S16 : zS, S16 = z_su S 50 (z_ix t1) t0 → post 0 S16
def P_L_isSpeck (v1 : Int32) (v2 : Int32) (S : zS) (post : Int32 → zS → Prop) : Prop :=
    (X_P_isSpeck v1 v2 S (fun cd S5x => (cd = 0 ∧ post 1 S5x) ∨ (cd = 1 ∧ post 2 S5x))) ∨
    (P_P_isSpeck v1 v2 S (fun r5 S5 =>
    (r5 = 0 →
    J_L_isSpeck_16 post 0 0 S5) ∧
    (¬ r5 = 0 →
    J_L_isSpeck_16 post 1 0 S5)))
def J_L_law_232 (L : Nat) (xs : Nat → Int32) (post : Int32 → zS → Prop) (K43 : Int32 → zS → Prop) (v4 : Int32) (S : zS) : Prop :=
    ∀ x1054 : Int32, x1054 = v4 + 6 → K43 x1054 S
def J_L_law_226 (L : Nat) (xs : Nat → Int32) (post : Int32 → zS → Prop) (K43 : Int32 → zS → Prop) (v4 : Int32) (t0 : Int32) (t1 : Int32) (S : zS) : Prop :=
    (t1 = t0 →
    J_L_law_232 L xs post K43 v4 S) ∧
    (¬ t1 = t0 →
    post 0 S)
def J_L_law_192 (L : Nat) (xs : Nat → Int32) (post : Int32 → zS → Prop) (K43 : Int32 → zS → Prop) (v4 : Int32) (v5 : Int32) (t0 : Int32) (t1 : Int32) (t2 : Int32) (S : zS) : Prop :=
    P_M_put t2 t1 t0 S (fun r192 S192 =>
    P_M_thrown S192 (fun r198 S198 =>
    (r198 = v5 →
    (¬ v5 = 0 →
    J_L_law_232 L xs post K43 v4 S198) ∧
    (v5 = 0 →
    vp_in 0 1 ∧ (r192 = 0 →
    J_L_law_226 L xs post K43 v4 0 (S198 50 (z_ix 0)) S198) ∧
    (¬ r192 = 0 →
    J_L_law_226 L xs post K43 v4 1 (S198 50 (z_ix 0)) S198))) ∧
    (¬ r198 = v5 →
    post 0 S198)))
def J_L_law_159 (L : Nat) (xs : Nat → Int32) (post : Int32 → zS → Prop) (K43 : Int32 → zS → Prop) (v4 : Int32) (t0 : Int32) (t1 : Int32) (t2 : Int32) (S : zS) : Prop :=
    P_L_put t2 t1 t0 S (fun r160 S160 =>
    vp_in (v4 + 1) L ∧ vp_in (v4 + 2) L ∧ vp_in (v4 + 3) L ∧ ((xs (z_ix (v4 + 3))) = 0 →
    J_L_law_192 L xs post K43 v4 r160 0 (xs (z_ix (v4 + 2))) (xs (z_ix (v4 + 1))) S160) ∧
    (¬ (xs (z_ix (v4 + 3))) = 0 →
    J_L_law_192 L xs post K43 v4 r160 1 (xs (z_ix (v4 + 2))) (xs (z_ix (v4 + 1))) S160))
def J_L_law_352 (L : Nat) (xs : Nat → Int32) (post : Int32 → zS → Prop) (K43 : Int32 → zS → Prop) (v4 : Int32) (S : zS) : Prop :=
    ∀ x1054 : Int32, x1054 = v4 + 6 → K43 x1054 S
def J_L_law_319 (L : Nat) (xs : Nat → Int32) (post : Int32 → zS → Prop) (K43 : Int32 → zS → Prop) (v4 : Int32) (v5 : Int32) (t0 : Int32) (t1 : Int32) (t2 : Int32) (t3 : Int32) (t4 : Int32) (S : zS) : Prop :=
    P_M_fill t4 t3 t2 t1 t0 S (fun r319 S319 =>
    P_M_thrown S319 (fun r325 S325 =>
    (r325 = v5 →
    (¬ v5 = 0 →
    J_L_law_352 L xs post K43 v4 S325) ∧
    (v5 = 0 →
    vp_in 0 1 ∧ ((S325 50 (z_ix 0)) = r319 →
    J_L_law_352 L xs post K43 v4 S325) ∧
    (¬ (S325 50 (z_ix 0)) = r319 →
    post 0 S325))) ∧
    (¬ r325 = v5 →
    post 0 S325)))
def J_L_law_274 (L : Nat) (xs : Nat → Int32) (post : Int32 → zS → Prop) (K43 : Int32 → zS → Prop) (v4 : Int32) (t0 : Int32) (t1 : Int32) (t2 : Int32) (t3 : Int32) (t4 : Int32) (S : zS) : Prop :=
    P_L_fill t4 t3 t2 t1 t0 S (fun r275 S275 =>
    vp_in (v4 + 1) L ∧ vp_in (v4 + 2) L ∧ vp_in (v4 + 3) L ∧ vp_in (v4 + 4) L ∧ vp_in (v4 + 5) L ∧ ((xs (z_ix (v4 + 5))) = 0 →
    J_L_law_319 L xs post K43 v4 r275 0 (xs (z_ix (v4 + 4))) (xs (z_ix (v4 + 3))) (xs (z_ix (v4 + 2))) (xs (z_ix (v4 + 1))) S275) ∧
    (¬ (xs (z_ix (v4 + 5))) = 0 →
    J_L_law_319 L xs post K43 v4 r275 1 (xs (z_ix (v4 + 4))) (xs (z_ix (v4 + 3))) (xs (z_ix (v4 + 2))) (xs (z_ix (v4 + 1))) S275))
def J_L_law_408 (L : Nat) (xs : Nat → Int32) (post : Int32 → zS → Prop) (K43 : Int32 → zS → Prop) (v4 : Int32) (S : zS) : Prop :=
    ∀ x1054 : Int32, x1054 = v4 + 6 → K43 x1054 S
def J_L_law_476 (L : Nat) (xs : Nat → Int32) (post : Int32 → zS → Prop) (K43 : Int32 → zS → Prop) (v4 : Int32) (S : zS) : Prop :=
    ∀ x1054 : Int32, x1054 = v4 + 6 → K43 x1054 S
def J_L_law_544 (L : Nat) (xs : Nat → Int32) (post : Int32 → zS → Prop) (K43 : Int32 → zS → Prop) (v4 : Int32) (S : zS) : Prop :=
    ∀ x1054 : Int32, x1054 = v4 + 6 → K43 x1054 S
def J_L_law_612 (L : Nat) (xs : Nat → Int32) (post : Int32 → zS → Prop) (K43 : Int32 → zS → Prop) (v4 : Int32) (S : zS) : Prop :=
    ∀ x1054 : Int32, x1054 = v4 + 6 → K43 x1054 S
def J_L_law_692 (L : Nat) (xs : Nat → Int32) (post : Int32 → zS → Prop) (K43 : Int32 → zS → Prop) (v4 : Int32) (S : zS) : Prop :=
    ∀ x1054 : Int32, x1054 = v4 + 6 → K43 x1054 S
def J_L_law_748 (L : Nat) (xs : Nat → Int32) (post : Int32 → zS → Prop) (K43 : Int32 → zS → Prop) (v4 : Int32) (S : zS) : Prop :=
    ∀ x1054 : Int32, x1054 = v4 + 6 → K43 x1054 S
def J_L_law_816 (L : Nat) (xs : Nat → Int32) (post : Int32 → zS → Prop) (K43 : Int32 → zS → Prop) (v4 : Int32) (S : zS) : Prop :=
    ∀ x1054 : Int32, x1054 = v4 + 6 → K43 x1054 S
def J_L_law_872 (L : Nat) (xs : Nat → Int32) (post : Int32 → zS → Prop) (K43 : Int32 → zS → Prop) (v4 : Int32) (S : zS) : Prop :=
    ∀ x1054 : Int32, x1054 = v4 + 6 → K43 x1054 S
def J_L_law_940 (L : Nat) (xs : Nat → Int32) (post : Int32 → zS → Prop) (K43 : Int32 → zS → Prop) (v4 : Int32) (S : zS) : Prop :=
    ∀ x1054 : Int32, x1054 = v4 + 6 → K43 x1054 S
def J_L_law_1015 (L : Nat) (xs : Nat → Int32) (post : Int32 → zS → Prop) (K43 : Int32 → zS → Prop) (v4 : Int32) (S : zS) : Prop :=
    ∀ x1054 : Int32, x1054 = v4 + 6 → K43 x1054 S
def J_L_law_1009 (L : Nat) (xs : Nat → Int32) (post : Int32 → zS → Prop) (K43 : Int32 → zS → Prop) (v4 : Int32) (t0 : Int32) (t1 : Int32) (S : zS) : Prop :=
    (t1 = t0 →
    J_L_law_1015 L xs post K43 v4 S) ∧
    (¬ t1 = t0 →
    post 0 S)
def L_L_law_43 (L : Nat) (xs : Nat → Int32) (post : Int32 → zS → Prop) : Nat → Int32 → zS → Prop
  | 0, _, _ => False
  | n + 1, v4, S =>
    (((nI L) - 6) < v4 →
    post 1 S) ∧
    (¬ ((nI L) - 6) < v4 →
    vp_in v4 L ∧ (((xs (z_ix v4)) &&& 15) = 0 →
    vp_in (v4 + 1) L ∧ vp_in (v4 + 2) L ∧ vp_in (v4 + 3) L ∧ ((xs (z_ix (v4 + 3))) = 0 →
    J_L_law_159 L xs post (L_L_law_43 L xs post n) v4 0 (xs (z_ix (v4 + 2))) (xs (z_ix (v4 + 1))) S) ∧
    (¬ (xs (z_ix (v4 + 3))) = 0 →
    J_L_law_159 L xs post (L_L_law_43 L xs post n) v4 1 (xs (z_ix (v4 + 2))) (xs (z_ix (v4 + 1))) S)) ∧
    (((xs (z_ix v4)) &&& 15) = 1 →
    vp_in (v4 + 1) L ∧ vp_in (v4 + 2) L ∧ vp_in (v4 + 3) L ∧ vp_in (v4 + 4) L ∧ vp_in (v4 + 5) L ∧ ((xs (z_ix (v4 + 5))) = 0 →
    J_L_law_274 L xs post (L_L_law_43 L xs post n) v4 0 (xs (z_ix (v4 + 4))) (xs (z_ix (v4 + 3))) (xs (z_ix (v4 + 2))) (xs (z_ix (v4 + 1))) S) ∧
    (¬ (xs (z_ix (v4 + 5))) = 0 →
    J_L_law_274 L xs post (L_L_law_43 L xs post n) v4 1 (xs (z_ix (v4 + 4))) (xs (z_ix (v4 + 3))) (xs (z_ix (v4 + 2))) (xs (z_ix (v4 + 1))) S)) ∧
    (((xs (z_ix v4)) &&& 15) = 2 →
    vp_in (v4 + 1) L ∧ P_L_noise (xs (z_ix (v4 + 1))) S (fun r363 S363 =>
    vp_in (v4 + 1) L ∧ P_M_noise (xs (z_ix (v4 + 1))) S363 (fun r375 S375 =>
    P_M_thrown S375 (fun r381 S381 =>
    (r381 = r363 →
    (¬ r363 = 0 →
    J_L_law_408 L xs post (L_L_law_43 L xs post n) v4 S381) ∧
    (r363 = 0 →
    vp_in 0 1 ∧ ((S381 50 (z_ix 0)) = r375 →
    J_L_law_408 L xs post (L_L_law_43 L xs post n) v4 S381) ∧
    (¬ (S381 50 (z_ix 0)) = r375 →
    post 0 S381))) ∧
    (¬ r381 = r363 →
    post 0 S381))))) ∧
    (((xs (z_ix v4)) &&& 15) = 3 →
    vp_in (v4 + 1) L ∧ vp_in (v4 + 2) L ∧ P_L_run (xs (z_ix (v4 + 1))) (xs (z_ix (v4 + 2))) S (fun r425 S425 =>
    vp_in (v4 + 1) L ∧ vp_in (v4 + 2) L ∧ P_M_run (xs (z_ix (v4 + 1))) (xs (z_ix (v4 + 2))) S425 (fun r443 S443 =>
    P_M_thrown S443 (fun r449 S449 =>
    (r449 = r425 →
    (¬ r425 = 0 →
    J_L_law_476 L xs post (L_L_law_43 L xs post n) v4 S449) ∧
    (r425 = 0 →
    vp_in 0 1 ∧ ((S449 50 (z_ix 0)) = r443 →
    J_L_law_476 L xs post (L_L_law_43 L xs post n) v4 S449) ∧
    (¬ (S449 50 (z_ix 0)) = r443 →
    post 0 S449))) ∧
    (¬ r449 = r425 →
    post 0 S449))))) ∧
    (((xs (z_ix v4)) &&& 15) = 4 →
    vp_in (v4 + 1) L ∧ vp_in (v4 + 2) L ∧ P_L_part (xs (z_ix (v4 + 1))) (xs (z_ix (v4 + 2))) S (fun r493 S493 =>
    vp_in (v4 + 1) L ∧ vp_in (v4 + 2) L ∧ P_M_part (xs (z_ix (v4 + 1))) (xs (z_ix (v4 + 2))) S493 (fun r511 S511 =>
    P_M_thrown S511 (fun r517 S517 =>
    (r517 = r493 →
    (¬ r493 = 0 →
    J_L_law_544 L xs post (L_L_law_43 L xs post n) v4 S517) ∧
    (r493 = 0 →
    vp_in 0 1 ∧ ((S517 50 (z_ix 0)) = r511 →
    J_L_law_544 L xs post (L_L_law_43 L xs post n) v4 S517) ∧
    (¬ (S517 50 (z_ix 0)) = r511 →
    post 0 S517))) ∧
    (¬ r517 = r493 →
    post 0 S517))))) ∧
    (((xs (z_ix v4)) &&& 15) = 5 →
    vp_in (v4 + 1) L ∧ vp_in (v4 + 2) L ∧ P_L_partOf (xs (z_ix (v4 + 1))) (xs (z_ix (v4 + 2))) S (fun r561 S561 =>
    vp_in (v4 + 1) L ∧ vp_in (v4 + 2) L ∧ P_M_partOf (xs (z_ix (v4 + 1))) (xs (z_ix (v4 + 2))) S561 (fun r579 S579 =>
    P_M_thrown S579 (fun r585 S585 =>
    (r585 = r561 →
    (¬ r561 = 0 →
    J_L_law_612 L xs post (L_L_law_43 L xs post n) v4 S585) ∧
    (r561 = 0 →
    vp_in 0 1 ∧ ((S585 50 (z_ix 0)) = r579 →
    J_L_law_612 L xs post (L_L_law_43 L xs post n) v4 S585) ∧
    (¬ (S585 50 (z_ix 0)) = r579 →
    post 0 S585))) ∧
    (¬ r585 = r561 →
    post 0 S585))))) ∧
    (((xs (z_ix v4)) &&& 15) = 6 →
    vp_in (v4 + 1) L ∧ vp_in (v4 + 2) L ∧ vp_in (v4 + 3) L ∧ P_L_line (xs (z_ix (v4 + 1))) (xs (z_ix (v4 + 2))) (xs (z_ix (v4 + 3))) S (fun r635 S635 =>
    vp_in (v4 + 1) L ∧ vp_in (v4 + 2) L ∧ vp_in (v4 + 3) L ∧ P_M_line (xs (z_ix (v4 + 1))) (xs (z_ix (v4 + 2))) (xs (z_ix (v4 + 3))) S635 (fun r659 S659 =>
    P_M_thrown S659 (fun r665 S665 =>
    (r665 = r635 →
    (¬ r635 = 0 →
    J_L_law_692 L xs post (L_L_law_43 L xs post n) v4 S665) ∧
    (r635 = 0 →
    vp_in 0 1 ∧ ((S665 50 (z_ix 0)) = r659 →
    J_L_law_692 L xs post (L_L_law_43 L xs post n) v4 S665) ∧
    (¬ (S665 50 (z_ix 0)) = r659 →
    post 0 S665))) ∧
    (¬ r665 = r635 →
    post 0 S665))))) ∧
    (((xs (z_ix v4)) &&& 15) = 7 →
    vp_in (v4 + 1) L ∧ P_L_order (xs (z_ix (v4 + 1))) S (fun r703 S703 =>
    vp_in (v4 + 1) L ∧ P_M_order (xs (z_ix (v4 + 1))) S703 (fun r715 S715 =>
    P_M_thrown S715 (fun r721 S721 =>
    (r721 = r703 →
    (¬ r703 = 0 →
    J_L_law_748 L xs post (L_L_law_43 L xs post n) v4 S721) ∧
    (r703 = 0 →
    vp_in 0 1 ∧ ((S721 50 (z_ix 0)) = r715 →
    J_L_law_748 L xs post (L_L_law_43 L xs post n) v4 S721) ∧
    (¬ (S721 50 (z_ix 0)) = r715 →
    post 0 S721))) ∧
    (¬ r721 = r703 →
    post 0 S721))))) ∧
    (((xs (z_ix v4)) &&& 15) = 8 →
    vp_in (v4 + 1) L ∧ vp_in (v4 + 2) L ∧ P_L_cover (xs (z_ix (v4 + 1))) (xs (z_ix (v4 + 2))) S (fun r765 S765 =>
    vp_in (v4 + 1) L ∧ vp_in (v4 + 2) L ∧ P_M_cover (xs (z_ix (v4 + 1))) (xs (z_ix (v4 + 2))) S765 (fun r783 S783 =>
    P_M_thrown S783 (fun r789 S789 =>
    (r789 = r765 →
    (¬ r765 = 0 →
    J_L_law_816 L xs post (L_L_law_43 L xs post n) v4 S789) ∧
    (r765 = 0 →
    vp_in 0 1 ∧ ((S789 50 (z_ix 0)) = r783 →
    J_L_law_816 L xs post (L_L_law_43 L xs post n) v4 S789) ∧
    (¬ (S789 50 (z_ix 0)) = r783 →
    post 0 S789))) ∧
    (¬ r789 = r765 →
    post 0 S789))))) ∧
    (((xs (z_ix v4)) &&& 15) = 9 →
    vp_in (v4 + 1) L ∧ P_L_strip (xs (z_ix (v4 + 1))) S (fun r827 S827 =>
    vp_in (v4 + 1) L ∧ P_M_strip (xs (z_ix (v4 + 1))) S827 (fun r839 S839 =>
    P_M_thrown S839 (fun r845 S845 =>
    (r845 = r827 →
    (¬ r827 = 0 →
    J_L_law_872 L xs post (L_L_law_43 L xs post n) v4 S845) ∧
    (r827 = 0 →
    vp_in 0 1 ∧ ((S845 50 (z_ix 0)) = r839 →
    J_L_law_872 L xs post (L_L_law_43 L xs post n) v4 S845) ∧
    (¬ (S845 50 (z_ix 0)) = r839 →
    post 0 S845))) ∧
    (¬ r845 = r827 →
    post 0 S845))))) ∧
    (((xs (z_ix v4)) &&& 15) = 10 →
    vp_in (v4 + 1) L ∧ vp_in (v4 + 2) L ∧ P_L_cell2 (xs (z_ix (v4 + 1))) (xs (z_ix (v4 + 2))) S (fun r889 S889 =>
    vp_in (v4 + 1) L ∧ vp_in (v4 + 2) L ∧ P_M_cell (xs (z_ix (v4 + 1))) (xs (z_ix (v4 + 2))) S889 (fun r907 S907 =>
    P_M_thrown S907 (fun r913 S913 =>
    (r913 = r889 →
    (¬ r889 = 0 →
    J_L_law_940 L xs post (L_L_law_43 L xs post n) v4 S913) ∧
    (r889 = 0 →
    vp_in 0 1 ∧ ((S913 50 (z_ix 0)) = r907 →
    J_L_law_940 L xs post (L_L_law_43 L xs post n) v4 S913) ∧
    (¬ (S913 50 (z_ix 0)) = r907 →
    post 0 S913))) ∧
    (¬ r913 = r889 →
    post 0 S913))))) ∧
    (((xs (z_ix v4)) &&& 15) = 11 →
    vp_in (v4 + 1) L ∧ vp_in (v4 + 2) L ∧ P_L_isSpeck (xs (z_ix (v4 + 1))) (xs (z_ix (v4 + 2))) S (fun r957 S957 =>
    vp_in (v4 + 1) L ∧ vp_in (v4 + 2) L ∧ P_M_isSpeck (xs (z_ix (v4 + 1))) (xs (z_ix (v4 + 2))) S957 (fun r975 S975 =>
    P_M_thrown S975 (fun r981 S981 =>
    (r981 = r957 →
    (¬ r957 = 0 →
    J_L_law_1015 L xs post (L_L_law_43 L xs post n) v4 S981) ∧
    (r957 = 0 →
    vp_in 0 1 ∧ (r975 = 0 →
    J_L_law_1009 L xs post (L_L_law_43 L xs post n) v4 0 (S981 50 (z_ix 0)) S981) ∧
    (¬ r975 = 0 →
    J_L_law_1009 L xs post (L_L_law_43 L xs post n) v4 1 (S981 50 (z_ix 0)) S981))) ∧
    (¬ r981 = r957 →
    post 0 S981))))) ∧
    (((xs (z_ix v4)) &&& 15) = 12 →
    vp_in (v4 + 1) L ∧ P_P_told (xs (z_ix (v4 + 1))) S (fun r1025 S1025 =>
    vp_in (v4 + 1) L ∧ P_M_told (xs (z_ix (v4 + 1))) S1025 (fun r1035 S1035 =>
    (r1025 = r1035 →
    ∀ x1054 : Int32, x1054 = v4 + 6 → L_L_law_43 L xs post n x1054 S1035) ∧
    (¬ r1025 = r1035 →
    post 0 S1035)))) ∧
    (((xs (z_ix v4)) &&& 15) = 13 →
    P_P_clear S (fun S1044 =>
    P_M_clear S1044 (fun S1048 =>
    ∀ x1054 : Int32, x1054 = v4 + 6 → L_L_law_43 L xs post n x1054 S1048))) ∧
    (¬ ((xs (z_ix v4)) &&& 15) = 0 → ¬ ((xs (z_ix v4)) &&& 15) = 1 → ¬ ((xs (z_ix v4)) &&& 15) = 2 → ¬ ((xs (z_ix v4)) &&& 15) = 3 → ¬ ((xs (z_ix v4)) &&& 15) = 4 → ¬ ((xs (z_ix v4)) &&& 15) = 5 → ¬ ((xs (z_ix v4)) &&& 15) = 6 → ¬ ((xs (z_ix v4)) &&& 15) = 7 → ¬ ((xs (z_ix v4)) &&& 15) = 8 → ¬ ((xs (z_ix v4)) &&& 15) = 9 → ¬ ((xs (z_ix v4)) &&& 15) = 10 → ¬ ((xs (z_ix v4)) &&& 15) = 11 → ¬ ((xs (z_ix v4)) &&& 15) = 12 → ¬ ((xs (z_ix v4)) &&& 15) = 13 → 
    ∀ x1054 : Int32, x1054 = v4 + 6 → L_L_law_43 L xs post n x1054 S))
/-- the side that counts -/
def z_side (v : Int32) : Int32 := if v < 1 then 1 else if 24 < v then 24 else v
def z_cv (L : Nat) (xs : Nat → Int32) (j : Nat) : Int32 := if j < L then xs j else 0
/-- what the cells hold behind the two constructors -/
def z_S0 (w h : Int32) : zS := fun k => match k with
  | 0 => fun j => match j with
    | 0 => w
    | 1 => h
    | 13 => 3
    | _ => 0
  | 5 => fun j => match j with
    | 8 => w
    | 9 => h
    | _ => 0
  | 13 => fun j => match j with
    | 8 => w
    | 9 => h
    | _ => 0
  | 21 => fun j => match j with
    | 6 => w
    | 7 => h
    | _ => 0
  | 31 => fun j => match j with
    | 1 => w
    | 2 => h
    | 4 => 3
    | _ => 0
  | _ => fun _ => 0
/-- THE PURE STATEMENT that is left: the law's loop, over every script -/
def z_pure : Prop := ∀ (L : Nat) (xs : Nat → Int32), L ≤ 3074 → L_L_law_43 L xs (fun v _ => v = 1) 513 2 (z_S0 (z_side (z_cv L xs 0)) (z_side (z_cv L xs 1)))
end
section
section YB
/-- an int by its number -/
def jI (z : Int) : Int32 := Int32.ofInt z
/-- numbers that an int can be -/
def jR (z : Int) : Prop := -2147483648 ≤ z ∧ z < 2147483648
theorem jI_toInt {z : Int} (h : jR z) : (jI z).toInt = z := Int32.toInt_ofInt_of_le (by have := h.1; omega) (by have := h.2; omega)
theorem jI_of (x : Int32) : x = jI x.toInt := (Int32.ofInt_toInt x).symm
theorem jI_add (a b : Int) : jI a + jI b = jI (a + b) := (Int32.ofInt_add a b).symm
theorem jI_sub (a b : Int) : jI a - jI b = jI (a - b) := (Int32.ofInt_sub a b).symm
theorem jI_mul (a b : Int) : jI a * jI b = jI (a * b) := (Int32.ofInt_mul a b).symm
theorem jI_lt {a b : Int} (ha : jR a) (hb : jR b) : jI a < jI b ↔ a < b := by rw [Int32.lt_iff_toInt_lt, jI_toInt ha, jI_toInt hb]
theorem jI_le {a b : Int} (ha : jR a) (hb : jR b) : jI a ≤ jI b ↔ a ≤ b := by rw [Int32.le_iff_toInt_le, jI_toInt ha, jI_toInt hb]
theorem jI_eq {a b : Int} (ha : jR a) (hb : jR b) : jI a = jI b ↔ a = b := by rw [← Int32.toInt_inj, jI_toInt ha, jI_toInt hb]
theorem jI_ix {a : Int} (ha : jR a) : z_ix (jI a) = a.toNat := by
  show (jI a).toInt.toNat = a.toNat
  rw [jI_toInt ha]
theorem jI_in {a : Int} {n : Nat} (ha : jR a) : vp_in (jI a) n ↔ 0 ≤ a ∧ a < n := by rw [vp_in_iff, jI_toInt ha]
theorem jI_nat (n : Nat) : jI (n : Int) = nI n := Int32.ofInt_eq_ofNat
theorem jI_div {a b : Int} (ha : 0 ≤ a ∧ a < 2147483648) (hb : 0 < b ∧ b < 2147483648) : jI a / jI b = jI (a / b) := by
  obtain ⟨m, rfl⟩ := Int.eq_ofNat_of_zero_le ha.1
  obtain ⟨k, rfl⟩ := Int.eq_ofNat_of_zero_le (show 0 ≤ b by omega)
  rw [jI_nat, jI_nat, pk_div (by omega) (by omega) (by omega), ← jI_nat]
  rfl
theorem jI_0 : (0 : Int32) = jI 0 := rfl
theorem jI_1 : (1 : Int32) = jI 1 := rfl
theorem jI_m1 : (-1 : Int32) = jI (-1) := rfl
theorem jI_2 : (2 : Int32) = jI 2 := rfl
theorem jI_24 : (24 : Int32) = jI 24 := rfl
theorem jI_576 : (576 : Int32) = jI 576 := rfl
theorem jI_288 : (288 : Int32) = jI 288 := rfl
/-- how many of 0 .. n - 1 have it -/
def ctn (p : Nat → Bool) : Nat → Nat
  | 0 => 0
  | n + 1 => ctn p n + (if p n then 1 else 0)
theorem ctn_le (p : Nat → Bool) : ∀ n, ctn p n ≤ n
  | 0 => Nat.le_refl 0
  | n + 1 => by
    have := ctn_le p n
    show ctn p n + (if p n then 1 else 0) ≤ n + 1
    by_cases h : p n = true <;> simp [h] <;> omega
theorem ctn_congr {p q : Nat → Bool} : ∀ {n : Nat}, (∀ i, i < n → p i = q i) → ctn p n = ctn q n
  | 0, _ => rfl
  | n + 1, h => by
    show ctn p n + (if p n then 1 else 0) = ctn q n + (if q n then 1 else 0)
    rw [ctn_congr (fun i hi => h i (by omega)), h n (by omega)]
theorem ctn_lt {p : Nat → Bool} : ∀ {n i : Nat}, i < n → p i = false → ctn p n < n
  | 0, i, h, _ => absurd h (Nat.not_lt_zero i)
  | n + 1, i, h, hp => by
    show ctn p n + (if p n then 1 else 0) < n + 1
    by_cases hi : i = n
    · subst hi
      have := ctn_le p i
      simp [hp]; omega
    · have := ctn_lt (p := p) (n := n) (i := i) (by omega) hp
      by_cases h : p n = true <;> simp [h] <;> omega
theorem ctn_up {p q : Nat → Bool} {i : Nat} : ∀ {n : Nat}, i < n → p i = false → q i = true → (∀ j, j < n → j ≠ i → q j = p j) → ctn q n = ctn p n + 1
  | 0, h, _, _, _ => absurd h (Nat.not_lt_zero i)
  | n + 1, h, hp, hq, hj => by
    show ctn q n + (if q n then 1 else 0) = ctn p n + (if p n then 1 else 0) + 1
    by_cases hi : i = n
    · subst hi
      rw [ctn_congr (p := q) (q := p) (fun j h2 => hj j (by omega) (by omega))]
      simp [hp, hq]
    · rw [ctn_up (n := n) (by omega) hp hq (fun j h2 h3 => hj j (by omega) h3), hj n (by omega) (fun h => hi h.symm)]
      omega
end YB
end
section
theorem m_fill {fb : Nat} {v1 : Int32} {S : zS} {post : zS → Prop} (h : post (z_sf S fb 576 v1)) : P_A_fill fb v1 S post := by
  unfold P_A_fill
  refine pk_loop (fun n i S' => L_A_fill_5 fb post v1 576 n (jI i) S') (fun i S' => S' = z_sf S fb i v1) 576 0 S (by omega) ?_ ?_ ?_
  · funext a
    by_cases ha : a = fb
    · subst ha; simp [z_sf]
    · simp [z_sf, ha]
  · intro n S' hS
    rw [L_A_fill_5]
    refine ⟨fun _ => by rw [hS]; exact h, fun hn => absurd ?_ hn⟩
    decide
  · intro n i S' hi hS ih
    have hr : jR (i : Int) := ⟨by omega, by omega⟩
    rw [L_A_fill_5]
    refine ⟨fun hc => absurd hc ?_, fun _ => ⟨?_, fun S1 e1 x hx => ?_⟩⟩
    · rw [jI_576, jI_le ⟨by omega, by omega⟩ hr]; omega
    · rw [jI_in hr]; omega
    · rw [hx, jI_1, jI_add]
      refine ih S1 ?_
      rw [e1, hS, jI_ix hr]
      funext a j
      by_cases ha : a = fb
      · subst ha
        by_cases hj : j = i
        · subst hj; simp [z_su, z_sf, upd]
        · by_cases h2 : j < i
          · simp [z_su, z_sf, upd, hj, h2, Nat.lt_succ_of_lt h2]
          · have h3 : ¬ j < i + 1 := by omega
            simp [z_su, z_sf, upd, hj, h2, h3]
      · simp [z_su, z_sf, ha]
end
section
section YG
/-- small numbers are ints -/
theorem jS {z : Int} (h : -1000000 ≤ z ∧ z ≤ 1000000) : jR z := ⟨by omega, by omega⟩
theorem jN (n : Nat) (h : n ≤ 1000000) : jR (n : Int) := ⟨by omega, by omega⟩
theorem su_eq (S : zS) (k i : Nat) (v : Int32) : z_su S k i v k = upd (S k) i v := by simp [z_su]
theorem su_ne {S : zS} {k i a : Nat} {v : Int32} (h : a ≠ k) : z_su S k i v a = S a := by simp [z_su, h]
theorem up_eq (f : Nat → Int32) (i : Nat) (v : Int32) : upd f i v i = v := by simp [upd]
theorem up_ne {f : Nat → Int32} {i j : Nat} {v : Int32} (h : j ≠ i) : upd f i v j = f j := by simp [upd, h]
/-- what isOpen asks -/
def g_op (g mk : Nat) (S : zS) (k : Int32) (W H : Nat) (x y : Int) : Prop := 0 ≤ x ∧ x < W ∧ 0 ≤ y ∧ y < H ∧ S mk (24 * y + x).toNat = k ∧ S (g + 1) (24 * y + x).toNat = -1
theorem m_isOpen {g mk W H : Nat} {S : zS} {k : Int32} {x y : Int} {post : Int32 → zS → Prop} (hw : S g 8 = jI W) (hh : S g 9 = jI H) (hW : W ≤ 24) (hH : H ≤ 24) (hx : -100 ≤ x ∧ x ≤ 100) (hy : -100 ≤ y ∧ y ≤ 100)
    (h1 : g_op g mk S k W H x y → post 1 S) (h0 : ¬ g_op g mk S k W H x y → post 0 S) : P_G_isOpen g mk k (jI x) (jI y) S post := by
  have jx : jR x := jS (by omega)
  have jy : jR y := jS (by omega)
  have jW : jR (W : Int) := jN W (by omega)
  have jH : jR (H : Int) := jN H (by omega)
  have j0 : jR 0 := jS (by omega)
  unfold P_G_isOpen
  simp only [hw, hh, jI_0, jI_lt jx j0, jI_lt jy j0, jI_le jW jx, jI_lt jy jH]
  refine ⟨fun a => h0 (fun z => by have := z.1; omega), fun a => ⟨fun b => h0 (fun z => by have := z.2.1; omega), fun b => ⟨fun c => h0 (fun z => by have := z.2.2.1; omega), fun c => ⟨fun d => ?_, fun d => h0 (fun z => by have := z.2.2.2.1; omega)⟩⟩⟩⟩
  intro x35 e35
  have e : x35 = jI (24 * y + x) := by
    rw [e35, jI_24, jI_mul, jI_add]
    congr 1
    omega
  have ja : jR (24 * y + x) := jS (by omega)
  subst e
  rw [jI_in ja, jI_ix ja]
  refine ⟨by omega, fun q => h0 (fun z => q z.2.2.2.2.1), fun q => ⟨by omega, fun r => h0 (fun z => r z.2.2.2.2.2), fun r => h1 ⟨by omega, by omega, by omega, by omega, q, r⟩⟩⟩
/-- a sample taken into the group that is being made -/
def g_tk (g : Nat) (S S' : zS) (c n x y : Nat) (lf rt bt : Int) : Prop :=
  S' (g + 1) = upd (S (g + 1)) (24 * y + x) (jI c) ∧ S' (g + 7) = upd (S (g + 7)) n (jI (24 * y + x : Nat)) ∧ S' (g + 6) = upd (S (g + 6)) c (jI (n + 1 : Nat)) ∧
  S' (g + 2) = upd (S (g + 2)) c (jI (if (x : Int) < lf then (x : Int) else lf)) ∧ S' (g + 4) = upd (S (g + 4)) c (jI (if rt < x then (x : Int) else rt)) ∧ S' (g + 5) = upd (S (g + 5)) c (jI (if bt < y then (y : Int) else bt)) ∧
  ∀ a, a ≠ g + 1 → a ≠ g + 2 → a ≠ g + 4 → a ≠ g + 5 → a ≠ g + 6 → a ≠ g + 7 → S' a = S a
theorem jI_if {a b c d : Int} (ha : jR a) (hb : jR b) : (if jI a < jI b then jI c else jI d) = jI (if a < b then c else d) := by
  by_cases h : a < b
  · simp [h, (jI_lt ha hb).mpr h]
  · have : ¬ jI a < jI b := fun z => h ((jI_lt ha hb).mp z)
    simp [h, this]
theorem m_take {g c n x y : Nat} {lf rt bt : Int} {S : zS} {post : zS → Prop} (hc : S g 6 = jI c) (hc2 : c < 288) (hn : S (g + 6) c = jI n) (hn2 : n < 576) (hx : x < 24) (hy : y < 24) (hlf : S (g + 2) c = jI lf) (hrt : S (g + 4) c = jI rt) (hbt : S (g + 5) c = jI bt) (b1 : -100 ≤ lf ∧ lf ≤ 100) (b2 : -100 ≤ rt ∧ rt ≤ 100) (b3 : -100 ≤ bt ∧ bt ≤ 100)
    (h : ∀ S', g_tk g S S' c n x y lf rt bt → post S') : P_G_take g (jI x) (jI y) S post := by
  have jc : jR (c : Int) := jN c (by omega)
  have jn : jR (n : Int) := jN n (by omega)
  have jx : jR (x : Int) := jN x (by omega)
  have jy : jR (y : Int) := jN y (by omega)
  unfold P_G_take
  intro x6 e6
  have e : x6 = jI ((24 * y + x : Nat) : Int) := by
    rw [e6, jI_24, jI_mul, jI_add]
    congr 1
    omega
  have ja : jR ((24 * y + x : Nat) : Int) := jN _ (by omega)
  subst e
  have ia : z_ix (jI ((24 * y + x : Nat) : Int)) = 24 * y + x := by rw [jI_ix ja]; omega
  have ic : z_ix (jI (c : Int)) = c := by rw [jI_ix jc]; omega
  have inn : z_ix (jI (n : Int)) = n := by rw [jI_ix jn]; omega
  have vc : vp_in (jI (c : Int)) 288 := by rw [jI_in jc]; omega
  have vn : vp_in (jI (n : Int)) 576 := by rw [jI_in jn]; omega
  refine ⟨by rw [jI_in ja]; omega, ?_⟩
  intro S16 e16
  have a1 : S16 g 6 = jI c := by rw [e16, su_ne (by omega)]; exact hc
  have a2 : S16 (g + 6) = S (g + 6) := by rw [e16, su_ne (by omega)]
  rw [a1, ic, a2, hn, inn]
  refine ⟨vc, vn, ?_⟩
  intro S31 e31
  have b1' : S31 g 6 = jI c := by rw [e31, su_ne (by omega)]; exact a1
  have b2' : S31 (g + 6) = S (g + 6) := by rw [e31, su_ne (by omega)]; exact a2
  rw [b1', ic, b2', hn]
  refine ⟨vc, vc, ?_⟩
  intro S44 e44
  have c1 : S44 g 6 = jI c := by rw [e44, su_ne (by omega)]; exact b1'
  have c2 : S44 (g + 2) = S (g + 2) := by rw [e44, su_ne (by omega), e31, su_ne (by omega), e16, su_ne (by omega)]
  rw [c1, ic, c2, hlf]
  refine ⟨vc, vc, ?_⟩
  intro S66 e66
  have d1 : S66 g 6 = jI c := by rw [e66, su_ne (by omega)]; exact c1
  have d2 : S66 (g + 4) = S (g + 4) := by rw [e66, su_ne (by omega), e44, su_ne (by omega), e31, su_ne (by omega), e16, su_ne (by omega)]
  rw [d1, ic, d2, hrt]
  refine ⟨vc, vc, ?_⟩
  intro S88 e88
  have f1 : S88 g 6 = jI c := by rw [e88, su_ne (by omega)]; exact d1
  have f2 : S88 (g + 5) = S (g + 5) := by rw [e88, su_ne (by omega), e66, su_ne (by omega), e44, su_ne (by omega), e31, su_ne (by omega), e16, su_ne (by omega)]
  rw [f1, ic, f2, hbt]
  refine ⟨vc, vc, ?_⟩
  intro S110 e110
  have jl : jR lf := jS (by omega)
  have jr : jR rt := jS (by omega)
  have jb : jR bt := jS (by omega)
  rw [jI_if jx jl] at e66
  rw [jI_if jr jx] at e88
  rw [jI_if jb jy] at e110
  refine h S110 ⟨?_, ?_, ?_, ?_, ?_, ?_, ?_⟩
  · rw [e110, su_ne (by omega), e88, su_ne (by omega), e66, su_ne (by omega), e44, su_ne (by omega), e31, su_ne (by omega), e16, su_eq, ia, hc]
  · rw [e110, su_ne (by omega), e88, su_ne (by omega), e66, su_ne (by omega), e44, su_ne (by omega), e31, su_eq, e16, su_ne (by omega)]
  · rw [e110, su_ne (by omega), e88, su_ne (by omega), e66, su_ne (by omega), e44, su_eq, b2', jI_1, jI_add]
    rfl
  · rw [e110, su_ne (by omega), e88, su_ne (by omega), e66, su_eq, c2]
  · rw [e110, su_ne (by omega), e88, su_eq, d2]
  · rw [e110, su_eq, f2]
  · intro a q1 q2 q4 q5 q6 q7
    rw [e110, su_ne q5, e88, su_ne q4, e66, su_ne q2, e44, su_ne q6, e31, su_ne q7, e16, su_ne q1]
end YG
end
section
section YH
/-- a sample of the kind, on the page -/
def g_M (B : Nat → Int32) (k : Int32) (W H u : Nat) : Prop := u < 576 ∧ u % 24 < W ∧ u / 24 < H ∧ B u = k
/-- beside it (by corners too, if co), or itself -/
def g_adj (co : Prop) (u v : Nat) : Prop := u % 24 ≤ v % 24 + 1 ∧ v % 24 ≤ u % 24 + 1 ∧ u / 24 ≤ v / 24 + 1 ∧ v / 24 ≤ u / 24 + 1 ∧ (co ∨ u % 24 = v % 24 ∨ u / 24 = v / 24)
theorem g_adj_s {co : Prop} {u v : Nat} (h : g_adj co u v) : g_adj co v u := ⟨h.2.1, h.1, h.2.2.2.1, h.2.2.1, h.2.2.2.2.elim Or.inl (fun z => Or.inr (z.elim (fun a => Or.inl a.symm) (fun a => Or.inr a.symm)))⟩
/-- hangs together -/
def g_cn (M : Nat → Prop) (co : Prop) (u v : Nat) : Prop := ∀ Q : Nat → Prop, Q u → (∀ a b, Q a → M a → M b → g_adj co a b → Q b) → Q v
theorem g_cn_r {M : Nat → Prop} {co : Prop} (u : Nat) : g_cn M co u u := fun _ h _ => h
theorem g_cn_t {M : Nat → Prop} {co : Prop} {u v w : Nat} (h1 : g_cn M co u v) (h2 : g_cn M co v w) : g_cn M co u w := fun Q hu hs => h2 Q (h1 Q hu hs) hs
theorem g_cn_1 {M : Nat → Prop} {co : Prop} {u v : Nat} (h1 : M u) (h2 : M v) (h : g_adj co u v) : g_cn M co u v := fun _ hu hs => hs u v hu h1 h2 h
theorem g_cn_M {M : Nat → Prop} {co : Prop} {u v : Nat} (hu : M u) (h : g_cn M co u v) : M v := h M hu (fun _ _ _ _ hb _ => hb)
theorem g_cn_s {M : Nat → Prop} {co : Prop} {u v : Nat} (h : g_cn M co u v) : g_cn M co v u :=
  h (fun w => g_cn M co w u) (g_cn_r u) (fun _ _ hq ha hb hab => g_cn_t (g_cn_1 hb ha (g_adj_s hab)) hq)
theorem m_begin {g c x y : Nat} {S : zS} {post : zS → Prop} (hc : S g 6 = jI c) (hc2 : c < 288) (hx : x < 24) (hy : y < 24)
    (h : ∀ S', S' (g + 1) = upd (S (g + 1)) (24 * y + x) (jI c) → S' (g + 7) = upd (S (g + 7)) 0 (jI (24 * y + x : Nat)) → S' (g + 6) = upd (S (g + 6)) c (jI 1) → S' (g + 2) = upd (S (g + 2)) c (jI x) → S' (g + 3) = upd (S (g + 3)) c (jI y) → S' (g + 4) = upd (S (g + 4)) c (jI x) → S' (g + 5) = upd (S (g + 5)) c (jI y) →
      (∀ a, a ≠ g + 1 → a ≠ g + 2 → a ≠ g + 3 → a ≠ g + 4 → a ≠ g + 5 → a ≠ g + 6 → a ≠ g + 7 → S' a = S a) → post S') : P_G_begin g (jI x) (jI y) S post := by
  have jc : jR (c : Int) := jN c (by omega)
  have ic : z_ix (jI (c : Int)) = c := by rw [jI_ix jc]; omega
  have vc : vp_in (jI (c : Int)) 288 := by rw [jI_in jc]; omega
  have uu : ∀ (f : Nat → Int32) (v w : Int32), upd (upd f c v) c w = upd f c w := fun f v w => by
    funext j
    by_cases hj : j = c <;> simp [upd, hj]
  unfold P_G_begin
  rw [hc, ic]
  refine ⟨vc, fun S9 e9 => ?_⟩
  have a9 : S9 g 6 = jI c := by rw [e9, su_ne (by omega)]; exact hc
  rw [a9, ic]
  refine ⟨vc, fun S19 e19 => ?_⟩
  have a19 : S19 g 6 = jI c := by rw [e19, su_ne (by omega)]; exact a9
  rw [a19, ic]
  refine ⟨vc, fun S29 e29 => ?_⟩
  have a29 : S29 g 6 = jI c := by rw [e29, su_ne (by omega)]; exact a19
  rw [a29, ic]
  refine ⟨vc, fun S39 e39 => ?_⟩
  have a39 : S39 g 6 = jI c := by rw [e39, su_ne (by omega)]; exact a29
  rw [a39, ic]
  refine ⟨vc, fun S49 e49 => ?_⟩
  have a49 : S49 g 6 = jI c := by rw [e49, su_ne (by omega)]; exact a39
  have f6 : S49 (g + 6) = upd (S (g + 6)) c 0 := by rw [e49, su_eq, e39, su_ne (by omega), e29, su_ne (by omega), e19, su_ne (by omega), e9, su_ne (by omega)]
  have f5 : S49 (g + 5) = upd (S (g + 5)) c (jI y) := by rw [e49, su_ne (by omega), e39, su_eq, e29, su_ne (by omega), e19, su_ne (by omega), e9, su_ne (by omega)]
  have f4 : S49 (g + 4) = upd (S (g + 4)) c (jI x) := by rw [e49, su_ne (by omega), e39, su_ne (by omega), e29, su_eq, e19, su_ne (by omega), e9, su_ne (by omega)]
  have f3 : S49 (g + 3) = upd (S (g + 3)) c (jI y) := by rw [e49, su_ne (by omega), e39, su_ne (by omega), e29, su_ne (by omega), e19, su_eq, e9, su_ne (by omega)]
  have f2 : S49 (g + 2) = upd (S (g + 2)) c (jI x) := by rw [e49, su_ne (by omega), e39, su_ne (by omega), e29, su_ne (by omega), e19, su_ne (by omega), e9, su_eq]
  have fo : ∀ a, a ≠ g + 2 → a ≠ g + 3 → a ≠ g + 4 → a ≠ g + 5 → a ≠ g + 6 → S49 a = S a := fun a q2 q3 q4 q5 q6 => by
    rw [e49, su_ne q6, e39, su_ne q5, e29, su_ne q4, e19, su_ne q3, e9, su_ne q2]
  refine m_take (n := 0) (lf := x) (rt := x) (bt := y) a49 hc2 (by rw [f6, up_eq]; rfl) (by omega) hx hy (by rw [f2, up_eq]) (by rw [f4, up_eq]) (by rw [f5, up_eq]) (by omega) (by omega) (by omega) (fun S' hk => ?_)
  obtain ⟨t1, t7, t6, t2, t4, t5, to⟩ := hk
  refine h S' ?_ ?_ ?_ ?_ ?_ ?_ ?_ ?_
  · rw [t1, fo _ (by omega) (by omega) (by omega) (by omega) (by omega)]
  · rw [t7, fo _ (by omega) (by omega) (by omega) (by omega) (by omega)]
  · rw [t6, f6, uu]; rfl
  · rw [t2, f2, uu]; simp
  · rw [to _ (by omega) (by omega) (by omega) (by omega) (by omega) (by omega), f3]
  · rw [t4, f4, uu]; simp
  · rw [t5, f5, uu]; simp
  · intro a q1 q2 q3 q4 q5 q6 q7
    rw [to a q1 q2 q4 q5 q6 q7, fo a q2 q3 q4 q5 q6]
/-- in the midst of a group: T the state when it began, L0 the labels before it, n how many are in it -/
def g_GI (g : Nat) (M : Nat → Prop) (co : Prop) (T : zS) (L0 : Nat → Int32) (c r0 n : Nat) (S : zS) : Prop :=
  (∀ a, a ≠ g + 1 → a ≠ g + 2 → a ≠ g + 4 → a ≠ g + 5 → a ≠ g + 6 → a ≠ g + 7 → S a = T a) ∧
  (∀ j, j ≠ c → S (g + 2) j = T (g + 2) j ∧ S (g + 4) j = T (g + 4) j ∧ S (g + 5) j = T (g + 5) j ∧ S (g + 6) j = T (g + 6) j) ∧
  S (g + 6) c = jI n ∧
  (∀ u, S (g + 1) u = L0 u ∨ (L0 u = -1 ∧ S (g + 1) u = jI c ∧ M u ∧ g_cn M co r0 u)) ∧
  (∀ t, t < n → ∃ u : Nat, u < 576 ∧ S (g + 7) t = jI u ∧ S (g + 1) u = jI c) ∧
  (∀ u, u < 576 → S (g + 1) u = jI c → ∃ t, t < n ∧ S (g + 7) t = jI u) ∧
  n = ctn (fun u => decide (S (g + 1) u = jI c)) 576 ∧ S (g + 1) r0 = jI c ∧
  ∃ lf rt bt : Nat, lf < 24 ∧ rt < 24 ∧ bt < 24 ∧ S (g + 2) c = jI lf ∧ S (g + 4) c = jI rt ∧ S (g + 5) c = jI bt ∧
    (∀ u, u < 576 → S (g + 1) u = jI c → lf ≤ u % 24 ∧ u % 24 ≤ rt ∧ u / 24 ≤ bt) ∧ (∃ u, u < 576 ∧ S (g + 1) u = jI c ∧ u % 24 = lf) ∧ (∃ u, u < 576 ∧ S (g + 1) u = jI c ∧ u % 24 = rt) ∧ ∃ u, u < 576 ∧ S (g + 1) u = jI c ∧ u / 24 = bt
theorem jc_ne {c : Nat} (h : c < 288) : jI (c : Int) ≠ -1 := by
  rw [jI_m1]
  intro e
  have := (jI_eq (jN c (by omega)) (jS (by omega))).mp e
  omega
/-- one more is taken -/
theorem m_takeG {g c r0 n : Nat} {M : Nat → Prop} {co : Prop} {T S : zS} {L0 : Nat → Int32} {x y : Nat} {post : zS → Prop} (hG : g_GI g M co T L0 c r0 n S) (hTc : T g 6 = jI c) (hc : c < 288) (hx : x < 24) (hy : y < 24) (hM : M (24 * y + x)) (hcn : g_cn M co r0 (24 * y + x)) (hop : S (g + 1) (24 * y + x) = -1)
    (h : ∀ S', g_GI g M co T L0 c r0 (n + 1) S' → S' (g + 1) = upd (S (g + 1)) (24 * y + x) (jI c) → S' (g + 7) = upd (S (g + 7)) n (jI (24 * y + x : Nat)) → post S') : P_G_take g (jI x) (jI y) S post := by
  obtain ⟨g1, g2, g3, g4, g5, g6, g7, g8, lf, rt, bt, b1, b2, b3, b4, b5, b6, b7, b8, b9, b10⟩ := hG
  have hne := jc_ne hc
  have hat : 24 * y + x < 576 := by omega
  have hm : (24 * y + x) % 24 = x := by omega
  have hd : (24 * y + x) / 24 = y := by omega
  have hn : n < 576 := by
    rw [g7]
    refine ctn_lt (i := 24 * y + x) hat ?_
    rw [hop]
    exact decide_eq_false (fun e => hne e.symm)
  have hL0 : L0 (24 * y + x) = -1 := by
    rcases g4 (24 * y + x) with q | q
    · rw [← q]; exact hop
    · exact q.1
  refine m_take (lf := lf) (rt := rt) (bt := bt) (by rw [g1 g (by omega) (by omega) (by omega) (by omega) (by omega) (by omega)]; exact hTc) hc g3 hn hx hy b4 b5 b6 (by omega) (by omega) (by omega) (fun S' hk => ?_)
  obtain ⟨t1, t7, t6, t2, t4, t5, to⟩ := hk
  refine h S' ⟨fun a q1 q2 q4 q5 q6 q7 => (to a q1 q2 q4 q5 q6 q7).trans (g1 a q1 q2 q4 q5 q6 q7), fun j hj => ?_, by rw [t6, up_eq], fun u => ?_, fun t ht => ?_, fun u hu5 hu => ?_, ?_, ?_, ?_⟩ t1 t7
  · rw [t2, t4, t5, t6, up_ne hj, up_ne hj, up_ne hj, up_ne hj]
    exact g2 j hj
  · by_cases hu : u = 24 * y + x
    · subst hu
      exact Or.inr ⟨hL0, by rw [t1, up_eq], hM, hcn⟩
    · rw [t1, up_ne hu]
      exact g4 u
  · by_cases htn : t = n
    · subst htn
      exact ⟨24 * y + x, hat, by rw [t7, up_eq], by rw [t1, up_eq]⟩
    · obtain ⟨u, q1, q2, q3⟩ := g5 t (by omega)
      refine ⟨u, q1, by rw [t7, up_ne htn]; exact q2, ?_⟩
      by_cases hu : u = 24 * y + x
      · rw [t1, hu, up_eq]
      · rw [t1, up_ne hu]; exact q3
  · by_cases hu2 : u = 24 * y + x
    · subst hu2
      exact ⟨n, by omega, by rw [t7, up_eq]⟩
    · rw [t1, up_ne hu2] at hu
      obtain ⟨t, q1, q2⟩ := g6 u hu5 hu
      exact ⟨t, by omega, by rw [t7, up_ne (by omega)]; exact q2⟩
  · rw [g7]
    symm
    refine ctn_up (i := 24 * y + x) hat ?_ ?_ ?_
    · rw [hop]; exact decide_eq_false (fun e => hne e.symm)
    · rw [t1, up_eq]; exact decide_eq_true rfl
    · intro j hj hj2
      rw [t1, up_ne hj2]
  · by_cases hz : r0 = 24 * y + x
    · rw [t1, hz, up_eq]
    · rw [t1, up_ne hz]; exact g8
  · have hall : ∀ u, S' (g + 1) u = jI c → u = 24 * y + x ∨ S (g + 1) u = jI c := fun u hu => by
      by_cases hu2 : u = 24 * y + x
      · exact Or.inl hu2
      · rw [t1, up_ne hu2] at hu
        exact Or.inr hu
    have hold : ∀ u, S (g + 1) u = jI c → S' (g + 1) u = jI c := fun u hu => by
      by_cases hu2 : u = 24 * y + x
      · rw [t1, hu2, up_eq]
      · rw [t1, up_ne hu2]; exact hu
    have hnew : S' (g + 1) (24 * y + x) = jI c := by rw [t1, up_eq]
    refine ⟨if x < lf then x else lf, if rt < x then x else rt, if bt < y then y else bt, by split <;> omega, by split <;> omega, by split <;> omega, ?_, ?_, ?_, fun u hu5 hu => ?_, ?_, ?_, ?_⟩
    · rw [t2, up_eq]; congr 1; split <;> split <;> omega
    · rw [t4, up_eq]; congr 1; split <;> split <;> omega
    · rw [t5, up_eq]; congr 1; split <;> split <;> omega
    · rcases hall u hu with q | q
      · subst q
        rw [hm, hd]
        refine ⟨?_, ?_, ?_⟩ <;> split <;> omega
      · obtain ⟨r1, r2, r3⟩ := b7 u hu5 q
        refine ⟨?_, ?_, ?_⟩ <;> split <;> omega
    · by_cases q : x < lf
      · exact ⟨_, hat, hnew, by rw [hm]; simp [q]⟩
      · obtain ⟨u, r0', r1, r2⟩ := b8
        exact ⟨u, r0', hold u r1, by simp [q, r2]⟩
    · by_cases q : rt < x
      · exact ⟨_, hat, hnew, by rw [hm]; simp [q]⟩
      · obtain ⟨u, r0', r1, r2⟩ := b9
        exact ⟨u, r0', hold u r1, by simp [q, r2]⟩
    · by_cases q : bt < y
      · exact ⟨_, hat, hnew, by rw [hd]; simp [q]⟩
      · obtain ⟨u, r0', r1, r2⟩ := b10
        exact ⟨u, r0', hold u r1, by simp [q, r2]⟩
end YH
end
section
section YI
variable {g mk c r0 W H : Nat} {T : zS} {L0 : Nat → Int32} {kd v3 : Int32}
/-- what stays, while the neighbours of the sample u at place i of the queue are looked at -/
def g_J (g mk c r0 W H : Nat) (T : zS) (L0 : Nat → Int32) (kd v3 : Int32) (i u : Nat) (S : zS) : Prop :=
  ∃ n, g_GI g (g_M (T mk) kd W H) (¬ v3 = 0) T L0 c r0 n S ∧ i < n ∧ (∀ t, t < i → ∀ w v, w < 576 → S (g + 7) t = jI (w : Nat) → g_M (T mk) kd W H v → g_adj (¬ v3 = 0) w v → S (g + 1) v ≠ -1) ∧ S (g + 7) i = jI (u : Nat)
/-- the neighbours of u ahead of row ny, place nx have their labels -/
def g_D (g mk W H : Nat) (T : zS) (kd v3 : Int32) (u : Nat) (ny nx : Int) (S : zS) : Prop :=
  ∀ v, g_M (T mk) kd W H v → g_adj (¬ v3 = 0) u v → (((v / 24 : Nat) : Int) < ny ∨ (((v / 24 : Nat) : Int) = ny ∧ ((v % 24 : Nat) : Int) < nx)) → S (g + 1) v ≠ -1
theorem jI_inj {a b : Nat} (ha : a < 1000) (hb : b < 1000) (h : jI (a : Int) = jI (b : Int)) : a = b := by
  have := (jI_eq (jN a (by omega)) (jN b (by omega))).mp h
  omega
/-- the labels only grow -/
theorem g_J_take {i u x y n : Nat} {S S' : zS} (hJ : g_J g mk c r0 W H T L0 kd v3 i u S) (hc : c < 288) (hG : g_GI g (g_M (T mk) kd W H) (¬ v3 = 0) T L0 c r0 n S) (hG' : g_GI g (g_M (T mk) kd W H) (¬ v3 = 0) T L0 c r0 (n + 1) S') (h1 : S' (g + 1) = upd (S (g + 1)) (24 * y + x) (jI c)) (h7 : S' (g + 7) = upd (S (g + 7)) n (jI (24 * y + x : Nat))) : g_J g mk c r0 W H T L0 kd v3 i u S' := by
  obtain ⟨n', hn', hi, hp, hq⟩ := hJ
  have e : n' = n := hn'.2.2.2.2.2.2.1.trans hG.2.2.2.2.2.2.1.symm
  subst e
  refine ⟨n' + 1, hG', by omega, fun t ht w v hw hv hm ha => ?_, by rw [h7, up_ne (by omega)]; exact hq⟩
  rw [h7, up_ne (by omega)] at hv
  have := hp t ht w v hw hv hm ha
  by_cases hz : v = 24 * y + x
  · rw [h1, hz, up_eq]; exact jc_ne hc
  · rw [h1, up_ne hz]; exact this
theorem m_g70 {post K136 : zS → Prop} {x y i : Nat} {ny : Int} (hc : c < 288) (hTc : T g 6 = jI c) (hTw : T g 8 = jI W) (hTh : T g 9 = jI H) (hW : W ≤ 24) (hH : H ≤ 24) (hmk : mk < g) (hx : x < 24) (hy : y < 24) (hn1 : (y : Int) - 1 ≤ ny) (hn2 : ny ≤ y + 1)
    (hMu : g_M (T mk) kd W H (24 * y + x)) (hcu : g_cn (g_M (T mk) kd W H) (¬ v3 = 0) r0 (24 * y + x)) (S : zS) (hJ : g_J g mk c r0 W H T L0 kd v3 i (24 * y + x) S) (hD : g_D g mk W H T kd v3 (24 * y + x) ny (x - 1) S)
    (hK : ∀ S', g_J g mk c r0 W H T L0 kd v3 i (24 * y + x) S' → g_D g mk W H T kd v3 (24 * y + x) (ny + 1) (x - 1) S' → K136 S') : ∃ k, L_G_gather_70 g mk post K136 kd v3 (jI i) (jI x) (jI y) (jI ny) k (jI (x - 1)) S := by
  have hm : (24 * y + x) % 24 = x := by omega
  have hd : (24 * y + x) / 24 = y := by omega
  have jx : jR (x : Int) := jN x (by omega)
  have jy : jR (y : Int) := jN y (by omega)
  have jny : jR ny := jS (by omega)
  have key := pk_loop (fun k j S => L_G_gather_70 g mk post K136 kd v3 (jI i) (jI x) (jI y) (jI ny) k (jI ((x : Int) - 1 + (j : Nat))) S)
    (fun j S => g_J g mk c r0 W H T L0 kd v3 i (24 * y + x) S ∧ g_D g mk W H T kd v3 (24 * y + x) ny ((x : Int) - 1 + (j : Nat)) S) 3 0 S (by omega) ⟨hJ, by simpa using hD⟩ ?_ ?_
  · obtain ⟨k, hk⟩ := key
    exact ⟨k, by simpa using hk⟩
  · intro k S' hS
    rw [L_G_gather_70]
    have q : jI (x : Int) + 1 < jI ((x : Int) - 1 + (3 : Nat)) := by
      rw [jI_1, jI_add, jI_lt (jS (by omega)) (jS (by omega))]; omega
    refine ⟨fun _ => hK S' hS.1 ?_, fun h => absurd q h⟩
    intro v hv ha hlt
    refine hS.2 v hv ha ?_
    have a1 := ha.1
    have a2 := ha.2.1
    rw [hm] at a1 a2
    omega
  · intro k j S' hj hS ih
    have ih' : ∀ S'', g_J g mk c r0 W H T L0 kd v3 i (24 * y + x) S'' → g_D g mk W H T kd v3 (24 * y + x) ny ((x : Int) - 1 + (j : Nat) + 1) S'' → L_G_gather_70 g mk post K136 kd v3 (jI i) (jI x) (jI y) (jI ny) k (jI ((x : Int) - 1 + (j : Nat)) + 1) S'' := by
      intro S'' h1 h2
      have e1 : (x : Int) - 1 + ((j + 1 : Nat) : Int) = (x : Int) - 1 + (j : Nat) + 1 := by omega
      have := ih S'' ⟨h1, by rw [e1]; exact h2⟩
      rw [e1] at this
      rw [jI_1, jI_add]
      exact this
    generalize hnx : (x : Int) - 1 + (j : Nat) = nx at hS ih' ⊢
    have jnx : jR nx := jS (by omega)
    have hskip : (¬ ((¬ v3 = 0) ∨ nx = x ∨ ny = y) ∨ ¬ g_op g mk S' kd W H nx ny) → L_G_gather_70 g mk post K136 kd v3 (jI i) (jI x) (jI y) (jI ny) k (jI nx + 1) S' := fun hs => by
      refine ih' S' hS.1 (fun v hv ha hlt => ?_)
      by_cases hz : ((v / 24 : Nat) : Int) = ny ∧ ((v % 24 : Nat) : Int) = nx
      · rcases hs with hs | hs
        · refine absurd ?_ hs
          have := ha.2.2.2.2
          rw [hm, hd] at this
          rcases this with q | q | q
          · exact Or.inl q
          · exact Or.inr (Or.inl (by omega))
          · exact Or.inr (Or.inr (by omega))
        · intro hlab
          refine hs ?_
          obtain ⟨m1, m2, m3, m4⟩ := hv
          obtain ⟨n, hG, -⟩ := hS.1
          have e2 : (24 * ny + nx).toNat = v := by omega
          refine ⟨by omega, by omega, by omega, by omega, ?_, ?_⟩
          · rw [e2, hG.1 mk (by omega) (by omega) (by omega) (by omega) (by omega) (by omega)]; exact m4
          · rw [e2]; exact hlab
      · exact hS.2 v hv ha (by omega)
    have hgo : ((¬ v3 = 0) ∨ nx = x ∨ ny = y) → J_G_gather_109 g mk post (L_G_gather_70 g mk post K136 kd v3 (jI i) (jI x) (jI y) (jI ny) k) kd v3 (jI i) (jI x) (jI y) (jI ny) (jI nx) S' := fun hel => by
      unfold J_G_gather_109
      have hSg : S' g = T g := by
        obtain ⟨n, hG, -⟩ := hS.1
        exact hG.1 g (by omega) (by omega) (by omega) (by omega) (by omega) (by omega)
      refine m_isOpen (W := W) (H := H) (by rw [hSg]; exact hTw) (by rw [hSg]; exact hTh) hW hH (by omega) (by omega) (fun ho => ?_) (fun ho => ?_)
      · refine ⟨fun z => absurd z (by decide), fun _ => ?_⟩
        obtain ⟨n, hG, hrest⟩ := id hS.1
        obtain ⟨o1, o2, o3, o4, o5, o6⟩ := ho
        obtain ⟨x', rfl⟩ := Int.eq_ofNat_of_zero_le o1
        obtain ⟨y', rfl⟩ := Int.eq_ofNat_of_zero_le o3
        have e3 : (24 * (y' : Int) + (x' : Int)).toNat = 24 * y' + x' := by omega
        rw [e3] at o5 o6
        have hMv : g_M (T mk) kd W H (24 * y' + x') := ⟨by omega, by omega, by omega, by rw [← hG.1 mk (by omega) (by omega) (by omega) (by omega) (by omega) (by omega)]; exact o5⟩
        have hadj : g_adj (¬ v3 = 0) (24 * y + x) (24 * y' + x') := ⟨by omega, by omega, by omega, by omega, by
          rcases hel with q | q | q
          · exact Or.inl q
          · exact Or.inr (Or.inl (by omega))
          · exact Or.inr (Or.inr (by omega))⟩
        refine m_takeG hG hTc hc (by omega) (by omega) hMv (g_cn_t hcu (g_cn_1 hMu hMv hadj)) o6 (fun S'' hG' h1 h7 => ?_)
        intro x130 e130
        rw [e130]
        refine ih' S'' (g_J_take hS.1 hc hG hG' h1 h7) (fun v hv ha hlt => ?_)
        by_cases hz : v = 24 * y' + x'
        · rw [h1, hz, up_eq]; exact jc_ne hc
        · rw [h1, up_ne hz]
          exact hS.2 v hv ha (by omega)
      · refine ⟨fun _ x130 e130 => ?_, fun z => absurd rfl z⟩
        rw [e130]
        exact hskip (Or.inr ho)
    rw [L_G_gather_70]
    have q : ¬ jI (x : Int) + 1 < jI nx := by
      rw [jI_1, jI_add, jI_lt (jS (by omega)) jnx]; omega
    have h98 : ∀ t0 : Int32, (t0 = 0 → ¬ (nx = x ∨ ny = y)) → (¬ t0 = 0 → nx = x ∨ ny = y) → J_G_gather_98 g mk post (L_G_gather_70 g mk post K136 kd v3 (jI i) (jI x) (jI y) (jI ny) k) kd v3 (jI i) (jI x) (jI y) (jI ny) (jI nx) t0 S' := fun t0 h0 h1 => by
      unfold J_G_gather_98
      refine ⟨fun a => hgo (Or.inr (h1 a)), fun a => ⟨fun b x130 e130 => ?_, fun b => hgo (Or.inl b)⟩⟩
      rw [e130]
      refine hskip (Or.inl (fun z => ?_))
      rcases z with z | z
      · exact z b
      · exact h0 a z
    refine ⟨fun h => absurd h q, fun _ => ⟨fun a => ?_, fun a => ⟨fun b => ?_, fun b => ?_⟩⟩⟩
    · unfold J_G_gather_93
      exact h98 1 (fun z => absurd z (by decide)) (fun _ => Or.inl ((jI_eq jnx jx).mp a))
    · refine h98 0 (fun _ z => ?_) (fun z => absurd rfl z)
      rcases z with z | z
      · exact a (by rw [z])
      · exact b (by rw [z])
    · unfold J_G_gather_93
      exact h98 1 (fun z => absurd z (by decide)) (fun _ => Or.inr ((jI_eq jny jy).mp b))
end YI
end
section
section YJ
variable {g mk c r0 W H : Nat} {T : zS} {L0 : Nat → Int32} {kd v3 : Int32}
theorem m_g55 {post K142 : zS → Prop} {x y i : Nat} (hc : c < 288) (hTc : T g 6 = jI c) (hTw : T g 8 = jI W) (hTh : T g 9 = jI H) (hW : W ≤ 24) (hH : H ≤ 24) (hmk : mk < g) (hx : x < 24) (hy : y < 24)
    (hMu : g_M (T mk) kd W H (24 * y + x)) (hcu : g_cn (g_M (T mk) kd W H) (¬ v3 = 0) r0 (24 * y + x)) (S : zS) (hJ : g_J g mk c r0 W H T L0 kd v3 i (24 * y + x) S)
    (hK : ∀ S', g_J g mk c r0 W H T L0 kd v3 i (24 * y + x) S' → (∀ v, g_M (T mk) kd W H v → g_adj (¬ v3 = 0) (24 * y + x) v → S' (g + 1) v ≠ -1) → K142 S') : ∃ k, L_G_gather_55 g mk post K142 kd v3 (jI i) (jI x) (jI y) k (jI (y - 1)) S := by
  have hm : (24 * y + x) % 24 = x := by omega
  have hd : (24 * y + x) / 24 = y := by omega
  have key := pk_loop (fun k j S => L_G_gather_55 g mk post K142 kd v3 (jI i) (jI x) (jI y) k (jI ((y : Int) - 1 + (j : Nat))) S)
    (fun j S => g_J g mk c r0 W H T L0 kd v3 i (24 * y + x) S ∧ g_D g mk W H T kd v3 (24 * y + x) ((y : Int) - 1 + (j : Nat)) ((x : Int) - 1) S) 3 0 S (by omega) ⟨hJ, ?_⟩ ?_ ?_
  · obtain ⟨k, hk⟩ := key
    exact ⟨k, by simpa using hk⟩
  · intro v hv ha hlt
    have a1 := ha.1
    have a3 := ha.2.2.1
    rw [hm] at a1
    rw [hd] at a3
    omega
  · intro k S' hS
    rw [L_G_gather_55]
    have q : jI (y : Int) + 1 < jI ((y : Int) - 1 + (3 : Nat)) := by
      rw [jI_1, jI_add, jI_lt (jS (by omega)) (jS (by omega))]; omega
    refine ⟨fun _ => hK S' hS.1 (fun v hv ha => hS.2 v hv ha ?_), fun h => absurd q h⟩
    have a4 := ha.2.2.2.1
    rw [hd] at a4
    omega
  · intro k j S' hj hS ih
    rw [L_G_gather_55]
    have q : ¬ jI (y : Int) + 1 < jI ((y : Int) - 1 + (j : Nat)) := by
      rw [jI_1, jI_add, jI_lt (jS (by omega)) (jS (by omega))]; omega
    refine ⟨fun h => absurd h q, fun _ x68 e68 => ?_⟩
    rw [e68, jI_1, jI_sub]
    refine m_g70 hc hTc hTw hTh hW hH hmk hx hy (by omega) (by omega) hMu hcu S' hS.1 hS.2 (fun S'' h1 h2 => ?_)
    intro x136 e136
    rw [e136, jI_add]
    have e1 : (y : Int) - 1 + (j : Nat) + 1 = (y : Int) - 1 + ((j + 1 : Nat) : Int) := by omega
    rw [e1]
    exact ih S'' ⟨h1, by rw [← e1]; exact h2⟩
theorem m_gather {post : zS → Prop} {n0 : Nat} (hc : c < 288) (hTc : T g 6 = jI c) (hTw : T g 8 = jI W) (hTh : T g 9 = jI H) (hW : W ≤ 24) (hH : H ≤ 24) (hmk : mk < g) (hfresh : ∀ u, u < 576 → L0 u ≠ jI c)
    (S : zS) (hG : g_GI g (g_M (T mk) kd W H) (¬ v3 = 0) T L0 c r0 n0 S)
    (h : ∀ S' n, g_GI g (g_M (T mk) kd W H) (¬ v3 = 0) T L0 c r0 n S' → (∀ u v, u < 576 → S' (g + 1) u = jI c → g_M (T mk) kd W H v → g_adj (¬ v3 = 0) u v → S' (g + 1) v ≠ -1) → post S') : P_G_gather g mk kd v3 S post := by
  unfold P_G_gather
  have key := pk_loop (fun k j S => L_G_gather_3 g mk post kd v3 k (jI (j : Nat)) S)
    (fun j S => ∃ n, g_GI g (g_M (T mk) kd W H) (¬ v3 = 0) T L0 c r0 n S ∧ j ≤ n ∧ (∀ t, t < j → ∀ w v, w < 576 → S (g + 7) t = jI (w : Nat) → g_M (T mk) kd W H v → g_adj (¬ v3 = 0) w v → S (g + 1) v ≠ -1)) 576 0 S (by omega) ⟨n0, hG, by omega, fun t ht => absurd ht (Nat.not_lt_zero t)⟩ ?_ ?_
  · exact key
  · rintro k S' ⟨n, hG', hjn, hp⟩
    have hn : n ≤ 576 := by rw [hG'.2.2.2.2.2.2.1]; exact ctn_le _ _
    rw [L_G_gather_3]
    refine ⟨fun _ => h S' n hG' (fun u v hu5 hu hv ha => ?_), fun z => absurd (by decide) z⟩
    obtain ⟨t, ht, hq⟩ := hG'.2.2.2.2.2.1 u hu5 hu
    exact hp t (by omega) u v hu5 hq hv ha
  · rintro k j S' hj ⟨n, hG', hjn, hp⟩ ih
    have jc : jR (c : Int) := jN c (by omega)
    have jj : jR (j : Int) := jN j (by omega)
    have hn : n ≤ 576 := by rw [hG'.2.2.2.2.2.2.1]; exact ctn_le _ _
    have jn : jR (n : Int) := jN n (by omega)
    have hSg : S' g = T g := hG'.1 g (by omega) (by omega) (by omega) (by omega) (by omega) (by omega)
    have ic : z_ix (jI (c : Int)) = c := by rw [jI_ix jc]; omega
    have ij : z_ix (jI (j : Int)) = j := by rw [jI_ix jj]; omega
    rw [L_G_gather_3]
    have q : ¬ (576 : Int32) ≤ jI (j : Int) := by rw [jI_576, jI_le (jS (by omega)) jj]; omega
    refine ⟨fun z => absurd z q, fun _ => ?_⟩
    rw [hSg, hTc, ic, hG'.2.2.1, ij, jI_le jn jj, jI_in jc, jI_in jj]
    refine ⟨by omega, fun z => h S' n hG' (fun u v hu5 hu hv ha => ?_), fun z => ?_⟩
    · obtain ⟨t, ht, hq⟩ := hG'.2.2.2.2.2.1 u hu5 hu
      exact hp t (by omega) u v hu5 hq hv ha
    · obtain ⟨u, hu5, huq, hul⟩ := hG'.2.2.2.2.1 j (by omega)
      have ju : jR (u : Int) := jN u (by omega)
      rw [huq]
      refine ⟨by omega, fun x35 e35 => ⟨by omega, fun x47 e47 x53 e53 => ?_⟩⟩
      have e47' : x47 = jI ((u / 24 : Nat) : Int) := by
        rw [e47, jI_24, jI_div (by omega) (by omega)]
        congr 1
      have e35' : x35 = jI ((u % 24 : Nat) : Int) := by
        rw [e35, jI_24, jI_div (by omega) (by omega), jI_mul, jI_sub]
        congr 1
        omega
      have eu : 24 * (u / 24) + u % 24 = u := by omega
      have hM : g_M (T mk) kd W H u ∧ g_cn (g_M (T mk) kd W H) (¬ v3 = 0) r0 u := by
        rcases hG'.2.2.2.1 u with q | q
        · exact absurd (q.symm.trans hul) (hfresh u hu5)
        · exact q.2.2
      rw [e53, e47', e35', jI_1, jI_sub]
      refine m_g55 (x := u % 24) (y := u / 24) hc hTc hTw hTh hW hH hmk (by omega) (by omega) (by rw [eu]; exact hM.1) (by rw [eu]; exact hM.2) S' ⟨n, hG', by omega, hp, by rw [eu]; exact huq⟩ (fun S'' h1 h2 => ?_)
      intro x142 e142
      rw [e142, jI_add]
      obtain ⟨n', hG'', hi, hp', hq'⟩ := h1
      refine ih S'' ⟨n', hG'', by omega, fun t ht w v hw hv hm ha => ?_⟩
      by_cases htj : t = j
      · subst htj
        have ew : w = u := jI_inj (by omega) (by omega) (by rw [← hv, hq', eu])
        subst ew
        rw [eu] at h2
        exact h2 v hm ha
      · exact hp' t (by omega) w v hw hv hm ha
end YJ
end
section
section YK
theorem ctn_0 {p : Nat → Bool} : ∀ {n : Nat}, (∀ i, i < n → p i = false) → ctn p n = 0
  | 0, _ => rfl
  | n + 1, h => by
    show ctn p n + (if p n then 1 else 0) = 0
    rw [ctn_0 (fun i hi => h i (by omega)), h n (by omega)]
    rfl
/-- size and box of group k, whose first sample is r -/
def g_GB (g : Nat) (S : zS) (k r : Nat) : Prop :=
  S (g + 6) k = jI (ctn (fun u => decide (S (g + 1) u = jI k)) 576) ∧ S (g + 3) k = jI (r / 24 : Nat) ∧
  ∃ lf rt bt : Nat, lf < 24 ∧ rt < 24 ∧ bt < 24 ∧ S (g + 2) k = jI lf ∧ S (g + 4) k = jI rt ∧ S (g + 5) k = jI bt ∧
    (∀ u, u < 576 → S (g + 1) u = jI k → lf ≤ u % 24 ∧ u % 24 ≤ rt ∧ u / 24 ≤ bt) ∧ (∃ u, u < 576 ∧ S (g + 1) u = jI k ∧ u % 24 = lf) ∧ (∃ u, u < 576 ∧ S (g + 1) u = jI k ∧ u % 24 = rt) ∧ ∃ u, u < 576 ∧ S (g + 1) u = jI k ∧ u / 24 = bt
/-- c groups are done, all that begin ahead of p -/
def g_FI (g mk W H : Nat) (T0 : zS) (kd v3 : Int32) (c p : Nat) (S : zS) : Prop :=
  (∀ a, (a < g ∨ g + 8 ≤ a) → S a = T0 a) ∧ (∀ j, j ≠ 6 → S g j = T0 g j) ∧ S g 6 = jI c ∧
  (∀ u, g_M (T0 mk) kd W H u → u < p → S (g + 1) u ≠ -1) ∧
  (∀ u v, g_M (T0 mk) kd W H u → g_M (T0 mk) kd W H v → g_adj (¬ v3 = 0) u v → S (g + 1) u = S (g + 1) v) ∧
  ∃ r : Nat → Nat, (∀ k, k < c → g_M (T0 mk) kd W H (r k) ∧ r k < p ∧ S (g + 1) (r k) = jI k) ∧ (∀ k k', k < k' → k' < c → r k < r k') ∧
    (∀ u, u < 576 → S (g + 1) u = -1 ∨ ∃ k, k < c ∧ S (g + 1) u = jI k ∧ g_M (T0 mk) kd W H u ∧ g_cn (g_M (T0 mk) kd W H) (¬ v3 = 0) (r k) u ∧ r k ≤ u) ∧
    ∀ k, k < c → g_GB g S k (r k)
variable {g mk W H : Nat} {T0 : zS} {kd v3 : Int32}
/-- two beside each other in a row hang together: so there are at most 288 groups -/
theorem g_dom {co : Prop} {u v : Nat} (h : u < v) (h2 : u / 2 = v / 2) : g_adj co u v := ⟨by omega, by omega, by omega, by omega, Or.inr (Or.inr (by omega))⟩
theorem g_few {c p : Nat} {S : zS} (h : g_FI g mk W H T0 kd v3 c p S) (hc : c ≤ 1000) (hp : g_M (T0 mk) kd W H p) (hop : S (g + 1) p = -1) : c ≤ p / 2 := by
  obtain ⟨-, -, -, -, hcl, r, h1, h2, -, -⟩ := h
  have hk : ∀ k, k < c → k ≤ r k / 2 := by
    intro k
    induction k with
    | zero => intro _; omega
    | succ k ih =>
      intro hk
      have a1 := ih (by omega)
      have a2 := h2 k (k + 1) (by omega) hk
      rcases Nat.lt_or_ge (r k / 2) (r (k + 1) / 2) with q | q
      · omega
      · have e := hcl _ _ (h1 k (by omega)).1 (h1 (k + 1) hk).1 (g_dom a2 (by omega))
        rw [(h1 k (by omega)).2.2, (h1 (k + 1) hk).2.2] at e
        have := (jI_eq (jN k (by omega)) (jN (k + 1) (by omega))).mp e
        omega
  rcases Nat.eq_zero_or_pos c with q | q
  · omega
  · have a1 := hk (c - 1) (by omega)
    have a2 := (h1 (c - 1) (by omega)).2.1
    rcases Nat.lt_or_ge (r (c - 1) / 2) (p / 2) with z | z
    · omega
    · have e := hcl _ _ (h1 (c - 1) (by omega)).1 hp (g_dom a2 (by omega))
      rw [(h1 (c - 1) (by omega)).2.2, hop, jI_m1] at e
      have := (jI_eq (jN (c - 1) (by omega)) (jS (by omega))).mp e
      omega
/-- one more group -/
theorem m_group1 {c x y : Nat} {S : zS} {post : zS → Prop} (hF : g_FI g mk W H T0 kd v3 c (24 * y + x) S) (hTw : T0 g 8 = jI W) (hTh : T0 g 9 = jI H) (hW : W ≤ 24) (hH : H ≤ 24) (hmk : mk < g) (hx : x < W) (hy : y < H) (hc : c ≤ 1000) (hM : g_M (T0 mk) kd W H (24 * y + x)) (hop : S (g + 1) (24 * y + x) = -1)
    (h : ∀ S', g_FI g mk W H T0 kd v3 (c + 1) (24 * y + x + 1) S' → post S') : c < 288 ∧ P_G_begin g (jI x) (jI y) S (fun S65 => P_G_gather g mk kd v3 S65 (fun S72 => ∀ S82 : zS, S82 = z_su S72 g 6 ((S72 g 6) + 1) → post S82)) := by
  have hc2 : c < 288 := by
    have := g_few hF hc hM hop
    omega
  refine ⟨hc2, ?_⟩
  obtain ⟨f1, f2, f3, f4, f5, r, r1, r2, r3, r4⟩ := hF
  have hne := jc_ne hc2
  have jc : jR (c : Int) := jN c (by omega)
  have hm : (24 * y + x) % 24 = x := by omega
  have hd : (24 * y + x) / 24 = y := by omega
  have hfresh : ∀ u, u < 576 → S (g + 1) u ≠ jI c := fun u hu e => by
    rcases r3 u hu with q | ⟨k, q1, q2, -⟩
    · exact hne (e.symm.trans q)
    · have := (jI_eq (jN k (by omega)) jc).mp (q2.symm.trans e)
      omega
  refine m_begin f3 hc2 (by omega) (by omega) (fun T t1 t7 t6 t2 t3 t4 t5 to => ?_)
  have hTg : T g = S g := to g (by omega) (by omega) (by omega) (by omega) (by omega) (by omega) (by omega)
  have hTm : T mk = T0 mk := by rw [to mk (by omega) (by omega) (by omega) (by omega) (by omega) (by omega) (by omega), f1 mk (Or.inl hmk)]
  have hTfree : ∀ a, (a < g ∨ g + 8 ≤ a) → T a = T0 a := fun a ha => by rw [to a (by omega) (by omega) (by omega) (by omega) (by omega) (by omega) (by omega), f1 a ha]
  have hG : g_GI g (g_M (T mk) kd W H) (¬ v3 = 0) T (S (g + 1)) c (24 * y + x) 1 T := by
    rw [hTm]
    refine ⟨fun _ _ _ _ _ _ _ => rfl, fun _ _ => ⟨rfl, rfl, rfl, rfl⟩, by rw [t6, up_eq]; rfl, fun u => ?_, fun t ht => ⟨24 * y + x, by omega, ?_, by rw [t1, up_eq]⟩, fun u hu5 hu => ⟨0, by omega, ?_⟩, ?_, by rw [t1, up_eq], x, x, y, by omega, by omega, by omega, by rw [t2, up_eq], by rw [t4, up_eq], by rw [t5, up_eq], fun u hu5 hu => ?_, ⟨24 * y + x, by omega, by rw [t1, up_eq], hm⟩, ⟨24 * y + x, by omega, by rw [t1, up_eq], hm⟩, ⟨24 * y + x, by omega, by rw [t1, up_eq], hd⟩⟩
    · by_cases hu : u = 24 * y + x
      · subst hu
        exact Or.inr ⟨hop, by rw [t1, up_eq], hM, g_cn_r _⟩
      · exact Or.inl (by rw [t1, up_ne hu])
    · have : t = 0 := by omega
      subst this
      rw [t7, up_eq]
    · by_cases hz : u = 24 * y + x
      · rw [t7, up_eq, hz]
      · rw [t1, up_ne hz] at hu
        exact absurd hu (hfresh u hu5)
    · symm
      rw [ctn_up (p := fun u => decide (S (g + 1) u = jI c)) (i := 24 * y + x) (n := 576) (by omega) (decide_eq_false (fun e => hne (e.symm.trans hop))) (by rw [t1, up_eq]; exact decide_eq_true rfl) (fun j hj hj2 => by rw [t1, up_ne hj2]), ctn_0 (fun i hi => decide_eq_false (hfresh i hi))]
    · by_cases hz : u = 24 * y + x
      · subst hz; omega
      · rw [t1, up_ne hz] at hu
        exact absurd hu (hfresh u hu5)
  refine m_gather (L0 := S (g + 1)) (W := W) (H := H) hc2 (by rw [hTg]; exact f3) (by rw [hTg, f2 8 (by omega)]; exact hTw) (by rw [hTg, f2 9 (by omega)]; exact hTh) hW hH hmk hfresh T hG (fun U n hG' hcl => ?_)
  intro V eV
  rw [hTm] at hG' hcl
  obtain ⟨g1, g2, g3, g4, g5, g6, g7, g8, lf, rt, bt, b1, b2, b3, b4, b5, b6, b7, b8, b9, b10⟩ := hG'
  have hUg : U g = T g := g1 g (by omega) (by omega) (by omega) (by omega) (by omega) (by omega)
  have hV : ∀ a, a ≠ g → V a = U a := fun a ha => by rw [eV, su_ne ha]
  have v1 := hV (g + 1) (by omega)
  have hold : ∀ u, S (g + 1) u ≠ -1 → U (g + 1) u = S (g + 1) u := fun u hu => by
    rcases g4 u with q | q
    · exact q
    · exact absurd q.1 hu
  have hlab : ∀ (k : Nat), k < c → ∀ u, (U (g + 1) u = jI k ↔ S (g + 1) u = jI k) := fun k hk u => by
    rcases g4 u with q | q
    · rw [q]
    · constructor
      · intro e
        have := (jI_eq jc (jN k (by omega))).mp (q.2.1.symm.trans e)
        omega
      · intro e
        rw [q.1] at e
        exact absurd e.symm (jc_ne (by omega))
  refine h V ⟨fun a ha => ?_, fun j hj => ?_, ?_, fun u hu hup => ?_, fun u v hu hv ha => ?_, fun k => if k = c then 24 * y + x else r k, fun k hk => ?_, fun k k' hkk hk' => ?_, fun u hu => ?_, fun k hk => ?_⟩
  · rw [hV a (by omega), g1 a (by omega) (by omega) (by omega) (by omega) (by omega) (by omega), hTfree a ha]
  · rw [eV, su_eq, up_ne hj, hUg, hTg, f2 j hj]
  · rw [eV, su_eq, up_eq, hUg, hTg, f3, jI_1, jI_add]; rfl
  · rw [v1]
    by_cases hz : u = 24 * y + x
    · rw [hz, g8]; exact hne
    · have := f4 u hu (by omega)
      rw [hold u this]; exact this
  · rw [v1]
    have hs := f5 u v hu hv ha
    rcases g4 u with q | q
    · rcases g4 v with q' | q'
      · rw [q, q', hs]
      · have := hcl v u hv.1 q'.2.1 hu (g_adj_s ha)
        rw [q, hs, q'.1] at this
        exact absurd rfl this
    · rcases g4 v with q' | q'
      · have := hcl u v hu.1 q.2.1 hv ha
        rw [q', ← hs, q.1] at this
        exact absurd rfl this
      · rw [q.2.1, q'.2.1]
  · rw [v1]
    by_cases hz : k = c
    · subst hz
      simp only [if_true]
      exact ⟨hM, by omega, g8⟩
    · simp only [hz, if_false]
      obtain ⟨a1, a2, a3⟩ := r1 k (by omega)
      exact ⟨a1, by omega, (hlab k (by omega) _).mpr a3⟩
  · by_cases hz : k' = c
    · have hz2 : ¬ k = c := by omega
      simp only [hz, hz2, if_true, if_false]
      exact (r1 k (by omega)).2.1
    · have hz2 : ¬ k = c := by omega
      simp only [hz, hz2, if_false]
      exact r2 k k' hkk (by omega)
  · rw [v1]
    rcases g4 u with q | q
    · rw [q]
      rcases r3 u hu with z | ⟨k, z1, z2, z3, z4, z5⟩
      · exact Or.inl z
      · have hz : ¬ k = c := by omega
        exact Or.inr ⟨k, by omega, z2, z3, by simp only [hz, if_false]; exact z4, by simp only [hz, if_false]; exact z5⟩
    · refine Or.inr ⟨c, by omega, q.2.1, q.2.2.1, by simp only [if_true]; exact q.2.2.2, ?_⟩
      simp only [if_true]
      rcases Nat.lt_or_ge u (24 * y + x) with z | z
      · exact absurd q.1 (f4 u q.2.2.1 z)
      · exact z
  · by_cases hz : k = c
    · subst hz
      simp only [if_true]
      refine ⟨?_, ?_, lf, rt, bt, b1, b2, b3, ?_, ?_, ?_, ?_, ?_, ?_, ?_⟩
      · rw [hV _ (by omega), v1, g3, g7]
      · rw [hV _ (by omega), g1 (g + 3) (by omega) (by omega) (by omega) (by omega) (by omega) (by omega), t3, up_eq, hd]
      · rw [hV _ (by omega)]; exact b4
      · rw [hV _ (by omega)]; exact b5
      · rw [hV _ (by omega)]; exact b6
      · rw [v1]; exact b7
      · rw [v1]; exact b8
      · rw [v1]; exact b9
      · rw [v1]; exact b10
    · simp only [hz, if_false]
      have hk' : k < c := by omega
      obtain ⟨s1, s2, lf', rt', bt', c1, c2, c3, c4, c5, c6, c7, c8, c9, c10⟩ := r4 k hk'
      obtain ⟨k2, k4, k5, k6⟩ := g2 k hz
      refine ⟨?_, ?_, lf', rt', bt', c1, c2, c3, ?_, ?_, ?_, ?_, ?_, ?_, ?_⟩
      · rw [hV _ (by omega), v1, k6, t6, up_ne hz, s1]
        congr 1
        congr 1
        refine ctn_congr (fun i hi => ?_)
        exact decide_eq_decide.mpr (hlab k hk' i).symm
      · rw [hV _ (by omega), g1 (g + 3) (by omega) (by omega) (by omega) (by omega) (by omega) (by omega), t3, up_ne hz, s2]
      · rw [hV _ (by omega), k2, t2, up_ne hz, c4]
      · rw [hV _ (by omega), k4, t4, up_ne hz, c5]
      · rw [hV _ (by omega), k5, t5, up_ne hz, c6]
      · rw [v1]; exact fun u hu hu2 => c7 u hu ((hlab k hk' u).mp hu2)
      · rw [v1]; obtain ⟨u, a, b, d⟩ := c8; exact ⟨u, a, (hlab k hk' u).mpr b, d⟩
      · rw [v1]; obtain ⟨u, a, b, d⟩ := c9; exact ⟨u, a, (hlab k hk' u).mpr b, d⟩
      · rw [v1]; obtain ⟨u, a, b, d⟩ := c10; exact ⟨u, a, (hlab k hk' u).mpr b, d⟩
end YK
end
