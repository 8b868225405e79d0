section
-- ===== PART A: goes FIRST, ahead of the names: the tables' words, and 'selects' of the private methods out of them =====
/-- a private method of a class that the tables say can be made, by its rows of tables_1 -/
def lw_okq (q : MethodName × Nat) : Prop := (q.1.cls ≠ "java/lang/invoke/MethodHandle" ∧ q.1.cls ≠ "java/lang/invoke/VarHandle") ∧ Cond.instantiable q.1.cls q.2 ∈ tables_1 ∧ Cond.privateMethod q.1 ∈ tables_1 ∧ Cond.instanceMethod q.1 ∈ tables_1
theorem lw_p0 : lw_okq (⟨"PageParts", "toldOfParted", "(I)I"⟩, 15) := ⟨⟨by decide +kernel, by decide +kernel⟩, List.mem_of_getElem? (i := 16) (by decide +kernel), List.mem_of_getElem? (i := 199) (by decide +kernel), List.mem_of_getElem? (i := 200) (by decide +kernel)⟩
theorem lw_p1 : lw_okq (⟨"PageParts", "mustBeSample", "(II)V"⟩, 15) := ⟨⟨by decide +kernel, by decide +kernel⟩, List.mem_of_getElem? (i := 16) (by decide +kernel), List.mem_of_getElem? (i := 218) (by decide +kernel), List.mem_of_getElem? (i := 219) (by decide +kernel)⟩
theorem lw_p2 : lw_okq (⟨"java/lang/Throwable", "fillInStackTrace", "(I)Ljava/lang/Throwable;"⟩, 6) := ⟨⟨by decide +kernel, by decide +kernel⟩, List.mem_of_getElem? (i := 260) (by decide +kernel), List.mem_of_getElem? (i := 258) (by decide +kernel), List.mem_of_getElem? (i := 259) (by decide +kernel)⟩
theorem lw_p3 : lw_okq (⟨"PageParts", "paint", "(IIZ)Z"⟩, 15) := ⟨⟨by decide +kernel, by decide +kernel⟩, List.mem_of_getElem? (i := 16) (by decide +kernel), List.mem_of_getElem? (i := 290) (by decide +kernel), List.mem_of_getElem? (i := 291) (by decide +kernel)⟩
theorem lw_p4 : lw_okq (⟨"PageParts", "findClean", "()V"⟩, 15) := ⟨⟨by decide +kernel, by decide +kernel⟩, List.mem_of_getElem? (i := 16) (by decide +kernel), List.mem_of_getElem? (i := 334) (by decide +kernel), List.mem_of_getElem? (i := 335) (by decide +kernel)⟩
theorem lw_p5 : lw_okq (⟨"PageParts$Groups", "isOpen", "([ZZII)Z"⟩, 10) := ⟨⟨by decide +kernel, by decide +kernel⟩, List.mem_of_getElem? (i := 33) (by decide +kernel), List.mem_of_getElem? (i := 345) (by decide +kernel), List.mem_of_getElem? (i := 346) (by decide +kernel)⟩
theorem lw_p6 : lw_okq (⟨"PageParts$Groups", "begin", "(II)V"⟩, 10) := ⟨⟨by decide +kernel, by decide +kernel⟩, List.mem_of_getElem? (i := 33) (by decide +kernel), List.mem_of_getElem? (i := 349) (by decide +kernel), List.mem_of_getElem? (i := 350) (by decide +kernel)⟩
theorem lw_p7 : lw_okq (⟨"PageParts$Groups", "take", "(II)V"⟩, 10) := ⟨⟨by decide +kernel, by decide +kernel⟩, List.mem_of_getElem? (i := 33) (by decide +kernel), List.mem_of_getElem? (i := 353) (by decide +kernel), List.mem_of_getElem? (i := 354) (by decide +kernel)⟩
theorem lw_p8 : lw_okq (⟨"PageParts$Groups", "gather", "([ZZZ)V"⟩, 10) := ⟨⟨by decide +kernel, by decide +kernel⟩, List.mem_of_getElem? (i := 33) (by decide +kernel), List.mem_of_getElem? (i := 359) (by decide +kernel), List.mem_of_getElem? (i := 360) (by decide +kernel)⟩
theorem lw_p9 : lw_okq (⟨"PageParts", "smear", "(II)V"⟩, 15) := ⟨⟨by decide +kernel, by decide +kernel⟩, List.mem_of_getElem? (i := 16) (by decide +kernel), List.mem_of_getElem? (i := 363) (by decide +kernel), List.mem_of_getElem? (i := 364) (by decide +kernel)⟩
theorem lw_p10 : lw_okq (⟨"PageParts", "smearAlong", "(IIII)V"⟩, 15) := ⟨⟨by decide +kernel, by decide +kernel⟩, List.mem_of_getElem? (i := 16) (by decide +kernel), List.mem_of_getElem? (i := 367) (by decide +kernel), List.mem_of_getElem? (i := 368) (by decide +kernel)⟩
theorem lw_p11 : lw_okq (⟨"PageParts$Covers", "measure", "([Z)V"⟩, 9) := ⟨⟨by decide +kernel, by decide +kernel⟩, List.mem_of_getElem? (i := 84) (by decide +kernel), List.mem_of_getElem? (i := 375) (by decide +kernel), List.mem_of_getElem? (i := 376) (by decide +kernel)⟩
theorem lw_p12 : lw_okq (⟨"PageParts$Covers", "findGreatest", "(I)V"⟩, 9) := ⟨⟨by decide +kernel, by decide +kernel⟩, List.mem_of_getElem? (i := 84) (by decide +kernel), List.mem_of_getElem? (i := 379) (by decide +kernel), List.mem_of_getElem? (i := 380) (by decide +kernel)⟩
theorem lw_p13 : lw_okq (⟨"PageParts$Covers", "growFrom", "(III)V"⟩, 9) := ⟨⟨by decide +kernel, by decide +kernel⟩, List.mem_of_getElem? (i := 84) (by decide +kernel), List.mem_of_getElem? (i := 383) (by decide +kernel), List.mem_of_getElem? (i := 384) (by decide +kernel)⟩
theorem lw_p14 : lw_okq (⟨"PageParts$Covers", "block", "(I)V"⟩, 9) := ⟨⟨by decide +kernel, by decide +kernel⟩, List.mem_of_getElem? (i := 84) (by decide +kernel), List.mem_of_getElem? (i := 388) (by decide +kernel), List.mem_of_getElem? (i := 389) (by decide +kernel)⟩
theorem lw_p15 : lw_okq (⟨"PageParts$Covers", "shortenBefore", "(II)V"⟩, 9) := ⟨⟨by decide +kernel, by decide +kernel⟩, List.mem_of_getElem? (i := 84) (by decide +kernel), List.mem_of_getElem? (i := 392) (by decide +kernel), List.mem_of_getElem? (i := 393) (by decide +kernel)⟩
def lw_privs_1 : List (MethodName × Nat) := [(⟨"PageParts", "toldOfParted", "(I)I"⟩, 15), (⟨"PageParts", "mustBeSample", "(II)V"⟩, 15), (⟨"java/lang/Throwable", "fillInStackTrace", "(I)Ljava/lang/Throwable;"⟩, 6), (⟨"PageParts", "paint", "(IIZ)Z"⟩, 15), (⟨"PageParts", "findClean", "()V"⟩, 15), (⟨"PageParts$Groups", "isOpen", "([ZZII)Z"⟩, 10), (⟨"PageParts$Groups", "begin", "(II)V"⟩, 10), (⟨"PageParts$Groups", "take", "(II)V"⟩, 10), (⟨"PageParts$Groups", "gather", "([ZZZ)V"⟩, 10), (⟨"PageParts", "smear", "(II)V"⟩, 15), (⟨"PageParts", "smearAlong", "(IIII)V"⟩, 15), (⟨"PageParts$Covers", "measure", "([Z)V"⟩, 9), (⟨"PageParts$Covers", "findGreatest", "(I)V"⟩, 9), (⟨"PageParts$Covers", "growFrom", "(III)V"⟩, 9), (⟨"PageParts$Covers", "block", "(I)V"⟩, 9), (⟨"PageParts$Covers", "shortenBefore", "(II)V"⟩, 9)]
theorem lw_r1 : ∀ q ∈ lw_privs_1, lw_okq q := List.forall_mem_cons.mpr ⟨lw_p0, List.forall_mem_cons.mpr ⟨lw_p1, List.forall_mem_cons.mpr ⟨lw_p2, List.forall_mem_cons.mpr ⟨lw_p3, List.forall_mem_cons.mpr ⟨lw_p4, List.forall_mem_cons.mpr ⟨lw_p5, List.forall_mem_cons.mpr ⟨lw_p6, List.forall_mem_cons.mpr ⟨lw_p7, List.forall_mem_cons.mpr ⟨lw_p8, List.forall_mem_cons.mpr ⟨lw_p9, List.forall_mem_cons.mpr ⟨lw_p10, List.forall_mem_cons.mpr ⟨lw_p11, List.forall_mem_cons.mpr ⟨lw_p12, List.forall_mem_cons.mpr ⟨lw_p13, List.forall_mem_cons.mpr ⟨lw_p14, List.forall_mem_cons.mpr ⟨lw_p15, fun _ h => absurd h List.not_mem_nil⟩⟩⟩⟩⟩⟩⟩⟩⟩⟩⟩⟩⟩⟩⟩⟩
theorem lw_p16 : lw_okq (⟨"PageParts", "findStrips", "()V"⟩, 15) := ⟨⟨by decide +kernel, by decide +kernel⟩, List.mem_of_getElem? (i := 16) (by decide +kernel), List.mem_of_getElem? (i := 396) (by decide +kernel), List.mem_of_getElem? (i := 397) (by decide +kernel)⟩
theorem lw_p17 : lw_okq (⟨"PageParts", "hasInk", "(I)Z"⟩, 15) := ⟨⟨by decide +kernel, by decide +kernel⟩, List.mem_of_getElem? (i := 16) (by decide +kernel), List.mem_of_getElem? (i := 400) (by decide +kernel), List.mem_of_getElem? (i := 401) (by decide +kernel)⟩
theorem lw_p18 : lw_okq (⟨"PageParts$Reading", "sortByBoxes", "(LPageParts$Groups;)V"⟩, 6) := ⟨⟨by decide +kernel, by decide +kernel⟩, List.mem_of_getElem? (i := 123) (by decide +kernel), List.mem_of_getElem? (i := 412) (by decide +kernel), List.mem_of_getElem? (i := 413) (by decide +kernel)⟩
theorem lw_p19 : lw_okq (⟨"PageParts$Reading", "findCut", "(LPageParts$Groups;II)Z"⟩, 6) := ⟨⟨by decide +kernel, by decide +kernel⟩, List.mem_of_getElem? (i := 123) (by decide +kernel), List.mem_of_getElem? (i := 419) (by decide +kernel), List.mem_of_getElem? (i := 420) (by decide +kernel)⟩
theorem lw_p20 : lw_okq (⟨"PageParts$Reading", "lookAlong", "([I[IIIZ)V"⟩, 6) := ⟨⟨by decide +kernel, by decide +kernel⟩, List.mem_of_getElem? (i := 123) (by decide +kernel), List.mem_of_getElem? (i := 423) (by decide +kernel), List.mem_of_getElem? (i := 424) (by decide +kernel)⟩
theorem lw_p21 : lw_okq (⟨"PageParts$Reading", "divide", "(LPageParts$Groups;II)I"⟩, 6) := ⟨⟨by decide +kernel, by decide +kernel⟩, List.mem_of_getElem? (i := 123) (by decide +kernel), List.mem_of_getElem? (i := 433) (by decide +kernel), List.mem_of_getElem? (i := 434) (by decide +kernel)⟩
theorem lw_p22 : lw_okq (⟨"PageParts", "mustBeParted", "()V"⟩, 15) := ⟨⟨by decide +kernel, by decide +kernel⟩, List.mem_of_getElem? (i := 16) (by decide +kernel), List.mem_of_getElem? (i := 448) (by decide +kernel), List.mem_of_getElem? (i := 449) (by decide +kernel)⟩
theorem lw_p23 : lw_okq (⟨"PageParts", "weightOf", "(I)I"⟩, 15) := ⟨⟨by decide +kernel, by decide +kernel⟩, List.mem_of_getElem? (i := 16) (by decide +kernel), List.mem_of_getElem? (i := 476) (by decide +kernel), List.mem_of_getElem? (i := 477) (by decide +kernel)⟩
theorem lw_p24 : lw_okq (⟨"PageParts", "kindOf", "(I)I"⟩, 15) := ⟨⟨by decide +kernel, by decide +kernel⟩, List.mem_of_getElem? (i := 16) (by decide +kernel), List.mem_of_getElem? (i := 480) (by decide +kernel), List.mem_of_getElem? (i := 481) (by decide +kernel)⟩
theorem lw_p25 : lw_okq (⟨"PageParts", "isFramed", "(I)Z"⟩, 15) := ⟨⟨by decide +kernel, by decide +kernel⟩, List.mem_of_getElem? (i := 16) (by decide +kernel), List.mem_of_getElem? (i := 495) (by decide +kernel), List.mem_of_getElem? (i := 496) (by decide +kernel)⟩
theorem lw_p26 : lw_okq (⟨"PageParts", "countClean", "(IIII)I"⟩, 15) := ⟨⟨by decide +kernel, by decide +kernel⟩, List.mem_of_getElem? (i := 16) (by decide +kernel), List.mem_of_getElem? (i := 499) (by decide +kernel), List.mem_of_getElem? (i := 500) (by decide +kernel)⟩
theorem lw_p27 : lw_okq (⟨"PageParts", "isMostlyEmptyWithin", "(I)Z"⟩, 15) := ⟨⟨by decide +kernel, by decide +kernel⟩, List.mem_of_getElem? (i := 16) (by decide +kernel), List.mem_of_getElem? (i := 503) (by decide +kernel), List.mem_of_getElem? (i := 504) (by decide +kernel)⟩
theorem lw_p28 : lw_okq (⟨"PageParts", "countLines", "(I)I"⟩, 15) := ⟨⟨by decide +kernel, by decide +kernel⟩, List.mem_of_getElem? (i := 16) (by decide +kernel), List.mem_of_getElem? (i := 507) (by decide +kernel), List.mem_of_getElem? (i := 508) (by decide +kernel)⟩
theorem lw_p29 : lw_okq (⟨"PageParts", "beginsLine", "(II)Z"⟩, 15) := ⟨⟨by decide +kernel, by decide +kernel⟩, List.mem_of_getElem? (i := 16) (by decide +kernel), List.mem_of_getElem? (i := 511) (by decide +kernel), List.mem_of_getElem? (i := 512) (by decide +kernel)⟩
theorem lw_p30 : lw_okq (⟨"PageParts", "hasCleanOf", "(II)Z"⟩, 15) := ⟨⟨by decide +kernel, by decide +kernel⟩, List.mem_of_getElem? (i := 16) (by decide +kernel), List.mem_of_getElem? (i := 515) (by decide +kernel), List.mem_of_getElem? (i := 516) (by decide +kernel)⟩
theorem lw_p31 : lw_okq (⟨"PageParts", "firstRowOfLine", "(II)I"⟩, 15) := ⟨⟨by decide +kernel, by decide +kernel⟩, List.mem_of_getElem? (i := 16) (by decide +kernel), List.mem_of_getElem? (i := 539) (by decide +kernel), List.mem_of_getElem? (i := 540) (by decide +kernel)⟩
def lw_privs_2 : List (MethodName × Nat) := [(⟨"PageParts", "findStrips", "()V"⟩, 15), (⟨"PageParts", "hasInk", "(I)Z"⟩, 15), (⟨"PageParts$Reading", "sortByBoxes", "(LPageParts$Groups;)V"⟩, 6), (⟨"PageParts$Reading", "findCut", "(LPageParts$Groups;II)Z"⟩, 6), (⟨"PageParts$Reading", "lookAlong", "([I[IIIZ)V"⟩, 6), (⟨"PageParts$Reading", "divide", "(LPageParts$Groups;II)I"⟩, 6), (⟨"PageParts", "mustBeParted", "()V"⟩, 15), (⟨"PageParts", "weightOf", "(I)I"⟩, 15), (⟨"PageParts", "kindOf", "(I)I"⟩, 15), (⟨"PageParts", "isFramed", "(I)Z"⟩, 15), (⟨"PageParts", "countClean", "(IIII)I"⟩, 15), (⟨"PageParts", "isMostlyEmptyWithin", "(I)Z"⟩, 15), (⟨"PageParts", "countLines", "(I)I"⟩, 15), (⟨"PageParts", "beginsLine", "(II)Z"⟩, 15), (⟨"PageParts", "hasCleanOf", "(II)Z"⟩, 15), (⟨"PageParts", "firstRowOfLine", "(II)I"⟩, 15)]
theorem lw_r2 : ∀ q ∈ lw_privs_2, lw_okq q := List.forall_mem_cons.mpr ⟨lw_p16, List.forall_mem_cons.mpr ⟨lw_p17, List.forall_mem_cons.mpr ⟨lw_p18, List.forall_mem_cons.mpr ⟨lw_p19, List.forall_mem_cons.mpr ⟨lw_p20, List.forall_mem_cons.mpr ⟨lw_p21, List.forall_mem_cons.mpr ⟨lw_p22, List.forall_mem_cons.mpr ⟨lw_p23, List.forall_mem_cons.mpr ⟨lw_p24, List.forall_mem_cons.mpr ⟨lw_p25, List.forall_mem_cons.mpr ⟨lw_p26, List.forall_mem_cons.mpr ⟨lw_p27, List.forall_mem_cons.mpr ⟨lw_p28, List.forall_mem_cons.mpr ⟨lw_p29, List.forall_mem_cons.mpr ⟨lw_p30, List.forall_mem_cons.mpr ⟨lw_p31, fun _ h => absurd h List.not_mem_nil⟩⟩⟩⟩⟩⟩⟩⟩⟩⟩⟩⟩⟩⟩⟩⟩
theorem lw_p32 : lw_okq (⟨"PageParts", "countRowsOfLine", "(II)I"⟩, 15) := ⟨⟨by decide +kernel, by decide +kernel⟩, List.mem_of_getElem? (i := 16) (by decide +kernel), List.mem_of_getElem? (i := 543) (by decide +kernel), List.mem_of_getElem? (i := 544) (by decide +kernel)⟩
theorem lw_p33 : lw_okq (⟨"PagePartsModel", "isSample", "(II)Z"⟩, 27) := ⟨⟨by decide +kernel, by decide +kernel⟩, List.mem_of_getElem? (i := 582) (by decide +kernel), List.mem_of_getElem? (i := 681) (by decide +kernel), List.mem_of_getElem? (i := 682) (by decide +kernel)⟩
theorem lw_p34 : lw_okq (⟨"PagePartsModel", "goes", "(ZZZ)Z"⟩, 27) := ⟨⟨by decide +kernel, by decide +kernel⟩, List.mem_of_getElem? (i := 582) (by decide +kernel), List.mem_of_getElem? (i := 688) (by decide +kernel), List.mem_of_getElem? (i := 689) (by decide +kernel)⟩
theorem lw_p35 : lw_okq (⟨"PagePartsModel", "takeInk", "(II)V"⟩, 27) := ⟨⟨by decide +kernel, by decide +kernel⟩, List.mem_of_getElem? (i := 582) (by decide +kernel), List.mem_of_getElem? (i := 708) (by decide +kernel), List.mem_of_getElem? (i := 709) (by decide +kernel)⟩
theorem lw_p36 : lw_okq (⟨"PagePartsModel", "group", "(IZ)V"⟩, 27) := ⟨⟨by decide +kernel, by decide +kernel⟩, List.mem_of_getElem? (i := 582) (by decide +kernel), List.mem_of_getElem? (i := 712) (by decide +kernel), List.mem_of_getElem? (i := 713) (by decide +kernel)⟩
theorem lw_p37 : lw_okq (⟨"PagePartsModel", "is", "(II)Z"⟩, 27) := ⟨⟨by decide +kernel, by decide +kernel⟩, List.mem_of_getElem? (i := 582) (by decide +kernel), List.mem_of_getElem? (i := 716) (by decide +kernel), List.mem_of_getElem? (i := 717) (by decide +kernel)⟩
theorem lw_p38 : lw_okq (⟨"PagePartsModel", "settles", "(IIZ)Z"⟩, 27) := ⟨⟨by decide +kernel, by decide +kernel⟩, List.mem_of_getElem? (i := 582) (by decide +kernel), List.mem_of_getElem? (i := 720) (by decide +kernel), List.mem_of_getElem? (i := 721) (by decide +kernel)⟩
theorem lw_p39 : lw_okq (⟨"PagePartsModel", "sizeOf", "(I)I"⟩, 27) := ⟨⟨by decide +kernel, by decide +kernel⟩, List.mem_of_getElem? (i := 582) (by decide +kernel), List.mem_of_getElem? (i := 724) (by decide +kernel), List.mem_of_getElem? (i := 725) (by decide +kernel)⟩
theorem lw_p40 : lw_okq (⟨"PagePartsModel", "inGap", "(IIIII)Z"⟩, 27) := ⟨⟨by decide +kernel, by decide +kernel⟩, List.mem_of_getElem? (i := 582) (by decide +kernel), List.mem_of_getElem? (i := 728) (by decide +kernel), List.mem_of_getElem? (i := 729) (by decide +kernel)⟩
theorem lw_p41 : lw_okq (⟨"PagePartsModel", "takeParts", "()V"⟩, 27) := ⟨⟨by decide +kernel, by decide +kernel⟩, List.mem_of_getElem? (i := 582) (by decide +kernel), List.mem_of_getElem? (i := 732) (by decide +kernel), List.mem_of_getElem? (i := 733) (by decide +kernel)⟩
theorem lw_p42 : lw_okq (⟨"PagePartsModel", "kindOf", "(IIII)I"⟩, 27) := ⟨⟨by decide +kernel, by decide +kernel⟩, List.mem_of_getElem? (i := 582) (by decide +kernel), List.mem_of_getElem? (i := 736) (by decide +kernel), List.mem_of_getElem? (i := 737) (by decide +kernel)⟩
theorem lw_p43 : lw_okq (⟨"PagePartsModel", "cleanIn", "(IIIII)I"⟩, 27) := ⟨⟨by decide +kernel, by decide +kernel⟩, List.mem_of_getElem? (i := 582) (by decide +kernel), List.mem_of_getElem? (i := 740) (by decide +kernel), List.mem_of_getElem? (i := 741) (by decide +kernel)⟩
theorem lw_p44 : lw_okq (⟨"PagePartsModel", "takeCovers", "()V"⟩, 27) := ⟨⟨by decide +kernel, by decide +kernel⟩, List.mem_of_getElem? (i := 582) (by decide +kernel), List.mem_of_getElem? (i := 744) (by decide +kernel), List.mem_of_getElem? (i := 745) (by decide +kernel)⟩
theorem lw_p45 : lw_okq (⟨"PagePartsModel", "takeCover", "()Z"⟩, 27) := ⟨⟨by decide +kernel, by decide +kernel⟩, List.mem_of_getElem? (i := 582) (by decide +kernel), List.mem_of_getElem? (i := 748) (by decide +kernel), List.mem_of_getElem? (i := 749) (by decide +kernel)⟩
theorem lw_p46 : lw_okq (⟨"PagePartsModel", "takeStrips", "()V"⟩, 27) := ⟨⟨by decide +kernel, by decide +kernel⟩, List.mem_of_getElem? (i := 582) (by decide +kernel), List.mem_of_getElem? (i := 752) (by decide +kernel), List.mem_of_getElem? (i := 753) (by decide +kernel)⟩
theorem lw_p47 : lw_okq (⟨"PagePartsModel", "takeCells", "()V"⟩, 27) := ⟨⟨by decide +kernel, by decide +kernel⟩, List.mem_of_getElem? (i := 582) (by decide +kernel), List.mem_of_getElem? (i := 756) (by decide +kernel), List.mem_of_getElem? (i := 757) (by decide +kernel)⟩
def lw_privs_3 : List (MethodName × Nat) := [(⟨"PageParts", "countRowsOfLine", "(II)I"⟩, 15), (⟨"PagePartsModel", "isSample", "(II)Z"⟩, 27), (⟨"PagePartsModel", "goes", "(ZZZ)Z"⟩, 27), (⟨"PagePartsModel", "takeInk", "(II)V"⟩, 27), (⟨"PagePartsModel", "group", "(IZ)V"⟩, 27), (⟨"PagePartsModel", "is", "(II)Z"⟩, 27), (⟨"PagePartsModel", "settles", "(IIZ)Z"⟩, 27), (⟨"PagePartsModel", "sizeOf", "(I)I"⟩, 27), (⟨"PagePartsModel", "inGap", "(IIIII)Z"⟩, 27), (⟨"PagePartsModel", "takeParts", "()V"⟩, 27), (⟨"PagePartsModel", "kindOf", "(IIII)I"⟩, 27), (⟨"PagePartsModel", "cleanIn", "(IIIII)I"⟩, 27), (⟨"PagePartsModel", "takeCovers", "()V"⟩, 27), (⟨"PagePartsModel", "takeCover", "()Z"⟩, 27), (⟨"PagePartsModel", "takeStrips", "()V"⟩, 27), (⟨"PagePartsModel", "takeCells", "()V"⟩, 27)]
theorem lw_r3 : ∀ q ∈ lw_privs_3, lw_okq q := List.forall_mem_cons.mpr ⟨lw_p32, List.forall_mem_cons.mpr ⟨lw_p33, List.forall_mem_cons.mpr ⟨lw_p34, List.forall_mem_cons.mpr ⟨lw_p35, List.forall_mem_cons.mpr ⟨lw_p36, List.forall_mem_cons.mpr ⟨lw_p37, List.forall_mem_cons.mpr ⟨lw_p38, List.forall_mem_cons.mpr ⟨lw_p39, List.forall_mem_cons.mpr ⟨lw_p40, List.forall_mem_cons.mpr ⟨lw_p41, List.forall_mem_cons.mpr ⟨lw_p42, List.forall_mem_cons.mpr ⟨lw_p43, List.forall_mem_cons.mpr ⟨lw_p44, List.forall_mem_cons.mpr ⟨lw_p45, List.forall_mem_cons.mpr ⟨lw_p46, List.forall_mem_cons.mpr ⟨lw_p47, fun _ h => absurd h List.not_mem_nil⟩⟩⟩⟩⟩⟩⟩⟩⟩⟩⟩⟩⟩⟩⟩⟩
theorem lw_p48 : lw_okq (⟨"PagePartsModel", "isClosed", "(I)Z"⟩, 27) := ⟨⟨by decide +kernel, by decide +kernel⟩, List.mem_of_getElem? (i := 582) (by decide +kernel), List.mem_of_getElem? (i := 760) (by decide +kernel), List.mem_of_getElem? (i := 761) (by decide +kernel)⟩
theorem lw_p49 : lw_okq (⟨"PagePartsModel", "takeOrder", "()V"⟩, 27) := ⟨⟨by decide +kernel, by decide +kernel⟩, List.mem_of_getElem? (i := 582) (by decide +kernel), List.mem_of_getElem? (i := 764) (by decide +kernel), List.mem_of_getElem? (i := 765) (by decide +kernel)⟩
theorem lw_p50 : lw_okq (⟨"PagePartsModel", "parts", "(II)I"⟩, 27) := ⟨⟨by decide +kernel, by decide +kernel⟩, List.mem_of_getElem? (i := 582) (by decide +kernel), List.mem_of_getElem? (i := 768) (by decide +kernel), List.mem_of_getElem? (i := 769) (by decide +kernel)⟩
theorem lw_p51 : lw_okq (⟨"PagePartsModel", "gap", "(IZII)I"⟩, 27) := ⟨⟨by decide +kernel, by decide +kernel⟩, List.mem_of_getElem? (i := 582) (by decide +kernel), List.mem_of_getElem? (i := 772) (by decide +kernel), List.mem_of_getElem? (i := 773) (by decide +kernel)⟩
theorem lw_p52 : lw_okq (⟨"PagePartsModel", "low", "(IZ)I"⟩, 27) := ⟨⟨by decide +kernel, by decide +kernel⟩, List.mem_of_getElem? (i := 582) (by decide +kernel), List.mem_of_getElem? (i := 776) (by decide +kernel), List.mem_of_getElem? (i := 777) (by decide +kernel)⟩
theorem lw_p53 : lw_okq (⟨"PagePartsModel", "high", "(IZ)I"⟩, 27) := ⟨⟨by decide +kernel, by decide +kernel⟩, List.mem_of_getElem? (i := 582) (by decide +kernel), List.mem_of_getElem? (i := 780) (by decide +kernel), List.mem_of_getElem? (i := 781) (by decide +kernel)⟩
theorem lw_p54 : lw_okq (⟨"PagePartsModel", "swap", "(II)V"⟩, 27) := ⟨⟨by decide +kernel, by decide +kernel⟩, List.mem_of_getElem? (i := 582) (by decide +kernel), List.mem_of_getElem? (i := 784) (by decide +kernel), List.mem_of_getElem? (i := 785) (by decide +kernel)⟩
theorem lw_p55 : lw_okq (⟨"PagePartsModel", "sort", "(II)V"⟩, 27) := ⟨⟨by decide +kernel, by decide +kernel⟩, List.mem_of_getElem? (i := 582) (by decide +kernel), List.mem_of_getElem? (i := 788) (by decide +kernel), List.mem_of_getElem? (i := 789) (by decide +kernel)⟩
theorem lw_p56 : lw_okq (⟨"PagePartsModel", "isBefore", "(II)Z"⟩, 27) := ⟨⟨by decide +kernel, by decide +kernel⟩, List.mem_of_getElem? (i := 582) (by decide +kernel), List.mem_of_getElem? (i := 792) (by decide +kernel), List.mem_of_getElem? (i := 793) (by decide +kernel)⟩
theorem lw_p57 : lw_okq (⟨"PagePartsModel", "lines", "(I)I"⟩, 27) := ⟨⟨by decide +kernel, by decide +kernel⟩, List.mem_of_getElem? (i := 582) (by decide +kernel), List.mem_of_getElem? (i := 800) (by decide +kernel), List.mem_of_getElem? (i := 801) (by decide +kernel)⟩
theorem lw_p58 : lw_okq (⟨"PagePartsModel", "inkOf", "(I)I"⟩, 27) := ⟨⟨by decide +kernel, by decide +kernel⟩, List.mem_of_getElem? (i := 582) (by decide +kernel), List.mem_of_getElem? (i := 804) (by decide +kernel), List.mem_of_getElem? (i := 805) (by decide +kernel)⟩
def lw_privs_4 : List (MethodName × Nat) := [(⟨"PagePartsModel", "isClosed", "(I)Z"⟩, 27), (⟨"PagePartsModel", "takeOrder", "()V"⟩, 27), (⟨"PagePartsModel", "parts", "(II)I"⟩, 27), (⟨"PagePartsModel", "gap", "(IZII)I"⟩, 27), (⟨"PagePartsModel", "low", "(IZ)I"⟩, 27), (⟨"PagePartsModel", "high", "(IZ)I"⟩, 27), (⟨"PagePartsModel", "swap", "(II)V"⟩, 27), (⟨"PagePartsModel", "sort", "(II)V"⟩, 27), (⟨"PagePartsModel", "isBefore", "(II)Z"⟩, 27), (⟨"PagePartsModel", "lines", "(I)I"⟩, 27), (⟨"PagePartsModel", "inkOf", "(I)I"⟩, 27)]
theorem lw_r4 : ∀ q ∈ lw_privs_4, lw_okq q := List.forall_mem_cons.mpr ⟨lw_p48, List.forall_mem_cons.mpr ⟨lw_p49, List.forall_mem_cons.mpr ⟨lw_p50, List.forall_mem_cons.mpr ⟨lw_p51, List.forall_mem_cons.mpr ⟨lw_p52, List.forall_mem_cons.mpr ⟨lw_p53, List.forall_mem_cons.mpr ⟨lw_p54, List.forall_mem_cons.mpr ⟨lw_p55, List.forall_mem_cons.mpr ⟨lw_p56, List.forall_mem_cons.mpr ⟨lw_p57, List.forall_mem_cons.mpr ⟨lw_p58, fun _ h => absurd h List.not_mem_nil⟩⟩⟩⟩⟩⟩⟩⟩⟩⟩⟩
def lw_privs : List (MethodName × Nat) := lw_privs_1 ++ (lw_privs_2 ++ (lw_privs_3 ++ (lw_privs_4)))
def lw_tbl : List Cond := k2_sels lw_privs ++ tables_1
theorem lw_privs_ok : ∀ q ∈ lw_privs, lw_okq q := by
  show ∀ q ∈ lw_privs_1 ++ (lw_privs_2 ++ (lw_privs_3 ++ (lw_privs_4))), lw_okq q
  exact List.forall_mem_append.mpr ⟨lw_r1, List.forall_mem_append.mpr ⟨lw_r2, List.forall_mem_append.mpr ⟨lw_r3, lw_r4⟩⟩⟩
end
section
def R_P : String := "PageParts"
def F_P : u_T := fun k => match k with
  | 0 => ("PageParts", "width", "I", true)
  | 1 => ("PageParts", "height", "I", true)
  | 2 => ("PageParts", "black", "[Z", true)
  | 3 => ("PageParts", "clean", "[Z", true)
  | 4 => ("PageParts", "ink", "[Z", true)
  | 5 => ("PageParts", "strips", "[I", true)
  | 6 => ("PageParts", "parts", "LPageParts$Groups;", true)
  | 7 => ("PageParts", "cells", "LPageParts$Groups;", true)
  | 8 => ("PageParts", "covers", "LPageParts$Covers;", true)
  | 9 => ("PageParts", "reading", "LPageParts$Reading;", true)
  | 10 => ("PageParts", "blackCount", "I", false)
  | 11 => ("PageParts", "cleanCount", "I", false)
  | 12 => ("PageParts", "stripCount", "I", false)
  | 13 => ("PageParts", "noiseNow", "I", false)
  | _ => ("PageParts", "parted", "Z", false)
def ty_P : Nat → FieldType := fun k => match k with
  | 0 => .int
  | 1 => .int
  | 2 => .array .boolean
  | 3 => .array .boolean
  | 4 => .array .boolean
  | 5 => .array .int
  | 6 => .object "PageParts$Groups"
  | 7 => .object "PageParts$Groups"
  | 8 => .object "PageParts$Covers"
  | 9 => .object "PageParts$Reading"
  | 10 => .int
  | 11 => .int
  | 12 => .int
  | 13 => .int
  | _ => .boolean
def R_G : String := "PageParts$Groups"
def F_G : u_T := fun k => match k with
  | 0 => ("PageParts$Groups", "label", "[I", true)
  | 1 => ("PageParts$Groups", "left", "[I", true)
  | 2 => ("PageParts$Groups", "top", "[I", true)
  | 3 => ("PageParts$Groups", "right", "[I", true)
  | 4 => ("PageParts$Groups", "bottom", "[I", true)
  | 5 => ("PageParts$Groups", "size", "[I", true)
  | 6 => ("PageParts$Groups", "count", "I", false)
  | 7 => ("PageParts$Groups", "queue", "[I", true)
  | 8 => ("PageParts$Groups", "width", "I", true)
  | _ => ("PageParts$Groups", "height", "I", true)
def ty_G : Nat → FieldType := fun k => match k with
  | 0 => .array .int
  | 1 => .array .int
  | 2 => .array .int
  | 3 => .array .int
  | 4 => .array .int
  | 5 => .array .int
  | 6 => .int
  | 7 => .array .int
  | 8 => .int
  | _ => .int
def R_C : String := "PageParts$Covers"
def F_C : u_T := fun k => match k with
  | 0 => ("PageParts$Covers", "left", "[I", true)
  | 1 => ("PageParts$Covers", "top", "[I", true)
  | 2 => ("PageParts$Covers", "wide", "[I", true)
  | 3 => ("PageParts$Covers", "high", "[I", true)
  | 4 => ("PageParts$Covers", "count", "I", false)
  | 5 => ("PageParts$Covers", "reach", "[I", true)
  | 6 => ("PageParts$Covers", "width", "I", true)
  | 7 => ("PageParts$Covers", "height", "I", true)
  | _ => ("PageParts$Covers", "greatest", "I", false)
def ty_C : Nat → FieldType := fun k => match k with
  | 0 => .array .int
  | 1 => .array .int
  | 2 => .array .int
  | 3 => .array .int
  | 4 => .int
  | 5 => .array .int
  | 6 => .int
  | 7 => .int
  | _ => .int
def R_R : String := "PageParts$Reading"
def F_R : u_T := fun k => match k with
  | 0 => ("PageParts$Reading", "sequence", "[I", true)
  | 1 => ("PageParts$Reading", "behind", "[I", true)
  | 2 => ("PageParts$Reading", "ends", "[I", true)
  | 3 => ("PageParts$Reading", "cutAt", "I", false)
  | 4 => ("PageParts$Reading", "cutGap", "I", false)
  | _ => ("PageParts$Reading", "cutsRows", "Z", false)
def ty_R : Nat → FieldType := fun k => match k with
  | 0 => .array .int
  | 1 => .array .int
  | 2 => .array .int
  | 3 => .int
  | 4 => .int
  | _ => .boolean
def R_M : String := "PagePartsModel"
def F_M : u_T := fun k => match k with
  | 0 => ("PagePartsModel", "thrown", "I", false)
  | 1 => ("PagePartsModel", "width", "I", true)
  | 2 => ("PagePartsModel", "height", "I", true)
  | 3 => ("PagePartsModel", "black", "[Z", true)
  | 4 => ("PagePartsModel", "noise", "I", false)
  | 5 => ("PagePartsModel", "parted", "Z", false)
  | 6 => ("PagePartsModel", "specks", "[Z", true)
  | 7 => ("PagePartsModel", "clean", "[Z", true)
  | 8 => ("PagePartsModel", "ink", "[Z", true)
  | 9 => ("PagePartsModel", "covered", "[Z", true)
  | 10 => ("PagePartsModel", "labels", "[I", true)
  | 11 => ("PagePartsModel", "partOf", "[I", true)
  | 12 => ("PagePartsModel", "parts", "I", false)
  | 13 => ("PagePartsModel", "lefts", "[I", true)
  | 14 => ("PagePartsModel", "tops", "[I", true)
  | 15 => ("PagePartsModel", "rights", "[I", true)
  | 16 => ("PagePartsModel", "bottoms", "[I", true)
  | 17 => ("PagePartsModel", "kinds", "[I", true)
  | 18 => ("PagePartsModel", "order", "[I", true)
  | 19 => ("PagePartsModel", "covers", "I", false)
  | 20 => ("PagePartsModel", "coverRows", "[I", true)
  | 21 => ("PagePartsModel", "strips", "I", false)
  | 22 => ("PagePartsModel", "stripOf", "[I", true)
  | 23 => ("PagePartsModel", "cells", "I", false)
  | 24 => ("PagePartsModel", "cellOf", "[I", true)
  | 25 => ("PagePartsModel", "from", "[I", true)
  | _ => ("PagePartsModel", "to", "[I", true)
def ty_M : Nat → FieldType := fun k => match k with
  | 0 => .int
  | 1 => .int
  | 2 => .int
  | 3 => .array .boolean
  | 4 => .int
  | 5 => .boolean
  | 6 => .array .boolean
  | 7 => .array .boolean
  | 8 => .array .boolean
  | 9 => .array .boolean
  | 10 => .array .int
  | 11 => .array .int
  | 12 => .int
  | 13 => .array .int
  | 14 => .array .int
  | 15 => .array .int
  | 16 => .array .int
  | 17 => .array .int
  | 18 => .array .int
  | 19 => .int
  | 20 => .array .int
  | 21 => .int
  | 22 => .array .int
  | 23 => .int
  | 24 => .array .int
  | 25 => .array .int
  | _ => .array .int
def R_L : String := "PagePartsLaw"
def R_A : String := "java/util/Arrays"
abbrev z_cl : List vw_C := [(R_P, F_P, 15), (R_G, F_G, 10), (R_C, F_C, 9), (R_R, F_R, 6), (R_M, F_M, 27)]
theorem cl_P : z_cl[0]? = some (R_P, F_P, 15) := rfl
theorem cl_G : z_cl[1]? = some (R_G, F_G, 10) := rfl
theorem cl_C : z_cl[2]? = some (R_C, F_C, 9) := rfl
theorem cl_R : z_cl[3]? = some (R_R, F_R, 6) := rfl
theorem cl_M : z_cl[4]? = some (R_M, F_M, 27) := rfl
abbrev b_P_init : ByteArray := prog_1_method_1_code
def y_P_init : MethodName := ⟨R_P, "<init>", "(II)V"⟩
abbrev b_P_put : ByteArray := prog_1_method_2_code
def y_P_put : MethodName := ⟨R_P, "put", "(IIZ)Z"⟩
abbrev b_P_fill : ByteArray := prog_1_method_3_code
def y_P_fill : MethodName := ⟨R_P, "fill", "(IIIIZ)I"⟩
abbrev b_P_noise : ByteArray := prog_1_method_4_code
def y_P_noise : MethodName := ⟨R_P, "noise", "(I)I"⟩
abbrev b_P_run : ByteArray := prog_1_method_5_code
def y_P_run : MethodName := ⟨R_P, "run", "(II)I"⟩
abbrev b_P_part : ByteArray := prog_1_method_6_code
def y_P_part : MethodName := ⟨R_P, "part", "(II)I"⟩
abbrev b_P_partOf : ByteArray := prog_1_method_7_code
def y_P_partOf : MethodName := ⟨R_P, "partOf", "(II)I"⟩
abbrev b_P_line : ByteArray := prog_1_method_8_code
def y_P_line : MethodName := ⟨R_P, "line", "(III)I"⟩
abbrev b_P_order : ByteArray := prog_1_method_9_code
def y_P_order : MethodName := ⟨R_P, "order", "(I)I"⟩
abbrev b_P_cover : ByteArray := prog_1_method_10_code
def y_P_cover : MethodName := ⟨R_P, "cover", "(II)I"⟩
abbrev b_P_strip : ByteArray := prog_1_method_11_code
def y_P_strip : MethodName := ⟨R_P, "strip", "(I)I"⟩
abbrev b_P_cell : ByteArray := prog_1_method_12_code
def y_P_cell : MethodName := ⟨R_P, "cell", "(II)I"⟩
abbrev b_P_isSpeck : ByteArray := prog_1_method_13_code
def y_P_isSpeck : MethodName := ⟨R_P, "isSpeck", "(II)Z"⟩
abbrev b_P_told : ByteArray := prog_1_method_14_code
def y_P_told : MethodName := ⟨R_P, "told", "(I)I"⟩
abbrev b_P_clear : ByteArray := prog_1_method_15_code
def y_P_clear : MethodName := ⟨R_P, "clear", "()V"⟩
abbrev b_P_nearestSide : ByteArray := prog_1_method_16_code
def y_P_nearestSide : MethodName := ⟨R_P, "nearestSide", "(I)I"⟩
abbrev b_P_mustBeParted : ByteArray := prog_1_method_17_code
def y_P_mustBeParted : MethodName := ⟨R_P, "mustBeParted", "()V"⟩
abbrev b_P_mustBeSample : ByteArray := prog_1_method_18_code
def y_P_mustBeSample : MethodName := ⟨R_P, "mustBeSample", "(II)V"⟩
abbrev b_P_mustBeBelow : ByteArray := prog_1_method_19_code
def y_P_mustBeBelow : MethodName := ⟨R_P, "mustBeBelow", "(II)V"⟩
abbrev b_P_mustBeTold : ByteArray := prog_1_method_20_code
def y_P_mustBeTold : MethodName := ⟨R_P, "mustBeTold", "(II)V"⟩
abbrev b_P_paint : ByteArray := prog_1_method_21_code
def y_P_paint : MethodName := ⟨R_P, "paint", "(IIZ)Z"⟩
abbrev b_P_toldOfParted : ByteArray := prog_1_method_22_code
def y_P_toldOfParted : MethodName := ⟨R_P, "toldOfParted", "(I)I"⟩
abbrev b_P_findClean : ByteArray := prog_1_method_23_code
def y_P_findClean : MethodName := ⟨R_P, "findClean", "()V"⟩
abbrev b_P_smear : ByteArray := prog_1_method_24_code
def y_P_smear : MethodName := ⟨R_P, "smear", "(II)V"⟩
abbrev b_P_smearAlong : ByteArray := prog_1_method_25_code
def y_P_smearAlong : MethodName := ⟨R_P, "smearAlong", "(IIII)V"⟩
abbrev b_P_findStrips : ByteArray := prog_1_method_26_code
def y_P_findStrips : MethodName := ⟨R_P, "findStrips", "()V"⟩
abbrev b_P_hasInk : ByteArray := prog_1_method_27_code
def y_P_hasInk : MethodName := ⟨R_P, "hasInk", "(I)Z"⟩
abbrev b_P_weightOf : ByteArray := prog_1_method_28_code
def y_P_weightOf : MethodName := ⟨R_P, "weightOf", "(I)I"⟩
abbrev b_P_kindOf : ByteArray := prog_1_method_29_code
def y_P_kindOf : MethodName := ⟨R_P, "kindOf", "(I)I"⟩
abbrev b_P_isThin : ByteArray := prog_1_method_30_code
def y_P_isThin : MethodName := ⟨R_P, "isThin", "(II)Z"⟩
abbrev b_P_isFramed : ByteArray := prog_1_method_31_code
def y_P_isFramed : MethodName := ⟨R_P, "isFramed", "(I)Z"⟩
abbrev b_P_isMostlyEmptyWithin : ByteArray := prog_1_method_32_code
def y_P_isMostlyEmptyWithin : MethodName := ⟨R_P, "isMostlyEmptyWithin", "(I)Z"⟩
abbrev b_P_countClean : ByteArray := prog_1_method_33_code
def y_P_countClean : MethodName := ⟨R_P, "countClean", "(IIII)I"⟩
abbrev b_P_countLines : ByteArray := prog_1_method_34_code
def y_P_countLines : MethodName := ⟨R_P, "countLines", "(I)I"⟩
abbrev b_P_firstRowOfLine : ByteArray := prog_1_method_35_code
def y_P_firstRowOfLine : MethodName := ⟨R_P, "firstRowOfLine", "(II)I"⟩
abbrev b_P_countRowsOfLine : ByteArray := prog_1_method_36_code
def y_P_countRowsOfLine : MethodName := ⟨R_P, "countRowsOfLine", "(II)I"⟩
abbrev b_P_beginsLine : ByteArray := prog_1_method_37_code
def y_P_beginsLine : MethodName := ⟨R_P, "beginsLine", "(II)Z"⟩
abbrev b_P_hasCleanOf : ByteArray := prog_1_method_38_code
def y_P_hasCleanOf : MethodName := ⟨R_P, "hasCleanOf", "(II)Z"⟩
abbrev b_G_init : ByteArray := prog_3_method_1_code
def y_G_init : MethodName := ⟨R_G, "<init>", "(II)V"⟩
abbrev b_G_find : ByteArray := prog_3_method_2_code
def y_G_find : MethodName := ⟨R_G, "find", "([ZZZ)V"⟩
abbrev b_G_isOpen : ByteArray := prog_3_method_3_code
def y_G_isOpen : MethodName := ⟨R_G, "isOpen", "([ZZII)Z"⟩
abbrev b_G_begin : ByteArray := prog_3_method_4_code
def y_G_begin : MethodName := ⟨R_G, "begin", "(II)V"⟩
abbrev b_G_take : ByteArray := prog_3_method_5_code
def y_G_take : MethodName := ⟨R_G, "take", "(II)V"⟩
abbrev b_G_gather : ByteArray := prog_3_method_6_code
def y_G_gather : MethodName := ⟨R_G, "gather", "([ZZZ)V"⟩
abbrev b_G_dropAtEdge : ByteArray := prog_3_method_7_code
def y_G_dropAtEdge : MethodName := ⟨R_G, "dropAtEdge", "()V"⟩
abbrev b_G_wideOf : ByteArray := prog_3_method_8_code
def y_G_wideOf : MethodName := ⟨R_G, "wideOf", "(I)I"⟩
abbrev b_G_highOf : ByteArray := prog_3_method_9_code
def y_G_highOf : MethodName := ⟨R_G, "highOf", "(I)I"⟩
abbrev b_G_boxOf : ByteArray := prog_3_method_10_code
def y_G_boxOf : MethodName := ⟨R_G, "boxOf", "(II)I"⟩
abbrev b_C_init : ByteArray := prog_2_method_1_code
def y_C_init : MethodName := ⟨R_C, "<init>", "(II)V"⟩
abbrev b_C_find : ByteArray := prog_2_method_2_code
def y_C_find : MethodName := ⟨R_C, "find", "([Z)V"⟩
abbrev b_C_measure : ByteArray := prog_2_method_3_code
def y_C_measure : MethodName := ⟨R_C, "measure", "([Z)V"⟩
abbrev b_C_findGreatest : ByteArray := prog_2_method_4_code
def y_C_findGreatest : MethodName := ⟨R_C, "findGreatest", "(I)V"⟩
abbrev b_C_growFrom : ByteArray := prog_2_method_5_code
def y_C_growFrom : MethodName := ⟨R_C, "growFrom", "(III)V"⟩
abbrev b_C_block : ByteArray := prog_2_method_6_code
def y_C_block : MethodName := ⟨R_C, "block", "(I)V"⟩
abbrev b_C_shortenBefore : ByteArray := prog_2_method_7_code
def y_C_shortenBefore : MethodName := ⟨R_C, "shortenBefore", "(II)V"⟩
abbrev b_R_init : ByteArray := prog_4_method_1_code
def y_R_init : MethodName := ⟨R_R, "<init>", "()V"⟩
abbrev b_R_arrange : ByteArray := prog_4_method_2_code
def y_R_arrange : MethodName := ⟨R_R, "arrange", "(LPageParts$Groups;)V"⟩
abbrev b_R_sortByBoxes : ByteArray := prog_4_method_3_code
def y_R_sortByBoxes : MethodName := ⟨R_R, "sortByBoxes", "(LPageParts$Groups;)V"⟩
abbrev b_R_isBefore : ByteArray := prog_4_method_4_code
def y_R_isBefore : MethodName := ⟨R_R, "isBefore", "(LPageParts$Groups;II)Z"⟩
abbrev b_R_findCut : ByteArray := prog_4_method_5_code
def y_R_findCut : MethodName := ⟨R_R, "findCut", "(LPageParts$Groups;II)Z"⟩
abbrev b_R_lookAlong : ByteArray := prog_4_method_6_code
def y_R_lookAlong : MethodName := ⟨R_R, "lookAlong", "([I[IIIZ)V"⟩
abbrev b_R_bits : ByteArray := prog_4_method_7_code
def y_R_bits : MethodName := ⟨R_R, "bits", "(II)I"⟩
abbrev b_R_hasBit : ByteArray := prog_4_method_8_code
def y_R_hasBit : MethodName := ⟨R_R, "hasBit", "(II)Z"⟩
abbrev b_R_divide : ByteArray := prog_4_method_9_code
def y_R_divide : MethodName := ⟨R_R, "divide", "(LPageParts$Groups;II)I"⟩
abbrev b_M_init : ByteArray := prog_6_method_1_code
def y_M_init : MethodName := ⟨R_M, "<init>", "(II)V"⟩
abbrev b_M_nearest : ByteArray := prog_6_method_2_code
def y_M_nearest : MethodName := ⟨R_M, "nearest", "(I)I"⟩
abbrev b_M_thrown : ByteArray := prog_6_method_3_code
def y_M_thrown : MethodName := ⟨R_M, "thrown", "()I"⟩
abbrev b_M_in : ByteArray := prog_6_method_4_code
def y_M_in : MethodName := ⟨R_M, "in", "(III)Z"⟩
abbrev b_M_isSample : ByteArray := prog_6_method_5_code
def y_M_isSample : MethodName := ⟨R_M, "isSample", "(II)Z"⟩
abbrev b_M_goes : ByteArray := prog_6_method_6_code
def y_M_goes : MethodName := ⟨R_M, "goes", "(ZZZ)Z"⟩
abbrev b_M_put : ByteArray := prog_6_method_7_code
def y_M_put : MethodName := ⟨R_M, "put", "(IIZ)Z"⟩
abbrev b_M_fill : ByteArray := prog_6_method_8_code
def y_M_fill : MethodName := ⟨R_M, "fill", "(IIIIZ)I"⟩
abbrev b_M_noise : ByteArray := prog_6_method_9_code
def y_M_noise : MethodName := ⟨R_M, "noise", "(I)I"⟩
abbrev b_M_clear : ByteArray := prog_6_method_10_code
def y_M_clear : MethodName := ⟨R_M, "clear", "()V"⟩
abbrev b_M_is : ByteArray := prog_6_method_11_code
def y_M_is : MethodName := ⟨R_M, "is", "(II)Z"⟩
abbrev b_M_group : ByteArray := prog_6_method_12_code
def y_M_group : MethodName := ⟨R_M, "group", "(IZ)V"⟩
abbrev b_M_settles : ByteArray := prog_6_method_13_code
def y_M_settles : MethodName := ⟨R_M, "settles", "(IIZ)Z"⟩
abbrev b_M_sizeOf : ByteArray := prog_6_method_14_code
def y_M_sizeOf : MethodName := ⟨R_M, "sizeOf", "(I)I"⟩
abbrev b_M_inGap : ByteArray := prog_6_method_15_code
def y_M_inGap : MethodName := ⟨R_M, "inGap", "(IIIII)Z"⟩
abbrev b_M_takeInk : ByteArray := prog_6_method_16_code
def y_M_takeInk : MethodName := ⟨R_M, "takeInk", "(II)V"⟩
abbrev b_M_cleanIn : ByteArray := prog_6_method_17_code
def y_M_cleanIn : MethodName := ⟨R_M, "cleanIn", "(IIIII)I"⟩
abbrev b_M_takeParts : ByteArray := prog_6_method_18_code
def y_M_takeParts : MethodName := ⟨R_M, "takeParts", "()V"⟩
abbrev b_M_kindOf : ByteArray := prog_6_method_19_code
def y_M_kindOf : MethodName := ⟨R_M, "kindOf", "(IIII)I"⟩
abbrev b_M_takeCover : ByteArray := prog_6_method_20_code
def y_M_takeCover : MethodName := ⟨R_M, "takeCover", "()Z"⟩
abbrev b_M_takeCovers : ByteArray := prog_6_method_21_code
def y_M_takeCovers : MethodName := ⟨R_M, "takeCovers", "()V"⟩
abbrev b_M_takeStrips : ByteArray := prog_6_method_22_code
def y_M_takeStrips : MethodName := ⟨R_M, "takeStrips", "()V"⟩
abbrev b_M_takeCells : ByteArray := prog_6_method_23_code
def y_M_takeCells : MethodName := ⟨R_M, "takeCells", "()V"⟩
abbrev b_M_isClosed : ByteArray := prog_6_method_24_code
def y_M_isClosed : MethodName := ⟨R_M, "isClosed", "(I)Z"⟩
abbrev b_M_low : ByteArray := prog_6_method_25_code
def y_M_low : MethodName := ⟨R_M, "low", "(IZ)I"⟩
abbrev b_M_high : ByteArray := prog_6_method_26_code
def y_M_high : MethodName := ⟨R_M, "high", "(IZ)I"⟩
abbrev b_M_gap : ByteArray := prog_6_method_27_code
def y_M_gap : MethodName := ⟨R_M, "gap", "(IZII)I"⟩
abbrev b_M_swap : ByteArray := prog_6_method_28_code
def y_M_swap : MethodName := ⟨R_M, "swap", "(II)V"⟩
abbrev b_M_isBefore : ByteArray := prog_6_method_29_code
def y_M_isBefore : MethodName := ⟨R_M, "isBefore", "(II)Z"⟩
abbrev b_M_sort : ByteArray := prog_6_method_30_code
def y_M_sort : MethodName := ⟨R_M, "sort", "(II)V"⟩
abbrev b_M_parts : ByteArray := prog_6_method_31_code
def y_M_parts : MethodName := ⟨R_M, "parts", "(II)I"⟩
abbrev b_M_takeOrder : ByteArray := prog_6_method_32_code
def y_M_takeOrder : MethodName := ⟨R_M, "takeOrder", "()V"⟩
abbrev b_M_run : ByteArray := prog_6_method_33_code
def y_M_run : MethodName := ⟨R_M, "run", "(II)I"⟩
abbrev b_M_lines : ByteArray := prog_6_method_34_code
def y_M_lines : MethodName := ⟨R_M, "lines", "(I)I"⟩
abbrev b_M_inkOf : ByteArray := prog_6_method_35_code
def y_M_inkOf : MethodName := ⟨R_M, "inkOf", "(I)I"⟩
abbrev b_M_part : ByteArray := prog_6_method_36_code
def y_M_part : MethodName := ⟨R_M, "part", "(II)I"⟩
abbrev b_M_partOf : ByteArray := prog_6_method_37_code
def y_M_partOf : MethodName := ⟨R_M, "partOf", "(II)I"⟩
abbrev b_M_line : ByteArray := prog_6_method_38_code
def y_M_line : MethodName := ⟨R_M, "line", "(III)I"⟩
abbrev b_M_order : ByteArray := prog_6_method_39_code
def y_M_order : MethodName := ⟨R_M, "order", "(I)I"⟩
abbrev b_M_cover : ByteArray := prog_6_method_40_code
def y_M_cover : MethodName := ⟨R_M, "cover", "(II)I"⟩
abbrev b_M_strip : ByteArray := prog_6_method_41_code
def y_M_strip : MethodName := ⟨R_M, "strip", "(I)I"⟩
abbrev b_M_cell : ByteArray := prog_6_method_42_code
def y_M_cell : MethodName := ⟨R_M, "cell", "(II)I"⟩
abbrev b_M_isSpeck : ByteArray := prog_6_method_43_code
def y_M_isSpeck : MethodName := ⟨R_M, "isSpeck", "(II)Z"⟩
abbrev b_M_told : ByteArray := prog_6_method_44_code
def y_M_told : MethodName := ⟨R_M, "told", "(I)I"⟩
abbrev b_L_cell : ByteArray := method_2_code
def y_L_cell : MethodName := ⟨R_L, "cell", "([II)I"⟩
abbrev b_L_put : ByteArray := method_3_code
def y_L_put : MethodName := ⟨R_L, "put", "(LPageParts;IIZ[J)I"⟩
abbrev b_L_fill : ByteArray := method_4_code
def y_L_fill : MethodName := ⟨R_L, "fill", "(LPageParts;IIIIZ[J)I"⟩
abbrev b_L_noise : ByteArray := method_5_code
def y_L_noise : MethodName := ⟨R_L, "noise", "(LPageParts;I[J)I"⟩
abbrev b_L_run : ByteArray := method_6_code
def y_L_run : MethodName := ⟨R_L, "run", "(LPageParts;II[J)I"⟩
abbrev b_L_part : ByteArray := method_7_code
def y_L_part : MethodName := ⟨R_L, "part", "(LPageParts;II[J)I"⟩
abbrev b_L_partOf : ByteArray := method_8_code
def y_L_partOf : MethodName := ⟨R_L, "partOf", "(LPageParts;II[J)I"⟩
abbrev b_L_line : ByteArray := method_9_code
def y_L_line : MethodName := ⟨R_L, "line", "(LPageParts;III[J)I"⟩
abbrev b_L_order : ByteArray := method_10_code
def y_L_order : MethodName := ⟨R_L, "order", "(LPageParts;I[J)I"⟩
abbrev b_L_cover : ByteArray := method_11_code
def y_L_cover : MethodName := ⟨R_L, "cover", "(LPageParts;II[J)I"⟩
abbrev b_L_strip : ByteArray := method_12_code
def y_L_strip : MethodName := ⟨R_L, "strip", "(LPageParts;I[J)I"⟩
abbrev b_L_cell2 : ByteArray := method_13_code
def y_L_cell2 : MethodName := ⟨R_L, "cell", "(LPageParts;II[J)I"⟩
abbrev b_L_isSpeck : ByteArray := method_14_code
def y_L_isSpeck : MethodName := ⟨R_L, "isSpeck", "(LPageParts;II[J)I"⟩
abbrev b_L_law : ByteArray := code
def y_L_law : MethodName := ⟨R_L, "law", "([I)Z"⟩
abbrev b_A_fill : ByteArray := prog_16_method_103_code
def y_A_fill : MethodName := ⟨R_A, "fill", "([II)V"⟩
def z_gw : List Cond := lw_tbl.filter goodWord
theorem z_gwi {w : Cond} (i : Nat) (h : lw_tbl[i]? = some w) (hg : goodWord w = true) : w ∈ z_gw := List.mem_filter.mpr ⟨List.mem_of_getElem? h, hg⟩
theorem z_gws {ws : List Cond} (h : ∀ w ∈ ws, w ∈ lw_tbl ∧ goodWord w = true) : ∀ w ∈ ws, w ∈ z_gw := fun w hw => List.mem_filter.mpr (h w hw)
theorem iw_P : ∀ w ∈ u_ws R_P F_P 15, w ∈ z_gw := z_gws (by decide +kernel)
theorem ty_P_ok : ∀ k, k < 15 → parseFieldDescriptor (F_P k).2.2.1 = some (ty_P k) := by decide +kernel
theorem n_P : ∀ a, a < 15 → ∀ b, b < 15 → a ≠ b → (F_P a).2.1 ≠ (F_P b).2.1 := by decide +kernel
theorem iw_G : ∀ w ∈ u_ws R_G F_G 10, w ∈ z_gw := z_gws (by decide +kernel)
theorem ty_G_ok : ∀ k, k < 10 → parseFieldDescriptor (F_G k).2.2.1 = some (ty_G k) := by decide +kernel
theorem n_G : ∀ a, a < 10 → ∀ b, b < 10 → a ≠ b → (F_G a).2.1 ≠ (F_G b).2.1 := by decide +kernel
theorem iw_C : ∀ w ∈ u_ws R_C F_C 9, w ∈ z_gw := z_gws (by decide +kernel)
theorem ty_C_ok : ∀ k, k < 9 → parseFieldDescriptor (F_C k).2.2.1 = some (ty_C k) := by decide +kernel
theorem n_C : ∀ a, a < 9 → ∀ b, b < 9 → a ≠ b → (F_C a).2.1 ≠ (F_C b).2.1 := by decide +kernel
theorem iw_R : ∀ w ∈ u_ws R_R F_R 6, w ∈ z_gw := z_gws (by decide +kernel)
theorem ty_R_ok : ∀ k, k < 6 → parseFieldDescriptor (F_R k).2.2.1 = some (ty_R k) := by decide +kernel
theorem n_R : ∀ a, a < 6 → ∀ b, b < 6 → a ≠ b → (F_R a).2.1 ≠ (F_R b).2.1 := by decide +kernel
theorem iw_M : ∀ w ∈ u_ws R_M F_M 27, w ∈ z_gw := z_gws (by decide +kernel)
theorem ty_M_ok : ∀ k, k < 27 → parseFieldDescriptor (F_M k).2.2.1 = some (ty_M k) := by decide +kernel
theorem n_M : ∀ a, a < 27 → ∀ b, b < 27 → a ≠ b → (F_M a).2.1 ≠ (F_M b).2.1 := by decide +kernel
theorem k_fl_C_15 : Cond.fieldLink R_C 15 "PageParts$Covers" "top" "[I" ∈ z_gw := z_gwi 150 (by decide +kernel) (by decide +kernel)
theorem k_fl_C_18 : Cond.fieldLink R_C 18 "PageParts$Covers" "wide" "[I" ∈ z_gw := z_gwi 152 (by decide +kernel) (by decide +kernel)
theorem k_fl_C_21 : Cond.fieldLink R_C 21 "PageParts$Covers" "high" "[I" ∈ z_gw := z_gwi 154 (by decide +kernel) (by decide +kernel)
theorem k_fl_C_24 : Cond.fieldLink R_C 24 "PageParts$Covers" "reach" "[I" ∈ z_gw := z_gwi 158 (by decide +kernel) (by decide +kernel)
theorem k_fl_C_27 : Cond.fieldLink R_C 27 "PageParts$Covers" "width" "I" ∈ z_gw := z_gwi 159 (by decide +kernel) (by decide +kernel)
theorem k_fl_C_31 : Cond.fieldLink R_C 31 "PageParts$Covers" "height" "I" ∈ z_gw := z_gwi 160 (by decide +kernel) (by decide +kernel)
theorem k_fl_C_38 : Cond.fieldLink R_C 38 "PageParts$Covers" "count" "I" ∈ z_gw := z_gwi 156 (by decide +kernel) (by decide +kernel)
theorem k_fl_C_45 : Cond.fieldLink R_C 45 "PageParts$Covers" "greatest" "I" ∈ z_gw := z_gwi 161 (by decide +kernel) (by decide +kernel)
theorem k_fl_C_9 : Cond.fieldLink R_C 9 "PageParts$Covers" "left" "[I" ∈ z_gw := z_gwi 148 (by decide +kernel) (by decide +kernel)
theorem k_fl_G_15 : Cond.fieldLink R_G 15 "PageParts$Groups" "left" "[I" ∈ z_gw := z_gwi 99 (by decide +kernel) (by decide +kernel)
theorem k_fl_G_18 : Cond.fieldLink R_G 18 "PageParts$Groups" "top" "[I" ∈ z_gw := z_gwi 102 (by decide +kernel) (by decide +kernel)
theorem k_fl_G_21 : Cond.fieldLink R_G 21 "PageParts$Groups" "right" "[I" ∈ z_gw := z_gwi 105 (by decide +kernel) (by decide +kernel)
theorem k_fl_G_24 : Cond.fieldLink R_G 24 "PageParts$Groups" "bottom" "[I" ∈ z_gw := z_gwi 108 (by decide +kernel) (by decide +kernel)
theorem k_fl_G_27 : Cond.fieldLink R_G 27 "PageParts$Groups" "size" "[I" ∈ z_gw := z_gwi 111 (by decide +kernel) (by decide +kernel)
theorem k_fl_G_30 : Cond.fieldLink R_G 30 "PageParts$Groups" "queue" "[I" ∈ z_gw := z_gwi 116 (by decide +kernel) (by decide +kernel)
theorem k_fl_G_33 : Cond.fieldLink R_G 33 "PageParts$Groups" "width" "I" ∈ z_gw := z_gwi 117 (by decide +kernel) (by decide +kernel)
theorem k_fl_G_37 : Cond.fieldLink R_G 37 "PageParts$Groups" "height" "I" ∈ z_gw := z_gwi 118 (by decide +kernel) (by decide +kernel)
theorem k_fl_G_46 : Cond.fieldLink R_G 46 "PageParts$Groups" "count" "I" ∈ z_gw := z_gwi 113 (by decide +kernel) (by decide +kernel)
theorem k_fl_G_9 : Cond.fieldLink R_G 9 "PageParts$Groups" "label" "[I" ∈ z_gw := z_gwi 97 (by decide +kernel) (by decide +kernel)
theorem k_fl_M_116 : Cond.fieldLink R_M 116 "PagePartsModel" "parts" "I" ∈ z_gw := z_gwi 661 (by decide +kernel) (by decide +kernel)
theorem k_fl_M_127 : Cond.fieldLink R_M 127 "PagePartsModel" "covers" "I" ∈ z_gw := z_gwi 668 (by decide +kernel) (by decide +kernel)
theorem k_fl_M_13 : Cond.fieldLink R_M 13 "PagePartsModel" "noise" "I" ∈ z_gw := z_gwi 653 (by decide +kernel) (by decide +kernel)
theorem k_fl_M_134 : Cond.fieldLink R_M 134 "PagePartsModel" "strips" "I" ∈ z_gw := z_gwi 670 (by decide +kernel) (by decide +kernel)
theorem k_fl_M_137 : Cond.fieldLink R_M 137 "PagePartsModel" "cells" "I" ∈ z_gw := z_gwi 672 (by decide +kernel) (by decide +kernel)
theorem k_fl_M_17 : Cond.fieldLink R_M 17 "PagePartsModel" "specks" "[Z" ∈ z_gw := z_gwi 655 (by decide +kernel) (by decide +kernel)
theorem k_fl_M_20 : Cond.fieldLink R_M 20 "PagePartsModel" "clean" "[Z" ∈ z_gw := z_gwi 656 (by decide +kernel) (by decide +kernel)
theorem k_fl_M_23 : Cond.fieldLink R_M 23 "PagePartsModel" "ink" "[Z" ∈ z_gw := z_gwi 657 (by decide +kernel) (by decide +kernel)
theorem k_fl_M_26 : Cond.fieldLink R_M 26 "PagePartsModel" "covered" "[Z" ∈ z_gw := z_gwi 658 (by decide +kernel) (by decide +kernel)
theorem k_fl_M_29 : Cond.fieldLink R_M 29 "PagePartsModel" "labels" "[I" ∈ z_gw := z_gwi 659 (by decide +kernel) (by decide +kernel)
theorem k_fl_M_33 : Cond.fieldLink R_M 33 "PagePartsModel" "partOf" "[I" ∈ z_gw := z_gwi 660 (by decide +kernel) (by decide +kernel)
theorem k_fl_M_36 : Cond.fieldLink R_M 36 "PagePartsModel" "lefts" "[I" ∈ z_gw := z_gwi 662 (by decide +kernel) (by decide +kernel)
theorem k_fl_M_39 : Cond.fieldLink R_M 39 "PagePartsModel" "tops" "[I" ∈ z_gw := z_gwi 663 (by decide +kernel) (by decide +kernel)
theorem k_fl_M_42 : Cond.fieldLink R_M 42 "PagePartsModel" "rights" "[I" ∈ z_gw := z_gwi 664 (by decide +kernel) (by decide +kernel)
theorem k_fl_M_45 : Cond.fieldLink R_M 45 "PagePartsModel" "bottoms" "[I" ∈ z_gw := z_gwi 665 (by decide +kernel) (by decide +kernel)
theorem k_fl_M_48 : Cond.fieldLink R_M 48 "PagePartsModel" "kinds" "[I" ∈ z_gw := z_gwi 666 (by decide +kernel) (by decide +kernel)
theorem k_fl_M_51 : Cond.fieldLink R_M 51 "PagePartsModel" "order" "[I" ∈ z_gw := z_gwi 667 (by decide +kernel) (by decide +kernel)
theorem k_fl_M_54 : Cond.fieldLink R_M 54 "PagePartsModel" "coverRows" "[I" ∈ z_gw := z_gwi 669 (by decide +kernel) (by decide +kernel)
theorem k_fl_M_57 : Cond.fieldLink R_M 57 "PagePartsModel" "stripOf" "[I" ∈ z_gw := z_gwi 671 (by decide +kernel) (by decide +kernel)
theorem k_fl_M_60 : Cond.fieldLink R_M 60 "PagePartsModel" "cellOf" "[I" ∈ z_gw := z_gwi 673 (by decide +kernel) (by decide +kernel)
theorem k_fl_M_63 : Cond.fieldLink R_M 63 "PagePartsModel" "from" "[I" ∈ z_gw := z_gwi 674 (by decide +kernel) (by decide +kernel)
theorem k_fl_M_66 : Cond.fieldLink R_M 66 "PagePartsModel" "to" "[I" ∈ z_gw := z_gwi 675 (by decide +kernel) (by decide +kernel)
theorem k_fl_M_7 : Cond.fieldLink R_M 7 "PagePartsModel" "black" "[Z" ∈ z_gw := z_gwi 652 (by decide +kernel) (by decide +kernel)
theorem k_fl_M_73 : Cond.fieldLink R_M 73 "PagePartsModel" "width" "I" ∈ z_gw := z_gwi 650 (by decide +kernel) (by decide +kernel)
theorem k_fl_M_76 : Cond.fieldLink R_M 76 "PagePartsModel" "height" "I" ∈ z_gw := z_gwi 651 (by decide +kernel) (by decide +kernel)
theorem k_fl_M_79 : Cond.fieldLink R_M 79 "PagePartsModel" "thrown" "I" ∈ z_gw := z_gwi 649 (by decide +kernel) (by decide +kernel)
theorem k_fl_M_94 : Cond.fieldLink R_M 94 "PagePartsModel" "parted" "Z" ∈ z_gw := z_gwi 654 (by decide +kernel) (by decide +kernel)
theorem k_fl_P_114 : Cond.fieldLink R_P 114 "PageParts$Groups" "count" "I" ∈ z_gw := z_gwi 115 (by decide +kernel) (by decide +kernel)
theorem k_fl_P_13 : Cond.fieldLink R_P 13 "PageParts" "clean" "[Z" ∈ z_gw := z_gwi 210 (by decide +kernel) (by decide +kernel)
theorem k_fl_P_135 : Cond.fieldLink R_P 135 "PageParts$Groups" "size" "[I" ∈ z_gw := z_gwi 112 (by decide +kernel) (by decide +kernel)
theorem k_fl_P_141 : Cond.fieldLink R_P 141 "PageParts$Groups" "label" "[I" ∈ z_gw := z_gwi 98 (by decide +kernel) (by decide +kernel)
theorem k_fl_P_150 : Cond.fieldLink R_P 150 "PageParts$Reading" "sequence" "[I" ∈ z_gw := z_gwi 188 (by decide +kernel) (by decide +kernel)
theorem k_fl_P_153 : Cond.fieldLink R_P 153 "PageParts$Covers" "count" "I" ∈ z_gw := z_gwi 157 (by decide +kernel) (by decide +kernel)
theorem k_fl_P_154 : Cond.fieldLink R_P 154 "PageParts$Covers" "left" "[I" ∈ z_gw := z_gwi 149 (by decide +kernel) (by decide +kernel)
theorem k_fl_P_157 : Cond.fieldLink R_P 157 "PageParts$Covers" "top" "[I" ∈ z_gw := z_gwi 151 (by decide +kernel) (by decide +kernel)
theorem k_fl_P_16 : Cond.fieldLink R_P 16 "PageParts" "ink" "[Z" ∈ z_gw := z_gwi 211 (by decide +kernel) (by decide +kernel)
theorem k_fl_P_160 : Cond.fieldLink R_P 160 "PageParts$Covers" "wide" "[I" ∈ z_gw := z_gwi 153 (by decide +kernel) (by decide +kernel)
theorem k_fl_P_163 : Cond.fieldLink R_P 163 "PageParts$Covers" "high" "[I" ∈ z_gw := z_gwi 155 (by decide +kernel) (by decide +kernel)
theorem k_fl_P_166 : Cond.fieldLink R_P 166 "PageParts" "blackCount" "I" ∈ z_gw := z_gwi 217 (by decide +kernel) (by decide +kernel)
theorem k_fl_P_189 : Cond.fieldLink R_P 189 "PageParts" "stripCount" "I" ∈ z_gw := z_gwi 219 (by decide +kernel) (by decide +kernel)
theorem k_fl_P_19 : Cond.fieldLink R_P 19 "PageParts" "strips" "[I" ∈ z_gw := z_gwi 212 (by decide +kernel) (by decide +kernel)
theorem k_fl_P_192 : Cond.fieldLink R_P 192 "PageParts" "cleanCount" "I" ∈ z_gw := z_gwi 218 (by decide +kernel) (by decide +kernel)
theorem k_fl_P_219 : Cond.fieldLink R_P 219 "PageParts$Groups" "left" "[I" ∈ z_gw := z_gwi 101 (by decide +kernel) (by decide +kernel)
theorem k_fl_P_220 : Cond.fieldLink R_P 220 "PageParts$Groups" "top" "[I" ∈ z_gw := z_gwi 104 (by decide +kernel) (by decide +kernel)
theorem k_fl_P_225 : Cond.fieldLink R_P 225 "PageParts$Groups" "bottom" "[I" ∈ z_gw := z_gwi 110 (by decide +kernel) (by decide +kernel)
theorem k_fl_P_228 : Cond.fieldLink R_P 228 "PageParts$Groups" "right" "[I" ∈ z_gw := z_gwi 107 (by decide +kernel) (by decide +kernel)
theorem k_fl_P_27 : Cond.fieldLink R_P 27 "PageParts" "width" "I" ∈ z_gw := z_gwi 207 (by decide +kernel) (by decide +kernel)
theorem k_fl_P_31 : Cond.fieldLink R_P 31 "PageParts" "height" "I" ∈ z_gw := z_gwi 208 (by decide +kernel) (by decide +kernel)
theorem k_fl_P_39 : Cond.fieldLink R_P 39 "PageParts" "parts" "LPageParts$Groups;" ∈ z_gw := z_gwi 213 (by decide +kernel) (by decide +kernel)
theorem k_fl_P_43 : Cond.fieldLink R_P 43 "PageParts" "cells" "LPageParts$Groups;" ∈ z_gw := z_gwi 214 (by decide +kernel) (by decide +kernel)
theorem k_fl_P_49 : Cond.fieldLink R_P 49 "PageParts" "covers" "LPageParts$Covers;" ∈ z_gw := z_gwi 215 (by decide +kernel) (by decide +kernel)
theorem k_fl_P_56 : Cond.fieldLink R_P 56 "PageParts" "reading" "LPageParts$Reading;" ∈ z_gw := z_gwi 216 (by decide +kernel) (by decide +kernel)
theorem k_fl_P_60 : Cond.fieldLink R_P 60 "PageParts" "noiseNow" "I" ∈ z_gw := z_gwi 220 (by decide +kernel) (by decide +kernel)
theorem k_fl_P_66 : Cond.fieldLink R_P 66 "PageParts" "parted" "Z" ∈ z_gw := z_gwi 221 (by decide +kernel) (by decide +kernel)
theorem k_fl_P_9 : Cond.fieldLink R_P 9 "PageParts" "black" "[Z" ∈ z_gw := z_gwi 209 (by decide +kernel) (by decide +kernel)
theorem k_fl_R_15 : Cond.fieldLink R_R 15 "PageParts$Reading" "behind" "[I" ∈ z_gw := z_gwi 189 (by decide +kernel) (by decide +kernel)
theorem k_fl_R_18 : Cond.fieldLink R_R 18 "PageParts$Reading" "ends" "[I" ∈ z_gw := z_gwi 190 (by decide +kernel) (by decide +kernel)
theorem k_fl_R_25 : Cond.fieldLink R_R 25 "PageParts$Groups" "count" "I" ∈ z_gw := z_gwi 114 (by decide +kernel) (by decide +kernel)
theorem k_fl_R_42 : Cond.fieldLink R_R 42 "PageParts$Groups" "top" "[I" ∈ z_gw := z_gwi 103 (by decide +kernel) (by decide +kernel)
theorem k_fl_R_45 : Cond.fieldLink R_R 45 "PageParts$Groups" "left" "[I" ∈ z_gw := z_gwi 100 (by decide +kernel) (by decide +kernel)
theorem k_fl_R_48 : Cond.fieldLink R_R 48 "PageParts$Reading" "cutGap" "I" ∈ z_gw := z_gwi 192 (by decide +kernel) (by decide +kernel)
theorem k_fl_R_51 : Cond.fieldLink R_R 51 "PageParts$Groups" "right" "[I" ∈ z_gw := z_gwi 106 (by decide +kernel) (by decide +kernel)
theorem k_fl_R_58 : Cond.fieldLink R_R 58 "PageParts$Groups" "bottom" "[I" ∈ z_gw := z_gwi 109 (by decide +kernel) (by decide +kernel)
theorem k_fl_R_69 : Cond.fieldLink R_R 69 "PageParts$Reading" "cutAt" "I" ∈ z_gw := z_gwi 191 (by decide +kernel) (by decide +kernel)
theorem k_fl_R_72 : Cond.fieldLink R_R 72 "PageParts$Reading" "cutsRows" "Z" ∈ z_gw := z_gwi 193 (by decide +kernel) (by decide +kernel)
theorem k_fl_R_9 : Cond.fieldLink R_R 9 "PageParts$Reading" "sequence" "[I" ∈ z_gw := z_gwi 187 (by decide +kernel) (by decide +kernel)
theorem k_ml_C_3 : Cond.methodLink R_C 3 objectInit ∈ z_gw := z_gwi 147 (by decide +kernel) (by decide +kernel)
theorem k_ml_C_34 : Cond.methodLink R_C 34 y_C_measure ∈ z_gw := z_gwi 433 (by decide +kernel) (by decide +kernel)
theorem k_ml_C_41 : Cond.methodLink R_C 41 y_C_findGreatest ∈ z_gw := z_gwi 437 (by decide +kernel) (by decide +kernel)
theorem k_ml_C_48 : Cond.methodLink R_C 48 y_C_block ∈ z_gw := z_gwi 446 (by decide +kernel) (by decide +kernel)
theorem k_ml_C_51 : Cond.methodLink R_C 51 y_C_growFrom ∈ z_gw := z_gwi 441 (by decide +kernel) (by decide +kernel)
theorem k_ml_C_55 : Cond.methodLink R_C 55 Lib.Math.min.name ∈ z_gw := z_gwi 445 (by decide +kernel) (by decide +kernel)
theorem k_ml_C_61 : Cond.methodLink R_C 61 y_C_shortenBefore ∈ z_gw := z_gwi 450 (by decide +kernel) (by decide +kernel)
theorem k_ml_G_3 : Cond.methodLink R_G 3 objectInit ∈ z_gw := z_gwi 96 (by decide +kernel) (by decide +kernel)
theorem k_ml_G_40 : Cond.methodLink R_G 40 y_A_fill ∈ z_gw := z_gwi 400 (by decide +kernel) (by decide +kernel)
theorem k_ml_G_49 : Cond.methodLink R_G 49 y_G_isOpen ∈ z_gw := z_gwi 403 (by decide +kernel) (by decide +kernel)
theorem k_ml_G_53 : Cond.methodLink R_G 53 y_G_begin ∈ z_gw := z_gwi 407 (by decide +kernel) (by decide +kernel)
theorem k_ml_G_57 : Cond.methodLink R_G 57 y_G_gather ∈ z_gw := z_gwi 417 (by decide +kernel) (by decide +kernel)
theorem k_ml_G_61 : Cond.methodLink R_G 61 y_G_take ∈ z_gw := z_gwi 411 (by decide +kernel) (by decide +kernel)
theorem k_ml_G_64 : Cond.methodLink R_G 64 Lib.Math.min.name ∈ z_gw := z_gwi 415 (by decide +kernel) (by decide +kernel)
theorem k_ml_G_70 : Cond.methodLink R_G 70 Lib.Math.max.name ∈ z_gw := z_gwi 416 (by decide +kernel) (by decide +kernel)
theorem k_ml_G_73 : Cond.methodLink R_G 73 y_G_wideOf ∈ z_gw := z_gwi 581 (by decide +kernel) (by decide +kernel)
theorem k_ml_G_77 : Cond.methodLink R_G 77 y_G_highOf ∈ z_gw := z_gwi 582 (by decide +kernel) (by decide +kernel)
theorem k_ml_L_100 : Cond.methodLink R_L 100 y_M_order ∈ z_gw := z_gwi 874 (by decide +kernel) (by decide +kernel)
theorem k_ml_L_101 : Cond.methodLink R_L 101 y_L_cover ∈ z_gw := z_gwi 612 (by decide +kernel) (by decide +kernel)
theorem k_ml_L_103 : Cond.methodLink R_L 103 y_M_cover ∈ z_gw := z_gwi 878 (by decide +kernel) (by decide +kernel)
theorem k_ml_L_104 : Cond.methodLink R_L 104 y_L_strip ∈ z_gw := z_gwi 619 (by decide +kernel) (by decide +kernel)
theorem k_ml_L_106 : Cond.methodLink R_L 106 y_M_strip ∈ z_gw := z_gwi 882 (by decide +kernel) (by decide +kernel)
theorem k_ml_L_107 : Cond.methodLink R_L 107 y_L_cell2 ∈ z_gw := z_gwi 626 (by decide +kernel) (by decide +kernel)
theorem k_ml_L_109 : Cond.methodLink R_L 109 y_M_cell ∈ z_gw := z_gwi 886 (by decide +kernel) (by decide +kernel)
theorem k_ml_L_110 : Cond.methodLink R_L 110 y_L_isSpeck ∈ z_gw := z_gwi 633 (by decide +kernel) (by decide +kernel)
theorem k_ml_L_112 : Cond.methodLink R_L 112 y_M_isSpeck ∈ z_gw := z_gwi 890 (by decide +kernel) (by decide +kernel)
theorem k_ml_L_113 : Cond.methodLink R_L 113 y_P_told ∈ z_gw := z_gwi 253 (by decide +kernel) (by decide +kernel)
theorem k_ml_L_116 : Cond.methodLink R_L 116 y_M_told ∈ z_gw := z_gwi 894 (by decide +kernel) (by decide +kernel)
theorem k_ml_L_117 : Cond.methodLink R_L 117 y_P_clear ∈ z_gw := z_gwi 261 (by decide +kernel) (by decide +kernel)
theorem k_ml_L_120 : Cond.methodLink R_L 120 y_M_clear ∈ z_gw := z_gwi 758 (by decide +kernel) (by decide +kernel)
theorem k_ml_L_15 : Cond.methodLink R_L 15 y_P_fill ∈ z_gw := z_gwi 356 (by decide +kernel) (by decide +kernel)
theorem k_ml_L_21 : Cond.methodLink R_L 21 y_P_noise ∈ z_gw := z_gwi 379 (by decide +kernel) (by decide +kernel)
theorem k_ml_L_25 : Cond.methodLink R_L 25 y_P_run ∈ z_gw := z_gwi 387 (by decide +kernel) (by decide +kernel)
theorem k_ml_L_29 : Cond.methodLink R_L 29 y_P_part ∈ z_gw := z_gwi 502 (by decide +kernel) (by decide +kernel)
theorem k_ml_L_34 : Cond.methodLink R_L 34 y_P_partOf ∈ z_gw := z_gwi 586 (by decide +kernel) (by decide +kernel)
theorem k_ml_L_37 : Cond.methodLink R_L 37 y_P_line ∈ z_gw := z_gwi 593 (by decide +kernel) (by decide +kernel)
theorem k_ml_L_41 : Cond.methodLink R_L 41 y_P_order ∈ z_gw := z_gwi 608 (by decide +kernel) (by decide +kernel)
theorem k_ml_L_44 : Cond.methodLink R_L 44 y_P_cover ∈ z_gw := z_gwi 615 (by decide +kernel) (by decide +kernel)
theorem k_ml_L_47 : Cond.methodLink R_L 47 y_P_strip ∈ z_gw := z_gwi 622 (by decide +kernel) (by decide +kernel)
theorem k_ml_L_50 : Cond.methodLink R_L 50 y_P_cell ∈ z_gw := z_gwi 629 (by decide +kernel) (by decide +kernel)
theorem k_ml_L_53 : Cond.methodLink R_L 53 y_P_isSpeck ∈ z_gw := z_gwi 636 (by decide +kernel) (by decide +kernel)
theorem k_ml_L_57 : Cond.methodLink R_L 57 y_L_cell ∈ z_gw := z_gwi 265 (by decide +kernel) (by decide +kernel)
theorem k_ml_L_62 : Cond.methodLink R_L 62 y_P_init ∈ z_gw := z_gwi 76 (by decide +kernel) (by decide +kernel)
theorem k_ml_L_67 : Cond.methodLink R_L 67 y_M_init ∈ z_gw := z_gwi 642 (by decide +kernel) (by decide +kernel)
theorem k_ml_L_68 : Cond.methodLink R_L 68 y_L_put ∈ z_gw := z_gwi 268 (by decide +kernel) (by decide +kernel)
theorem k_ml_L_7 : Cond.methodLink R_L 7 y_P_put ∈ z_gw := z_gwi 272 (by decide +kernel) (by decide +kernel)
theorem k_ml_L_71 : Cond.methodLink R_L 71 y_M_put ∈ z_gw := z_gwi 735 (by decide +kernel) (by decide +kernel)
theorem k_ml_L_72 : Cond.methodLink R_L 72 y_M_thrown ∈ z_gw := z_gwi 731 (by decide +kernel) (by decide +kernel)
theorem k_ml_L_76 : Cond.methodLink R_L 76 y_L_fill ∈ z_gw := z_gwi 352 (by decide +kernel) (by decide +kernel)
theorem k_ml_L_79 : Cond.methodLink R_L 79 y_M_fill ∈ z_gw := z_gwi 750 (by decide +kernel) (by decide +kernel)
theorem k_ml_L_80 : Cond.methodLink R_L 80 y_L_noise ∈ z_gw := z_gwi 376 (by decide +kernel) (by decide +kernel)
theorem k_ml_L_83 : Cond.methodLink R_L 83 y_M_noise ∈ z_gw := z_gwi 754 (by decide +kernel) (by decide +kernel)
theorem k_ml_L_84 : Cond.methodLink R_L 84 y_L_run ∈ z_gw := z_gwi 384 (by decide +kernel) (by decide +kernel)
theorem k_ml_L_87 : Cond.methodLink R_L 87 y_M_run ∈ z_gw := z_gwi 762 (by decide +kernel) (by decide +kernel)
theorem k_ml_L_88 : Cond.methodLink R_L 88 y_L_part ∈ z_gw := z_gwi 498 (by decide +kernel) (by decide +kernel)
theorem k_ml_L_90 : Cond.methodLink R_L 90 y_M_part ∈ z_gw := z_gwi 854 (by decide +kernel) (by decide +kernel)
theorem k_ml_L_91 : Cond.methodLink R_L 91 y_L_partOf ∈ z_gw := z_gwi 583 (by decide +kernel) (by decide +kernel)
theorem k_ml_L_93 : Cond.methodLink R_L 93 y_M_partOf ∈ z_gw := z_gwi 866 (by decide +kernel) (by decide +kernel)
theorem k_ml_L_94 : Cond.methodLink R_L 94 y_L_line ∈ z_gw := z_gwi 590 (by decide +kernel) (by decide +kernel)
theorem k_ml_L_97 : Cond.methodLink R_L 97 y_M_line ∈ z_gw := z_gwi 870 (by decide +kernel) (by decide +kernel)
theorem k_ml_L_98 : Cond.methodLink R_L 98 y_L_order ∈ z_gw := z_gwi 605 (by decide +kernel) (by decide +kernel)
theorem k_ml_M_1 : Cond.methodLink R_M 1 objectInit ∈ z_gw := z_gwi 645 (by decide +kernel) (by decide +kernel)
theorem k_ml_M_101 : Cond.methodLink R_M 101 y_M_settles ∈ z_gw := z_gwi 778 (by decide +kernel) (by decide +kernel)
theorem k_ml_M_105 : Cond.methodLink R_M 105 y_M_group ∈ z_gw := z_gwi 770 (by decide +kernel) (by decide +kernel)
theorem k_ml_M_109 : Cond.methodLink R_M 109 y_M_sizeOf ∈ z_gw := z_gwi 782 (by decide +kernel) (by decide +kernel)
theorem k_ml_M_112 : Cond.methodLink R_M 112 y_M_inGap ∈ z_gw := z_gwi 786 (by decide +kernel) (by decide +kernel)
theorem k_ml_M_119 : Cond.methodLink R_M 119 y_M_kindOf ∈ z_gw := z_gwi 794 (by decide +kernel) (by decide +kernel)
theorem k_ml_M_123 : Cond.methodLink R_M 123 y_M_cleanIn ∈ z_gw := z_gwi 798 (by decide +kernel) (by decide +kernel)
theorem k_ml_M_130 : Cond.methodLink R_M 130 y_M_takeCover ∈ z_gw := z_gwi 806 (by decide +kernel) (by decide +kernel)
theorem k_ml_M_140 : Cond.methodLink R_M 140 y_M_isClosed ∈ z_gw := z_gwi 818 (by decide +kernel) (by decide +kernel)
theorem k_ml_M_144 : Cond.methodLink R_M 144 y_M_low ∈ z_gw := z_gwi 834 (by decide +kernel) (by decide +kernel)
theorem k_ml_M_148 : Cond.methodLink R_M 148 y_M_high ∈ z_gw := z_gwi 838 (by decide +kernel) (by decide +kernel)
theorem k_ml_M_151 : Cond.methodLink R_M 151 y_M_isBefore ∈ z_gw := z_gwi 850 (by decide +kernel) (by decide +kernel)
theorem k_ml_M_154 : Cond.methodLink R_M 154 y_M_swap ∈ z_gw := z_gwi 842 (by decide +kernel) (by decide +kernel)
theorem k_ml_M_158 : Cond.methodLink R_M 158 y_M_gap ∈ z_gw := z_gwi 830 (by decide +kernel) (by decide +kernel)
theorem k_ml_M_162 : Cond.methodLink R_M 162 y_M_parts ∈ z_gw := z_gwi 826 (by decide +kernel) (by decide +kernel)
theorem k_ml_M_165 : Cond.methodLink R_M 165 y_M_sort ∈ z_gw := z_gwi 846 (by decide +kernel) (by decide +kernel)
theorem k_ml_M_168 : Cond.methodLink R_M 168 y_M_takeInk ∈ z_gw := z_gwi 766 (by decide +kernel) (by decide +kernel)
theorem k_ml_M_171 : Cond.methodLink R_M 171 y_M_takeParts ∈ z_gw := z_gwi 790 (by decide +kernel) (by decide +kernel)
theorem k_ml_M_174 : Cond.methodLink R_M 174 y_M_takeCovers ∈ z_gw := z_gwi 802 (by decide +kernel) (by decide +kernel)
theorem k_ml_M_177 : Cond.methodLink R_M 177 y_M_takeStrips ∈ z_gw := z_gwi 810 (by decide +kernel) (by decide +kernel)
theorem k_ml_M_180 : Cond.methodLink R_M 180 y_M_takeCells ∈ z_gw := z_gwi 814 (by decide +kernel) (by decide +kernel)
theorem k_ml_M_183 : Cond.methodLink R_M 183 y_M_takeOrder ∈ z_gw := z_gwi 822 (by decide +kernel) (by decide +kernel)
theorem k_ml_M_186 : Cond.methodLink R_M 186 y_M_lines ∈ z_gw := z_gwi 858 (by decide +kernel) (by decide +kernel)
theorem k_ml_M_189 : Cond.methodLink R_M 189 y_M_inkOf ∈ z_gw := z_gwi 862 (by decide +kernel) (by decide +kernel)
theorem k_ml_M_69 : Cond.methodLink R_M 69 y_M_nearest ∈ z_gw := z_gwi 646 (by decide +kernel) (by decide +kernel)
theorem k_ml_M_82 : Cond.methodLink R_M 82 y_M_in ∈ z_gw := z_gwi 743 (by decide +kernel) (by decide +kernel)
theorem k_ml_M_86 : Cond.methodLink R_M 86 y_M_isSample ∈ z_gw := z_gwi 739 (by decide +kernel) (by decide +kernel)
theorem k_ml_M_90 : Cond.methodLink R_M 90 y_M_goes ∈ z_gw := z_gwi 746 (by decide +kernel) (by decide +kernel)
theorem k_ml_M_98 : Cond.methodLink R_M 98 y_M_is ∈ z_gw := z_gwi 774 (by decide +kernel) (by decide +kernel)
theorem k_ml_P_101 : Cond.methodLink R_P 101 y_C_find ∈ z_gw := z_gwi 429 (by decide +kernel) (by decide +kernel)
theorem k_ml_P_104 : Cond.methodLink R_P 104 y_P_findStrips ∈ z_gw := z_gwi 454 (by decide +kernel) (by decide +kernel)
theorem k_ml_P_107 : Cond.methodLink R_P 107 y_G_dropAtEdge ∈ z_gw := z_gwi 462 (by decide +kernel) (by decide +kernel)
theorem k_ml_P_110 : Cond.methodLink R_P 110 y_R_arrange ∈ z_gw := z_gwi 466 (by decide +kernel) (by decide +kernel)
theorem k_ml_P_117 : Cond.methodLink R_P 117 y_P_mustBeParted ∈ z_gw := z_gwi 506 (by decide +kernel) (by decide +kernel)
theorem k_ml_P_120 : Cond.methodLink R_P 120 y_P_mustBeBelow ∈ z_gw := z_gwi 526 (by decide +kernel) (by decide +kernel)
theorem k_ml_P_123 : Cond.methodLink R_P 123 y_P_mustBeTold ∈ z_gw := z_gwi 530 (by decide +kernel) (by decide +kernel)
theorem k_ml_P_126 : Cond.methodLink R_P 126 y_P_weightOf ∈ z_gw := z_gwi 534 (by decide +kernel) (by decide +kernel)
theorem k_ml_P_129 : Cond.methodLink R_P 129 y_P_kindOf ∈ z_gw := z_gwi 538 (by decide +kernel) (by decide +kernel)
theorem k_ml_P_132 : Cond.methodLink R_P 132 y_P_countLines ∈ z_gw := z_gwi 565 (by decide +kernel) (by decide +kernel)
theorem k_ml_P_138 : Cond.methodLink R_P 138 y_G_boxOf ∈ z_gw := z_gwi 577 (by decide +kernel) (by decide +kernel)
theorem k_ml_P_144 : Cond.methodLink R_P 144 y_P_firstRowOfLine ∈ z_gw := z_gwi 597 (by decide +kernel) (by decide +kernel)
theorem k_ml_P_147 : Cond.methodLink R_P 147 y_P_countRowsOfLine ∈ z_gw := z_gwi 601 (by decide +kernel) (by decide +kernel)
theorem k_ml_P_169 : Cond.methodLink R_P 169 y_P_toldOfParted ∈ z_gw := z_gwi 257 (by decide +kernel) (by decide +kernel)
theorem k_ml_P_172 : Cond.methodLink R_P 172 Lib.Math.max.name ∈ z_gw := z_gwi 88 (by decide +kernel) (by decide +kernel)
theorem k_ml_P_179 : Cond.methodLink R_P 179 ⟨"java/lang/IllegalStateException", "<init>", "(Ljava/lang/String;)V"⟩ ∈ z_gw := z_gwi 520 (by decide +kernel) (by decide +kernel)
theorem k_ml_P_184 : Cond.methodLink R_P 184 ⟨"java/lang/IndexOutOfBoundsException", "<init>", "(Ljava/lang/String;)V"⟩ ∈ z_gw := z_gwi 322 (by decide +kernel) (by decide +kernel)
theorem k_ml_P_195 : Cond.methodLink R_P 195 y_P_smearAlong ∈ z_gw := z_gwi 425 (by decide +kernel) (by decide +kernel)
theorem k_ml_P_199 : Cond.methodLink R_P 199 y_P_hasInk ∈ z_gw := z_gwi 458 (by decide +kernel) (by decide +kernel)
theorem k_ml_P_203 : Cond.methodLink R_P 203 y_G_wideOf ∈ z_gw := z_gwi 542 (by decide +kernel) (by decide +kernel)
theorem k_ml_P_206 : Cond.methodLink R_P 206 y_G_highOf ∈ z_gw := z_gwi 546 (by decide +kernel) (by decide +kernel)
theorem k_ml_P_209 : Cond.methodLink R_P 209 y_P_isThin ∈ z_gw := z_gwi 550 (by decide +kernel) (by decide +kernel)
theorem k_ml_P_213 : Cond.methodLink R_P 213 y_P_isFramed ∈ z_gw := z_gwi 553 (by decide +kernel) (by decide +kernel)
theorem k_ml_P_216 : Cond.methodLink R_P 216 y_P_isMostlyEmptyWithin ∈ z_gw := z_gwi 561 (by decide +kernel) (by decide +kernel)
theorem k_ml_P_221 : Cond.methodLink R_P 221 y_P_countClean ∈ z_gw := z_gwi 557 (by decide +kernel) (by decide +kernel)
theorem k_ml_P_23 : Cond.methodLink R_P 23 y_P_nearestSide ∈ z_gw := z_gwi 82 (by decide +kernel) (by decide +kernel)
theorem k_ml_P_231 : Cond.methodLink R_P 231 y_P_beginsLine ∈ z_gw := z_gwi 569 (by decide +kernel) (by decide +kernel)
theorem k_ml_P_234 : Cond.methodLink R_P 234 y_P_hasCleanOf ∈ z_gw := z_gwi 573 (by decide +kernel) (by decide +kernel)
theorem k_ml_P_3 : Cond.methodLink R_P 3 objectInit ∈ z_gw := z_gwi 79 (by decide +kernel) (by decide +kernel)
theorem k_ml_P_36 : Cond.methodLink R_P 36 y_G_init ∈ z_gw := z_gwi 93 (by decide +kernel) (by decide +kernel)
theorem k_ml_P_48 : Cond.methodLink R_P 48 y_C_init ∈ z_gw := z_gwi 144 (by decide +kernel) (by decide +kernel)
theorem k_ml_P_63 : Cond.methodLink R_P 63 y_P_mustBeSample ∈ z_gw := z_gwi 276 (by decide +kernel) (by decide +kernel)
theorem k_ml_P_70 : Cond.methodLink R_P 70 y_P_paint ∈ z_gw := z_gwi 348 (by decide +kernel) (by decide +kernel)
theorem k_ml_P_78 : Cond.methodLink R_P 78 ⟨"java/lang/IllegalArgumentException", "<init>", "(Ljava/lang/String;)V"⟩ ∈ z_gw := z_gwi 370 (by decide +kernel) (by decide +kernel)
theorem k_ml_P_81 : Cond.methodLink R_P 81 Lib.Math.min.name ∈ z_gw := z_gwi 85 (by decide +kernel) (by decide +kernel)
theorem k_ml_P_91 : Cond.methodLink R_P 91 y_P_findClean ∈ z_gw := z_gwi 392 (by decide +kernel) (by decide +kernel)
theorem k_ml_P_94 : Cond.methodLink R_P 94 y_P_smear ∈ z_gw := z_gwi 421 (by decide +kernel) (by decide +kernel)
theorem k_ml_P_97 : Cond.methodLink R_P 97 y_G_find ∈ z_gw := z_gwi 396 (by decide +kernel) (by decide +kernel)
theorem k_ml_R_21 : Cond.methodLink R_R 21 y_R_sortByBoxes ∈ z_gw := z_gwi 470 (by decide +kernel) (by decide +kernel)
theorem k_ml_R_3 : Cond.methodLink R_R 3 objectInit ∈ z_gw := z_gwi 186 (by decide +kernel) (by decide +kernel)
theorem k_ml_R_31 : Cond.methodLink R_R 31 y_R_findCut ∈ z_gw := z_gwi 477 (by decide +kernel) (by decide +kernel)
theorem k_ml_R_35 : Cond.methodLink R_R 35 y_R_divide ∈ z_gw := z_gwi 491 (by decide +kernel) (by decide +kernel)
theorem k_ml_R_39 : Cond.methodLink R_R 39 y_R_isBefore ∈ z_gw := z_gwi 474 (by decide +kernel) (by decide +kernel)
theorem k_ml_R_54 : Cond.methodLink R_R 54 y_R_lookAlong ∈ z_gw := z_gwi 481 (by decide +kernel) (by decide +kernel)
theorem k_ml_R_61 : Cond.methodLink R_R 61 y_R_bits ∈ z_gw := z_gwi 485 (by decide +kernel) (by decide +kernel)
theorem k_ml_R_65 : Cond.methodLink R_R 65 y_R_hasBit ∈ z_gw := z_gwi 488 (by decide +kernel) (by decide +kernel)
theorem k_ml_R_76 : Cond.methodLink R_R 76 arraycopyName ∈ z_gw := z_gwi 495 (by decide +kernel) (by decide +kernel)
theorem k_st_min : Cond.static Lib.Math.min.name ∈ z_gw := z_gwi 86 (by decide +kernel) (by decide +kernel)
theorem k_st_max : Cond.static Lib.Math.max.name ∈ z_gw := z_gwi 89 (by decide +kernel) (by decide +kernel)
theorem k_st_arraycopy : Cond.static arraycopyName ∈ z_gw := z_gwi 496 (by decide +kernel) (by decide +kernel)
theorem k_in_Math : Cond.initialized "java/lang/Math" ∈ z_gw := z_gwi 61 (by decide +kernel) (by decide +kernel)
theorem k_in_System : Cond.initialized "java/lang/System" ∈ z_gw := z_gwi 72 (by decide +kernel) (by decide +kernel)
theorem k_nt_arraycopy : Cond.native arraycopyName ∈ z_gw := z_gwi 497 (by decide +kernel) (by decide +kernel)
theorem k_co_min : Cond.code Lib.Math.min.name Lib.Math.min.code 2 (some .int) ∈ z_gw := z_gwi 87 (by decide +kernel) (by decide +kernel)
theorem k_co_max : Cond.code Lib.Math.max.name Lib.Math.max.code 2 (some .int) ∈ z_gw := z_gwi 90 (by decide +kernel) (by decide +kernel)
theorem k_in_P : Cond.initialized R_P ∈ z_gw := z_gwi 60 (by decide +kernel) (by decide +kernel)
theorem k_in_G : Cond.initialized R_G ∈ z_gw := z_gwi 62 (by decide +kernel) (by decide +kernel)
theorem k_in_C : Cond.initialized R_C ∈ z_gw := z_gwi 63 (by decide +kernel) (by decide +kernel)
theorem k_in_R : Cond.initialized R_R ∈ z_gw := z_gwi 64 (by decide +kernel) (by decide +kernel)
theorem k_in_M : Cond.initialized R_M ∈ z_gw := z_gwi 65 (by decide +kernel) (by decide +kernel)
theorem k_in_L : Cond.initialized R_L ∈ z_gw := z_gwi 59 (by decide +kernel) (by decide +kernel)
abbrev zS : Type := Nat → Nat → Int32
abbrev zK : Type := (Nat × Nat) ⊕ (Nat × List (Option Nat))
abbrev z_ix (i : Int32) : Nat := i.toNatClampNeg
abbrev z_bo (v : Int32) : Prop := v = 0 ∨ v = 1
def z_kd : Nat → zK
  | 0 => .inr (0, [none, none, some 1, some 2, some 3, some 4, some 5, some 13, some 21, some 27, none, none, none, none, none])
  | 1 => .inl (1, 576)
  | 2 => .inl (1, 576)
  | 3 => .inl (1, 576)
  | 4 => .inl (0, 24)
  | 5 => .inr (1, [some 6, some 7, some 8, some 9, some 10, some 11, none, some 12, none, none])
  | 6 => .inl (0, 576)
  | 7 => .inl (0, 288)
  | 8 => .inl (0, 288)
  | 9 => .inl (0, 288)
  | 10 => .inl (0, 288)
  | 11 => .inl (0, 288)
  | 12 => .inl (0, 576)
  | 13 => .inr (1, [some 14, some 15, some 16, some 17, some 18, some 19, none, some 20, none, none])
  | 14 => .inl (0, 576)
  | 15 => .inl (0, 288)
  | 16 => .inl (0, 288)
  | 17 => .inl (0, 288)
  | 18 => .inl (0, 288)
  | 19 => .inl (0, 288)
  | 20 => .inl (0, 576)
  | 21 => .inr (2, [some 22, some 23, some 24, some 25, none, some 26, none, none, none])
  | 22 => .inl (0, 6)
  | 23 => .inl (0, 6)
  | 24 => .inl (0, 6)
  | 25 => .inl (0, 6)
  | 26 => .inl (0, 576)
  | 27 => .inr (3, [some 28, some 29, some 30, none, none, none])
  | 28 => .inl (0, 288)
  | 29 => .inl (0, 288)
  | 30 => .inl (0, 288)
  | 31 => .inr (4, [none, none, none, some 32, none, none, some 33, some 34, some 35, some 36, some 37, some 38, none, some 39, some 40, some 41, some 42, some 43, some 44, none, some 45, none, some 46, none, some 47, some 48, some 49])
  | 32 => .inl (1, 576)
  | 33 => .inl (1, 576)
  | 34 => .inl (1, 576)
  | 35 => .inl (1, 576)
  | 36 => .inl (1, 576)
  | 37 => .inl (0, 576)
  | 38 => .inl (0, 576)
  | 39 => .inl (0, 300)
  | 40 => .inl (0, 300)
  | 41 => .inl (0, 300)
  | 42 => .inl (0, 300)
  | 43 => .inl (0, 300)
  | 44 => .inl (0, 300)
  | 45 => .inl (0, 24)
  | 46 => .inl (0, 24)
  | 47 => .inl (0, 576)
  | 48 => .inl (0, 300)
  | 49 => .inl (0, 300)
  | 50 => .inl (2, 1)
  | _ => .inl (0, 0)
theorem kd_0 : z_kd 0 = .inr (0, [none, none, some 1, some 2, some 3, some 4, some 5, some 13, some 21, some 27, none, none, none, none, none]) := rfl
theorem kd_1 : z_kd 1 = .inl (1, 576) := rfl
theorem kd_2 : z_kd 2 = .inl (1, 576) := rfl
theorem kd_3 : z_kd 3 = .inl (1, 576) := rfl
theorem kd_4 : z_kd 4 = .inl (0, 24) := rfl
theorem kd_5 : z_kd 5 = .inr (1, [some 6, some 7, some 8, some 9, some 10, some 11, none, some 12, none, none]) := rfl
theorem kd_6 : z_kd 6 = .inl (0, 576) := rfl
theorem kd_7 : z_kd 7 = .inl (0, 288) := rfl
theorem kd_8 : z_kd 8 = .inl (0, 288) := rfl
theorem kd_9 : z_kd 9 = .inl (0, 288) := rfl
theorem kd_10 : z_kd 10 = .inl (0, 288) := rfl
theorem kd_11 : z_kd 11 = .inl (0, 288) := rfl
theorem kd_12 : z_kd 12 = .inl (0, 576) := rfl
theorem kd_13 : z_kd 13 = .inr (1, [some 14, some 15, some 16, some 17, some 18, some 19, none, some 20, none, none]) := rfl
theorem kd_14 : z_kd 14 = .inl (0, 576) := rfl
theorem kd_15 : z_kd 15 = .inl (0, 288) := rfl
theorem kd_16 : z_kd 16 = .inl (0, 288) := rfl
theorem kd_17 : z_kd 17 = .inl (0, 288) := rfl
theorem kd_18 : z_kd 18 = .inl (0, 288) := rfl
theorem kd_19 : z_kd 19 = .inl (0, 288) := rfl
theorem kd_20 : z_kd 20 = .inl (0, 576) := rfl
theorem kd_21 : z_kd 21 = .inr (2, [some 22, some 23, some 24, some 25, none, some 26, none, none, none]) := rfl
theorem kd_22 : z_kd 22 = .inl (0, 6) := rfl
theorem kd_23 : z_kd 23 = .inl (0, 6) := rfl
theorem kd_24 : z_kd 24 = .inl (0, 6) := rfl
theorem kd_25 : z_kd 25 = .inl (0, 6) := rfl
theorem kd_26 : z_kd 26 = .inl (0, 576) := rfl
theorem kd_27 : z_kd 27 = .inr (3, [some 28, some 29, some 30, none, none, none]) := rfl
theorem kd_28 : z_kd 28 = .inl (0, 288) := rfl
theorem kd_29 : z_kd 29 = .inl (0, 288) := rfl
theorem kd_30 : z_kd 30 = .inl (0, 288) := rfl
theorem kd_31 : z_kd 31 = .inr (4, [none, none, none, some 32, none, none, some 33, some 34, some 35, some 36, some 37, some 38, none, some 39, some 40, some 41, some 42, some 43, some 44, none, some 45, none, some 46, none, some 47, some 48, some 49]) := rfl
theorem kd_32 : z_kd 32 = .inl (1, 576) := rfl
theorem kd_33 : z_kd 33 = .inl (1, 576) := rfl
theorem kd_34 : z_kd 34 = .inl (1, 576) := rfl
theorem kd_35 : z_kd 35 = .inl (1, 576) := rfl
theorem kd_36 : z_kd 36 = .inl (1, 576) := rfl
theorem kd_37 : z_kd 37 = .inl (0, 576) := rfl
theorem kd_38 : z_kd 38 = .inl (0, 576) := rfl
theorem kd_39 : z_kd 39 = .inl (0, 300) := rfl
theorem kd_40 : z_kd 40 = .inl (0, 300) := rfl
theorem kd_41 : z_kd 41 = .inl (0, 300) := rfl
theorem kd_42 : z_kd 42 = .inl (0, 300) := rfl
theorem kd_43 : z_kd 43 = .inl (0, 300) := rfl
theorem kd_44 : z_kd 44 = .inl (0, 300) := rfl
theorem kd_45 : z_kd 45 = .inl (0, 24) := rfl
theorem kd_46 : z_kd 46 = .inl (0, 24) := rfl
theorem kd_47 : z_kd 47 = .inl (0, 576) := rfl
theorem kd_48 : z_kd 48 = .inl (0, 300) := rfl
theorem kd_49 : z_kd 49 = .inl (0, 300) := rfl
theorem kd_50 : z_kd 50 = .inl (2, 1) := rfl
/-- a Groups and its arrays from cell g on -/
def z_G (g : Nat) : Prop := g + 7 < 51 ∧ z_kd g = .inr (1, [some (g + 1), some (g + 2), some (g + 3), some (g + 4), some (g + 5), some (g + 6), none, some (g + 7), none, none]) ∧ z_kd (g + 1) = .inl (0, 576) ∧ z_kd (g + 2) = .inl (0, 288) ∧ z_kd (g + 3) = .inl (0, 288) ∧ z_kd (g + 4) = .inl (0, 288) ∧ z_kd (g + 5) = .inl (0, 288) ∧ z_kd (g + 6) = .inl (0, 288) ∧ z_kd (g + 7) = .inl (0, 576)
theorem z_lt0 {g : Nat} (h : z_G g) : g < 51 := by have := h.1; omega
theorem z_lt {g : Nat} (h : z_G g) (k : Nat) (hk : k < 8) : g + k < 51 := by have := h.1; omega
theorem z_G_5 : z_G 5 := ⟨by decide, rfl, rfl, rfl, rfl, rfl, rfl, rfl, rfl⟩
theorem z_G_13 : z_G 13 := ⟨by decide, rfl, rfl, rfl, rfl, rfl, rfl, rfl, rfl⟩
def z_B (k : Nat) : Prop := k < 51 ∧ z_kd k = .inl (1, 576)
theorem z_B_1 : z_B 1 := ⟨by decide, rfl⟩
theorem z_B_2 : z_B 2 := ⟨by decide, rfl⟩
theorem z_B_3 : z_B 3 := ⟨by decide, rfl⟩
def z_A (k : Nat) : Prop := k < 51 ∧ z_kd k = .inl (0, 288)
def z_F (k : Nat) : Prop := k < 51 ∧ z_kd k = .inl (0, 576)
theorem z_A_7 : z_A 7 := ⟨by decide, rfl⟩
theorem z_A_8 : z_A 8 := ⟨by decide, rfl⟩
theorem z_A_9 : z_A 9 := ⟨by decide, rfl⟩
theorem z_A_10 : z_A 10 := ⟨by decide, rfl⟩
theorem z_A_11 : z_A 11 := ⟨by decide, rfl⟩
end
section
/-! THE WORLD: 51 cells (the class's, the reference's, the law's long array); what they hold is ONE function zS: cell, place -> int.
An object's int fields are its places by slot; its references are fixed (z_kd says which cell each names). -/
section ZA
/-- an array as a function of its place, set at one -/
def z_su (S : zS) (k i : Nat) (v : Int32) : zS := fun a => if a = k then upd (S k) i v else S a
/-- the first n places of an array set -/
def z_sf (S : zS) (k n : Nat) (v : Int32) : zS := fun a => if a = k then (fun j => if j < n then v else S k j) else S a
/-- a stretch of one array copied to another -/
def z_sc (S : zS) (k1 k2 sp dp n : Nat) : zS := fun a => if a = k2 then va_cpy (S k1) (S k2) sp dp n else S a
def z_cp (sp dp n : Int32) (n1 n2 : Nat) : Prop := ¬ sp < 0 ∧ ¬ dp < 0 ∧ ¬ n < 0 ∧ z_ix sp + z_ix n ≤ n1 ∧ z_ix dp + z_ix n ≤ n2
def z_fv (ad : Nat → Nat) (r : Nat → Int32) (j : Nat) (o : Option Nat) : Value := match o with
  | none => .int (r j)
  | some h => .ref (ad h)
def z_fl (ad : Nat → Nat) (r : Nat → Int32) (fl : List (Option Nat)) : List Value := fl.mapIdx (z_fv ad r)
def z_ce (cA : Nat → ClassId) (ad : Nat → Nat) (k : Nat) (r : Nat → Int32) : va_E := match z_kd k with
  | .inl q => if q.1 = 2 then .inl (cA 2, q.2, .inr (.inl fun i => (r i).toInt64)) else .inl (cA q.1, q.2, .inl r)
  | .inr q => .inr (q.1, z_fl ad r q.2)
def z_w (cA : Nat → ClassId) (n : Nat) (ad : Nat → Nat) (S : zS) : va_W := (List.range n).map fun k => (ad k, z_ce cA ad k (S k))
variable {cA : Nat → ClassId} {n : Nat} {ad : Nat → Nat} {S : zS}
theorem z_w_at {k : Nat} (h : k < n) : (z_w cA n ad S)[k]? = some (ad k, z_ce cA ad k (S k)) := by
  simp [z_w, h]
theorem z_w_lt {k : Nat} {q : Nat × va_E} (h : (z_w cA n ad S)[k]? = some q) : k < n := by
  have := (List.getElem?_eq_some_iff.mp h).1
  simpa [z_w] using this
theorem z_w_set {k : Nat} (h : k < n) (r : Nat → Int32) : (z_w cA n ad S).set k (ad k, z_ce cA ad k r) = z_w cA n ad (fun a => if a = k then r else S a) := by
  apply List.ext_getElem?
  intro i
  rw [List.getElem?_set]
  by_cases hi : k = i
  · subst hi
    simp [z_w, h]
  · by_cases hn : i < n
    · simp [z_w, hi, hn, Ne.symm hi]
    · simp [z_w, hi, hn]
theorem z_w_D (hJ : ∀ i j, i < n → j < n → ad i = ad j → i = j) {A : Nat → Prop} (hA : ∀ k, k < n → A (ad k)) : va_D A (z_w cA n ad S) := by
  refine ⟨fun i j p q hp hq e => ?_, fun k q hk => ?_⟩
  · have h1 := z_w_lt hp
    have h2 := z_w_lt hq
    rw [z_w_at h1] at hp
    rw [z_w_at h2] at hq
    cases hp
    cases hq
    exact hJ i j h1 h2 e
  · have h1 := z_w_lt hk
    rw [z_w_at h1] at hk
    cases hk
    exact hA k h1
theorem z_ce_o {k ci : Nat} {fl : List (Option Nat)} {r : Nat → Int32} (h : z_kd k = .inr (ci, fl)) : z_ce cA ad k r = .inr (ci, z_fl ad r fl) := by
  simp [z_ce, h]
theorem z_ce_a {k t n : Nat} {r : Nat → Int32} (h : z_kd k = .inl (t, n)) (ht : t ≠ 2) : z_ce cA ad k r = .inl (cA t, n, .inl r) := by
  simp [z_ce, h, ht]
theorem z_ce_l {k n : Nat} {r : Nat → Int32} (h : z_kd k = .inl (2, n)) : z_ce cA ad k r = .inl (cA 2, n, .inr (.inl fun i => (r i).toInt64)) := by
  simp [z_ce, h]
theorem z_fl_at {fl : List (Option Nat)} {r : Nat → Int32} {j : Nat} {o : Option Nat} (h : fl[j]? = some o) : (z_fl ad r fl)[j]? = some (z_fv ad r j o) := by
  simp [z_fl, h]
theorem z_fl_set {fl : List (Option Nat)} {r : Nat → Int32} {j : Nat} {v : Int32} (h : fl[j]? = some none) : (z_fl ad r fl).set j (.int v) = z_fl ad (upd r j v) fl := by
  apply List.ext_getElem?
  intro i
  rw [List.getElem?_set]
  by_cases hi : j = i
  · subst hi
    have hl : j < fl.length := (List.getElem?_eq_some_iff.mp h).1
    simp only [z_fl, List.length_mapIdx, hl, if_true, List.getElem?_mapIdx, h]
    simp [z_fv, upd]
  · simp only [z_fl, List.getElem?_mapIdx, hi, if_false]
    cases hf : fl[i]? with
    | none => rfl
    | some o => cases o <;> simp [z_fv, upd, Ne.symm hi]
/-- the addresses that a method may change: the world's own and what is new -/
def z_fr (n : Nat) (ad : Nat → Nat) (sz : Nat) : Nat → Prop := fun q => (∃ k, k < n ∧ q = ad k) ∨ sz ≤ q
theorem z_fr_in {k sz : Nat} (h : k < n) : z_fr n ad sz (ad k) := Or.inl ⟨k, h, rfl⟩
theorem z_fr_mono {a b q : Nat} (h : a ≤ b) (hq : z_fr n ad b q) : z_fr n ad a q := hq.elim Or.inl fun z => Or.inr (Nat.le_trans h z)
def z_ty (cA : Nat → ClassId) : List (ClassId × FieldType) := [(cA 0, .int), (cA 1, .boolean), (cA 2, .long)]
def z_I (D : va_G) (cA : Nat → ClassId) (n : Nat) (ad : Nat → Nat) (H0 : Heap) (S : zS) (H : Heap) (locs : List Loc) : Prop := va_P D z_cl (z_w cA n ad S) H ∧ va_S (z_fr n ad H0.size) H0 H locs
def z_CT (p : Program) (s : State) (m : MethodId) (args : Array Value) (c : Code) (own : String) (cc : ByteArray) (nL : Nat) (D : va_G) (cA : Nat → ClassId) (n : Nat) (ad : Nat → Nat) : Prop :=
  p.tables.exec = Jvm.exec ∧ c.code = cc ∧ c.maxLocals = nL ∧ s.vm.findClass own = some m.cls ∧ (∀ w ∈ z_gw, w.before args s = true) ∧ va_K D z_cl (z_ty cA) s ∧ ∀ i j, i < n → j < n → ad i = ad j → i = j
theorem z_nb {v : Int32} (h : z_bo v) : narrow .boolean (.int v) = .int v := by
  rcases h with rfl | rfl <;> decide
theorem z_fb {v : Int32} (h : z_bo v) : fits .boolean (.int v) = true := by
  rcases h with rfl | rfl <;> decide
theorem z_vb {v : Int32} (h : z_bo v) : vp_nar .boolean v = v := by
  rcases h with rfl | rfl <;> decide
end ZA
section ZR
variable {p : Program} {l : Launch} {e : Env} {R : Room} {s : State} {m : MethodId} {args : Array Value} {below : List Frame} {meth : Method} {c : Code} {H : Heap} {locs : List Loc} {cells slots : Nat} {Q : State → Prop}
variable {cc : ByteArray} {pc nL : Nat} {ls : Array Slot} {rest : List Value} {D : va_G} {cA : Nat → ClassId} {n : Nat} {ad : Nat → Nat} {S : zS} {own : String}
theorem z_getI (C : z_CT p s m args c own cc nL D cA n ad) (hI : z_I D cA n ad s.heap S H locs) (k : Nat) (hk : k < n) {ci : Nat} {fl : List (Option Nat)} (hkd : z_kd k = .inr (ci, fl)) {C0 : String} {T : u_T} {N : Nat} (hc : z_cl[ci]? = some (C0, T, N)) (hin : ∀ w ∈ u_ws C0 T N, w ∈ z_gw) (j : Nat) (hj : j < N) {index : Nat} (hlink : Cond.fieldLink own index (T j).1 (T j).2.1 (T j).2.2.1 ∈ z_gw) (ho : fl[j]? = some none) (hdg : decode cc pc = .ok (.getfield index, 3))
    (kk : W p l e R s m args below meth c H locs cells slots Q (F0 m (pc + 3) ls (.int (S k j) :: rest))) : W p l e R s m args below meth c H locs cells slots Q (F0 m pc ls (.ref (ad k) :: rest)) := by
  obtain ⟨hx, hb, hml, hown, hts, hK, hJ⟩ := C
  exact va_get (D := D) (ci := ci) (v := .int (S k j)) hx hb hts hin hown hK hI.1 k (by rw [z_w_at hk, z_ce_o hkd]) hc j hj (hts _ hlink) (fun _ h => h) (z_fl_at ho) hdg kk
theorem z_getR (C : z_CT p s m args c own cc nL D cA n ad) (hI : z_I D cA n ad s.heap S H locs) (k : Nat) (hk : k < n) {ci : Nat} {fl : List (Option Nat)} (hkd : z_kd k = .inr (ci, fl)) {C0 : String} {T : u_T} {N : Nat} (hc : z_cl[ci]? = some (C0, T, N)) (hin : ∀ w ∈ u_ws C0 T N, w ∈ z_gw) (j : Nat) (hj : j < N) {index : Nat} (hlink : Cond.fieldLink own index (T j).1 (T j).2.1 (T j).2.2.1 ∈ z_gw) {q : Nat} (ho : fl[j]? = some (some q)) (hdg : decode cc pc = .ok (.getfield index, 3))
    (kk : W p l e R s m args below meth c H locs cells slots Q (F0 m (pc + 3) ls (.ref (ad q) :: rest))) : W p l e R s m args below meth c H locs cells slots Q (F0 m pc ls (.ref (ad k) :: rest)) := by
  obtain ⟨hx, hb, hml, hown, hts, hK, hJ⟩ := C
  exact va_get (D := D) (ci := ci) (v := .ref (ad q)) hx hb hts hin hown hK hI.1 k (by rw [z_w_at hk, z_ce_o hkd]) hc j hj (hts _ hlink) (fun _ h => h) (z_fl_at ho) hdg kk
theorem z_w_put {k j ci : Nat} {fl : List (Option Nat)} {v : Int32} (hk : k < n) (hkd : z_kd k = .inr (ci, fl)) (ho : fl[j]? = some none) : (z_w cA n ad S).set k (ad k, .inr (ci, (z_fl ad (S k) fl).set j (.int v))) = z_w cA n ad (z_su S k j v) := by
  rw [z_fl_set ho, show (Sum.inr (ci, z_fl ad (upd (S k) j v) fl) : va_E) = z_ce cA ad k (upd (S k) j v) from (z_ce_o hkd).symm, z_w_set hk]
  rfl
theorem z_putI (C : z_CT p s m args c own cc nL D cA n ad) (hI : z_I D cA n ad s.heap S H locs) (k : Nat) (hk : k < n) {ci : Nat} {fl : List (Option Nat)} (hkd : z_kd k = .inr (ci, fl)) {C0 : String} {T : u_T} {N : Nat} (hc : z_cl[ci]? = some (C0, T, N)) (hin : ∀ w ∈ u_ws C0 T N, w ∈ z_gw) (ty0 : Nat → FieldType) (hty : ∀ k, k < N → parseFieldDescriptor (T k).2.2.1 = some (ty0 k)) (hnm : ∀ a, a < N → ∀ b, b < N → a ≠ b → (T a).2.1 ≠ (T b).2.1) (j : Nat) (hj : j < N) {index : Nat} (hlink : Cond.fieldLink own index (T j).1 (T j).2.1 (T j).2.2.1 ∈ z_gw) (ho : fl[j]? = some none) (hfin : (T j).2.2.2 = false) (hd : ty0 j = .int) {v : Int32} (hdg : decode cc pc = .ok (.putfield index, 3))
    (kk : ∀ (S1 : zS) (_ : S1 = z_su S k j v) (H1 : Heap) (locs1 : List Loc), z_I D cA n ad s.heap S1 H1 locs1 → W p l e R s m args below meth c H1 locs1 cells slots Q (F0 m (pc + 3) ls rest)) : W p l e R s m args below meth c H locs cells slots Q (F0 m pc ls (.int v :: .ref (ad k) :: rest)) := by
  obtain ⟨hx, hb, hml, hown, hts, hK, hJ⟩ := C
  refine va_put (D := D) (ci := ci) (v := .int v) (ty := .int) hx hb hts hin ty0 hty hnm hown hK hI.1 (z_w_D hJ (fun k hk => z_fr_in hk)) hI.2 k (by rw [z_w_at hk, z_ce_o hkd]) hc j hj (hts _ hlink) (fun _ h => h) hfin (by rw [hty j hj, hd]) rfl rfl (by simpa [z_fl] using (List.getElem?_eq_some_iff.mp ho).1) hdg (fun H1 locs1 hP hD hS => kk _ rfl H1 locs1 ⟨?_, hS⟩)
  rw [z_w_put hk hkd ho] at hP
  exact hP
theorem z_putZ (C : z_CT p s m args c own cc nL D cA n ad) (hI : z_I D cA n ad s.heap S H locs) (k : Nat) (hk : k < n) {ci : Nat} {fl : List (Option Nat)} (hkd : z_kd k = .inr (ci, fl)) {C0 : String} {T : u_T} {N : Nat} (hc : z_cl[ci]? = some (C0, T, N)) (hin : ∀ w ∈ u_ws C0 T N, w ∈ z_gw) (ty0 : Nat → FieldType) (hty : ∀ k, k < N → parseFieldDescriptor (T k).2.2.1 = some (ty0 k)) (hnm : ∀ a, a < N → ∀ b, b < N → a ≠ b → (T a).2.1 ≠ (T b).2.1) (j : Nat) (hj : j < N) {index : Nat} (hlink : Cond.fieldLink own index (T j).1 (T j).2.1 (T j).2.2.1 ∈ z_gw) (ho : fl[j]? = some none) (hfin : (T j).2.2.2 = false) (hd : ty0 j = .boolean) {v : Int32} (hv : z_bo v) (hdg : decode cc pc = .ok (.putfield index, 3))
    (kk : ∀ (S1 : zS) (_ : S1 = z_su S k j v) (H1 : Heap) (locs1 : List Loc), z_I D cA n ad s.heap S1 H1 locs1 → W p l e R s m args below meth c H1 locs1 cells slots Q (F0 m (pc + 3) ls rest)) : W p l e R s m args below meth c H locs cells slots Q (F0 m pc ls (.int v :: .ref (ad k) :: rest)) := by
  obtain ⟨hx, hb, hml, hown, hts, hK, hJ⟩ := C
  refine va_put (D := D) (ci := ci) (v := .int v) (ty := .boolean) hx hb hts hin ty0 hty hnm hown hK hI.1 (z_w_D hJ (fun k hk => z_fr_in hk)) hI.2 k (by rw [z_w_at hk, z_ce_o hkd]) hc j hj (hts _ hlink) (fun _ h => h) hfin (by rw [hty j hj, hd]) (z_nb hv) (z_fb hv) (by simpa [z_fl] using (List.getElem?_eq_some_iff.mp ho).1) hdg (fun H1 locs1 hP hD hS => kk _ rfl H1 locs1 ⟨?_, hS⟩)
  rw [z_w_put hk hkd ho] at hP
  exact hP
theorem z_ild (C : z_CT p s m args c own cc nL D cA n ad) (hI : z_I D cA n ad s.heap S H locs) (k : Nat) (hk : k < n) {N : Nat} (hkd : z_kd k = .inl (0, N)) {i : Int32} (hin : vp_in i N) (hdg : decode cc pc = .ok (.iaload, 1))
    (kk : W p l e R s m args below meth c H locs cells slots Q (F0 m (pc + 1) ls (.int (S k (z_ix i)) :: rest))) : W p l e R s m args below meth c H locs cells slots Q (F0 m pc ls (.int i :: .ref (ad k) :: rest)) :=
  va_iald C.1 C.2.1 C.2.2.2.2.2.1 hI.1 k 0 (by rw [z_w_at hk, z_ce_a hkd (by decide)]) rfl hin hdg kk
theorem z_zld (C : z_CT p s m args c own cc nL D cA n ad) (hI : z_I D cA n ad s.heap S H locs) (k : Nat) (hk : k < n) {N : Nat} (hkd : z_kd k = .inl (1, N)) {i : Int32} (hin : vp_in i N) (hdg : decode cc pc = .ok (.baload, 1))
    (kk : W p l e R s m args below meth c H locs cells slots Q (F0 m (pc + 1) ls (.int (S k (z_ix i)) :: rest))) : W p l e R s m args below meth c H locs cells slots Q (F0 m pc ls (.int i :: .ref (ad k) :: rest)) :=
  va_zald C.1 C.2.1 C.2.2.2.2.2.1 hI.1 k 1 (by rw [z_w_at hk, z_ce_a hkd (by decide)]) rfl hin hdg kk
theorem z_lld (C : z_CT p s m args c own cc nL D cA n ad) (hI : z_I D cA n ad s.heap S H locs) (k : Nat) (hk : k < n) {N : Nat} (hkd : z_kd k = .inl (2, N)) {i : Int32} (hin : vp_in i N) (hdg : decode cc pc = .ok (.laload, 1))
    (kk : W p l e R s m args below meth c H locs cells slots Q (F0 m (pc + 1) ls (.long (Int32.toInt64 (S k (z_ix i))) :: rest))) : W p l e R s m args below meth c H locs cells slots Q (F0 m pc ls (.int i :: .ref (ad k) :: rest)) :=
  va_lald (f := fun j => (S k j).toInt64) C.1 C.2.1 C.2.2.2.2.2.1 hI.1 k 2 (by rw [z_w_at hk, z_ce_l hkd]) rfl hin hdg kk
theorem z_w_ast {k t N : Nat} {r : Nat → Int32} (hk : k < n) (hkd : z_kd k = .inl (t, N)) (ht : t ≠ 2) : (z_w cA n ad S).set k (ad k, .inl (cA t, N, .inl r)) = z_w cA n ad (fun a => if a = k then r else S a) := by
  rw [show (Sum.inl (cA t, N, .inl r) : va_E) = z_ce cA ad k r from (z_ce_a hkd ht).symm, z_w_set hk]
theorem z_ist (C : z_CT p s m args c own cc nL D cA n ad) (hI : z_I D cA n ad s.heap S H locs) (k : Nat) (hk : k < n) {N : Nat} (hkd : z_kd k = .inl (0, N)) {i v : Int32} (hin : vp_in i N) (hdg : decode cc pc = .ok (.iastore, 1))
    (kk : ∀ (S1 : zS) (_ : S1 = z_su S k (z_ix i) v) (H1 : Heap) (locs1 : List Loc), z_I D cA n ad s.heap S1 H1 locs1 → W p l e R s m args below meth c H1 locs1 cells slots Q (F0 m (pc + 1) ls rest)) : W p l e R s m args below meth c H locs cells slots Q (F0 m pc ls (.int v :: .int i :: .ref (ad k) :: rest)) := by
  obtain ⟨hx, hb, hml, hown, hts, hK, hJ⟩ := C
  refine va_iast hx hb hK hI.1 (z_w_D hJ (fun k hk => z_fr_in hk)) hI.2 k 0 (by rw [z_w_at hk, z_ce_a hkd (by decide)]) rfl hin hdg (fun H1 locs1 hP hD hS => kk _ rfl H1 locs1 ⟨?_, hS⟩)
  rw [z_w_ast hk hkd (by decide)] at hP
  exact hP
theorem z_zst (C : z_CT p s m args c own cc nL D cA n ad) (hI : z_I D cA n ad s.heap S H locs) (k : Nat) (hk : k < n) {N : Nat} (hkd : z_kd k = .inl (1, N)) {i v : Int32} (hin : vp_in i N) (hv : z_bo v) (hdg : decode cc pc = .ok (.bastore, 1))
    (kk : ∀ (S1 : zS) (_ : S1 = z_su S k (z_ix i) v) (H1 : Heap) (locs1 : List Loc), z_I D cA n ad s.heap S1 H1 locs1 → W p l e R s m args below meth c H1 locs1 cells slots Q (F0 m (pc + 1) ls rest)) : W p l e R s m args below meth c H locs cells slots Q (F0 m pc ls (.int v :: .int i :: .ref (ad k) :: rest)) := by
  obtain ⟨hx, hb, hml, hown, hts, hK, hJ⟩ := C
  refine va_zast hx hb hK hI.1 (z_w_D hJ (fun k hk => z_fr_in hk)) hI.2 k 1 (by rw [z_w_at hk, z_ce_a hkd (by decide)]) rfl hin hdg (fun H1 locs1 hP hD hS => kk _ rfl H1 locs1 ⟨?_, hS⟩)
  rw [z_vb hv, z_w_ast hk hkd (by decide)] at hP
  exact hP
theorem z_lst (C : z_CT p s m args c own cc nL D cA n ad) (hI : z_I D cA n ad s.heap S H locs) (k : Nat) (hk : k < n) {N : Nat} (hkd : z_kd k = .inl (2, N)) {i v : Int32} (hin : vp_in i N) (hdg : decode cc pc = .ok (.lastore, 1))
    (kk : ∀ (S1 : zS) (_ : S1 = z_su S k (z_ix i) v) (H1 : Heap) (locs1 : List Loc), z_I D cA n ad s.heap S1 H1 locs1 → W p l e R s m args below meth c H1 locs1 cells slots Q (F0 m (pc + 1) ls rest)) : W p l e R s m args below meth c H locs cells slots Q (F0 m pc ls (.long (Int32.toInt64 v) :: .int i :: .ref (ad k) :: rest)) := by
  obtain ⟨hx, hb, hml, hown, hts, hK, hJ⟩ := C
  refine va_last (f := fun j => (S k j).toInt64) hx hb hK hI.1 (z_w_D hJ (fun k hk => z_fr_in hk)) hI.2 k 2 (by rw [z_w_at hk, z_ce_l hkd]) rfl hin hdg (fun H1 locs1 hP hD hS => kk _ rfl H1 locs1 ⟨?_, hS⟩)
  have e1 : vp_updL (fun j => (S k j).toInt64) i.toNatClampNeg (Int32.toInt64 v) = fun j => (upd (S k) (z_ix i) v j).toInt64 := by
    funext j
    by_cases hj : j = i.toNatClampNeg <;> simp [vp_updL, upd, hj]
  rw [e1, show (Sum.inl (cA 2, N, .inr (.inl fun j => (upd (S k) (z_ix i) v j).toInt64)) : va_E) = z_ce cA ad k (upd (S k) (z_ix i) v) from (z_ce_l hkd).symm, z_w_set hk] at hP
  exact hP
/-- what a caller needs of a callee's words -/
def z_wv (y : MethodName) (bytes : ByteArray) (maxL : Nat) (ret : Option FieldType) (n : Nat) : Prop := Cond.instanceMethod y ∈ z_gw ∧ Cond.selects y.cls y y ∈ z_gw ∧ Cond.initialized y.cls ∈ z_gw ∧ Cond.code y bytes maxL ret ∈ z_gw ∧ y.cls ≠ "java/lang/invoke/MethodHandle" ∧ y.cls ≠ "java/lang/invoke/VarHandle" ∧ (parseMethodDescriptor y.desc).map (fun d => d.parameters.length) = some n
def z_ws (y : MethodName) (bytes : ByteArray) (maxL : Nat) (ret : Option FieldType) (n : Nat) : Prop := Cond.static y ∈ z_gw ∧ Cond.initialized y.cls ∈ z_gw ∧ Cond.code y bytes maxL ret ∈ z_gw ∧ y.cls ≠ "java/lang/invoke/MethodHandle" ∧ y.cls ≠ "java/lang/invoke/VarHandle" ∧ (parseMethodDescriptor y.desc).map (fun d => d.parameters.length) = some n
theorem z_gwg : ∀ w ∈ z_gw, (w.onTables && w.keeps) = true ∨ ∃ ty, w = .arrayClass ty := fun _ h => good_of_word (List.mem_filter.mp h).2
theorem z_GI {ws : List Cond} (h : ∀ w ∈ ws, w ∈ z_gw) : GoodIn z_gw ws := fun w hw => ⟨h w hw, z_gwg w (h w hw)⟩
def z_Pc (D : va_G) (cA : Nat → ClassId) (n : Nat) (ad : Nat → Nat) (av : List Value) (S : zS) (sz : Nat) : Array Value → State → Prop := va_Pc av (fun U => U.heap.size = sz ∧ va_P D z_cl (z_w cA n ad S) U.heap ∧ va_K D z_cl (z_ty cA) U)
theorem z_Pc_b {av : List Value} {sz : Nat} : FrameBlind (z_Pc D cA n ad av S sz) := fun a U g mk q => by
  obtain ⟨q0, q1, qP, qK⟩ := q
  exact ⟨q0, q1, qP, va_K.moved (u := U) (U := U.calling g mk a) (Vm.Alike.refl U.vm) qK⟩
/-- contracts: with an int (or boolean), with nothing -/
def z_cti (l : Launch) (D : va_G) (cA : Nat → ClassId) (n : Nat) (ad : Nat → Nat) (y : MethodName) (cc : ByteArray) (maxL : Nat) (ret : Option FieldType) (rm : Room) (av : List Value) (S : zS) (post : Int32 → zS → Prop) : Prop :=
  ∀ sz : Nat, (∀ i j, i < n → j < n → ad i = ad j → i = j) → Met l y (Cond.code y cc maxL ret :: z_gw) rm (z_Pc D cA n ad av S sz) (va_Qi post (fun S' t => va_P D z_cl (z_w cA n ad S') t.heap) (z_fr n ad sz)) 0 0 (z_fr n ad sz)
def z_ctv (l : Launch) (D : va_G) (cA : Nat → ClassId) (n : Nat) (ad : Nat → Nat) (y : MethodName) (cc : ByteArray) (maxL : Nat) (ret : Option FieldType) (rm : Room) (av : List Value) (S : zS) (post : zS → Prop) : Prop :=
  ∀ sz : Nat, (∀ i j, i < n → j < n → ad i = ad j → i = j) → Met l y (Cond.code y cc maxL ret :: z_gw) rm (z_Pc D cA n ad av S sz) (va_Qv post (fun S' t => va_P D z_cl (z_w cA n ad S') t.heap) (z_fr n ad sz)) 0 0 (z_fr n ad sz)
section ZC
variable {y : MethodName} {bytes : ByteArray} {maxL index : Nat} {ret : Option FieldType} {rm : Room} {As st0 : List Value}
theorem z_hA (hI : z_I D cA n ad s.heap S H locs) : ∀ q, z_fr n ad H.size q → z_fr n ad s.heap.size q := fun _ h => z_fr_mono hI.2.1 h
theorem z_GV (wc : z_wv y bytes maxL ret As.length) (wl : Cond.methodLink own index y ∈ z_gw) : GoodIn z_gw (wsV own index y.cls y (Cond.code y bytes maxL ret :: z_gw)) := z_GI (fun w hw => by
  obtain ⟨w1, w2, w3, w4, -⟩ := wc
  simp only [wsV, List.cons_append, List.nil_append, List.mem_cons] at hw
  rcases hw with rfl | rfl | rfl | rfl | rfl | hw
  · exact wl
  · exact w1
  · exact w2
  · exact w3
  · exact w4
  · exact hw)
theorem z_callVi (C : z_CT p s m args c own cc nL D cA n ad) (hI : z_I D cA n ad s.heap S H locs) (k : Nat) (hk : k < n) {ci : Nat} {fl : List (Option Nat)} (hkd : z_kd k = .inr (ci, fl)) {T : u_T} {N : Nat} (hc : z_cl[ci]? = some (y.cls, T, N)) {post : Int32 → zS → Prop}
    (hM : z_cti l D cA n ad y bytes maxL ret rm (.ref (ad k) :: As) S post) (wc : z_wv y bytes maxL ret As.length) (wl : Cond.methodLink own index y ∈ z_gw) (hr0 : rm.cells = 0) (hr1 : rm.slots = 0) (h1 : rm.frames + 1 ≤ R.frames) (h2 : 8 + (maxL + 11) + rm.locals ≤ R.locals) (hcs : cells ≤ R.cells ∧ slots ≤ R.slots) (hls : ls.size = nL) (hst : (rest.map fun v => v.category).sum ≤ 8) (h0 : st0 = As.reverse ++ .ref (ad k) :: rest) (hdg : decode cc pc = .ok (.invokevirtual index, 3))
    (kk : ∀ (r : Int32) (S1 : zS) (H1 : Heap) (locs1 : List Loc), post r S1 → z_I D cA n ad s.heap S1 H1 locs1 → W p l e R s m args below meth c H1 locs1 cells slots Q (F0 m (pc + 3) ls (.int r :: rest))) : W p l e R s m args below meth c H locs cells slots Q (F0 m pc ls st0) := by
  obtain ⟨hx, hb, hml, hown, hts, hK, hJ⟩ := id C
  have hA := z_hA hI
  refine va_calli (va_runV (b := ad k) (As := As) (rest := rest) ⟨hx, hb, hml, hown, hts⟩ (hM H.size hJ) (cwV As.length hts (z_GV wc wl) rfl hr0 hr1 ⟨rfl, wc.2.2.2.2⟩ ⟨h1, h2⟩) ⟨z_Pc_b, va_recv hK hI.1 (ci := ci) (q0 := k) hc (by rw [z_w_at hk, z_ce_o hkd]), fun U hU hW => ⟨rfl, by rw [hU], by rw [hU]; exact hI.1, va_K.moved hW.alike hK⟩⟩ rfl rfl hls h0 (lv_room hst) hdg ⟨hcs.1, hcs.2⟩) hI.2 (fun q _ h => hA q h) hA (fun r u t H1 locs1 ht hvm hp hB hz1 hk1 hS => kk r u H1 locs1 hp ⟨by rw [← ht]; exact hB, hS⟩)
theorem z_callVv (C : z_CT p s m args c own cc nL D cA n ad) (hI : z_I D cA n ad s.heap S H locs) (k : Nat) (hk : k < n) {ci : Nat} {fl : List (Option Nat)} (hkd : z_kd k = .inr (ci, fl)) {T : u_T} {N : Nat} (hc : z_cl[ci]? = some (y.cls, T, N)) {post : zS → Prop}
    (hM : z_ctv l D cA n ad y bytes maxL ret rm (.ref (ad k) :: As) S post) (wc : z_wv y bytes maxL ret As.length) (wl : Cond.methodLink own index y ∈ z_gw) (hr0 : rm.cells = 0) (hr1 : rm.slots = 0) (h1 : rm.frames + 1 ≤ R.frames) (h2 : 8 + (maxL + 11) + rm.locals ≤ R.locals) (hcs : cells ≤ R.cells ∧ slots ≤ R.slots) (hls : ls.size = nL) (hst : (rest.map fun v => v.category).sum ≤ 8) (h0 : st0 = As.reverse ++ .ref (ad k) :: rest) (hdg : decode cc pc = .ok (.invokevirtual index, 3))
    (kk : ∀ (S1 : zS) (H1 : Heap) (locs1 : List Loc), post S1 → z_I D cA n ad s.heap S1 H1 locs1 → W p l e R s m args below meth c H1 locs1 cells slots Q (F0 m (pc + 3) ls rest)) : W p l e R s m args below meth c H locs cells slots Q (F0 m pc ls st0) := by
  obtain ⟨hx, hb, hml, hown, hts, hK, hJ⟩ := id C
  have hA := z_hA hI
  refine va_callv (va_runV (b := ad k) (As := As) (rest := rest) ⟨hx, hb, hml, hown, hts⟩ (hM H.size hJ) (cwV As.length hts (z_GV wc wl) rfl hr0 hr1 ⟨rfl, wc.2.2.2.2⟩ ⟨h1, h2⟩) ⟨z_Pc_b, va_recv hK hI.1 (ci := ci) (q0 := k) hc (by rw [z_w_at hk, z_ce_o hkd]), fun U hU hW => ⟨rfl, by rw [hU], by rw [hU]; exact hI.1, va_K.moved hW.alike hK⟩⟩ rfl rfl hls h0 (lv_room hst) hdg ⟨hcs.1, hcs.2⟩) hI.2 (fun q _ h => hA q h) hA (fun u t H1 locs1 ht hvm hp hB hz1 hk1 hS => kk u H1 locs1 hp ⟨by rw [← ht]; exact hB, hS⟩)
theorem z_GS (wc : z_ws y bytes maxL ret As.length) (wl : Cond.methodLink own index y ∈ z_gw) : GoodIn z_gw (va_wsS own index y (Cond.code y bytes maxL ret :: z_gw)) := z_GI (fun w hw => by
  obtain ⟨w1, w2, w3, -⟩ := wc
  simp only [va_wsS, List.cons_append, List.nil_append, List.mem_cons] at hw
  rcases hw with rfl | rfl | rfl | rfl | hw
  · exact wl
  · exact w1
  · exact w2
  · exact w3
  · exact hw)
theorem z_callSi (C : z_CT p s m args c own cc nL D cA n ad) (hI : z_I D cA n ad s.heap S H locs) {post : Int32 → zS → Prop}
    (hM : z_cti l D cA n ad y bytes maxL ret rm As S post) (wc : z_ws y bytes maxL ret As.length) (wl : Cond.methodLink own index y ∈ z_gw) (hr0 : rm.cells = 0) (hr1 : rm.slots = 0) (h1 : rm.frames + 1 ≤ R.frames) (h2 : 8 + (maxL + 11) + rm.locals ≤ R.locals) (hcs : cells ≤ R.cells ∧ slots ≤ R.slots) (hls : ls.size = nL) (hst : (rest.map fun v => v.category).sum ≤ 8) (h0 : st0 = As.reverse ++ rest) (hdg : decode cc pc = .ok (.invokestatic index, 3))
    (kk : ∀ (r : Int32) (S1 : zS) (H1 : Heap) (locs1 : List Loc), post r S1 → z_I D cA n ad s.heap S1 H1 locs1 → W p l e R s m args below meth c H1 locs1 cells slots Q (F0 m (pc + 3) ls (.int r :: rest))) : W p l e R s m args below meth c H locs cells slots Q (F0 m pc ls st0) := by
  obtain ⟨hx, hb, hml, hown, hts, hK, hJ⟩ := id C
  have hA := z_hA hI
  refine va_calli (va_runS (As := As) (rest := rest) ⟨hx, hb, hml, hown, hts⟩ (hM H.size hJ) (va_cwS As.length hts (z_GS wc wl) rfl hr0 hr1 wc.2.2.2 ⟨h1, h2⟩) ⟨z_Pc_b, fun U hU hW => ⟨rfl, by rw [hU], by rw [hU]; exact hI.1, va_K.moved hW.alike hK⟩⟩ rfl rfl hls h0 (lv_room hst) hdg ⟨hcs.1, hcs.2⟩) hI.2 (fun q _ h => hA q h) hA (fun r u t H1 locs1 ht hvm hp hB hz1 hk1 hS => kk r u H1 locs1 hp ⟨by rw [← ht]; exact hB, hS⟩)
theorem z_callSv (C : z_CT p s m args c own cc nL D cA n ad) (hI : z_I D cA n ad s.heap S H locs) {post : zS → Prop}
    (hM : z_ctv l D cA n ad y bytes maxL ret rm As S post) (wc : z_ws y bytes maxL ret As.length) (wl : Cond.methodLink own index y ∈ z_gw) (hr0 : rm.cells = 0) (hr1 : rm.slots = 0) (h1 : rm.frames + 1 ≤ R.frames) (h2 : 8 + (maxL + 11) + rm.locals ≤ R.locals) (hcs : cells ≤ R.cells ∧ slots ≤ R.slots) (hls : ls.size = nL) (hst : (rest.map fun v => v.category).sum ≤ 8) (h0 : st0 = As.reverse ++ rest) (hdg : decode cc pc = .ok (.invokestatic index, 3))
    (kk : ∀ (S1 : zS) (H1 : Heap) (locs1 : List Loc), post S1 → z_I D cA n ad s.heap S1 H1 locs1 → W p l e R s m args below meth c H1 locs1 cells slots Q (F0 m (pc + 3) ls rest)) : W p l e R s m args below meth c H locs cells slots Q (F0 m pc ls st0) := by
  obtain ⟨hx, hb, hml, hown, hts, hK, hJ⟩ := id C
  have hA := z_hA hI
  refine va_callv (va_runS (As := As) (rest := rest) ⟨hx, hb, hml, hown, hts⟩ (hM H.size hJ) (va_cwS As.length hts (z_GS wc wl) rfl hr0 hr1 wc.2.2.2 ⟨h1, h2⟩) ⟨z_Pc_b, fun U hU hW => ⟨rfl, by rw [hU], by rw [hU]; exact hI.1, va_K.moved hW.alike hK⟩⟩ rfl rfl hls h0 (lv_room hst) hdg ⟨hcs.1, hcs.2⟩) hI.2 (fun q _ h => hA q h) hA (fun u t H1 locs1 ht hvm hp hB hz1 hk1 hS => kk u H1 locs1 hp ⟨by rw [← ht]; exact hB, hS⟩)
theorem z_mmin (C : z_CT p s m args c own cc nL D cA n ad) (hls : ls.size = nL) (wl : Cond.methodLink own index Lib.Math.min.name ∈ z_gw) (h1 : 1 ≤ R.frames) (h2 : (rest.map fun v => v.category).sum + 13 ≤ R.locals) (hcs : cells ≤ R.cells ∧ slots ≤ R.slots) {x y : Int32} (hdg : decode cc pc = .ok (.invokestatic index, 3))
    (kk : W p l e R s m args below meth c H locs cells slots Q (F0 m (pc + 3) ls (.int (if y < x then y else x) :: rest))) : W p l e R s m args below meth c H locs cells slots Q (F0 m pc ls (.int y :: .int x :: rest)) := by
  obtain ⟨hx, hb, hml, hown, hts, hK, hJ⟩ := C
  exact va_mmin hx hb (hml.trans hls.symm) hown (hts _ wl) (hts _ k_st_min) (hts _ k_in_Math) (hts _ k_co_min) h1 h2 hcs.1 hcs.2 hdg kk
theorem z_mmax (C : z_CT p s m args c own cc nL D cA n ad) (hls : ls.size = nL) (wl : Cond.methodLink own index Lib.Math.max.name ∈ z_gw) (h1 : 1 ≤ R.frames) (h2 : (rest.map fun v => v.category).sum + 13 ≤ R.locals) (hcs : cells ≤ R.cells ∧ slots ≤ R.slots) {x y : Int32} (hdg : decode cc pc = .ok (.invokestatic index, 3))
    (kk : W p l e R s m args below meth c H locs cells slots Q (F0 m (pc + 3) ls (.int (if x < y then y else x) :: rest))) : W p l e R s m args below meth c H locs cells slots Q (F0 m pc ls (.int y :: .int x :: rest)) := by
  obtain ⟨hx, hb, hml, hown, hts, hK, hJ⟩ := C
  exact va_mmax hx hb (hml.trans hls.symm) hown (hts _ wl) (hts _ k_st_max) (hts _ k_in_Math) (hts _ k_co_max) h1 h2 hcs.1 hcs.2 hdg kk
theorem z_copy (C : z_CT p s m args c own cc nL D cA n ad) (hI : z_I D cA n ad s.heap S H locs) (k1 k2 : Nat) (hk1 : k1 < n) (hk2 : k2 < n) {N1 N2 : Nat} (hd1 : z_kd k1 = .inl (0, N1)) (hd2 : z_kd k2 = .inl (0, N2)) {sp dp q : Int32} (h : z_cp sp dp q N1 N2) (hls : ls.size = nL) (wl : Cond.methodLink own index arraycopyName ∈ z_gw) (h1 : 1 ≤ R.frames) (h2 : (rest.map fun v => v.category).sum + (nativeFrameWords "java/lang/System" "arraycopy" 5 + 11) ≤ R.locals) (hdg : decode cc pc = .ok (.invokestatic index, 3))
    (kk : ∀ (S1 : zS) (_ : S1 = z_sc S k1 k2 (z_ix sp) (z_ix dp) (z_ix q)) (H1 : Heap) (locs1 : List Loc), z_I D cA n ad s.heap S1 H1 locs1 → W p l e R s m args below meth c H1 locs1 cells slots Q (F0 m (pc + 3) ls rest)) : W p l e R s m args below meth c H locs cells slots Q (F0 m pc ls (.int q :: .int dp :: .ref (ad k2) :: .int sp :: .ref (ad k1) :: rest)) := by
  obtain ⟨hx, hb, hml, hown, hts, hK, hJ⟩ := C
  obtain ⟨a1, a2, a3, a4, a5⟩ := h
  refine va_copyi (ty := .int) hx hb (hml.trans hls.symm) hown (hts _ wl) (hts _ k_nt_arraycopy) (hts _ k_st_arraycopy) (hts _ k_in_System) hK hI.1 (z_w_D hJ (fun k hk => z_fr_in hk)) hI.2 k1 k2 0 0 (by rw [z_w_at hk1, z_ce_a hd1 (by decide)]) (by rw [z_w_at hk2, z_ce_a hd2 (by decide)]) rfl rfl rfl a1 a2 a3 a4 a5 (fun _ _ => rfl) h1 h2 hdg (fun H1 locs1 hP hD hS => kk _ rfl H1 locs1 ⟨?_, hS⟩)
  rw [z_w_ast hk2 hd2 (by decide)] at hP
  exact hP
theorem z_alen (C : z_CT p s m args c own cc nL D cA n ad) (hI : z_I D cA n ad s.heap S H locs) (k : Nat) (hk : k < n) {N : Nat} (hkd : z_kd k = .inl (0, N)) {v : Int32} (hv : Int32.ofNat N = v) (hdg : decode cc pc = .ok (.arraylength, 1))
    (kk : W p l e R s m args below meth c H locs cells slots Q (F0 m (pc + 1) ls (.int v :: rest))) : W p l e R s m args below meth c H locs cells slots Q (F0 m pc ls (.ref (ad k) :: rest)) :=
  va_alen C.1 C.2.1 C.2.2.2.2.2.1 hI.1 k 0 (by rw [z_w_at hk, z_ce_a hkd (by decide)]) rfl hv hdg kk
end ZC
/-- what a method owes at its end -/
def z_Ri (p : Program) (l : Launch) (e : Env) (R : Room) (s : State) (m : MethodId) (args : Array Value) (below : List Frame) (meth : Method) (c : Code) (Q : State → Prop) (cc : ByteArray) (D : va_G) (cA : Nat → ClassId) (n : Nat) (ad : Nat → Nat) (post : Int32 → zS → Prop) : Prop :=
  ∀ (cells slots : Nat), cells ≤ R.cells ∧ slots ≤ R.slots → ∀ (v : Int32) (S : zS) (H : Heap) (locs : List Loc) (pc : Nat) (ls : Array Slot), post v S → z_I D cA n ad s.heap S H locs → decode cc pc = .ok (.ireturn, 1) → W p l e R s m args below meth c H locs cells slots Q (F0 m pc ls [.int v])
def z_Rz (p : Program) (l : Launch) (e : Env) (R : Room) (s : State) (m : MethodId) (args : Array Value) (below : List Frame) (meth : Method) (c : Code) (Q : State → Prop) (cc : ByteArray) (D : va_G) (cA : Nat → ClassId) (n : Nat) (ad : Nat → Nat) (post : Int32 → zS → Prop) : Prop :=
  ∀ (cells slots : Nat), cells ≤ R.cells ∧ slots ≤ R.slots → ∀ (v : Int32) (S : zS) (H : Heap) (locs : List Loc) (pc : Nat) (ls : Array Slot), z_bo v → post v S → z_I D cA n ad s.heap S H locs → decode cc pc = .ok (.ireturn, 1) → W p l e R s m args below meth c H locs cells slots Q (F0 m pc ls [.int v])
def z_Rv (p : Program) (l : Launch) (e : Env) (R : Room) (s : State) (m : MethodId) (args : Array Value) (below : List Frame) (meth : Method) (c : Code) (Q : State → Prop) (cc : ByteArray) (D : va_G) (cA : Nat → ClassId) (n : Nat) (ad : Nat → Nat) (post : zS → Prop) : Prop :=
  ∀ (cells slots : Nat), cells ≤ R.cells ∧ slots ≤ R.slots → ∀ (S : zS) (H : Heap) (locs : List Loc) (pc : Nat) (ls : Array Slot), post S → z_I D cA n ad s.heap S H locs → decode cc pc = .ok (.return_, 1) → W p l e R s m args below meth c H locs cells slots Q (F0 m pc ls [])
end ZR
section ZM
variable {l : Launch} {D : va_G} {cA : Nat → ClassId} {n : Nat} {ad : Nat → Nat} {y : MethodName} {cc : ByteArray} {maxL : Nat} {rm : Room} {av : List Value} {S : zS}
theorem z_meti {post : Int32 → zS → Prop} (hy : plainName y.cls = true) (hav : (lg_sl av).length ≤ maxL) (hr : rm.cells = 0 ∧ rm.slots = 0)
    (body : ∀ (p : Program) (e : Env) (s : State) (m : MethodId) (args : Array Value) (below : List Frame) (meth : Method) (c : Code) (Q : State → Prop) (ls : Array Slot), z_CT p s m args c y.cls cc maxL D cA n ad → 0 ≤ rm.cells ∧ 0 ≤ rm.slots → lv_has ls maxL (lv_args 0 av) → z_I D cA n ad s.heap S s.heap [] → z_Ri p l e rm s m args below meth c Q cc D cA n ad post → W p l e rm s m args below meth c s.heap [] 0 0 Q (F0 m 0 ls [])) :
    z_cti l D cA n ad y cc maxL (some .int) rm av S post := by
  intro sz hJ
  refine Met.ofW (cc := cc) (maxL := maxL) (ret := some .int) hy rfl ?_
  intro p e s m args below meth c s₁ B hml hv
  obtain ⟨rfl, hsz, hP, hK⟩ := hv
  have hts := atoms_spec (ws := Cond.code y cc maxL (some .int) :: z_gw) B.pre
  subst hsz
  have hlocks := B.notSynchronized
  have hr9 := B.returns
  have hx := B.exec
  have hb := B.bytes
  rw [lg_entry_eq]
  refine body p e s m av.toArray below meth c _ _ ⟨hx, hb, hml, findClass_of_methodNamed B.named, fun w hw => hts w (List.mem_cons_of_mem _ hw), hK, hJ⟩ ⟨Nat.zero_le _, Nat.zero_le _⟩ (lv_entry av hav) ⟨hP, va_S.rf⟩ ?_
  intro cells slots hcs v S1 H locs pc ls hp hI hd
  have e1 : cells = 0 := Nat.le_zero.mp (by have := hcs.1; rw [hr.1] at this; exact this)
  have e2 : slots = 0 := Nat.le_zero.mp (by have := hcs.2; rw [hr.2] at this; exact this)
  subst e1
  subst e2
  exact W.iret (v := v) hx hb hr9 (fun t ht hW => ⟨⟨v, S1, rfl, hp, (by show va_P D z_cl _ t.heap; rw [ht]; exact hI.1)⟩, hI.2.F ht⟩) hI.2.2.2 hd
theorem z_metz {post : Int32 → zS → Prop} (hy : plainName y.cls = true) (hav : (lg_sl av).length ≤ maxL) (hr : rm.cells = 0 ∧ rm.slots = 0)
    (body : ∀ (p : Program) (e : Env) (s : State) (m : MethodId) (args : Array Value) (below : List Frame) (meth : Method) (c : Code) (Q : State → Prop) (ls : Array Slot), z_CT p s m args c y.cls cc maxL D cA n ad → 0 ≤ rm.cells ∧ 0 ≤ rm.slots → lv_has ls maxL (lv_args 0 av) → z_I D cA n ad s.heap S s.heap [] → z_Rz p l e rm s m args below meth c Q cc D cA n ad post → W p l e rm s m args below meth c s.heap [] 0 0 Q (F0 m 0 ls [])) :
    z_cti l D cA n ad y cc maxL (some .boolean) rm av S post := by
  intro sz hJ
  refine Met.ofW (cc := cc) (maxL := maxL) (ret := some .boolean) hy rfl ?_
  intro p e s m args below meth c s₁ B hml hv
  obtain ⟨rfl, hsz, hP, hK⟩ := hv
  have hts := atoms_spec (ws := Cond.code y cc maxL (some .boolean) :: z_gw) B.pre
  subst hsz
  have hlocks := B.notSynchronized
  have hr9 := B.returns
  have hx := B.exec
  have hb := B.bytes
  rw [lg_entry_eq]
  refine body p e s m av.toArray below meth c _ _ ⟨hx, hb, hml, findClass_of_methodNamed B.named, fun w hw => hts w (List.mem_cons_of_mem _ hw), hK, hJ⟩ ⟨Nat.zero_le _, Nat.zero_le _⟩ (lv_entry av hav) ⟨hP, va_S.rf⟩ ?_
  intro cells slots hcs v S1 H locs pc ls hv hp hI hd
  have e1 : cells = 0 := Nat.le_zero.mp (by have := hcs.1; rw [hr.1] at this; exact this)
  have e2 : slots = 0 := Nat.le_zero.mp (by have := hcs.2; rw [hr.2] at this; exact this)
  subst e1
  subst e2
  exact W.zret (v := v) hx hb hr9 (z_nb hv) (fun t ht hW => ⟨⟨v, S1, rfl, hp, (by show va_P D z_cl _ t.heap; rw [ht]; exact hI.1)⟩, hI.2.F ht⟩) hI.2.2.2 hd
theorem z_metv {post : zS → Prop} (hy : plainName y.cls = true) (hav : (lg_sl av).length ≤ maxL) (hr : rm.cells = 0 ∧ rm.slots = 0)
    (body : ∀ (p : Program) (e : Env) (s : State) (m : MethodId) (args : Array Value) (below : List Frame) (meth : Method) (c : Code) (Q : State → Prop) (ls : Array Slot), z_CT p s m args c y.cls cc maxL D cA n ad → 0 ≤ rm.cells ∧ 0 ≤ rm.slots → lv_has ls maxL (lv_args 0 av) → z_I D cA n ad s.heap S s.heap [] → z_Rv p l e rm s m args below meth c Q cc D cA n ad post → W p l e rm s m args below meth c s.heap [] 0 0 Q (F0 m 0 ls [])) :
    z_ctv l D cA n ad y cc maxL none rm av S post := by
  intro sz hJ
  refine Met.ofW (cc := cc) (maxL := maxL) (ret := none) hy rfl ?_
  intro p e s m args below meth c s₁ B hml hv
  obtain ⟨rfl, hsz, hP, hK⟩ := hv
  have hts := atoms_spec (ws := Cond.code y cc maxL none :: z_gw) B.pre
  subst hsz
  have hlocks := B.notSynchronized
  have hr9 := B.returns
  have hx := B.exec
  have hb := B.bytes
  rw [lg_entry_eq]
  refine body p e s m av.toArray below meth c _ _ ⟨hx, hb, hml, findClass_of_methodNamed B.named, fun w hw => hts w (List.mem_cons_of_mem _ hw), hK, hJ⟩ ⟨Nat.zero_le _, Nat.zero_le _⟩ (lv_entry av hav) ⟨hP, va_S.rf⟩ ?_
  intro cells slots hcs S1 H locs pc ls hp hI hd
  have e1 : cells = 0 := Nat.le_zero.mp (by have := hcs.1; rw [hr.1] at this; exact this)
  have e2 : slots = 0 := Nat.le_zero.mp (by have := hcs.2; rw [hr.2] at this; exact this)
  subst e1
  subst e2
  exact W.vret hx hb hr9 (fun t ht hW => ⟨⟨S1, rfl, hp, (by show va_P D z_cl _ t.heap; rw [ht]; exact hI.1)⟩, hI.2.F ht⟩) hI.2.2.2 hd
end ZM
end
section
set_option maxRecDepth 20000 in
theorem wc_P_put : z_wv y_P_put b_P_put 4 (some .boolean) 3 := ⟨z_gwi 273 (by decide +kernel) (by decide +kernel), z_gwi 274 (by decide +kernel) (by decide +kernel), z_gwi 60 (by decide +kernel) (by decide +kernel), z_gwi 275 (rfl) (rfl), by decide +kernel, by decide +kernel, by decide +kernel⟩
set_option maxRecDepth 20000 in
theorem wc_P_fill : z_wv y_P_fill b_P_fill 11 (some .int) 5 := ⟨z_gwi 357 (by decide +kernel) (by decide +kernel), z_gwi 358 (by decide +kernel) (by decide +kernel), z_gwi 60 (by decide +kernel) (by decide +kernel), z_gwi 359 (rfl) (rfl), by decide +kernel, by decide +kernel, by decide +kernel⟩
set_option maxRecDepth 20000 in
theorem wc_P_noise : z_wv y_P_noise b_P_noise 3 (some .int) 1 := ⟨z_gwi 380 (by decide +kernel) (by decide +kernel), z_gwi 381 (by decide +kernel) (by decide +kernel), z_gwi 60 (by decide +kernel) (by decide +kernel), z_gwi 382 (rfl) (rfl), by decide +kernel, by decide +kernel, by decide +kernel⟩
set_option maxRecDepth 20000 in
theorem wc_P_run : z_wv y_P_run b_P_run 3 (some .int) 2 := ⟨z_gwi 388 (by decide +kernel) (by decide +kernel), z_gwi 389 (by decide +kernel) (by decide +kernel), z_gwi 60 (by decide +kernel) (by decide +kernel), z_gwi 390 (rfl) (rfl), by decide +kernel, by decide +kernel, by decide +kernel⟩
set_option maxRecDepth 20000 in
theorem wc_P_part : z_wv y_P_part b_P_part 3 (some .int) 2 := ⟨z_gwi 503 (by decide +kernel) (by decide +kernel), z_gwi 504 (by decide +kernel) (by decide +kernel), z_gwi 60 (by decide +kernel) (by decide +kernel), z_gwi 505 (rfl) (rfl), by decide +kernel, by decide +kernel, by decide +kernel⟩
set_option maxRecDepth 20000 in
theorem wc_P_partOf : z_wv y_P_partOf b_P_partOf 3 (some .int) 2 := ⟨z_gwi 587 (by decide +kernel) (by decide +kernel), z_gwi 588 (by decide +kernel) (by decide +kernel), z_gwi 60 (by decide +kernel) (by decide +kernel), z_gwi 589 (rfl) (rfl), by decide +kernel, by decide +kernel, by decide +kernel⟩
set_option maxRecDepth 20000 in
theorem wc_P_line : z_wv y_P_line b_P_line 5 (some .int) 3 := ⟨z_gwi 594 (by decide +kernel) (by decide +kernel), z_gwi 595 (by decide +kernel) (by decide +kernel), z_gwi 60 (by decide +kernel) (by decide +kernel), z_gwi 596 (rfl) (rfl), by decide +kernel, by decide +kernel, by decide +kernel⟩
set_option maxRecDepth 20000 in
theorem wc_P_order : z_wv y_P_order b_P_order 2 (some .int) 1 := ⟨z_gwi 609 (by decide +kernel) (by decide +kernel), z_gwi 610 (by decide +kernel) (by decide +kernel), z_gwi 60 (by decide +kernel) (by decide +kernel), z_gwi 611 (rfl) (rfl), by decide +kernel, by decide +kernel, by decide +kernel⟩
set_option maxRecDepth 20000 in
theorem wc_P_cover : z_wv y_P_cover b_P_cover 3 (some .int) 2 := ⟨z_gwi 616 (by decide +kernel) (by decide +kernel), z_gwi 617 (by decide +kernel) (by decide +kernel), z_gwi 60 (by decide +kernel) (by decide +kernel), z_gwi 618 (rfl) (rfl), by decide +kernel, by decide +kernel, by decide +kernel⟩
set_option maxRecDepth 20000 in
theorem wc_P_strip : z_wv y_P_strip b_P_strip 2 (some .int) 1 := ⟨z_gwi 623 (by decide +kernel) (by decide +kernel), z_gwi 624 (by decide +kernel) (by decide +kernel), z_gwi 60 (by decide +kernel) (by decide +kernel), z_gwi 625 (rfl) (rfl), by decide +kernel, by decide +kernel, by decide +kernel⟩
set_option maxRecDepth 20000 in
theorem wc_P_cell : z_wv y_P_cell b_P_cell 3 (some .int) 2 := ⟨z_gwi 630 (by decide +kernel) (by decide +kernel), z_gwi 631 (by decide +kernel) (by decide +kernel), z_gwi 60 (by decide +kernel) (by decide +kernel), z_gwi 632 (rfl) (rfl), by decide +kernel, by decide +kernel, by decide +kernel⟩
set_option maxRecDepth 20000 in
theorem wc_P_isSpeck : z_wv y_P_isSpeck b_P_isSpeck 4 (some .boolean) 2 := ⟨z_gwi 637 (by decide +kernel) (by decide +kernel), z_gwi 638 (by decide +kernel) (by decide +kernel), z_gwi 60 (by decide +kernel) (by decide +kernel), z_gwi 639 (rfl) (rfl), by decide +kernel, by decide +kernel, by decide +kernel⟩
set_option maxRecDepth 20000 in
theorem wc_P_told : z_wv y_P_told b_P_told 2 (some .int) 1 := ⟨z_gwi 254 (by decide +kernel) (by decide +kernel), z_gwi 255 (by decide +kernel) (by decide +kernel), z_gwi 60 (by decide +kernel) (by decide +kernel), z_gwi 256 (rfl) (rfl), by decide +kernel, by decide +kernel, by decide +kernel⟩
set_option maxRecDepth 20000 in
theorem wc_P_clear : z_wv y_P_clear b_P_clear 2 none 0 := ⟨z_gwi 262 (by decide +kernel) (by decide +kernel), z_gwi 263 (by decide +kernel) (by decide +kernel), z_gwi 60 (by decide +kernel) (by decide +kernel), z_gwi 264 (rfl) (rfl), by decide +kernel, by decide +kernel, by decide +kernel⟩
set_option maxRecDepth 20000 in
theorem wc_P_nearestSide : z_ws y_P_nearestSide b_P_nearestSide 1 (some .int) 1 := ⟨z_gwi 83 (by decide +kernel) (by decide +kernel), z_gwi 60 (by decide +kernel) (by decide +kernel), z_gwi 84 (rfl) (rfl), by decide +kernel, by decide +kernel, by decide +kernel⟩
set_option maxRecDepth 20000 in
theorem wc_P_mustBeParted : z_wv y_P_mustBeParted b_P_mustBeParted 1 none 0 := ⟨z_gwi 508 (by decide +kernel) (by decide +kernel), z_gwi 22 (by decide +kernel) (by decide +kernel), z_gwi 60 (by decide +kernel) (by decide +kernel), z_gwi 509 (rfl) (rfl), by decide +kernel, by decide +kernel, by decide +kernel⟩
set_option maxRecDepth 20000 in
theorem wc_P_mustBeSample : z_wv y_P_mustBeSample b_P_mustBeSample 3 none 2 := ⟨z_gwi 278 (by decide +kernel) (by decide +kernel), z_gwi 1 (by decide +kernel) (by decide +kernel), z_gwi 60 (by decide +kernel) (by decide +kernel), z_gwi 279 (rfl) (rfl), by decide +kernel, by decide +kernel, by decide +kernel⟩
set_option maxRecDepth 20000 in
theorem wc_P_mustBeBelow : z_ws y_P_mustBeBelow b_P_mustBeBelow 2 none 2 := ⟨z_gwi 527 (by decide +kernel) (by decide +kernel), z_gwi 60 (by decide +kernel) (by decide +kernel), z_gwi 528 (rfl) (rfl), by decide +kernel, by decide +kernel, by decide +kernel⟩
set_option maxRecDepth 20000 in
theorem wc_P_mustBeTold : z_ws y_P_mustBeTold b_P_mustBeTold 2 none 2 := ⟨z_gwi 531 (by decide +kernel) (by decide +kernel), z_gwi 60 (by decide +kernel) (by decide +kernel), z_gwi 532 (rfl) (rfl), by decide +kernel, by decide +kernel, by decide +kernel⟩
set_option maxRecDepth 20000 in
theorem wc_P_paint : z_wv y_P_paint b_P_paint 5 (some .boolean) 3 := ⟨z_gwi 350 (by decide +kernel) (by decide +kernel), z_gwi 3 (by decide +kernel) (by decide +kernel), z_gwi 60 (by decide +kernel) (by decide +kernel), z_gwi 351 (rfl) (rfl), by decide +kernel, by decide +kernel, by decide +kernel⟩
set_option maxRecDepth 20000 in
theorem wc_P_toldOfParted : z_wv y_P_toldOfParted b_P_toldOfParted 2 (some .int) 1 := ⟨z_gwi 259 (by decide +kernel) (by decide +kernel), z_gwi 0 (by decide +kernel) (by decide +kernel), z_gwi 60 (by decide +kernel) (by decide +kernel), z_gwi 260 (rfl) (rfl), by decide +kernel, by decide +kernel, by decide +kernel⟩
set_option maxRecDepth 20000 in
theorem wc_P_findClean : z_wv y_P_findClean b_P_findClean 3 none 0 := ⟨z_gwi 394 (by decide +kernel) (by decide +kernel), z_gwi 4 (by decide +kernel) (by decide +kernel), z_gwi 60 (by decide +kernel) (by decide +kernel), z_gwi 395 (rfl) (rfl), by decide +kernel, by decide +kernel, by decide +kernel⟩
set_option maxRecDepth 20000 in
theorem wc_P_smear : z_wv y_P_smear b_P_smear 4 none 2 := ⟨z_gwi 423 (by decide +kernel) (by decide +kernel), z_gwi 9 (by decide +kernel) (by decide +kernel), z_gwi 60 (by decide +kernel) (by decide +kernel), z_gwi 424 (rfl) (rfl), by decide +kernel, by decide +kernel, by decide +kernel⟩
set_option maxRecDepth 20000 in
theorem wc_P_smearAlong : z_wv y_P_smearAlong b_P_smearAlong 8 none 4 := ⟨z_gwi 427 (by decide +kernel) (by decide +kernel), z_gwi 10 (by decide +kernel) (by decide +kernel), z_gwi 60 (by decide +kernel) (by decide +kernel), z_gwi 428 (rfl) (rfl), by decide +kernel, by decide +kernel, by decide +kernel⟩
set_option maxRecDepth 20000 in
theorem wc_P_findStrips : z_wv y_P_findStrips b_P_findStrips 4 none 0 := ⟨z_gwi 456 (by decide +kernel) (by decide +kernel), z_gwi 16 (by decide +kernel) (by decide +kernel), z_gwi 60 (by decide +kernel) (by decide +kernel), z_gwi 457 (rfl) (rfl), by decide +kernel, by decide +kernel, by decide +kernel⟩
set_option maxRecDepth 20000 in
theorem wc_P_hasInk : z_wv y_P_hasInk b_P_hasInk 3 (some .boolean) 1 := ⟨z_gwi 460 (by decide +kernel) (by decide +kernel), z_gwi 17 (by decide +kernel) (by decide +kernel), z_gwi 60 (by decide +kernel) (by decide +kernel), z_gwi 461 (rfl) (rfl), by decide +kernel, by decide +kernel, by decide +kernel⟩
set_option maxRecDepth 20000 in
theorem wc_P_weightOf : z_wv y_P_weightOf b_P_weightOf 4 (some .int) 1 := ⟨z_gwi 536 (by decide +kernel) (by decide +kernel), z_gwi 23 (by decide +kernel) (by decide +kernel), z_gwi 60 (by decide +kernel) (by decide +kernel), z_gwi 537 (rfl) (rfl), by decide +kernel, by decide +kernel, by decide +kernel⟩
set_option maxRecDepth 20000 in
theorem wc_P_kindOf : z_wv y_P_kindOf b_P_kindOf 5 (some .int) 1 := ⟨z_gwi 540 (by decide +kernel) (by decide +kernel), z_gwi 24 (by decide +kernel) (by decide +kernel), z_gwi 60 (by decide +kernel) (by decide +kernel), z_gwi 541 (rfl) (rfl), by decide +kernel, by decide +kernel, by decide +kernel⟩
set_option maxRecDepth 20000 in
theorem wc_P_isThin : z_ws y_P_isThin b_P_isThin 2 (some .boolean) 2 := ⟨z_gwi 551 (by decide +kernel) (by decide +kernel), z_gwi 60 (by decide +kernel) (by decide +kernel), z_gwi 552 (rfl) (rfl), by decide +kernel, by decide +kernel, by decide +kernel⟩
set_option maxRecDepth 20000 in
theorem wc_P_isFramed : z_wv y_P_isFramed b_P_isFramed 6 (some .boolean) 1 := ⟨z_gwi 555 (by decide +kernel) (by decide +kernel), z_gwi 25 (by decide +kernel) (by decide +kernel), z_gwi 60 (by decide +kernel) (by decide +kernel), z_gwi 556 (rfl) (rfl), by decide +kernel, by decide +kernel, by decide +kernel⟩
set_option maxRecDepth 20000 in
theorem wc_P_isMostlyEmptyWithin : z_wv y_P_isMostlyEmptyWithin b_P_isMostlyEmptyWithin 4 (some .boolean) 1 := ⟨z_gwi 563 (by decide +kernel) (by decide +kernel), z_gwi 27 (by decide +kernel) (by decide +kernel), z_gwi 60 (by decide +kernel) (by decide +kernel), z_gwi 564 (rfl) (rfl), by decide +kernel, by decide +kernel, by decide +kernel⟩
set_option maxRecDepth 20000 in
theorem wc_P_countClean : z_wv y_P_countClean b_P_countClean 8 (some .int) 4 := ⟨z_gwi 559 (by decide +kernel) (by decide +kernel), z_gwi 26 (by decide +kernel) (by decide +kernel), z_gwi 60 (by decide +kernel) (by decide +kernel), z_gwi 560 (rfl) (rfl), by decide +kernel, by decide +kernel, by decide +kernel⟩
set_option maxRecDepth 20000 in
theorem wc_P_countLines : z_wv y_P_countLines b_P_countLines 4 (some .int) 1 := ⟨z_gwi 567 (by decide +kernel) (by decide +kernel), z_gwi 28 (by decide +kernel) (by decide +kernel), z_gwi 60 (by decide +kernel) (by decide +kernel), z_gwi 568 (rfl) (rfl), by decide +kernel, by decide +kernel, by decide +kernel⟩
set_option maxRecDepth 20000 in
theorem wc_P_firstRowOfLine : z_wv y_P_firstRowOfLine b_P_firstRowOfLine 5 (some .int) 2 := ⟨z_gwi 599 (by decide +kernel) (by decide +kernel), z_gwi 31 (by decide +kernel) (by decide +kernel), z_gwi 60 (by decide +kernel) (by decide +kernel), z_gwi 600 (rfl) (rfl), by decide +kernel, by decide +kernel, by decide +kernel⟩
set_option maxRecDepth 20000 in
theorem wc_P_countRowsOfLine : z_wv y_P_countRowsOfLine b_P_countRowsOfLine 4 (some .int) 2 := ⟨z_gwi 603 (by decide +kernel) (by decide +kernel), z_gwi 32 (by decide +kernel) (by decide +kernel), z_gwi 60 (by decide +kernel) (by decide +kernel), z_gwi 604 (rfl) (rfl), by decide +kernel, by decide +kernel, by decide +kernel⟩
set_option maxRecDepth 20000 in
theorem wc_P_beginsLine : z_wv y_P_beginsLine b_P_beginsLine 3 (some .boolean) 2 := ⟨z_gwi 571 (by decide +kernel) (by decide +kernel), z_gwi 29 (by decide +kernel) (by decide +kernel), z_gwi 60 (by decide +kernel) (by decide +kernel), z_gwi 572 (rfl) (rfl), by decide +kernel, by decide +kernel, by decide +kernel⟩
set_option maxRecDepth 20000 in
theorem wc_P_hasCleanOf : z_wv y_P_hasCleanOf b_P_hasCleanOf 5 (some .boolean) 2 := ⟨z_gwi 575 (by decide +kernel) (by decide +kernel), z_gwi 30 (by decide +kernel) (by decide +kernel), z_gwi 60 (by decide +kernel) (by decide +kernel), z_gwi 576 (rfl) (rfl), by decide +kernel, by decide +kernel, by decide +kernel⟩
set_option maxRecDepth 20000 in
theorem wc_G_find : z_wv y_G_find b_G_find 6 none 3 := ⟨z_gwi 397 (by decide +kernel) (by decide +kernel), z_gwi 398 (by decide +kernel) (by decide +kernel), z_gwi 62 (by decide +kernel) (by decide +kernel), z_gwi 399 (rfl) (rfl), by decide +kernel, by decide +kernel, by decide +kernel⟩
set_option maxRecDepth 20000 in
theorem wc_G_isOpen : z_wv y_G_isOpen b_G_isOpen 6 (some .boolean) 4 := ⟨z_gwi 405 (by decide +kernel) (by decide +kernel), z_gwi 5 (by decide +kernel) (by decide +kernel), z_gwi 62 (by decide +kernel) (by decide +kernel), z_gwi 406 (rfl) (rfl), by decide +kernel, by decide +kernel, by decide +kernel⟩
set_option maxRecDepth 20000 in
theorem wc_G_begin : z_wv y_G_begin b_G_begin 3 none 2 := ⟨z_gwi 409 (by decide +kernel) (by decide +kernel), z_gwi 6 (by decide +kernel) (by decide +kernel), z_gwi 62 (by decide +kernel) (by decide +kernel), z_gwi 410 (rfl) (rfl), by decide +kernel, by decide +kernel, by decide +kernel⟩
set_option maxRecDepth 20000 in
theorem wc_G_take : z_wv y_G_take b_G_take 4 none 2 := ⟨z_gwi 413 (by decide +kernel) (by decide +kernel), z_gwi 7 (by decide +kernel) (by decide +kernel), z_gwi 62 (by decide +kernel) (by decide +kernel), z_gwi 414 (rfl) (rfl), by decide +kernel, by decide +kernel, by decide +kernel⟩
set_option maxRecDepth 20000 in
theorem wc_G_gather : z_wv y_G_gather b_G_gather 10 none 3 := ⟨z_gwi 419 (by decide +kernel) (by decide +kernel), z_gwi 8 (by decide +kernel) (by decide +kernel), z_gwi 62 (by decide +kernel) (by decide +kernel), z_gwi 420 (rfl) (rfl), by decide +kernel, by decide +kernel, by decide +kernel⟩
set_option maxRecDepth 20000 in
theorem wc_G_dropAtEdge : z_wv y_G_dropAtEdge b_G_dropAtEdge 3 none 0 := ⟨z_gwi 463 (by decide +kernel) (by decide +kernel), z_gwi 464 (by decide +kernel) (by decide +kernel), z_gwi 62 (by decide +kernel) (by decide +kernel), z_gwi 465 (rfl) (rfl), by decide +kernel, by decide +kernel, by decide +kernel⟩
set_option maxRecDepth 20000 in
theorem wc_G_wideOf : z_wv y_G_wideOf b_G_wideOf 2 (some .int) 1 := ⟨z_gwi 543 (by decide +kernel) (by decide +kernel), z_gwi 544 (by decide +kernel) (by decide +kernel), z_gwi 62 (by decide +kernel) (by decide +kernel), z_gwi 545 (rfl) (rfl), by decide +kernel, by decide +kernel, by decide +kernel⟩
set_option maxRecDepth 20000 in
theorem wc_G_highOf : z_wv y_G_highOf b_G_highOf 2 (some .int) 1 := ⟨z_gwi 547 (by decide +kernel) (by decide +kernel), z_gwi 548 (by decide +kernel) (by decide +kernel), z_gwi 62 (by decide +kernel) (by decide +kernel), z_gwi 549 (rfl) (rfl), by decide +kernel, by decide +kernel, by decide +kernel⟩
set_option maxRecDepth 20000 in
theorem wc_G_boxOf : z_wv y_G_boxOf b_G_boxOf 3 (some .int) 2 := ⟨z_gwi 578 (by decide +kernel) (by decide +kernel), z_gwi 579 (by decide +kernel) (by decide +kernel), z_gwi 62 (by decide +kernel) (by decide +kernel), z_gwi 580 (rfl) (rfl), by decide +kernel, by decide +kernel, by decide +kernel⟩
set_option maxRecDepth 20000 in
theorem wc_C_find : z_wv y_C_find b_C_find 3 none 1 := ⟨z_gwi 430 (by decide +kernel) (by decide +kernel), z_gwi 431 (by decide +kernel) (by decide +kernel), z_gwi 63 (by decide +kernel) (by decide +kernel), z_gwi 432 (rfl) (rfl), by decide +kernel, by decide +kernel, by decide +kernel⟩
set_option maxRecDepth 20000 in
theorem wc_C_measure : z_wv y_C_measure b_C_measure 6 none 1 := ⟨z_gwi 435 (by decide +kernel) (by decide +kernel), z_gwi 11 (by decide +kernel) (by decide +kernel), z_gwi 63 (by decide +kernel) (by decide +kernel), z_gwi 436 (rfl) (rfl), by decide +kernel, by decide +kernel, by decide +kernel⟩
set_option maxRecDepth 20000 in
theorem wc_C_findGreatest : z_wv y_C_findGreatest b_C_findGreatest 4 none 1 := ⟨z_gwi 439 (by decide +kernel) (by decide +kernel), z_gwi 12 (by decide +kernel) (by decide +kernel), z_gwi 63 (by decide +kernel) (by decide +kernel), z_gwi 440 (rfl) (rfl), by decide +kernel, by decide +kernel, by decide +kernel⟩
set_option maxRecDepth 20000 in
theorem wc_C_growFrom : z_wv y_C_growFrom b_C_growFrom 6 none 3 := ⟨z_gwi 443 (by decide +kernel) (by decide +kernel), z_gwi 13 (by decide +kernel) (by decide +kernel), z_gwi 63 (by decide +kernel) (by decide +kernel), z_gwi 444 (rfl) (rfl), by decide +kernel, by decide +kernel, by decide +kernel⟩
set_option maxRecDepth 20000 in
theorem wc_C_block : z_wv y_C_block b_C_block 5 none 1 := ⟨z_gwi 448 (by decide +kernel) (by decide +kernel), z_gwi 14 (by decide +kernel) (by decide +kernel), z_gwi 63 (by decide +kernel) (by decide +kernel), z_gwi 449 (rfl) (rfl), by decide +kernel, by decide +kernel, by decide +kernel⟩
set_option maxRecDepth 20000 in
theorem wc_C_shortenBefore : z_wv y_C_shortenBefore b_C_shortenBefore 5 none 2 := ⟨z_gwi 452 (by decide +kernel) (by decide +kernel), z_gwi 15 (by decide +kernel) (by decide +kernel), z_gwi 63 (by decide +kernel) (by decide +kernel), z_gwi 453 (rfl) (rfl), by decide +kernel, by decide +kernel, by decide +kernel⟩
set_option maxRecDepth 20000 in
theorem wc_R_arrange : z_wv y_R_arrange b_R_arrange 6 none 1 := ⟨z_gwi 467 (by decide +kernel) (by decide +kernel), z_gwi 468 (by decide +kernel) (by decide +kernel), z_gwi 64 (by decide +kernel) (by decide +kernel), z_gwi 469 (rfl) (rfl), by decide +kernel, by decide +kernel, by decide +kernel⟩
set_option maxRecDepth 20000 in
theorem wc_R_sortByBoxes : z_wv y_R_sortByBoxes b_R_sortByBoxes 4 none 1 := ⟨z_gwi 472 (by decide +kernel) (by decide +kernel), z_gwi 18 (by decide +kernel) (by decide +kernel), z_gwi 64 (by decide +kernel) (by decide +kernel), z_gwi 473 (rfl) (rfl), by decide +kernel, by decide +kernel, by decide +kernel⟩
set_option maxRecDepth 20000 in
theorem wc_R_isBefore : z_ws y_R_isBefore b_R_isBefore 3 (some .boolean) 3 := ⟨z_gwi 475 (by decide +kernel) (by decide +kernel), z_gwi 64 (by decide +kernel) (by decide +kernel), z_gwi 476 (rfl) (rfl), by decide +kernel, by decide +kernel, by decide +kernel⟩
set_option maxRecDepth 20000 in
theorem wc_R_findCut : z_wv y_R_findCut b_R_findCut 4 (some .boolean) 3 := ⟨z_gwi 479 (by decide +kernel) (by decide +kernel), z_gwi 19 (by decide +kernel) (by decide +kernel), z_gwi 64 (by decide +kernel) (by decide +kernel), z_gwi 480 (rfl) (rfl), by decide +kernel, by decide +kernel, by decide +kernel⟩
set_option maxRecDepth 20000 in
theorem wc_R_lookAlong : z_wv y_R_lookAlong b_R_lookAlong 10 none 5 := ⟨z_gwi 483 (by decide +kernel) (by decide +kernel), z_gwi 20 (by decide +kernel) (by decide +kernel), z_gwi 64 (by decide +kernel) (by decide +kernel), z_gwi 484 (rfl) (rfl), by decide +kernel, by decide +kernel, by decide +kernel⟩
set_option maxRecDepth 20000 in
theorem wc_R_bits : z_ws y_R_bits b_R_bits 2 (some .int) 2 := ⟨z_gwi 486 (by decide +kernel) (by decide +kernel), z_gwi 64 (by decide +kernel) (by decide +kernel), z_gwi 487 (rfl) (rfl), by decide +kernel, by decide +kernel, by decide +kernel⟩
set_option maxRecDepth 20000 in
theorem wc_R_hasBit : z_ws y_R_hasBit b_R_hasBit 2 (some .boolean) 2 := ⟨z_gwi 489 (by decide +kernel) (by decide +kernel), z_gwi 64 (by decide +kernel) (by decide +kernel), z_gwi 490 (rfl) (rfl), by decide +kernel, by decide +kernel, by decide +kernel⟩
set_option maxRecDepth 20000 in
theorem wc_R_divide : z_wv y_R_divide b_R_divide 9 (some .int) 3 := ⟨z_gwi 493 (by decide +kernel) (by decide +kernel), z_gwi 21 (by decide +kernel) (by decide +kernel), z_gwi 64 (by decide +kernel) (by decide +kernel), z_gwi 494 (rfl) (rfl), by decide +kernel, by decide +kernel, by decide +kernel⟩
set_option maxRecDepth 20000 in
theorem wc_M_nearest : z_ws y_M_nearest b_M_nearest 1 (some .int) 1 := ⟨z_gwi 647 (by decide +kernel) (by decide +kernel), z_gwi 65 (by decide +kernel) (by decide +kernel), z_gwi 648 (rfl) (rfl), by decide +kernel, by decide +kernel, by decide +kernel⟩
set_option maxRecDepth 20000 in
theorem wc_M_thrown : z_wv y_M_thrown b_M_thrown 1 (some .int) 0 := ⟨z_gwi 732 (by decide +kernel) (by decide +kernel), z_gwi 733 (by decide +kernel) (by decide +kernel), z_gwi 65 (by decide +kernel) (by decide +kernel), z_gwi 734 (rfl) (rfl), by decide +kernel, by decide +kernel, by decide +kernel⟩
set_option maxRecDepth 20000 in
theorem wc_M_in : z_ws y_M_in b_M_in 3 (some .boolean) 3 := ⟨z_gwi 744 (by decide +kernel) (by decide +kernel), z_gwi 65 (by decide +kernel) (by decide +kernel), z_gwi 745 (rfl) (rfl), by decide +kernel, by decide +kernel, by decide +kernel⟩
set_option maxRecDepth 20000 in
theorem wc_M_isSample : z_wv y_M_isSample b_M_isSample 3 (some .boolean) 2 := ⟨z_gwi 741 (by decide +kernel) (by decide +kernel), z_gwi 33 (by decide +kernel) (by decide +kernel), z_gwi 65 (by decide +kernel) (by decide +kernel), z_gwi 742 (rfl) (rfl), by decide +kernel, by decide +kernel, by decide +kernel⟩
set_option maxRecDepth 20000 in
theorem wc_M_goes : z_wv y_M_goes b_M_goes 4 (some .boolean) 3 := ⟨z_gwi 748 (by decide +kernel) (by decide +kernel), z_gwi 34 (by decide +kernel) (by decide +kernel), z_gwi 65 (by decide +kernel) (by decide +kernel), z_gwi 749 (rfl) (rfl), by decide +kernel, by decide +kernel, by decide +kernel⟩
set_option maxRecDepth 20000 in
theorem wc_M_put : z_wv y_M_put b_M_put 6 (some .boolean) 3 := ⟨z_gwi 736 (by decide +kernel) (by decide +kernel), z_gwi 737 (by decide +kernel) (by decide +kernel), z_gwi 65 (by decide +kernel) (by decide +kernel), z_gwi 738 (rfl) (rfl), by decide +kernel, by decide +kernel, by decide +kernel⟩
set_option maxRecDepth 20000 in
theorem wc_M_fill : z_wv y_M_fill b_M_fill 9 (some .int) 5 := ⟨z_gwi 751 (by decide +kernel) (by decide +kernel), z_gwi 752 (by decide +kernel) (by decide +kernel), z_gwi 65 (by decide +kernel) (by decide +kernel), z_gwi 753 (rfl) (rfl), by decide +kernel, by decide +kernel, by decide +kernel⟩
set_option maxRecDepth 20000 in
theorem wc_M_noise : z_wv y_M_noise b_M_noise 3 (some .int) 1 := ⟨z_gwi 755 (by decide +kernel) (by decide +kernel), z_gwi 756 (by decide +kernel) (by decide +kernel), z_gwi 65 (by decide +kernel) (by decide +kernel), z_gwi 757 (rfl) (rfl), by decide +kernel, by decide +kernel, by decide +kernel⟩
set_option maxRecDepth 20000 in
theorem wc_M_clear : z_wv y_M_clear b_M_clear 2 none 0 := ⟨z_gwi 759 (by decide +kernel) (by decide +kernel), z_gwi 760 (by decide +kernel) (by decide +kernel), z_gwi 65 (by decide +kernel) (by decide +kernel), z_gwi 761 (rfl) (rfl), by decide +kernel, by decide +kernel, by decide +kernel⟩
set_option maxRecDepth 20000 in
theorem wc_M_is : z_wv y_M_is b_M_is 3 (some .boolean) 2 := ⟨z_gwi 776 (by decide +kernel) (by decide +kernel), z_gwi 37 (by decide +kernel) (by decide +kernel), z_gwi 65 (by decide +kernel) (by decide +kernel), z_gwi 777 (rfl) (rfl), by decide +kernel, by decide +kernel, by decide +kernel⟩
set_option maxRecDepth 20000 in
theorem wc_M_group : z_wv y_M_group b_M_group 7 none 2 := ⟨z_gwi 772 (by decide +kernel) (by decide +kernel), z_gwi 36 (by decide +kernel) (by decide +kernel), z_gwi 65 (by decide +kernel) (by decide +kernel), z_gwi 773 (rfl) (rfl), by decide +kernel, by decide +kernel, by decide +kernel⟩
set_option maxRecDepth 20000 in
theorem wc_M_settles : z_wv y_M_settles b_M_settles 10 (some .boolean) 3 := ⟨z_gwi 780 (by decide +kernel) (by decide +kernel), z_gwi 38 (by decide +kernel) (by decide +kernel), z_gwi 65 (by decide +kernel) (by decide +kernel), z_gwi 781 (rfl) (rfl), by decide +kernel, by decide +kernel, by decide +kernel⟩
set_option maxRecDepth 20000 in
theorem wc_M_sizeOf : z_wv y_M_sizeOf b_M_sizeOf 5 (some .int) 1 := ⟨z_gwi 784 (by decide +kernel) (by decide +kernel), z_gwi 39 (by decide +kernel) (by decide +kernel), z_gwi 65 (by decide +kernel) (by decide +kernel), z_gwi 785 (rfl) (rfl), by decide +kernel, by decide +kernel, by decide +kernel⟩
set_option maxRecDepth 20000 in
theorem wc_M_inGap : z_wv y_M_inGap b_M_inGap 9 (some .boolean) 5 := ⟨z_gwi 788 (by decide +kernel) (by decide +kernel), z_gwi 40 (by decide +kernel) (by decide +kernel), z_gwi 65 (by decide +kernel) (by decide +kernel), z_gwi 789 (rfl) (rfl), by decide +kernel, by decide +kernel, by decide +kernel⟩
set_option maxRecDepth 20000 in
theorem wc_M_takeInk : z_wv y_M_takeInk b_M_takeInk 6 none 2 := ⟨z_gwi 768 (by decide +kernel) (by decide +kernel), z_gwi 35 (by decide +kernel) (by decide +kernel), z_gwi 65 (by decide +kernel) (by decide +kernel), z_gwi 769 (rfl) (rfl), by decide +kernel, by decide +kernel, by decide +kernel⟩
set_option maxRecDepth 20000 in
theorem wc_M_cleanIn : z_wv y_M_cleanIn b_M_cleanIn 10 (some .int) 5 := ⟨z_gwi 800 (by decide +kernel) (by decide +kernel), z_gwi 43 (by decide +kernel) (by decide +kernel), z_gwi 65 (by decide +kernel) (by decide +kernel), z_gwi 801 (rfl) (rfl), by decide +kernel, by decide +kernel, by decide +kernel⟩
set_option maxRecDepth 20000 in
theorem wc_M_takeParts : z_wv y_M_takeParts b_M_takeParts 5 none 0 := ⟨z_gwi 792 (by decide +kernel) (by decide +kernel), z_gwi 41 (by decide +kernel) (by decide +kernel), z_gwi 65 (by decide +kernel) (by decide +kernel), z_gwi 793 (rfl) (rfl), by decide +kernel, by decide +kernel, by decide +kernel⟩
set_option maxRecDepth 20000 in
theorem wc_M_kindOf : z_wv y_M_kindOf b_M_kindOf 9 (some .int) 4 := ⟨z_gwi 796 (by decide +kernel) (by decide +kernel), z_gwi 42 (by decide +kernel) (by decide +kernel), z_gwi 65 (by decide +kernel) (by decide +kernel), z_gwi 797 (rfl) (rfl), by decide +kernel, by decide +kernel, by decide +kernel⟩
set_option maxRecDepth 20000 in
theorem wc_M_takeCover : z_wv y_M_takeCover b_M_takeCover 8 (some .boolean) 0 := ⟨z_gwi 808 (by decide +kernel) (by decide +kernel), z_gwi 45 (by decide +kernel) (by decide +kernel), z_gwi 65 (by decide +kernel) (by decide +kernel), z_gwi 809 (rfl) (rfl), by decide +kernel, by decide +kernel, by decide +kernel⟩
set_option maxRecDepth 20000 in
theorem wc_M_takeCovers : z_wv y_M_takeCovers b_M_takeCovers 2 none 0 := ⟨z_gwi 804 (by decide +kernel) (by decide +kernel), z_gwi 44 (by decide +kernel) (by decide +kernel), z_gwi 65 (by decide +kernel) (by decide +kernel), z_gwi 805 (rfl) (rfl), by decide +kernel, by decide +kernel, by decide +kernel⟩
set_option maxRecDepth 20000 in
theorem wc_M_takeStrips : z_wv y_M_takeStrips b_M_takeStrips 4 none 0 := ⟨z_gwi 812 (by decide +kernel) (by decide +kernel), z_gwi 46 (by decide +kernel) (by decide +kernel), z_gwi 65 (by decide +kernel) (by decide +kernel), z_gwi 813 (rfl) (rfl), by decide +kernel, by decide +kernel, by decide +kernel⟩
set_option maxRecDepth 20000 in
theorem wc_M_takeCells : z_wv y_M_takeCells b_M_takeCells 4 none 0 := ⟨z_gwi 816 (by decide +kernel) (by decide +kernel), z_gwi 47 (by decide +kernel) (by decide +kernel), z_gwi 65 (by decide +kernel) (by decide +kernel), z_gwi 817 (rfl) (rfl), by decide +kernel, by decide +kernel, by decide +kernel⟩
set_option maxRecDepth 20000 in
theorem wc_M_isClosed : z_wv y_M_isClosed b_M_isClosed 6 (some .boolean) 1 := ⟨z_gwi 820 (by decide +kernel) (by decide +kernel), z_gwi 48 (by decide +kernel) (by decide +kernel), z_gwi 65 (by decide +kernel) (by decide +kernel), z_gwi 821 (rfl) (rfl), by decide +kernel, by decide +kernel, by decide +kernel⟩
set_option maxRecDepth 20000 in
theorem wc_M_low : z_wv y_M_low b_M_low 3 (some .int) 2 := ⟨z_gwi 836 (by decide +kernel) (by decide +kernel), z_gwi 52 (by decide +kernel) (by decide +kernel), z_gwi 65 (by decide +kernel) (by decide +kernel), z_gwi 837 (rfl) (rfl), by decide +kernel, by decide +kernel, by decide +kernel⟩
set_option maxRecDepth 20000 in
theorem wc_M_high : z_wv y_M_high b_M_high 3 (some .int) 2 := ⟨z_gwi 840 (by decide +kernel) (by decide +kernel), z_gwi 53 (by decide +kernel) (by decide +kernel), z_gwi 65 (by decide +kernel) (by decide +kernel), z_gwi 841 (rfl) (rfl), by decide +kernel, by decide +kernel, by decide +kernel⟩
set_option maxRecDepth 20000 in
theorem wc_M_gap : z_wv y_M_gap b_M_gap 11 (some .int) 4 := ⟨z_gwi 832 (by decide +kernel) (by decide +kernel), z_gwi 51 (by decide +kernel) (by decide +kernel), z_gwi 65 (by decide +kernel) (by decide +kernel), z_gwi 833 (rfl) (rfl), by decide +kernel, by decide +kernel, by decide +kernel⟩
set_option maxRecDepth 20000 in
theorem wc_M_swap : z_wv y_M_swap b_M_swap 4 none 2 := ⟨z_gwi 844 (by decide +kernel) (by decide +kernel), z_gwi 54 (by decide +kernel) (by decide +kernel), z_gwi 65 (by decide +kernel) (by decide +kernel), z_gwi 845 (rfl) (rfl), by decide +kernel, by decide +kernel, by decide +kernel⟩
set_option maxRecDepth 20000 in
theorem wc_M_isBefore : z_wv y_M_isBefore b_M_isBefore 3 (some .boolean) 2 := ⟨z_gwi 852 (by decide +kernel) (by decide +kernel), z_gwi 56 (by decide +kernel) (by decide +kernel), z_gwi 65 (by decide +kernel) (by decide +kernel), z_gwi 853 (rfl) (rfl), by decide +kernel, by decide +kernel, by decide +kernel⟩
set_option maxRecDepth 20000 in
theorem wc_M_sort : z_wv y_M_sort b_M_sort 5 none 2 := ⟨z_gwi 848 (by decide +kernel) (by decide +kernel), z_gwi 55 (by decide +kernel) (by decide +kernel), z_gwi 65 (by decide +kernel) (by decide +kernel), z_gwi 849 (rfl) (rfl), by decide +kernel, by decide +kernel, by decide +kernel⟩
set_option maxRecDepth 20000 in
theorem wc_M_parts : z_wv y_M_parts b_M_parts 9 (some .int) 2 := ⟨z_gwi 828 (by decide +kernel) (by decide +kernel), z_gwi 50 (by decide +kernel) (by decide +kernel), z_gwi 65 (by decide +kernel) (by decide +kernel), z_gwi 829 (rfl) (rfl), by decide +kernel, by decide +kernel, by decide +kernel⟩
set_option maxRecDepth 20000 in
theorem wc_M_takeOrder : z_wv y_M_takeOrder b_M_takeOrder 5 none 0 := ⟨z_gwi 824 (by decide +kernel) (by decide +kernel), z_gwi 49 (by decide +kernel) (by decide +kernel), z_gwi 65 (by decide +kernel) (by decide +kernel), z_gwi 825 (rfl) (rfl), by decide +kernel, by decide +kernel, by decide +kernel⟩
set_option maxRecDepth 20000 in
theorem wc_M_run : z_wv y_M_run b_M_run 3 (some .int) 2 := ⟨z_gwi 763 (by decide +kernel) (by decide +kernel), z_gwi 764 (by decide +kernel) (by decide +kernel), z_gwi 65 (by decide +kernel) (by decide +kernel), z_gwi 765 (rfl) (rfl), by decide +kernel, by decide +kernel, by decide +kernel⟩
set_option maxRecDepth 20000 in
theorem wc_M_lines : z_wv y_M_lines b_M_lines 6 (some .int) 1 := ⟨z_gwi 860 (by decide +kernel) (by decide +kernel), z_gwi 57 (by decide +kernel) (by decide +kernel), z_gwi 65 (by decide +kernel) (by decide +kernel), z_gwi 861 (rfl) (rfl), by decide +kernel, by decide +kernel, by decide +kernel⟩
set_option maxRecDepth 20000 in
theorem wc_M_inkOf : z_wv y_M_inkOf b_M_inkOf 5 (some .int) 1 := ⟨z_gwi 864 (by decide +kernel) (by decide +kernel), z_gwi 58 (by decide +kernel) (by decide +kernel), z_gwi 65 (by decide +kernel) (by decide +kernel), z_gwi 865 (rfl) (rfl), by decide +kernel, by decide +kernel, by decide +kernel⟩
set_option maxRecDepth 20000 in
theorem wc_M_part : z_wv y_M_part b_M_part 3 (some .int) 2 := ⟨z_gwi 855 (by decide +kernel) (by decide +kernel), z_gwi 856 (by decide +kernel) (by decide +kernel), z_gwi 65 (by decide +kernel) (by decide +kernel), z_gwi 857 (rfl) (rfl), by decide +kernel, by decide +kernel, by decide +kernel⟩
set_option maxRecDepth 20000 in
theorem wc_M_partOf : z_wv y_M_partOf b_M_partOf 3 (some .int) 2 := ⟨z_gwi 867 (by decide +kernel) (by decide +kernel), z_gwi 868 (by decide +kernel) (by decide +kernel), z_gwi 65 (by decide +kernel) (by decide +kernel), z_gwi 869 (rfl) (rfl), by decide +kernel, by decide +kernel, by decide +kernel⟩
set_option maxRecDepth 20000 in
theorem wc_M_line : z_wv y_M_line b_M_line 8 (some .int) 3 := ⟨z_gwi 871 (by decide +kernel) (by decide +kernel), z_gwi 872 (by decide +kernel) (by decide +kernel), z_gwi 65 (by decide +kernel) (by decide +kernel), z_gwi 873 (rfl) (rfl), by decide +kernel, by decide +kernel, by decide +kernel⟩
set_option maxRecDepth 20000 in
theorem wc_M_order : z_wv y_M_order b_M_order 2 (some .int) 1 := ⟨z_gwi 875 (by decide +kernel) (by decide +kernel), z_gwi 876 (by decide +kernel) (by decide +kernel), z_gwi 65 (by decide +kernel) (by decide +kernel), z_gwi 877 (rfl) (rfl), by decide +kernel, by decide +kernel, by decide +kernel⟩
set_option maxRecDepth 20000 in
theorem wc_M_cover : z_wv y_M_cover b_M_cover 3 (some .int) 2 := ⟨z_gwi 879 (by decide +kernel) (by decide +kernel), z_gwi 880 (by decide +kernel) (by decide +kernel), z_gwi 65 (by decide +kernel) (by decide +kernel), z_gwi 881 (rfl) (rfl), by decide +kernel, by decide +kernel, by decide +kernel⟩
set_option maxRecDepth 20000 in
theorem wc_M_strip : z_wv y_M_strip b_M_strip 2 (some .int) 1 := ⟨z_gwi 883 (by decide +kernel) (by decide +kernel), z_gwi 884 (by decide +kernel) (by decide +kernel), z_gwi 65 (by decide +kernel) (by decide +kernel), z_gwi 885 (rfl) (rfl), by decide +kernel, by decide +kernel, by decide +kernel⟩
set_option maxRecDepth 20000 in
theorem wc_M_cell : z_wv y_M_cell b_M_cell 10 (some .int) 2 := ⟨z_gwi 887 (by decide +kernel) (by decide +kernel), z_gwi 888 (by decide +kernel) (by decide +kernel), z_gwi 65 (by decide +kernel) (by decide +kernel), z_gwi 889 (rfl) (rfl), by decide +kernel, by decide +kernel, by decide +kernel⟩
set_option maxRecDepth 20000 in
theorem wc_M_isSpeck : z_wv y_M_isSpeck b_M_isSpeck 3 (some .boolean) 2 := ⟨z_gwi 891 (by decide +kernel) (by decide +kernel), z_gwi 892 (by decide +kernel) (by decide +kernel), z_gwi 65 (by decide +kernel) (by decide +kernel), z_gwi 893 (rfl) (rfl), by decide +kernel, by decide +kernel, by decide +kernel⟩
set_option maxRecDepth 20000 in
theorem wc_M_told : z_wv y_M_told b_M_told 6 (some .int) 1 := ⟨z_gwi 895 (by decide +kernel) (by decide +kernel), z_gwi 896 (by decide +kernel) (by decide +kernel), z_gwi 65 (by decide +kernel) (by decide +kernel), z_gwi 897 (rfl) (rfl), by decide +kernel, by decide +kernel, by decide +kernel⟩
set_option maxRecDepth 20000 in
theorem wc_A_fill : z_ws y_A_fill b_A_fill 4 none 2 := ⟨z_gwi 401 (by decide +kernel) (by decide +kernel), z_gwi 71 (by decide +kernel) (by decide +kernel), z_gwi 402 (rfl) (rfl), by decide +kernel, by decide +kernel, by decide +kernel⟩
end
section
/-! ===== BEGIN exceptions that leave a method, and their catching by the caller (launches without stack traces) ===== -/
section VXA
/-! The laws vx_back, vx_callV, vx_callS, vx_callSW, vx_throw0, vx_throwS follow proofs of the library, with one case more: JvmDerived/Free/Laws.lean (Back.of_free), Shelf42/LK1.lean (callV, callS), Shelf/KitTraced.lean (throwNew0V, throwNewS). -/
/-- where a method has thrown q: the class by its name, the cell, what was written, the world -/
def vx_T (XC : String → State → State → Prop) (st : State) (q : Addr) (t : State) (mc ms : Nat) (free : Addr → Prop) : Prop :=
  ∃ (E : String) (ce : Cell) (L : List Loc), XC E st t ∧ t.heap[q]? = some ce ∧ ce.vm = .none ∧ st.vm.findClass E = some ce.cls ∧ st.WarmedH t.vm ∧ st.sameButNew ({ t with vm := st.vm } : State) L mc ms ∧ ∀ z ∈ L, free z.base
def vx_Q (Qc : Array Value → State → Outcome → State → Prop) (XC : String → State → State → Prop) (mc ms : Nat) (free : Addr → Prop) : Array Value → State → Outcome → State → Prop := fun a st o t =>
  (Qc a st o t ∧ ∃ L, FrameEnd st o t L mc ms ∧ ∀ q ∈ L, free q.base) ∨ ∃ q, o = .threw q ∧ vx_T XC st q t mc ms free
/-- a callee that returns or throws -/
def vx_Met (l : Launch) (y : MethodName) (ws : List Cond) (rm : Room) (Pc : Array Value → State → Prop) (Qc : Array Value → State → Outcome → State → Prop) (XC : String → State → State → Prop) (mc ms : Nat) (free : Addr → Prop) : Prop :=
  MetFree l y (headSpec ws rm) Pc (fun _ _ _ _ _ => True) (vx_Q Qc XC mc ms free)
def vx_Post (XC : String → State → State → Prop) (mc ms : Nat) (free : Addr → Prop) : Pt → Array Value → Addr → Pt → Prop := fun A a q B =>
  ∃ (g : JFrame) (mk : MethodId) (t : State) (L : List Loc) (E : String) (ce : Cell), B.U.heap = t.heap ∧ B.U.vm = t.vm ∧ XC E (A.U.calling g mk a) t ∧ t.heap[q]? = some ce ∧ ce.vm = .none ∧ A.U.vm.findClass E = some ce.cls ∧ B.locs = A.locs ++ L ∧ (∀ z ∈ L, free z.base) ∧ B.cells = A.cells + mc ∧ B.slots = A.slots + ms
def vx_Back (l : Launch) (R : Room) (p : Program) (e : Env) (below : List Frame) (s : State) (sargs : Array Value) (y : MethodName) (len W9 : Nat)
    (Pre : Pt → Array Value → Prop) (Post : Pt → Array Value → Option Value → Pt → Prop) (PostX : Pt → Array Value → Addr → Pt → Prop) : Prop :=
  ∀ (m : MethodId) (meth : Method) (c : Code) (A : Pt) (g : JFrame) (ig : Instr) (mk : MethodId) (a : Array Value),
    Stand p l e R s m sargs below meth c A.U A.locs A.cells A.slots → g.method = m → g.locals.size = c.maxLocals → decode c.code g.pc = .ok (ig, len) →
    2 * g.monitorRoom + (g.stack.map fun v => v.category).sum ≤ W9 → A.U.methodNamed? y = some mk → Pre A a →
    (∃ (v : Option Value) (B : Pt), Stand p l e R s m sargs below meth c B.U B.locs B.cells B.slots ∧ Post A a v B ∧
      Steps p.tables e below (doInvoke e (A.U.setTop g) [] mk a).1 (B.U.setTop { g with pc := g.pc + len, stack := v.toList ++ g.stack })) ∨
    (∃ (q : Addr) (B : Pt), Stand p l e R s m sargs below meth c B.U B.locs B.cells B.slots ∧ PostX A a q B ∧
      Steps p.tables e below (doInvoke e (A.U.setTop g) [] mk a).1 ((B.U.setTop g).pushFrame (.throwing q)))
section Payer
variable {l : Launch} {R : Room} {p : Program} {e : Env} {below : List Frame} {s : State} {sargs : Array Value} {y : MethodName} {len W9 : Nat}
theorem vx_back {ws : List Cond} {rm : Room} {Pc : Array Value → State → Prop} {Qc : Array Value → State → Outcome → State → Prop} {XC : String → State → State → Prop} {mc ms : Nat} {free : Addr → Prop} {bytes : ByteArray} {maxL : Nat} {ret : Option FieldType}
    (hM : vx_Met l y ws rm Pc Qc XC mc ms free) (hblind : FrameBlind Pc) (hrc : rm.cells = mc) (hrs : rm.slots = ms)
    (hframes : rm.frames + 1 ≤ R.frames) (hlocals : W9 + (maxL + 11) + rm.locals ≤ R.locals)
    (hws : ∀ w ∈ ws, ∀ a' U, s.WarmedH U.vm → w.before a' U = true) (hcode : Cond.code y bytes maxL ret ∈ ws) (hinit : ∀ a' U, s.WarmedH U.vm → (Cond.initialized y.cls).before a' U = true) :
    vx_Back l R p e below s sargs y len W9 (PreOf R mc ms Pc) (PostOf Qc mc ms free) (vx_Post XC mc ms free) := by
  intro m meth c A g ig mk a X hg hsize hdg hW hn hp
  have h1 : (headSpec ws rm).pre.before a A.U = true := atoms_intro fun w hw => hws w hw _ _ X.warmed
  have h2 : (Cond.code y bytes maxL ret).before a A.U = true := hws _ hcode _ _ X.warmed
  have h3 : (Cond.initialized y.cls).before a A.U = true := hinit _ _ X.warmed
  have h4 : A.cells + (headSpec ws rm).room.cells ≤ R.cells := by rw [show (headSpec ws rm).room.cells = mc from hrc]; exact hp.1
  have h5 : A.slots + (headSpec ws rm).room.slots ≤ R.slots := by rw [show (headSpec ws rm).room.slots = ms from hrs]; exact hp.2.1
  have hPc : Pc a (A.U.calling g mk a) := hblind _ _ _ _ hp.2.2
  obtain ⟨U, Ls, c0, s0⟩ := A
  dsimp only [Pt.U, Pt.locs, Pt.cells, Pt.slots] at h1 h2 h3 h4 h5 X hn hPc ⊢
  obtain ⟨methY, cY, hmY, hcY, -, hlY, -, -, -, -⟩ := Cond.code_spec hn h2
  obtain ⟨kY, hkY, -⟩ := className_of_methodNamed hn
  have hinitY : kY.init = .initialized := Cond.initialized_spec (findClass_of_methodNamed hn) hkY h3
  have h : At U g.method c below := by rw [hg]; exact X.here
  have hlocals9 : W9 + (maxL + 11) + (headSpec ws rm).room.locals ≤ R.locals := hlocals
  have happ : (headSpec ws rm).appliesLoose y e.platform (U.calling g mk a) = true :=
    Spec.appliesLoose_calling (g := g) h hdg hn hkY hinitY
      (X.room_calling (g := g) (R' := (headSpec ws rm).room) hsize hmY hcY hframes (by rw [hlY]; omega) h4 h5) h1
  obtain ⟨mid, hmid⟩ := h.above
  have hfr : (U.setTop g).frames = (.java g :: mid) ++ below := by rw [State.frames_setTop' g h.top, hmid]; rfl
  obtain ⟨o, s₂, hsteps, -, hend, hq⟩ := Steps.callFree hM p X.admits X.cas X.clock (acts := []) hfr happ hPc trivial
  have hq' : vx_Q Qc XC mc ms free a (U.calling g mk a) o s₂ := hq
  rw [State.frames_setTop' g h.top] at hend
  obtain ⟨g₀, hg0⟩ := Option.isSome_iff_exists.mp h.top
  obtain ⟨r, hr⟩ := State.topJava?_eq_some.mp hg0
  have hr' : (({ U with heap := s₂.heap, slotsUsed := s₂.slotsUsed } : State).setVm s₂.vm).frames = .java g₀ :: r := hr
  rcases hq' with ⟨hqc, L, hfe, hL⟩ | ⟨q, rfl, E, ce, L, hx, hce, hcv, hcl, hW₂, hsm, hL⟩
  · obtain ⟨⟨v, rfl⟩, hW₂, e2, q2, q3, q4, q5, q6⟩ := id hfe
    have e3 : s₂ = ({ (U.calling g mk a).setFrames s₂.frames with heap := s₂.heap, slotsUsed := s₂.slotsUsed } : State).setVm s₂.vm := by
      have : s₂ = ({ s₂ with vm := (U.calling g mk a).vm } : State).setVm s₂.vm := rfl
      rw [e2] at this
      exact this
    obtain ⟨c₂, i₂, len₂, hc₂, hd₂, hf₂⟩ := hend
    have hW' : U.WarmedH s₂.vm := hW₂
    have hcc : c₂ = c := by
      have h1 : s₂.code? g.method = U.code? g.method := by
        rw [State.code?_eq, State.code?_eq, hW'.alike.method?]
      exact Option.some.inj (hc₂.symm.trans (h1.trans h.code))
    subst hcc
    have hlen : len₂ = len := by rw [hdg] at hd₂; cases hd₂; rfl
    subst hlen
    have hs₂ : s₂ = (({ U with heap := s₂.heap, slotsUsed := s₂.slotsUsed } : State).setVm s₂.vm).setTop { g with pc := g.pc + len₂, stack := v.toList ++ g.stack } := by
      refine e3.trans ?_
      rw [hf₂, State.calling_eq h.top, State.setFrames_setFrames, State.setTop_of_frames _ hr', hr]
      rfl
    have hsame : U.sameButNew ({ U with heap := s₂.heap, slotsUsed := s₂.slotsUsed } : State) L mc ms := by
      refine ⟨?_, q2, q3, q4, q5, q6⟩
      obtain ⟨t, ht, -⟩ := State.frames_cons hr
      show ({ U with heap := s₂.heap, slotsUsed := s₂.slotsUsed } : State) = { U.setFrames U.frames with heap := s₂.heap, slotsUsed := s₂.slotsUsed }
      rw [State.setFrames_self ht]
    subst hg
    refine Or.inl ⟨v, ⟨(({ U with heap := s₂.heap, slotsUsed := s₂.slotsUsed } : State).setVm s₂.vm), Ls ++ L, c0 + mc, s0 + ms⟩,
      ⟨X.admits, X.cas, X.clock, X.frames, X.room, X.hears, X.method, X.code, (X.here.setHeapUsed s₂.heap s₂.slotsUsed).setVm hW'.alike, X.tail, State.WarmedH.trans X.warmed hW', X.limits, X.bytes, X.same.trans (hsame.setVm s.vm)⟩,
      ⟨g, mk, s₂, L, rfl, rfl, hqc, rfl, hL, rfl, rfl⟩, ?_⟩
    show Steps p.tables e below _ ((({ U with heap := s₂.heap, slotsUsed := s₂.slotsUsed } : State).setVm s₂.vm).setTop { g with pc := g.pc + len₂, stack := v.toList ++ g.stack })
    rw [← hs₂]
    exact hsteps
  · obtain ⟨e2, q2, q3, q4, q5, q6⟩ := id hsm
    have e3 : s₂ = ({ (U.calling g mk a).setFrames s₂.frames with heap := s₂.heap, slotsUsed := s₂.slotsUsed } : State).setVm s₂.vm := by
      have : s₂ = ({ s₂ with vm := (U.calling g mk a).vm } : State).setVm s₂.vm := rfl
      rw [e2] at this
      exact this
    have hf₂ : s₂.frames = .throwing q :: .java g :: U.frames.tail := hend
    have hW' : U.WarmedH s₂.vm := hW₂
    have hs₂ : s₂ = ((({ U with heap := s₂.heap, slotsUsed := s₂.slotsUsed } : State).setVm s₂.vm).setTop g).pushFrame (.throwing q) := by
      refine e3.trans ?_
      rw [hf₂, State.calling_eq h.top, State.setFrames_setFrames, State.pushFrame, State.frames_setTop _ hr', State.setTop_of_frames _ hr', State.setFrames_setFrames, hr]
      rfl
    have hsame : U.sameButNew ({ U with heap := s₂.heap, slotsUsed := s₂.slotsUsed } : State) L mc ms := by
      refine ⟨?_, q2, q3, q4, q5, q6⟩
      obtain ⟨t, ht, -⟩ := State.frames_cons hr
      show ({ U with heap := s₂.heap, slotsUsed := s₂.slotsUsed } : State) = { U.setFrames U.frames with heap := s₂.heap, slotsUsed := s₂.slotsUsed }
      rw [State.setFrames_self ht]
    subst hg
    refine Or.inr ⟨q, ⟨(({ U with heap := s₂.heap, slotsUsed := s₂.slotsUsed } : State).setVm s₂.vm), Ls ++ L, c0 + mc, s0 + ms⟩,
      ⟨X.admits, X.cas, X.clock, X.frames, X.room, X.hears, X.method, X.code, (X.here.setHeapUsed s₂.heap s₂.slotsUsed).setVm hW'.alike, X.tail, State.WarmedH.trans X.warmed hW', X.limits, X.bytes, X.same.trans (hsame.setVm s.vm)⟩,
      ⟨g, mk, s₂, L, E, ce, rfl, rfl, hx, hce, hcv, hcl, rfl, hL, rfl, rfl⟩, ?_⟩
    show Steps p.tables e below _ (((({ U with heap := s₂.heap, slotsUsed := s₂.slotsUsed } : State).setVm s₂.vm).setTop g).pushFrame (.throwing q))
    rw [← hs₂]
    exact hsteps
end Payer
section Calls
variable {p : Program} {l : Launch} {e : Env} {R : Room} {s : State} {m : MethodId} {args : Array Value} {below : List Frame} {meth : Method} {c : Code} {T : State} {locs : List Loc} {cells slots : Nat}
theorem vx_callV (X : Stand p l e R s m args below meth c T locs cells slots) (hexec : p.tables.exec = Jvm.exec) {own C : String} {index : Nat} {y : MethodName} {bytes : ByteArray} {maxL : Nat} {ret : Option FieldType}
    (hown : s.vm.findClass own = some m.cls) (hlink : (Cond.methodLink own index y).before args s = true) (hinst : (Cond.instanceMethod y).before args s = true) (hsel : (Cond.selects C y y).before args s = true)
    (hcode : (Cond.code y bytes maxL ret).before args s = true) (hy : y.cls ≠ "java/lang/invoke/MethodHandle" ∧ y.cls ≠ "java/lang/invoke/VarHandle")
    {W9 : Nat} {Pre : Pt → Array Value → Prop} {Post : Pt → Array Value → Option Value → Pt → Prop} {PostX : Pt → Array Value → Addr → Pt → Prop} (hK : vx_Back l R p e below s args y 3 W9 Pre Post PostX)
    {b : Addr} {cellB : Cell} (hcell : T.heap[b]? = some cellB) (hobj : cellB.vm.isStatics = false) (hcls : s.vm.findClass C = some cellB.cls)
    {g : JFrame} (hg : g.method = m) (hsize : g.locals.size = c.maxLocals) {argsL rest : List Value} (hlen : ∀ sig, parseMethodDescriptor y.desc = some sig → argsL.length = sig.parameters.length)
    (hstack : g.stack = argsL.reverse ++ .ref b :: rest) (hW : 2 * g.monitorRoom + (rest.map fun v => v.category).sum ≤ W9) (hdg : decode c.code g.pc = .ok (.invokevirtual index, 3))
    (hpre : ∀ vm₁, s.WarmedH vm₁ → Pre ⟨T.setVm vm₁, locs, cells, slots⟩ (Value.ref b :: argsL).toArray) :
    (∃ (v : Option Value) (vm₁ : Vm) (B : Pt), s.WarmedH vm₁ ∧ Stand p l e R s m args below meth c B.U B.locs B.cells B.slots ∧ Post ⟨T.setVm vm₁, locs, cells, slots⟩ (Value.ref b :: argsL).toArray v B ∧
      ∀ target, Steps p.tables e below (B.U.setTop { g with pc := g.pc + 3, stack := v.toList ++ rest }) target → Steps p.tables e below (T.setTop g) target) ∨
    (∃ (q : Addr) (vm₁ : Vm) (B : Pt), s.WarmedH vm₁ ∧ Stand p l e R s m args below meth c B.U B.locs B.cells B.slots ∧ PostX ⟨T.setVm vm₁, locs, cells, slots⟩ (Value.ref b :: argsL).toArray q B ∧
      Steps p.tables e below (T.setTop g) ((B.U.setTop { g with stack := rest }).pushFrame (.throwing q))) := by
  obtain ⟨mk, methM, hnamed, hmethM, hstM, habM⟩ := Cond.instanceMethod_spec hinst
  obtain ⟨methM', cM, hmethM', -, -, -, -, -, -, hsigM⟩ := Cond.code_spec hnamed hcode
  cases hmethM.symm.trans hmethM'
  obtain ⟨c2, r2, m2, q1, q2, q3, q4, kP, hkP, hkPi⟩ := Cond.selects_spec hsel
  cases hcls.symm.trans q1
  cases (State.methodFound?_of_named hnamed hy).symm.trans q2
  cases hnamed.symm.trans q3
  have hselP : selectMethod e.platform s.vm cellB.cls mk = .method mk := by rw [Launch.admits_selectMethod X.admits]; exact q4
  obtain ⟨vm₁, X₁, hstep₁⟩ := X.invokevirtual hexec hown hlink hnamed hmethM hstM hkP hkPi hy (a := b) (cell := cellB) hcell
    (fun z h => by rw [h] at hobj; cases hobj) hselP hmethM habM hkP hkPi (g := g) hg (argsL := argsL) (rest := rest) (hlen _ hsigM) hstack hdg
  rcases hK m meth c ⟨T.setVm vm₁, locs, cells, slots⟩ { g with stack := rest } (.invokevirtual index) mk (Value.ref b :: argsL).toArray X₁ hg hsize hdg hW (X₁.named hnamed) (hpre vm₁ X₁.warmed) with ⟨v, B, X', hpost, hsteps⟩ | ⟨q, B, X', hpost, hsteps⟩
  · exact Or.inl ⟨v, vm₁, B, X₁.warmed, X', hpost, fun target h => hstep₁ _ fun acts => by rw [doInvoke_state]; exact hsteps.trans h⟩
  · exact Or.inr ⟨q, vm₁, B, X₁.warmed, X', hpost, hstep₁ _ fun acts => by rw [doInvoke_state]; exact hsteps⟩
theorem vx_callS (X : Stand p l e R s m args below meth c T locs cells slots) (hexec : p.tables.exec = Jvm.exec) {own : String} {index : Nat} {y : MethodName} {bytes : ByteArray} {maxL : Nat} {ret : Option FieldType}
    (hown : s.vm.findClass own = some m.cls) (hlink : (Cond.methodLink own index y).before args s = true) (hstat : (Cond.static y).before args s = true) (hinit : (Cond.initialized y.cls).before args s = true)
    (hcode : (Cond.code y bytes maxL ret).before args s = true) (hy : y.cls ≠ "java/lang/invoke/MethodHandle" ∧ y.cls ≠ "java/lang/invoke/VarHandle")
    {W9 : Nat} {Pre : Pt → Array Value → Prop} {Post : Pt → Array Value → Option Value → Pt → Prop} {PostX : Pt → Array Value → Addr → Pt → Prop} (hK : vx_Back l R p e below s args y 3 W9 Pre Post PostX)
    {g : JFrame} (hg : g.method = m) (hsize : g.locals.size = c.maxLocals) {argsL rest : List Value} (hlen : ∀ sig, parseMethodDescriptor y.desc = some sig → argsL.length = sig.parameters.length)
    (hstack : g.stack = argsL.reverse ++ rest) (hW : 2 * g.monitorRoom + (rest.map fun v => v.category).sum ≤ W9) (hdg : decode c.code g.pc = .ok (.invokestatic index, 3))
    (hpre : ∀ vm₁, s.WarmedH vm₁ → Pre ⟨T.setVm vm₁, locs, cells, slots⟩ argsL.toArray) :
    (∃ (v : Option Value) (vm₁ : Vm) (B : Pt), s.WarmedH vm₁ ∧ Stand p l e R s m args below meth c B.U B.locs B.cells B.slots ∧ Post ⟨T.setVm vm₁, locs, cells, slots⟩ argsL.toArray v B ∧
      ∀ target, Steps p.tables e below (B.U.setTop { g with pc := g.pc + 3, stack := v.toList ++ rest }) target → Steps p.tables e below (T.setTop g) target) ∨
    (∃ (q : Addr) (vm₁ : Vm) (B : Pt), s.WarmedH vm₁ ∧ Stand p l e R s m args below meth c B.U B.locs B.cells B.slots ∧ PostX ⟨T.setVm vm₁, locs, cells, slots⟩ argsL.toArray q B ∧
      Steps p.tables e below (T.setTop g) ((B.U.setTop { g with stack := rest }).pushFrame (.throwing q))) := by
  obtain ⟨mk, hnamed⟩ := Cond.code_named hcode
  obtain ⟨methM, cM, hmethM, -, -, -, -, -, -, hsigM⟩ := Cond.code_spec hnamed hcode
  have hstatic : methM.isStatic = true := Cond.static_spec hnamed hmethM hstat
  obtain ⟨kP, hkP, -⟩ := className_of_methodNamed hnamed
  have hinitP : kP.init = .initialized := Cond.initialized_spec (findClass_of_methodNamed hnamed) hkP hinit
  obtain ⟨vm₁, X₁, hstep₁⟩ := X.invokestatic hexec hown hlink hnamed hmethM hstatic hkP hinitP hy (g := g) hg (argsL := argsL) (rest := rest) (hlen _ hsigM) hstack hdg
  rcases hK m meth c ⟨T.setVm vm₁, locs, cells, slots⟩ { g with stack := rest } (.invokestatic index) mk argsL.toArray X₁ hg hsize hdg hW (X₁.named hnamed) (hpre vm₁ X₁.warmed) with ⟨v, B, X', hpost, hsteps⟩ | ⟨q, B, X', hpost, hsteps⟩
  · exact Or.inl ⟨v, vm₁, B, X₁.warmed, X', hpost, fun target h => hstep₁ _ fun acts => by rw [doInvoke_state]; exact hsteps.trans h⟩
  · exact Or.inr ⟨q, vm₁, B, X₁.warmed, X', hpost, hstep₁ _ fun acts => by rw [doInvoke_state]; exact hsteps⟩
end Calls
theorem vx_cls {s : State} {T : State} {vm₁ : Vm} {E : String} {k : ClassId} (hW : s.WarmedH vm₁) (h : (T.setVm vm₁).vm.findClass E = some k) : s.vm.findClass E = some k := by
  have h1 : vm₁.findClass E = some k := h
  rw [hW.alike.findClass] at h1
  exact h1
/-- the method's frame g, with q thrown over it -/
def vx_W (p : Program) (l : Launch) (e : Env) (R : Room) (s : State) (m : MethodId) (args : Array Value) (below : List Frame) (meth : Method) (c : Code) (H : Heap) (locs : List Loc) (cells slots : Nat) (Q : State → Prop) (g : JFrame) (q : Addr) : Prop :=
  ∀ T : State, T.heap = H → Stand p l e R s m args below meth c T locs cells slots → ∃ t, Steps p.tables e below ((T.setTop g).pushFrame (.throwing q)) t ∧ Q t
def vx_Run (p : Program) (l : Launch) (e : Env) (R : Room) (s : State) (m : MethodId) (args : Array Value) (below : List Frame) (meth : Method) (c : Code) (H : Heap) (locs : List Loc) (cells slots mc ms : Nat) (g : JFrame) (rest : List Value) (Qa : State → Outcome → State → Prop) (XC : String → State → State → Prop) (free : Addr → Prop) : Prop :=
  ∀ T : State, T.heap = H → Stand p l e R s m args below meth c T locs cells slots →
    (∃ (v : Option Value) (st₀ t T' : State) (L : List Loc), st₀.heap = H ∧ Stand p l e R s m args below meth c T' (locs ++ L) (cells + mc) (slots + ms) ∧ (∀ q ∈ L, free q.base) ∧ T'.heap = t.heap ∧ T'.vm = t.vm ∧ Qa st₀ (.returned v) t ∧
      Goes p e below T g T' { g with pc := g.pc + 3, stack := v.toList ++ rest }) ∨
    (∃ (q : Addr) (st₀ t T' : State) (L : List Loc) (E : String) (ce : Cell), st₀.heap = H ∧ Stand p l e R s m args below meth c T' (locs ++ L) (cells + mc) (slots + ms) ∧ (∀ z ∈ L, free z.base) ∧ T'.heap = t.heap ∧ T'.vm = t.vm ∧ XC E st₀ t ∧ t.heap[q]? = some ce ∧ ce.vm = .none ∧ s.vm.findClass E = some ce.cls ∧
      Steps p.tables e below (T.setTop g) ((T'.setTop { g with stack := rest }).pushFrame (.throwing q)))
def vx_X {S : Type} (px : S → Prop) (B : String → S → State → Prop) (A : Nat → Prop) : String → State → State → Prop := fun E st t => ∃ u : S, px u ∧ B E u t ∧ va_F A st t
section Runs
variable {p : Program} {l : Launch} {e : Env} {R : Room} {s : State} {m : MethodId} {args : Array Value} {below : List Frame} {meth : Method} {c : Code} {H : Heap} {locs : List Loc} {cells slots : Nat}
variable {y : MethodName} {bytes cc : ByteArray} {maxL nL mc ms n index : Nat} {ret : Option FieldType} {ws : List Cond} {rm : Room} {Pc : Array Value → State → Prop} {Qc : Array Value → State → Outcome → State → Prop} {XC : String → State → State → Prop} {free : Addr → Prop} {Ts : List Cond} {own C : String} {b : Addr} {As rest : List Value} {g : JFrame}
theorem vx_callBack (cb : CallB R s args own index y bytes maxL ret ws rm mc ms n) (hM : vx_Met l y ws rm Pc Qc XC mc ms free) (hbl : FrameBlind Pc) : vx_Back l R p e below s args y 3 8 (PreOf R mc ms Pc) (PostOf Qc mc ms free) (vx_Post XC mc ms free) := by
  obtain ⟨hrc, hrs, hfr, hlo, hws, hcw, -, hini, -⟩ := cb
  exact vx_back (bytes := bytes) (maxL := maxL) (ret := ret) hM hbl hrc hrs hfr hlo hws hcw (fun a' U hW => word_at hW (Or.inl (by first | rfl | simp [Cond.onTables, Cond.keeps, Cond.steady])) hini)
theorem vx_runV (S : CallFix p m c cc nL s args Ts own) (hM : vx_Met l y ws rm Pc Qc XC mc ms free) (cw : CallW R s args own C index y bytes maxL ret ws rm mc ms n) (hp : PreV s H C b Pc As)
    (hg : g.method = m) (hn : As.length = n) (hsize : g.locals.size = nL) (hstack : g.stack = As.reverse ++ .ref b :: rest) (hW : 2 * g.monitorRoom + (rest.map fun v => v.category).sum ≤ 8) (hdg : decode cc g.pc = .ok (.invokevirtual index, 3)) (hf : cells + mc ≤ R.cells ∧ slots + ms ≤ R.slots) :
    vx_Run p l e R s m args below meth c H locs cells slots mc ms g rest (Qc (Value.ref b :: As).toArray) XC free := by
  have hK : vx_Back l R p e below s args y 3 8 (PreOf R mc ms Pc) (PostOf Qc mc ms free) (vx_Post XC mc ms free) := vx_callBack cw.1 hM hp.1
  obtain ⟨⟨-, -, -, -, -, -, hcode, -, hy, hlen, hl⟩, hin, hse⟩ := cw
  obtain ⟨hx, hb, hml, ho, -⟩ := S
  obtain ⟨-, ⟨cellB, hcB, hoB, hclB⟩, hPc⟩ := hp
  intro T hT X
  rcases vx_callV X hx (C := C) (bytes := bytes) (maxL := maxL) (ret := ret) ho hl hin hse hcode hy hK (by rw [hT]; exact hcB) hoB hclB hg (hsize.trans hml.symm) (argsL := As) (rest := rest) (fun sig h => hn.trans (hlen sig h)) hstack hW (by rw [hb]; exact hdg)
    (fun vm₁ hW₁ => ⟨hf.1, hf.2, hPc (T.setVm vm₁) hT hW₁⟩) with ⟨v, vm₁, ⟨U', l2, c2, s2⟩, hW₁, X', ⟨g', mk, t, L, e1, e2, hq, h1, hL, h2, h3⟩, st⟩ | ⟨q, vm₁, ⟨U', l2, c2, s2⟩, hW₁, X', ⟨g', mk, t, L, E, ce, e1, e2, hq, hce, hcv, hcl, h1, hL, h2, h3⟩, st⟩
  · dsimp only [Pt.U, Pt.locs, Pt.cells, Pt.slots] at X' e1 e2 h1 h2 h3 st
    subst h1; subst h2; subst h3
    exact Or.inl ⟨v, (T.setVm vm₁).calling g' mk (Value.ref b :: As).toArray, t, U', L, hT, X', hL, e1, e2, hq, st⟩
  · dsimp only [Pt.U, Pt.locs, Pt.cells, Pt.slots] at X' e1 e2 h1 h2 h3 st hcl
    subst h1; subst h2; subst h3
    exact Or.inr ⟨q, (T.setVm vm₁).calling g' mk (Value.ref b :: As).toArray, t, U', L, E, ce, hT, X', hL, e1, e2, hq, hce, hcv, vx_cls hW₁ hcl, st⟩
theorem vx_runS (S : CallFix p m c cc nL s args Ts own) (hM : vx_Met l y ws rm Pc Qc XC mc ms free) (cw : CallB R s args own index y bytes maxL ret ws rm mc ms n ∧ (Cond.static y).before args s = true) (hp : PreS s H Pc As)
    (hg : g.method = m) (hn : As.length = n) (hsize : g.locals.size = nL) (hstack : g.stack = As.reverse ++ rest) (hW : 2 * g.monitorRoom + (rest.map fun v => v.category).sum ≤ 8) (hdg : decode cc g.pc = .ok (.invokestatic index, 3)) (hf : cells + mc ≤ R.cells ∧ slots + ms ≤ R.slots) :
    vx_Run p l e R s m args below meth c H locs cells slots mc ms g rest (Qc As.toArray) XC free := by
  have hK : vx_Back l R p e below s args y 3 8 (PreOf R mc ms Pc) (PostOf Qc mc ms free) (vx_Post XC mc ms free) := vx_callBack cw.1 hM hp.1
  obtain ⟨⟨-, -, -, -, -, -, hcode, hini, hy, hlen, hl⟩, hstt⟩ := cw
  obtain ⟨hx, hb, hml, ho, -⟩ := S
  intro T hT X
  rcases vx_callS X hx (bytes := bytes) (maxL := maxL) (ret := ret) ho hl hstt hini hcode hy hK hg (hsize.trans hml.symm) (argsL := As) (rest := rest) (fun sig h => hn.trans (hlen sig h)) hstack hW (by rw [hb]; exact hdg)
    (fun vm₁ hW₁ => ⟨hf.1, hf.2, hp.2 (T.setVm vm₁) hT hW₁⟩) with ⟨v, vm₁, ⟨U', l2, c2, s2⟩, hW₁, X', ⟨g', mk, t, L, e1, e2, hq, h1, hL, h2, h3⟩, st⟩ | ⟨q, vm₁, ⟨U', l2, c2, s2⟩, hW₁, X', ⟨g', mk, t, L, E, ce, e1, e2, hq, hce, hcv, hcl, h1, hL, h2, h3⟩, st⟩
  · dsimp only [Pt.U, Pt.locs, Pt.cells, Pt.slots] at X' e1 e2 h1 h2 h3 st
    subst h1; subst h2; subst h3
    exact Or.inl ⟨v, (T.setVm vm₁).calling g' mk As.toArray, t, U', L, hT, X', hL, e1, e2, hq, st⟩
  · dsimp only [Pt.U, Pt.locs, Pt.cells, Pt.slots] at X' e1 e2 h1 h2 h3 st hcl
    subst h1; subst h2; subst h3
    exact Or.inr ⟨q, (T.setVm vm₁).calling g' mk As.toArray, t, U', L, E, ce, hT, X', hL, e1, e2, hq, hce, hcv, vx_cls hW₁ hcl, st⟩
end Runs
section Rows
variable {p : Program} {l : Launch} {e : Env} {R : Room} {s : State} {m : MethodId} {args : Array Value} {below : List Frame} {meth : Method} {c : Code} {H : Heap} {locs : List Loc} {cells slots : Nat} {Q : State → Prop}
variable {mc ms : Nat} {free : Addr → Prop} {A0 A1 : Nat → Prop} {H0 : Heap} {a : Array Value} {pc : Nat} {ls : Array Slot} {st0 rest : List Value}
theorem vx_keep {st₀ t T' : State} {L : List Loc} (h0 : st₀.heap = H) (e1 : T'.heap = t.heap) (hS : va_S A0 H0 H locs) (hA : ∀ q, q < H.size → A1 q → A0 q) (hf : ∀ q, free q → A0 q) (hL : ∀ q ∈ L, free q.base) (hF : va_F A1 st₀ t) :
    H.size ≤ T'.heap.size ∧ (∀ q : Nat, q < H.size → ¬ A1 q → T'.heap[q]? = H[q]?) ∧ va_S A0 H0 T'.heap (locs ++ L) := by
  obtain ⟨hz, hk⟩ := hF
  rw [h0] at hz hk
  exact ⟨by rw [e1]; exact hz, fun q h1 h2 => by rw [e1]; exact hk q h1 h2,
    ⟨Nat.le_trans hS.1 (by rw [e1]; exact hz), fun q h1 h2 => by rw [e1, hk q (Nat.lt_of_lt_of_le h1 hS.1) (fun z => h2 (hA q (Nat.lt_of_lt_of_le h1 hS.1) z))]; exact hS.2.1 q h1 h2, fun q hq => by
      rcases List.mem_append.mp hq with h | h
      · exact hS.2.2 q h
      · exact hf _ (hL q h)⟩⟩
theorem vx_calli {S SX : Type} {post : Int32 → S → Prop} {px : SX → Prop} {B : S → State → Prop} {BX : String → SX → State → Prop} {AX : Nat → Prop} (hr : vx_Run p l e R s m args below meth c H locs cells slots mc ms (F0 m pc ls st0) rest (va_Qi post B A1 a) (vx_X px BX AX) free) (hS : va_S A0 H0 H locs) (hA : ∀ q, q < H.size → A1 q → A0 q) (hf : ∀ q, free q → A0 q) (hAX : ∀ q, q < H.size → AX q → A0 q)
    (kx : ∀ (E : String) (ce : Cell) (q9 : Addr) (u : SX) (t : State) (H1 : Heap) (locs1 : List Loc), t.heap = H1 → s.vm.Alike t.vm → px u → BX E u t → H.size ≤ H1.size → (∀ q : Nat, q < H.size → ¬ AX q → H1[q]? = H[q]?) → va_S A0 H0 H1 locs1 → H1[q9]? = some ce → ce.vm = .none → s.vm.findClass E = some ce.cls → vx_W p l e R s m args below meth c H1 locs1 (cells + mc) (slots + ms) Q (F0 m pc ls rest) q9)
    (kk : ∀ (r : Int32) (u : S) (t : State) (H1 : Heap) (locs1 : List Loc), t.heap = H1 → s.vm.Alike t.vm → post r u → B u t → H.size ≤ H1.size → (∀ q : Nat, q < H.size → ¬ A1 q → H1[q]? = H[q]?) → va_S A0 H0 H1 locs1 → W p l e R s m args below meth c H1 locs1 (cells + mc) (slots + ms) Q (F0 m (pc + 3) ls (.int r :: rest))) : W p l e R s m args below meth c H locs cells slots Q (F0 m pc ls st0) := by
  intro T hT X
  rcases hr T hT X with ⟨v, st₀, t, T', L, h0, X', hL, e1, e2, ⟨⟨r, u, hv, hp, hb⟩, hF⟩, st⟩ | ⟨q, st₀, t, T', L, E, ce, h0, X', hL, e1, e2, ⟨u, hp, hb, hF⟩, hce, hcv, hcl, st⟩
  · cases hv
    obtain ⟨k1, k2, k3⟩ := vx_keep h0 e1 hS hA hf hL hF
    obtain ⟨t2, a1, b1⟩ := kk r u t T'.heap (locs ++ L) e1.symm (by rw [← e2]; exact X'.warmed.alike) hp hb k1 k2 k3 T' rfl X'
    exact ⟨t2, st t2 a1, b1⟩
  · obtain ⟨k1, k2, k3⟩ := vx_keep h0 e1 hS hAX hf hL hF
    obtain ⟨t2, a1, b1⟩ := kx E ce q u t T'.heap (locs ++ L) e1.symm (by rw [← e2]; exact X'.warmed.alike) hp hb k1 k2 k3 (by rw [e1]; exact hce) hcv hcl T' rfl X'
    exact ⟨t2, st.trans a1, b1⟩
theorem vx_calll {S SX : Type} {post : Int64 → S → Prop} {px : SX → Prop} {B : S → State → Prop} {BX : String → SX → State → Prop} {AX : Nat → Prop} (hr : vx_Run p l e R s m args below meth c H locs cells slots mc ms (F0 m pc ls st0) rest (va_Ql post B A1 a) (vx_X px BX AX) free) (hS : va_S A0 H0 H locs) (hA : ∀ q, q < H.size → A1 q → A0 q) (hf : ∀ q, free q → A0 q) (hAX : ∀ q, q < H.size → AX q → A0 q)
    (kx : ∀ (E : String) (ce : Cell) (q9 : Addr) (u : SX) (t : State) (H1 : Heap) (locs1 : List Loc), t.heap = H1 → s.vm.Alike t.vm → px u → BX E u t → H.size ≤ H1.size → (∀ q : Nat, q < H.size → ¬ AX q → H1[q]? = H[q]?) → va_S A0 H0 H1 locs1 → H1[q9]? = some ce → ce.vm = .none → s.vm.findClass E = some ce.cls → vx_W p l e R s m args below meth c H1 locs1 (cells + mc) (slots + ms) Q (F0 m pc ls rest) q9)
    (kk : ∀ (r : Int64) (u : S) (t : State) (H1 : Heap) (locs1 : List Loc), t.heap = H1 → s.vm.Alike t.vm → post r u → B u t → H.size ≤ H1.size → (∀ q : Nat, q < H.size → ¬ A1 q → H1[q]? = H[q]?) → va_S A0 H0 H1 locs1 → W p l e R s m args below meth c H1 locs1 (cells + mc) (slots + ms) Q (F0 m (pc + 3) ls (.long r :: rest))) : W p l e R s m args below meth c H locs cells slots Q (F0 m pc ls st0) := by
  intro T hT X
  rcases hr T hT X with ⟨v, st₀, t, T', L, h0, X', hL, e1, e2, ⟨⟨r, u, hv, hp, hb⟩, hF⟩, st⟩ | ⟨q, st₀, t, T', L, E, ce, h0, X', hL, e1, e2, ⟨u, hp, hb, hF⟩, hce, hcv, hcl, st⟩
  · cases hv
    obtain ⟨k1, k2, k3⟩ := vx_keep h0 e1 hS hA hf hL hF
    obtain ⟨t2, a1, b1⟩ := kk r u t T'.heap (locs ++ L) e1.symm (by rw [← e2]; exact X'.warmed.alike) hp hb k1 k2 k3 T' rfl X'
    exact ⟨t2, st t2 a1, b1⟩
  · obtain ⟨k1, k2, k3⟩ := vx_keep h0 e1 hS hAX hf hL hF
    obtain ⟨t2, a1, b1⟩ := kx E ce q u t T'.heap (locs ++ L) e1.symm (by rw [← e2]; exact X'.warmed.alike) hp hb k1 k2 k3 (by rw [e1]; exact hce) hcv hcl T' rfl X'
    exact ⟨t2, st.trans a1, b1⟩
theorem vx_callf {S SX : Type} {post : UInt32 → S → Prop} {px : SX → Prop} {B : S → State → Prop} {BX : String → SX → State → Prop} {AX : Nat → Prop} (hr : vx_Run p l e R s m args below meth c H locs cells slots mc ms (F0 m pc ls st0) rest (va_Qf post B A1 a) (vx_X px BX AX) free) (hS : va_S A0 H0 H locs) (hA : ∀ q, q < H.size → A1 q → A0 q) (hf : ∀ q, free q → A0 q) (hAX : ∀ q, q < H.size → AX q → A0 q)
    (kx : ∀ (E : String) (ce : Cell) (q9 : Addr) (u : SX) (t : State) (H1 : Heap) (locs1 : List Loc), t.heap = H1 → s.vm.Alike t.vm → px u → BX E u t → H.size ≤ H1.size → (∀ q : Nat, q < H.size → ¬ AX q → H1[q]? = H[q]?) → va_S A0 H0 H1 locs1 → H1[q9]? = some ce → ce.vm = .none → s.vm.findClass E = some ce.cls → vx_W p l e R s m args below meth c H1 locs1 (cells + mc) (slots + ms) Q (F0 m pc ls rest) q9)
    (kk : ∀ (r : UInt32) (u : S) (t : State) (H1 : Heap) (locs1 : List Loc), t.heap = H1 → s.vm.Alike t.vm → post r u → B u t → H.size ≤ H1.size → (∀ q : Nat, q < H.size → ¬ A1 q → H1[q]? = H[q]?) → va_S A0 H0 H1 locs1 → W p l e R s m args below meth c H1 locs1 (cells + mc) (slots + ms) Q (F0 m (pc + 3) ls (.float r :: rest))) : W p l e R s m args below meth c H locs cells slots Q (F0 m pc ls st0) := by
  intro T hT X
  rcases hr T hT X with ⟨v, st₀, t, T', L, h0, X', hL, e1, e2, ⟨⟨r, u, hv, hp, hb⟩, hF⟩, st⟩ | ⟨q, st₀, t, T', L, E, ce, h0, X', hL, e1, e2, ⟨u, hp, hb, hF⟩, hce, hcv, hcl, st⟩
  · cases hv
    obtain ⟨k1, k2, k3⟩ := vx_keep h0 e1 hS hA hf hL hF
    obtain ⟨t2, a1, b1⟩ := kk r u t T'.heap (locs ++ L) e1.symm (by rw [← e2]; exact X'.warmed.alike) hp hb k1 k2 k3 T' rfl X'
    exact ⟨t2, st t2 a1, b1⟩
  · obtain ⟨k1, k2, k3⟩ := vx_keep h0 e1 hS hAX hf hL hF
    obtain ⟨t2, a1, b1⟩ := kx E ce q u t T'.heap (locs ++ L) e1.symm (by rw [← e2]; exact X'.warmed.alike) hp hb k1 k2 k3 (by rw [e1]; exact hce) hcv hcl T' rfl X'
    exact ⟨t2, st.trans a1, b1⟩
theorem vx_calld {S SX : Type} {post : UInt64 → S → Prop} {px : SX → Prop} {B : S → State → Prop} {BX : String → SX → State → Prop} {AX : Nat → Prop} (hr : vx_Run p l e R s m args below meth c H locs cells slots mc ms (F0 m pc ls st0) rest (va_Qd post B A1 a) (vx_X px BX AX) free) (hS : va_S A0 H0 H locs) (hA : ∀ q, q < H.size → A1 q → A0 q) (hf : ∀ q, free q → A0 q) (hAX : ∀ q, q < H.size → AX q → A0 q)
    (kx : ∀ (E : String) (ce : Cell) (q9 : Addr) (u : SX) (t : State) (H1 : Heap) (locs1 : List Loc), t.heap = H1 → s.vm.Alike t.vm → px u → BX E u t → H.size ≤ H1.size → (∀ q : Nat, q < H.size → ¬ AX q → H1[q]? = H[q]?) → va_S A0 H0 H1 locs1 → H1[q9]? = some ce → ce.vm = .none → s.vm.findClass E = some ce.cls → vx_W p l e R s m args below meth c H1 locs1 (cells + mc) (slots + ms) Q (F0 m pc ls rest) q9)
    (kk : ∀ (r : UInt64) (u : S) (t : State) (H1 : Heap) (locs1 : List Loc), t.heap = H1 → s.vm.Alike t.vm → post r u → B u t → H.size ≤ H1.size → (∀ q : Nat, q < H.size → ¬ A1 q → H1[q]? = H[q]?) → va_S A0 H0 H1 locs1 → W p l e R s m args below meth c H1 locs1 (cells + mc) (slots + ms) Q (F0 m (pc + 3) ls (.double r :: rest))) : W p l e R s m args below meth c H locs cells slots Q (F0 m pc ls st0) := by
  intro T hT X
  rcases hr T hT X with ⟨v, st₀, t, T', L, h0, X', hL, e1, e2, ⟨⟨r, u, hv, hp, hb⟩, hF⟩, st⟩ | ⟨q, st₀, t, T', L, E, ce, h0, X', hL, e1, e2, ⟨u, hp, hb, hF⟩, hce, hcv, hcl, st⟩
  · cases hv
    obtain ⟨k1, k2, k3⟩ := vx_keep h0 e1 hS hA hf hL hF
    obtain ⟨t2, a1, b1⟩ := kk r u t T'.heap (locs ++ L) e1.symm (by rw [← e2]; exact X'.warmed.alike) hp hb k1 k2 k3 T' rfl X'
    exact ⟨t2, st t2 a1, b1⟩
  · obtain ⟨k1, k2, k3⟩ := vx_keep h0 e1 hS hAX hf hL hF
    obtain ⟨t2, a1, b1⟩ := kx E ce q u t T'.heap (locs ++ L) e1.symm (by rw [← e2]; exact X'.warmed.alike) hp hb k1 k2 k3 (by rw [e1]; exact hce) hcv hcl T' rfl X'
    exact ⟨t2, st.trans a1, b1⟩
theorem vx_callv {S SX : Type} {post : S → Prop} {px : SX → Prop} {B : S → State → Prop} {BX : String → SX → State → Prop} {AX : Nat → Prop} (hr : vx_Run p l e R s m args below meth c H locs cells slots mc ms (F0 m pc ls st0) rest (va_Qv post B A1 a) (vx_X px BX AX) free) (hS : va_S A0 H0 H locs) (hA : ∀ q, q < H.size → A1 q → A0 q) (hf : ∀ q, free q → A0 q) (hAX : ∀ q, q < H.size → AX q → A0 q)
    (kx : ∀ (E : String) (ce : Cell) (q9 : Addr) (u : SX) (t : State) (H1 : Heap) (locs1 : List Loc), t.heap = H1 → s.vm.Alike t.vm → px u → BX E u t → H.size ≤ H1.size → (∀ q : Nat, q < H.size → ¬ AX q → H1[q]? = H[q]?) → va_S A0 H0 H1 locs1 → H1[q9]? = some ce → ce.vm = .none → s.vm.findClass E = some ce.cls → vx_W p l e R s m args below meth c H1 locs1 (cells + mc) (slots + ms) Q (F0 m pc ls rest) q9)
    (kk : ∀ (u : S) (t : State) (H1 : Heap) (locs1 : List Loc), t.heap = H1 → s.vm.Alike t.vm → post u → B u t → H.size ≤ H1.size → (∀ q : Nat, q < H.size → ¬ A1 q → H1[q]? = H[q]?) → va_S A0 H0 H1 locs1 → W p l e R s m args below meth c H1 locs1 (cells + mc) (slots + ms) Q (F0 m (pc + 3) ls (rest))) : W p l e R s m args below meth c H locs cells slots Q (F0 m pc ls st0) := by
  intro T hT X
  rcases hr T hT X with ⟨v, st₀, t, T', L, h0, X', hL, e1, e2, ⟨⟨u, hv, hp, hb⟩, hF⟩, st⟩ | ⟨q, st₀, t, T', L, E, ce, h0, X', hL, e1, e2, ⟨u, hp, hb, hF⟩, hce, hcv, hcl, st⟩
  · cases hv
    obtain ⟨k1, k2, k3⟩ := vx_keep h0 e1 hS hA hf hL hF
    obtain ⟨t2, a1, b1⟩ := kk u t T'.heap (locs ++ L) e1.symm (by rw [← e2]; exact X'.warmed.alike) hp hb k1 k2 k3 T' rfl X'
    exact ⟨t2, st t2 a1, b1⟩
  · obtain ⟨k1, k2, k3⟩ := vx_keep h0 e1 hS hAX hf hL hF
    obtain ⟨t2, a1, b1⟩ := kx E ce q u t T'.heap (locs ++ L) e1.symm (by rw [← e2]; exact X'.warmed.alike) hp hb k1 k2 k3 (by rw [e1]; exact hce) hcv hcl T' rfl X'
    exact ⟨t2, st.trans a1, b1⟩
/-- caught by the row x of this method's table; the rows ahead don't take it -/
theorem vx_catch {own name : String} {E : String} {ce : Cell} {q : Addr} (hown : s.vm.findClass own = some m.cls) (pre : List ExceptionTableEntry) (x : ExceptionTableEntry) (suf : List ExceptionTableEntry) (hsplit : c.exceptionTable.toList = pre ++ x :: suf)
    (hpass : ∀ z ∈ pre, covers z pc = false ∨ (z.catchType ≠ 0 ∧ ∃ nm : String, (Cond.classLink own z.catchType nm).before args s = true ∧ va_Nc E nm s)) (hx : covers x pc = true) (h0 : x.catchType ≠ 0)
    (hlink : (Cond.classLink own x.catchType name).before args s = true) (hcast : (Cond.castable E name).before args s = true) (hcell : H[q]? = some ce) (hv : ce.vm = .none) (hcl : s.vm.findClass E = some ce.cls)
    (kk : W p l e R s m args below meth c H locs cells slots Q (F0 m x.handlerPc ls [.ref q])) : vx_W p l e R s m args below meth c H locs cells slots Q (F0 m pc ls rest) q := by
  intro T hT X
  have hpl : e.platform.magicAccessors = ({} : Platform).magicAccessors := by rw [X.admits.platform]
  obtain ⟨c3, c4, hc3, hc4, hasg⟩ := Cond.castable_spec hcast
  cases Option.some.inj (hc3.symm.trans hcl)
  obtain ⟨c5, hc5, hcl5⟩ := Cond.classLink_spec hown hlink e.platform hpl
  cases Option.some.inj (hc4.symm.trans hc5)
  obtain ⟨vm', X', st⟩ := X.thenCaughtThrough q (g := F0 m pc ls rest) rfl (Steps.refl _) (by rw [hT]; exact hcell) (by rw [hv]; rfl) (by obtain ⟨k9, h9, -⟩ := Vm.findClass_spec hcl; exact ⟨k9, h9⟩) pre x suf hsplit
    (fun z hz => by
      rcases hpass z hz with h | ⟨hz0, nm, hl1, hn1⟩
      · exact Or.inl h
      · obtain ⟨c6, hc6, hcl6⟩ := Cond.classLink_spec hown hl1 e.platform hpl
        obtain ⟨a8, b8, h1, h2, h3⟩ := hn1
        cases Option.some.inj (h1.symm.trans hcl)
        cases Option.some.inj (h2.symm.trans hc6)
        exact Or.inr ⟨hz0, _, hcl6, h3⟩) hx (Or.inr ⟨h0, c4, hcl5, hasg⟩)
  obtain ⟨t, a1, b1⟩ := kk (T.setVm vm') hT X'
  exact ⟨t, st.trans a1, b1⟩
end Rows
section Ends
variable {p : Program} {l : Launch} {e : Env} {R : Room} {s : State} {m : MethodId} {args : Array Value} {below : List Frame} {meth : Method} {c : Code} {H : Heap} {locs : List Loc} {cells slots : Nat} {Q : State → Prop}
variable {mc ms : Nat} {free : Addr → Prop} {A0 A1 : Nat → Prop} {H0 : Heap} {a : Array Value} {ls : Array Slot} {st0 rest : List Value}
variable {Qc : Array Value → State → Outcome → State → Prop} {XC : String → State → State → Prop}
/-- what a body that may throw owes at its end -/
def vx_MQ (below : List Frame) (Qc : Array Value → State → Outcome → State → Prop) (XC : String → State → State → Prop) (a : Array Value) (s : State) (mc ms : Nat) (free : Addr → Prop) : State → Prop := fun t =>
  ∃ o, t.status = .running ∧ Ended t below o ∧ vx_Q Qc XC mc ms free a s o t
theorem vx_ret {g : JFrame} {mc ms : Nat} (k : W p l e R s m args below meth c H locs cells slots (MQ below Qc args s mc ms free) g) : W p l e R s m args below meth c H locs cells slots (vx_MQ below Qc XC args s mc ms free) g := by
  intro T hT X
  obtain ⟨t, a1, o, b1, b2, b3, b4⟩ := k T hT X
  exact ⟨t, a1, o, b1, b2, Or.inl ⟨b3, b4⟩⟩
/-- not caught here: it goes on to the caller -/
theorem vx_widen {g : JFrame} {q : Addr} {k n : Nat} (h1 : cells ≤ k) (h2 : slots ≤ n) (kk : vx_W p l e R s m args below meth c H locs k n Q g q) : vx_W p l e R s m args below meth c H locs cells slots Q g q := fun T hT X => kk T hT (stand_widen X h1 h2)
theorem vx_out {pc : Nat} {E : String} {ce : Cell} {q : Addr} {mc ms : Nat} (hout : ∀ x ∈ c.exceptionTable.toList, covers x pc = false) (hlocks : meth.locks = false) (hcell : H[q]? = some ce) (hv : ce.vm = .none) (hcl : s.vm.findClass E = some ce.cls)
    (hx : ∀ t : State, t.heap = H → s.vm.Alike t.vm → XC E s t) (hf : ∀ z ∈ locs, free z.base) (hc : cells ≤ mc) (hs : slots ≤ ms) :
    vx_W p l e R s m args below meth c H locs cells slots (vx_MQ below Qc XC args s mc ms free) (F0 m pc ls rest) q := by
  intro T hT X
  obtain ⟨st1, hrun, hend, hW, hsm⟩ := X.leaveThrown q (g := F0 m pc ls rest) rfl rfl rfl hout hlocks
  have hcell9 : (T.setFrames (.throwing q :: below)).heap[q]? = some ce := by
    show T.heap[q]? = some ce
    rw [hT]; exact hcell
  exact ⟨_, st1, .threw q, hrun, hend, Or.inr ⟨q, rfl, E, ce, locs, hx _ hT hW.alike, hcell9, hv, hcl, hW, hsm.mono hc hs, hf⟩⟩
theorem vx_frame {U : State} {k n : Nat} (h : s.sameButNew ({ U with vm := s.vm } : State) locs k n) : s.heap.size ≤ U.heap.size ∧ ∀ q : Nat, q < s.heap.size → (∀ z ∈ locs, z.base ≠ q) → U.heap[q]? = s.heap[q]? := by
  obtain ⟨-, h2, -, -, -, h6⟩ := h
  refine ⟨h2, fun q hq hz => ?_⟩
  obtain ⟨c9, e1, e2, e3, e4⟩ := h6 q _ (Array.getElem?_eq_getElem hq)
  have hs : c9.slots = (s.heap[q]).slots := Array.ext_getElem? fun i => e4 i fun hm => hz _ hm rfl
  have h9 : c9 = s.heap[q] := by
    rw [hs] at e2
    exact e2
  have e5 : U.heap[q]? = some c9 := e1
  rw [e5, h9, Array.getElem?_eq_getElem hq]
/-- the words of a throw but the four that speak of the heap -/
def vx_no (w : Cond) : Bool := decide (w ≠ .isRef (.static Bundle.tN "UNASSIGNED_STACK" Bundle.steD)) && decide (w ≠ .isRef (.static Bundle.tN "SUPPRESSED_SENTINEL" Bundle.listD)) && decide (w ≠ .laysStatic Bundle.tN "UNASSIGNED_STACK" Bundle.steD) && decide (w ≠ .laysStatic Bundle.tN "SUPPRESSED_SENTINEL" Bundle.listD)
def vx_at0 (own : String) (ic : Nat) (X : String) (names : List String) : List Cond := (Bundle.ownAtoms0 own ic X names).filter vx_no
def vx_atS (own : String) (ic : Nat) (X : String) (names : List String) : List Cond := (Bundle.ownAtoms own ic X names).filter vx_no
/-- a word that the tables alone decide, or a good one -/
def vx_ot (w : Cond) : Bool := w.onTables || goodWord w
theorem vx_ot_at {args a' : Array Value} {s U : State} {w : Cond} (hW : s.WarmedH U.vm) (hvm : s.vm = U.vm) (hg : vx_ot w = true) (h : w.before args s = true) : w.before a' U = true := by
  simp only [vx_ot, Bool.or_eq_true] at hg
  rcases hg with hg | hg
  · exact va_tabs hg hvm h
  · exact word_at hW (good_of_word hg) h
/-- a list's words: the good ones out of the method's own list, the others by premises of their own -/
theorem vx_hat {args : Array Value} {s : State} {L B : List Cond} (h1 : ∀ w ∈ L.filter goodWord, w.before args s = true) (h2 : ∀ w ∈ L.filter (fun w => !goodWord w), w ∈ B) (h3 : ∀ w ∈ B, w.before args s = true) : ∀ w ∈ L, w.before args s = true := by
  intro w hw
  by_cases g : goodWord w = true
  · exact h1 w (List.mem_filter.mpr ⟨hw, g⟩)
  · refine h3 w (h2 w (List.mem_filter.mpr ⟨hw, ?_⟩))
    show (!goodWord w) = true
    cases hgw : goodWord w
    · rfl
    · exact absurd hgw g
theorem vx_c {args : Array Value} {s : State} {w : Cond} {B : List Cond} (h : w.before args s = true) (t : ∀ w ∈ B, w.before args s = true) : ∀ w' ∈ w :: B, w'.before args s = true := fun w' h' => (List.mem_cons.mp h').elim (fun e => by rw [e]; exact h) (t w')
theorem vx_n {args : Array Value} {s : State} : ∀ w ∈ ([] : List Cond), w.before args s = true := fun _ h => nomatch h
theorem vx_own {args : Array Value} {s : State} {L : List Cond} (h1 : ∀ w ∈ L.filter vx_no, w.before args s = true)
    (hU : (Cond.isRef (.static Bundle.tN "UNASSIGNED_STACK" Bundle.steD)).before args s = true) (hN : (Cond.isRef (.static Bundle.tN "SUPPRESSED_SENTINEL" Bundle.listD)).before args s = true)
    (lU : (Cond.laysStatic Bundle.tN "UNASSIGNED_STACK" Bundle.steD).before args s = true) (lN : (Cond.laysStatic Bundle.tN "SUPPRESSED_SENTINEL" Bundle.listD).before args s = true) : ∀ w ∈ L, w.before args s = true := by
  intro w hw
  by_cases e1 : w = .isRef (.static Bundle.tN "UNASSIGNED_STACK" Bundle.steD)
  · rw [e1]; exact hU
  · by_cases e2 : w = .isRef (.static Bundle.tN "SUPPRESSED_SENTINEL" Bundle.listD)
    · rw [e2]; exact hN
    · by_cases e3 : w = .laysStatic Bundle.tN "UNASSIGNED_STACK" Bundle.steD
      · rw [e3]; exact lU
      · by_cases e4 : w = .laysStatic Bundle.tN "SUPPRESSED_SENTINEL" Bundle.listD
        · rw [e4]; exact lN
        · exact h1 w (List.mem_filter.mpr ⟨hw, by unfold vx_no; rw [decide_eq_true e1, decide_eq_true e2, decide_eq_true e3, decide_eq_true e4]; rfl⟩)
/-- where a static field lies, its class's statics cell in H -/
def vx_L (C n d : String) (A : Nat → Prop) (U : State) (H : Heap) : Prop := ∃ (c : ClassId) (k : Class) (i : Nat) (f : Field) (a : Nat) (cell : Cell), U.vm.findClass C = some c ∧ U.fieldFound? C n d = some (c, k, i, f) ∧ f.isStatic = true ∧ k.statics = some a ∧ H[a]? = some cell ∧ cell.vm.isStatics = true ∧ cell.cls = c ∧ f.slot < cell.slots.size ∧ k.staticTypes[f.slot]? = some f.type ∧ ¬ A a
theorem vx_L.moved {C n d : String} {A : Nat → Prop} {u U : State} {H : Heap} (hvm : u.vm.Alike U.vm) (h : vx_L C n d A u H) : vx_L C n d A U H := by
  obtain ⟨c, k, i, f, a, cell, h1, h2, h3, h4, h5, h6, h7, h8, h9, h10⟩ := h
  obtain ⟨k', hi', he⟩ := State.fieldFound?_setVm hvm h2
  exact ⟨c, k', i, f, a, cell, by rw [hvm.findClass]; exact h1, hi', h3, by rw [he]; exact h4, h5, h6, h7, h8, by rw [he]; exact h9, h10⟩
theorem vx_L.kept {C n d : String} {A : Nat → Prop} {U : State} {H H1 : Heap} (h : vx_L C n d A U H) (hq : ∀ a : Nat, a < H.size → ¬ A a → H1[a]? = H[a]?) : vx_L C n d A U H1 := by
  obtain ⟨c, k, i, f, a, cell, h1, h2, h3, h4, h5, h6, h7, h8, h9, h10⟩ := h
  exact ⟨c, k, i, f, a, cell, h1, h2, h3, h4, by rw [hq a (Array.getElem?_eq_some_iff.mp h5).1 h10]; exact h5, h6, h7, h8, h9, h10⟩
theorem vx_L.narrow {C n d : String} {A B : Nat → Prop} {U : State} {H : Heap} (h : vx_L C n d A U H) (hAB : ∀ q, B q → A q) : vx_L C n d B U H := by
  obtain ⟨c, k, i, f, a, cell, h1, h2, h3, h4, h5, h6, h7, h8, h9, h10⟩ := h
  exact ⟨c, k, i, f, a, cell, h1, h2, h3, h4, h5, h6, h7, h8, h9, fun z => h10 (hAB _ z)⟩
theorem vx_L.word {C n d : String} {A : Nat → Prop} {s : State} {args : Array Value} (h : vx_L C n d A s s.heap) : (Cond.laysStatic C n d).before args s = true := by
  obtain ⟨c, k, i, f, a, cell, h1, h2, h3, h4, h5, h6, h7, h8, h9, -⟩ := h
  show (Cond.laysStatic C n d).holds args s none s [] = true
  exact Cond.laysStatic_of h1 h2 h3 h4 h5 h6 h7 h8 h9
/-- .. and what it holds: null or some reference -/
def vx_Zq (C n d : String) (A : Nat → Prop) (U : State) (H : Heap) : Prop := va_Zq C n d A U H ∧ vx_L C n d A U H
theorem vx_Zq.moved {C n d : String} {A : Nat → Prop} {u U : State} {H : Heap} (hvm : u.vm.Alike U.vm) (h : vx_Zq C n d A u H) : vx_Zq C n d A U H := ⟨va_Zq.moved hvm h.1, vx_L.moved hvm h.2⟩
theorem vx_Zq.kept {C n d : String} {A : Nat → Prop} {U : State} {H H1 : Heap} (h : vx_Zq C n d A U H) (hq : ∀ a : Nat, a < H.size → ¬ A a → H1[a]? = H[a]?) : vx_Zq C n d A U H1 := ⟨va_Zq.kept h.1 hq, vx_L.kept h.2 hq⟩
theorem vx_Zq.narrow {C n d : String} {A B : Nat → Prop} {U : State} {H : Heap} (h : vx_Zq C n d A U H) (hAB : ∀ q, B q → A q) : vx_Zq C n d B U H := ⟨va_Zq.narrow h.1 hAB, vx_L.narrow h.2 hAB⟩
theorem vx_Zqof {args : Array Value} {s : State} {C n d : String} {A : Nat → Prop} (hl : (Cond.laysStatic C n d).before args s = true) (hini : (Cond.initialized C).before args s = true) (h : (Cond.isRef (.static C n d)).before args s = true) (hA : ∀ a : Nat, a < s.heap.size → ¬ A a) : vx_Zq C n d A s s.heap := by
  refine ⟨va_Zqof hl hini h hA, ?_⟩
  obtain ⟨c, k, i, f, a, cell, h1, h2, h3, h4, h5, h6, h7, h8, h9⟩ := Cond.laysStatic_spec hl
  exact ⟨c, k, i, f, a, cell, h1, h2, h3, h4, h5, h6, h7, h8, h9, hA a (Array.getElem?_eq_some_iff.mp h5).1⟩
theorem vx_isRef {C n d : String} {v : Value} {A : Nat → Prop} {s : State} {args : Array Value} (h : va_Z C n d v A s s.heap) (hv : v.isRef = true) : (Cond.isRef (.static C n d)).before args s = true := by
  obtain ⟨cf, kf, fi, f, a, cell, h1, h2, h3, h4, h5, h6, h7, -⟩ := h
  have he : (Term.static C n d).eval args s none [] s = some v := by
    simp [Term.eval, State.fieldNamed?, h1, h2, h4, h5, h6, h7]
  simp only [Cond.before, Cond.holds, Cond.value, he]
  cases v <;> simp_all [Value.isRef]
theorem vx_isRefq {C n d : String} {A : Nat → Prop} {s : State} {args : Array Value} (h : va_Zq C n d A s s.heap) : (Cond.isRef (.static C n d)).before args s = true := by
  rcases h with h | ⟨t, h⟩
  · exact vx_isRef h rfl
  · exact vx_isRef h rfl
/-- the same frame, seen from here: as if the method were called anew in this heap -/
theorem vx_rebase {T : State} (X : Stand p l e R s m args below meth c T locs cells slots) {R' : Room} (hf : R'.frames ≤ R.frames) (hl : R'.locals ≤ R.locals) (hc : cells + R'.cells ≤ R.cells) (hs : slots + R'.slots ≤ R.slots) :
    Stand p l e R' ((T.setVm s.vm).setFrames (.invoking m args :: below)) m args below meth c T [] 0 0 := by
  have htop : (T.setVm s.vm).topJava?.isSome := X.here.top
  have hF : ((T.setVm s.vm).setFrames (.invoking m args :: below)).frames = .invoking m args :: below := State.frames_setFrames _ (State.cur_lt_of_top htop)
  obtain ⟨g₀, hg0⟩ := Option.isSome_iff_exists.mp htop
  obtain ⟨r, hr⟩ := State.topJava?_eq_some.mp hg0
  have hl9 : e.platform.stackLimits (T.setVm s.vm).me = e.platform.stackLimits s.me := X.limits
  have hb9 : (T.setVm s.vm).me.stackBytes = s.me.stackBytes := X.bytes
  refine ⟨X.admits, X.cas, X.clock, hF, ?_, X.hears, X.method, X.code, X.here, X.tail, X.warmed, ?_, ?_, ?_⟩
  · have h := X.room
    have hU : ((T.setVm s.vm).setFrames (.invoking m args :: below)).localsInUse = s.localsInUse := by
      rw [State.localsInUse_invoking hF (meth := meth) (c := c) X.method X.code, State.localsInUse_invoking X.frames X.method X.code]
    simp only [State.hasRoom, Bool.and_eq_true, decide_eq_true_eq] at h ⊢
    obtain ⟨⟨⟨⟨h1, h2, h3, h4, h5, h6⟩, h7⟩, h8⟩, h9⟩ := h
    rw [X.frames, List.length_cons] at h2 h3
    have q1 := X.heapSize
    have q2 := X.used
    simp only [hF, hU, List.length_cons, State.stackLimits_setFrames, State.stackBytes_setFrames, hl9, hb9]
    refine ⟨⟨⟨⟨by omega, by omega, by omega, by omega, by omega, h6⟩, ?_⟩, ?_⟩, X.book⟩
    · show T.heap.size + R'.cells ≤ e.platform.maxCells
      omega
    · show T.slotsUsed + R'.slots ≤ e.platform.maxSlots
      omega
  · rw [State.stackLimits_setFrames]; rfl
  · rw [State.stackBytes_setFrames]; rfl
  · refine ⟨?_, Nat.le_refl _, Nat.le_refl _, ?_, ?_, fun a c9 h9 => ⟨c9, h9, rfl, rfl, fun _ _ => rfl⟩⟩
    · obtain ⟨t, ht, -⟩ := State.frames_cons hr
      show T.setVm s.vm = { ((T.setVm s.vm).setFrames (.invoking m args :: below)).setFrames (T.setVm s.vm).frames with heap := T.heap, slotsUsed := T.slotsUsed }
      rw [State.setFrames_setFrames, State.setFrames_self ht]
      rfl
    · show T.slotsUsed = T.slotsUsed + ((T.heap.toList.drop T.heap.size).map (·.slots.size)).sum
      rw [List.drop_eq_nil_of_le (Nat.le_of_eq Array.length_toList)]
      rfl
    · show ((T.heap.toList.drop T.heap.size).map (·.slots.size)).sum ≤ 0
      rw [List.drop_eq_nil_of_le (Nat.le_of_eq Array.length_toList)]
      exact Nat.le_refl _
/-- 'throw new E()': new; dup; invokespecial; athrow -/
theorem vx_throw0 {cc : ByteArray} {pc : Nat} (hexec : p.tables.exec = Jvm.exec) (hb : c.code = cc) (hl : l.stackTraces = false) {own cls : String} {names : List String} {ik ic mc ms : Nat} {A : Nat → Prop}
    (hown : s.vm.findClass own = some m.cls) (hcls : Bundle.fit cls = true) (hnames : ∀ n ∈ names, Bundle.fit n = true)
    (hk : (Cond.classLink own ik cls).before args s = true) (hini : (Cond.initialized cls).before args s = true) (hat : ∀ w ∈ vx_at0 own ic cls names, w.before args s = true)
    (hgood : ∀ w ∈ Cond.classLink own ik cls :: Cond.initialized cls :: vx_at0 own ic cls names, vx_ot w = true)
    (hU : vx_Zq Bundle.tN "UNASSIGNED_STACK" Bundle.steD A s s.heap) (hN : vx_Zq Bundle.tN "SUPPRESSED_SENTINEL" Bundle.listD A s s.heap) (hS : va_S A s.heap H locs) (hsize : ls.size = c.maxLocals)
    (d0 : decode cc pc = .ok (.new ik, 3)) (d3 : decode cc (pc + 3) = .ok (.dup, 1)) (d4 : decode cc (pc + 4) = .ok (.invokespecial ic, 3)) (d7 : decode cc (pc + 7) = .ok (.athrow, 1))
    (hout : ∀ x ∈ c.exceptionTable.toList, covers x (pc + 7) = false)
    (hRframes : names.length + 3 < R.frames) (hRlocals : (rest.map fun v => v.category).sum + (13 * (names.length + 1) + 42) ≤ R.locals) (hRcells : cells + 1 ≤ R.cells) (hRslots : slots + 6 ≤ R.slots) (hlocks : meth.locks = false)
    (hx : ∀ t : State, s.vm.Alike t.vm → H.size ≤ t.heap.size → (∀ q : Nat, q < H.size → t.heap[q]? = H[q]?) → XC cls s t)
    (hf : ∀ z ∈ locs, free z.base) (hc : cells + 1 ≤ mc) (hs : slots + 6 ≤ ms) :
    W p l e R s m args below meth c H locs cells slots (vx_MQ below Qc XC args s mc ms free) (F0 m pc ls rest) := by
  intro T hT X
  have htr : e.platform.stackTraces = false := (show e.platform.stackTraces = l.stackTraces by rw [X.admits.platform]).trans hl
  have Y := vx_rebase X (R' := { frames := R.frames, locals := R.locals, cells := 1, slots := 6 }) (Nat.le_refl _) (Nat.le_refl _) hRcells hRslots
  obtain ⟨s', hA⟩ : ∃ z, z = (T.setVm s.vm).setFrames (.invoking m args :: below) := ⟨_, rfl⟩
  rw [← hA] at Y
  have hvm : s'.vm = s.vm := by rw [hA]; rfl
  have hhp : s'.heap = H := by rw [hA]; exact hT
  have hW0 : s.WarmedH s'.vm := by rw [hvm]; exact State.WarmedH.refl s
  have hat' : ∀ w ∈ vx_at0 own ic cls names, w.before args s' = true := fun w hw => vx_ot_at hW0 hvm.symm (hgood w (List.mem_cons_of_mem _ (List.mem_cons_of_mem _ hw))) (hat w hw)
  have hk' : (Cond.classLink own ik cls).before args s' = true := vx_ot_at hW0 hvm.symm (hgood _ List.mem_cons_self) hk
  have hini' : (Cond.initialized cls).before args s' = true := vx_ot_at hW0 hvm.symm (hgood _ (List.mem_cons_of_mem _ List.mem_cons_self)) hini
  have hU' : vx_Zq Bundle.tN "UNASSIGNED_STACK" Bundle.steD A s' s'.heap := by rw [hhp]; exact vx_Zq.moved hW0.alike (hU.kept hS.2.1)
  have hN' : vx_Zq Bundle.tN "SUPPRESSED_SENTINEL" Bundle.listD A s' s'.heap := by rw [hhp]; exact vx_Zq.moved hW0.alike (hN.kept hS.2.1)
  have h : ∀ w ∈ Bundle.ownAtoms0 own ic cls names, w.before args s' = true := vx_own hat' (vx_isRefq hU'.1) (vx_isRefq hN'.1) hU'.2.word hN'.2.word
  have hown' : s'.vm.findClass own = some m.cls := by rw [hvm]; exact hown
  have hins : (Cond.instantiable cls 6).before args s' = true := h _ (by simp [Bundle.ownAtoms0])
  obtain ⟨vm₁, cX, kX, hfX, hkX, -, -, X₁, st1⟩ := Y.newCold hexec (own := own) (C := cls) (index := ik) (n := 6) hown' hk' hins hini'
    (g := F0 m pc ls rest) rfl (by rw [hb]; exact d0) (Nat.le_refl _) (Nat.le_refl _)
  generalize hT1 : (T.setVm vm₁).pushCell { cls := cX, slots := kX.instanceTypes.map defaultValue, vm := .none } = T1 at X₁ st1
  have hcat : (Value.ref T.heap.size).category = 1 := rfl
  have hcellA : T1.heap[T.heap.size]? = some (freshCell cX kX) := by rw [← hT1]; exact State.heap_pushCell_size _ _
  have d3' : decode c.code (pc + 3) = .ok (.dup, 1) := by rw [hb]; exact d3
  obtain ⟨U, hsteps, hrun, hend, hW, hsame, ce, hce, hO⟩ := X₁.ctorThrow0 hexec htr (own := own) (cls := cls) (names := names) (ic := ic) hown' hcls hnames h (fun x hx => nomatch hx) hfX hkX hcellA (by rw [hhp, hT]; exact Nat.le_refl _)
    (g := { method := m, pc := pc + 4, locals := ls, stack := .ref T.heap.size :: .ref T.heap.size :: rest, locked := none }) rfl hsize rfl rfl (rest := rest) rfl
    (by rw [hb]; exact d4) (by rw [hb]; exact d7) hout hRframes (by simp only [List.map_cons, List.sum_cons, hcat]; omega) hlocks
  obtain ⟨f1, f2⟩ := vx_frame hsame
  rw [hhp] at f1 f2
  have hWs : s.WarmedH U.vm := State.WarmedH.trans hW0 hW
  have hcl : s.vm.findClass cls = some ce.cls := by
    have h9 := hO.cls
    rw [hvm] at h9
    exact h9
  have hall : s.sameButNew ({ U with vm := s.vm } : State) locs mc ms := by
    subst hA
    obtain ⟨e1, e2⟩ := hsame
    rw [State.setFrames_setFrames] at e1
    have h2 : (T.setVm s.vm).sameButNew ({ U with vm := s.vm } : State) [] (0 + 1) (0 + 6) := ⟨e1, e2⟩
    have h3 := X.same.trans h2
    rw [List.append_nil] at h3
    exact h3.mono hc hs
  refine ⟨U, ?_, .threw T.heap.size, hrun, hend, Or.inr ⟨T.heap.size, rfl, cls, ce, locs, hx U hWs.alike f1 (fun q hq => f2 q hq (fun z hz => nomatch hz)), hce, hO.vm, hcl, hWs, hall, hf⟩⟩
  refine st1 _ ?_
  show Steps p.tables e below (T1.setTop { method := m, pc := pc + 3, locals := ls, stack := .ref T.heap.size :: rest, locked := none }) _
  jvm_step X₁.here [X₁.here.top, hexec, d3', Value.category]
  exact hsteps
/-- 'throw new E("text")': new; dup; ldc; invokespecial; athrow -/
theorem vx_throwS {cc : ByteArray} {pc : Nat} (hexec : p.tables.exec = Jvm.exec) (hb : c.code = cc) (hl : l.stackTraces = false) {own cls text : String} {names : List String} {ik is ic mc ms sa : Nat} {A : Nat → Prop}
    (hown : s.vm.findClass own = some m.cls) (hcls : Bundle.fit cls = true) (hnames : ∀ n ∈ names, Bundle.fit n = true)
    (hk : (Cond.classLink own ik cls).before args s = true) (hini : (Cond.initialized cls).before args s = true) (hstr : vk_R own is text sa s) (hat : ∀ w ∈ vx_atS own ic cls names, w.before args s = true)
    (hgood : ∀ w ∈ Cond.classLink own ik cls :: Cond.initialized cls :: vx_atS own ic cls names, vx_ot w = true)
    (hU : vx_Zq Bundle.tN "UNASSIGNED_STACK" Bundle.steD A s s.heap) (hN : vx_Zq Bundle.tN "SUPPRESSED_SENTINEL" Bundle.listD A s s.heap) (hS : va_S A s.heap H locs) (hsize : ls.size = c.maxLocals)
    (d0 : decode cc pc = .ok (.new ik, 3)) (d3 : decode cc (pc + 3) = .ok (.dup, 1)) (d4 : decode cc (pc + 4) = .ok (.ldc is, 2)) (d6 : decode cc (pc + 6) = .ok (.invokespecial ic, 3)) (d9 : decode cc (pc + 9) = .ok (.athrow, 1))
    (hout : ∀ x ∈ c.exceptionTable.toList, covers x (pc + 9) = false)
    (hRframes : names.length + 3 < R.frames) (hRlocals : (rest.map fun v => v.category).sum + (13 * (names.length + 1) + 43) ≤ R.locals) (hRcells : cells + 1 ≤ R.cells) (hRslots : slots + 6 ≤ R.slots) (hlocks : meth.locks = false)
    (hx : ∀ t : State, s.vm.Alike t.vm → H.size ≤ t.heap.size → (∀ q : Nat, q < H.size → t.heap[q]? = H[q]?) → XC cls s t)
    (hf : ∀ z ∈ locs, free z.base) (hc : cells + 1 ≤ mc) (hs : slots + 6 ≤ ms) :
    W p l e R s m args below meth c H locs cells slots (vx_MQ below Qc XC args s mc ms free) (F0 m pc ls rest) := by
  intro T hT X
  have htr : e.platform.stackTraces = false := (show e.platform.stackTraces = l.stackTraces by rw [X.admits.platform]).trans hl
  have Y := vx_rebase X (R' := { frames := R.frames, locals := R.locals, cells := 1, slots := 6 }) (Nat.le_refl _) (Nat.le_refl _) hRcells hRslots
  obtain ⟨s', hA⟩ : ∃ z, z = (T.setVm s.vm).setFrames (.invoking m args :: below) := ⟨_, rfl⟩
  rw [← hA] at Y
  have hvm : s'.vm = s.vm := by rw [hA]; rfl
  have hhp : s'.heap = H := by rw [hA]; exact hT
  have hW0 : s.WarmedH s'.vm := by rw [hvm]; exact State.WarmedH.refl s
  have hat' : ∀ w ∈ vx_atS own ic cls names, w.before args s' = true := fun w hw => vx_ot_at hW0 hvm.symm (hgood w (List.mem_cons_of_mem _ (List.mem_cons_of_mem _ hw))) (hat w hw)
  have hk' : (Cond.classLink own ik cls).before args s' = true := vx_ot_at hW0 hvm.symm (hgood _ List.mem_cons_self) hk
  have hini' : (Cond.initialized cls).before args s' = true := vx_ot_at hW0 hvm.symm (hgood _ (List.mem_cons_of_mem _ List.mem_cons_self)) hini
  have hU' : vx_Zq Bundle.tN "UNASSIGNED_STACK" Bundle.steD A s' s'.heap := by rw [hhp]; exact vx_Zq.moved hW0.alike (hU.kept hS.2.1)
  have hN' : vx_Zq Bundle.tN "SUPPRESSED_SENTINEL" Bundle.listD A s' s'.heap := by rw [hhp]; exact vx_Zq.moved hW0.alike (hN.kept hS.2.1)
  have h : ∀ w ∈ Bundle.ownAtoms own ic cls names, w.before args s' = true := vx_own hat' (vx_isRefq hU'.1) (vx_isRefq hN'.1) hU'.2.word hN'.2.word
  have hown' : s'.vm.findClass own = some m.cls := by rw [hvm]; exact hown
  have hins : (Cond.instantiable cls 6).before args s' = true := h _ (by simp [Bundle.ownAtoms])
  obtain ⟨vm₁, cX, kX, hfX, hkX, -, -, X₁, st1⟩ := Y.newCold hexec (own := own) (C := cls) (index := ik) (n := 6) hown' hk' hins hini'
    (g := F0 m pc ls rest) rfl (by rw [hb]; exact d0) (Nat.le_refl _) (Nat.le_refl _)
  generalize hT1 : (T.setVm vm₁).pushCell { cls := cX, slots := kX.instanceTypes.map defaultValue, vm := .none } = T1 at X₁ st1
  have hcat : (Value.ref T.heap.size).category = 1 := rfl
  have hcellA : T1.heap[T.heap.size]? = some (freshCell cX kX) := by rw [← hT1]; exact State.heap_pushCell_size _ _
  have d3' : decode c.code (pc + 3) = .ok (.dup, 1) := by rw [hb]; exact d3
  have d4' : decode c.code (pc + 4) = .ok (.ldc is, 2) := by rw [hb]; exact d4
  have hstr' : vk_R own is text sa s' := vk_R.warm hW0 hstr
  obtain ⟨U, hsteps, hrun, hend, hW, hsame, ce, hce, hO⟩ := X₁.ctorThrowS hexec htr (own := own) (cls := cls) (names := names) (ic := ic) hown' hcls hnames h (fun x hx => nomatch hx) hfX hkX hcellA (by rw [hhp, hT]; exact Nat.le_refl _) (msg := .ref sa) rfl
    (g := { method := m, pc := pc + 6, locals := ls, stack := .ref sa :: .ref T.heap.size :: .ref T.heap.size :: rest, locked := none }) rfl hsize rfl rfl (rest := rest) rfl
    (by rw [hb]; exact d6) (by rw [hb]; exact d9) hout hRframes (by simp only [List.map_cons, List.sum_cons, hcat]; omega) hlocks
  obtain ⟨f1, f2⟩ := vx_frame hsame
  rw [hhp] at f1 f2
  have hWs : s.WarmedH U.vm := State.WarmedH.trans hW0 hW
  have hcl : s.vm.findClass cls = some ce.cls := by
    have h9 := hO.cls
    rw [hvm] at h9
    exact h9
  have hall : s.sameButNew ({ U with vm := s.vm } : State) locs mc ms := by
    subst hA
    obtain ⟨e1, e2⟩ := hsame
    rw [State.setFrames_setFrames] at e1
    have h2 : (T.setVm s.vm).sameButNew ({ U with vm := s.vm } : State) [] (0 + 1) (0 + 6) := ⟨e1, e2⟩
    have h3 := X.same.trans h2
    rw [List.append_nil] at h3
    exact h3.mono hc hs
  refine ⟨U, ?_, .threw T.heap.size, hrun, hend, Or.inr ⟨T.heap.size, rfl, cls, ce, locs, hx U hWs.alike f1 (fun q hq => f2 q hq (fun z hz => nomatch hz)), hce, hO.vm, hcl, hWs, hall, hf⟩⟩
  refine st1 _ ?_
  show Steps p.tables e below (T1.setTop { method := m, pc := pc + 3, locals := ls, stack := .ref T.heap.size :: rest, locked := none }) _
  jvm_step X₁.here [X₁.here.top, hexec, d3', Value.category]
  exact X₁.ldcString hexec (own := own) (text := text) (index := is) (a := sa) hown' hstr'.1 hstr'.2
    (g := { method := m, pc := pc + 4, locals := ls, stack := .ref T.heap.size :: .ref T.heap.size :: rest, locked := none }) rfl d4' _ hsteps
/-- 'throw new E("text")', the text by a wide index -/
theorem vx_throwSW {cc : ByteArray} {pc : Nat} (hexec : p.tables.exec = Jvm.exec) (hb : c.code = cc) (hl : l.stackTraces = false) {own cls text : String} {names : List String} {ik is ic mc ms sa : Nat} {A : Nat → Prop}
    (hown : s.vm.findClass own = some m.cls) (hcls : Bundle.fit cls = true) (hnames : ∀ n ∈ names, Bundle.fit n = true)
    (hk : (Cond.classLink own ik cls).before args s = true) (hini : (Cond.initialized cls).before args s = true) (hstr : vk_R own is text sa s) (hat : ∀ w ∈ vx_atS own ic cls names, w.before args s = true)
    (hgood : ∀ w ∈ Cond.classLink own ik cls :: Cond.initialized cls :: vx_atS own ic cls names, vx_ot w = true)
    (hU : vx_Zq Bundle.tN "UNASSIGNED_STACK" Bundle.steD A s s.heap) (hN : vx_Zq Bundle.tN "SUPPRESSED_SENTINEL" Bundle.listD A s s.heap) (hS : va_S A s.heap H locs) (hsize : ls.size = c.maxLocals)
    (d0 : decode cc pc = .ok (.new ik, 3)) (d3 : decode cc (pc + 3) = .ok (.dup, 1)) (d4 : decode cc (pc + 4) = .ok (.ldc_w is, 3)) (d7 : decode cc (pc + 7) = .ok (.invokespecial ic, 3)) (d10 : decode cc (pc + 10) = .ok (.athrow, 1))
    (hout : ∀ x ∈ c.exceptionTable.toList, covers x (pc + 10) = false)
    (hRframes : names.length + 3 < R.frames) (hRlocals : (rest.map fun v => v.category).sum + (13 * (names.length + 1) + 43) ≤ R.locals) (hRcells : cells + 1 ≤ R.cells) (hRslots : slots + 6 ≤ R.slots) (hlocks : meth.locks = false)
    (hx : ∀ t : State, s.vm.Alike t.vm → H.size ≤ t.heap.size → (∀ q : Nat, q < H.size → t.heap[q]? = H[q]?) → XC cls s t)
    (hf : ∀ z ∈ locs, free z.base) (hc : cells + 1 ≤ mc) (hs : slots + 6 ≤ ms) :
    W p l e R s m args below meth c H locs cells slots (vx_MQ below Qc XC args s mc ms free) (F0 m pc ls rest) := by
  intro T hT X
  have htr : e.platform.stackTraces = false := (show e.platform.stackTraces = l.stackTraces by rw [X.admits.platform]).trans hl
  have Y := vx_rebase X (R' := { frames := R.frames, locals := R.locals, cells := 1, slots := 6 }) (Nat.le_refl _) (Nat.le_refl _) hRcells hRslots
  obtain ⟨s', hA⟩ : ∃ z, z = (T.setVm s.vm).setFrames (.invoking m args :: below) := ⟨_, rfl⟩
  rw [← hA] at Y
  have hvm : s'.vm = s.vm := by rw [hA]; rfl
  have hhp : s'.heap = H := by rw [hA]; exact hT
  have hW0 : s.WarmedH s'.vm := by rw [hvm]; exact State.WarmedH.refl s
  have hat' : ∀ w ∈ vx_atS own ic cls names, w.before args s' = true := fun w hw => vx_ot_at hW0 hvm.symm (hgood w (List.mem_cons_of_mem _ (List.mem_cons_of_mem _ hw))) (hat w hw)
  have hk' : (Cond.classLink own ik cls).before args s' = true := vx_ot_at hW0 hvm.symm (hgood _ List.mem_cons_self) hk
  have hini' : (Cond.initialized cls).before args s' = true := vx_ot_at hW0 hvm.symm (hgood _ (List.mem_cons_of_mem _ List.mem_cons_self)) hini
  have hU' : vx_Zq Bundle.tN "UNASSIGNED_STACK" Bundle.steD A s' s'.heap := by rw [hhp]; exact vx_Zq.moved hW0.alike (hU.kept hS.2.1)
  have hN' : vx_Zq Bundle.tN "SUPPRESSED_SENTINEL" Bundle.listD A s' s'.heap := by rw [hhp]; exact vx_Zq.moved hW0.alike (hN.kept hS.2.1)
  have h : ∀ w ∈ Bundle.ownAtoms own ic cls names, w.before args s' = true := vx_own hat' (vx_isRefq hU'.1) (vx_isRefq hN'.1) hU'.2.word hN'.2.word
  have hown' : s'.vm.findClass own = some m.cls := by rw [hvm]; exact hown
  have hins : (Cond.instantiable cls 6).before args s' = true := h _ (by simp [Bundle.ownAtoms])
  obtain ⟨vm₁, cX, kX, hfX, hkX, -, -, X₁, st1⟩ := Y.newCold hexec (own := own) (C := cls) (index := ik) (n := 6) hown' hk' hins hini'
    (g := F0 m pc ls rest) rfl (by rw [hb]; exact d0) (Nat.le_refl _) (Nat.le_refl _)
  generalize hT1 : (T.setVm vm₁).pushCell { cls := cX, slots := kX.instanceTypes.map defaultValue, vm := .none } = T1 at X₁ st1
  have hcat : (Value.ref T.heap.size).category = 1 := rfl
  have hcellA : T1.heap[T.heap.size]? = some (freshCell cX kX) := by rw [← hT1]; exact State.heap_pushCell_size _ _
  have d3' : decode c.code (pc + 3) = .ok (.dup, 1) := by rw [hb]; exact d3
  have d4' : decode c.code (pc + 4) = .ok (.ldc_w is, 3) := by rw [hb]; exact d4
  have hstr' : vk_R own is text sa s' := vk_R.warm hW0 hstr
  obtain ⟨U, hsteps, hrun, hend, hW, hsame, ce, hce, hO⟩ := X₁.ctorThrowS hexec htr (own := own) (cls := cls) (names := names) (ic := ic) hown' hcls hnames h (fun x hx => nomatch hx) hfX hkX hcellA (by rw [hhp, hT]; exact Nat.le_refl _) (msg := .ref sa) rfl
    (g := { method := m, pc := pc + 7, locals := ls, stack := .ref sa :: .ref T.heap.size :: .ref T.heap.size :: rest, locked := none }) rfl hsize rfl rfl (rest := rest) rfl
    (by rw [hb]; exact d7) (by rw [hb]; exact d10) hout hRframes (by simp only [List.map_cons, List.sum_cons, hcat]; omega) hlocks
  obtain ⟨f1, f2⟩ := vx_frame hsame
  rw [hhp] at f1 f2
  have hWs : s.WarmedH U.vm := State.WarmedH.trans hW0 hW
  have hcl : s.vm.findClass cls = some ce.cls := by
    have h9 := hO.cls
    rw [hvm] at h9
    exact h9
  have hall : s.sameButNew ({ U with vm := s.vm } : State) locs mc ms := by
    subst hA
    obtain ⟨e1, e2⟩ := hsame
    rw [State.setFrames_setFrames] at e1
    have h2 : (T.setVm s.vm).sameButNew ({ U with vm := s.vm } : State) [] (0 + 1) (0 + 6) := ⟨e1, e2⟩
    have h3 := X.same.trans h2
    rw [List.append_nil] at h3
    exact h3.mono hc hs
  refine ⟨U, ?_, .threw T.heap.size, hrun, hend, Or.inr ⟨T.heap.size, rfl, cls, ce, locs, hx U hWs.alike f1 (fun q hq => f2 q hq (fun z hz => nomatch hz)), hce, hO.vm, hcl, hWs, hall, hf⟩⟩
  refine st1 _ ?_
  show Steps p.tables e below (T1.setTop { method := m, pc := pc + 3, locals := ls, stack := .ref T.heap.size :: rest, locked := none }) _
  jvm_step X₁.here [X₁.here.top, hexec, d3', Value.category]
  exact X₁.ldcStringW hexec (own := own) (text := text) (index := is) (a := sa) hown' hstr'.1 hstr'.2
    (g := { method := m, pc := pc + 4, locals := ls, stack := .ref T.heap.size :: .ref T.heap.size :: rest, locked := none }) rfl d4' _ hsteps
end Ends
section Bodies
variable {l : Launch}
theorem vx_ofW {y : MethodName} {ws ws' : List Cond} {rm : Room} {Pc : Array Value → State → Prop} {Qc : Array Value → State → Outcome → State → Prop} {XC : String → State → State → Prop} {mc ms : Nat} {free : Addr → Prop} {cc : ByteArray} {maxL : Nat} {ret : Option FieldType}
    (hy : plainName y.cls = true) (hw : ws = Cond.code y cc maxL ret :: ws')
    (body : ∀ p e s m args below meth c s₁, BodyLoose p l y (headSpec ws rm) cc maxL ret e s m args below meth c s₁ → c.maxLocals = maxL → (∀ x ∈ c.exceptionTable.toList, False) → Pc args s →
      W p l e (headSpec ws rm).room s m args below meth c s.heap [] 0 0 (vx_MQ below Qc XC args s mc ms free) (entryFrame m args maxL)) : vx_Met l y ws rm Pc Qc XC mc ms free := by
  refine MetFree.of_bodyS (code := cc) (maxLocals := maxL) (ret := ret) hy ?_ ?_
  · intro args s m h hn
    obtain ⟨meth, c, h1, h2, h3, h4, h5, h6, -, -⟩ := Cond.code_spec hn (atoms_spec (ws := ws) h _ (by rw [hw]; exact List.mem_cons_self))
    exact ⟨meth, c, h1, h2, h3, h4, h5, h6⟩
  · intro p e s m args below meth c s₁ B hml hP _
    have hh0 : s₁.heap = s.heap := by rw [B.state]; rfl
    have ht : ∀ x ∈ c.exceptionTable.toList, False := by
      obtain ⟨meth9, c9, h1, h2, -, -, -, -, h7, -⟩ := Cond.code_spec B.named (atoms_spec (ws := ws) B.pre _ (by rw [hw]; exact List.mem_cons_self))
      cases Option.some.inj (h1.symm.trans B.method)
      cases Option.some.inj (h2.symm.trans (Stand.of_body B).code)
      intro x hx
      rw [Array.isEmpty_iff.mp h7] at hx
      cases hx
    obtain ⟨t, a1, o, b1, b2, b3⟩ := body p e s m args below meth c s₁ B hml ht hP s₁ hh0 (Stand.of_body B)
    exact ⟨t, o, a1, b1, b2, b3⟩
/-- the table of a body with handlers -/
theorem vx_table {p : Program} {x y : MethodName} {S : Spec} {cc bytes : ByteArray} {maxL maxL' : Nat} {ret ret' : Option FieldType} {e : Env} {s s₁ : State} {m : MethodId} {args : Array Value} {below : List Frame} {meth : Method} {c : Code} {hh : List (Nat × Nat × Nat × Nat)}
    (B : BodyLoose p l y S cc maxL ret e s m args below meth c s₁) (h : (Cond.codeWith y bytes maxL' ret' hh).before args s = true) : c.exceptionTable.toList = tableOf hh := by
  obtain ⟨m9, meth9, c9, hn9, h1, h2, -, -, h6, -⟩ := Cond.codeWith_spec h
  cases Option.some.inj (hn9.symm.trans B.named)
  cases Option.some.inj (h1.symm.trans B.method)
  cases Option.some.inj (h2.symm.trans (Stand.of_body B).code)
  rw [← h6, table_eq]
end Bodies
end VXA
/-! ===== END ===== -/
/-! ===== BEGIN a static call of a method with an exception table ===== -/
section VXS
variable {p : Program} {l : Launch} {e : Env} {R : Room} {s : State} {m : MethodId} {args : Array Value} {below : List Frame} {meth : Method} {c : Code} {T : State} {H : Heap} {locs : List Loc} {cells slots : Nat}
abbrev vx_CSW (R : Room) (s : State) (args : Array Value) (own : String) (index : Nat) (y : MethodName) (bytes : ByteArray) (maxL : Nat) (ret : Option FieldType) (hh : List (Nat × Nat × Nat × Nat)) (ws : List Cond) (rm : Room) (mc ms n : Nat) : Prop :=
  (rm.cells = mc ∧ rm.slots = ms ∧ rm.frames + 1 ≤ R.frames ∧ 8 + (maxL + 11) + rm.locals ≤ R.locals ∧ (∀ w ∈ ws, ∀ (a' : Array Value) (U : State), s.WarmedH U.vm → w.before a' U = true) ∧ Cond.codeWith y bytes maxL ret hh ∈ ws) ∧
  (Cond.codeWith y bytes maxL ret hh).before args s = true ∧ (Cond.initialized y.cls).before args s = true ∧ (y.cls ≠ "java/lang/invoke/MethodHandle" ∧ y.cls ≠ "java/lang/invoke/VarHandle") ∧
  (∀ sig, parseMethodDescriptor y.desc = some sig → n = sig.parameters.length) ∧ (Cond.methodLink own index y).before args s = true ∧ (Cond.static y).before args s = true
theorem vx_cwSW {own : String} {index maxL mc ms : Nat} {y : MethodName} {bytes : ByteArray} {ret : Option FieldType} {hh : List (Nat × Nat × Nat × Nat)} {Ts ws ws' : List Cond} {rm : Room} (n : Nat) (ht : ∀ w ∈ Ts, w.before args s = true) (hT : GoodIn Ts (va_wsS own index y ws)) (hw : ws = Cond.codeWith y bytes maxL ret hh :: ws') (hrc : rm.cells = mc) (hrs : rm.slots = ms)
    (hd : y.cls ≠ "java/lang/invoke/MethodHandle" ∧ y.cls ≠ "java/lang/invoke/VarHandle" ∧ (parseMethodDescriptor y.desc).map (fun d => d.parameters.length) = some n) (hR : rm.frames + 1 ≤ R.frames ∧ 8 + (maxL + 11) + rm.locals ≤ R.locals) :
    vx_CSW R s args own index y bytes maxL ret hh ws rm mc ms n := by
  have ok : ∀ w ∈ va_wsS own index y ws, w.before args s = true := fun w h => ht w (hT w h).1
  have hG : GoodIn Ts ws := fun w h => hT w (by unfold va_wsS; exact List.mem_append_right _ h)
  have hc : Cond.codeWith y bytes maxL ret hh ∈ ws := by rw [hw]; exact List.mem_cons_self
  refine ⟨⟨hrc, hrs, hR.1, hR.2, pay_in ht hG, hc⟩, ht _ (hG _ hc).1, ok _ (by simp [va_wsS]), ⟨hd.1, hd.2.1⟩, fun sig h => ?_, ok _ (by simp [va_wsS]), ok _ (by simp [va_wsS])⟩
  have h2 := hd.2.2
  rw [h] at h2
  exact (Option.some.inj h2).symm
theorem vx_callSW (X : Stand p l e R s m args below meth c T locs cells slots) (hexec : p.tables.exec = Jvm.exec) {own : String} {index : Nat} {y : MethodName} {bytes : ByteArray} {maxL : Nat} {ret : Option FieldType} {hh : List (Nat × Nat × Nat × Nat)}
    (hown : s.vm.findClass own = some m.cls) (hlink : (Cond.methodLink own index y).before args s = true) (hstat : (Cond.static y).before args s = true) (hinit : (Cond.initialized y.cls).before args s = true)
    (hcode : (Cond.codeWith y bytes maxL ret hh).before args s = true) (hy : y.cls ≠ "java/lang/invoke/MethodHandle" ∧ y.cls ≠ "java/lang/invoke/VarHandle")
    {W9 : Nat} {Pre : Pt → Array Value → Prop} {Post : Pt → Array Value → Option Value → Pt → Prop} (hK : Back l R p e below s args y 3 W9 Pre Post)
    {g : JFrame} (hg : g.method = m) (hsize : g.locals.size = c.maxLocals) {argsL rest : List Value} (hlen : ∀ sig, parseMethodDescriptor y.desc = some sig → argsL.length = sig.parameters.length)
    (hstack : g.stack = argsL.reverse ++ rest) (hW : 2 * g.monitorRoom + (rest.map fun v => v.category).sum ≤ W9) (hdg : decode c.code g.pc = .ok (.invokestatic index, 3))
    (hpre : ∀ vm₁, s.WarmedH vm₁ → Pre ⟨T.setVm vm₁, locs, cells, slots⟩ argsL.toArray) :
    ∃ (v : Option Value) (vm₁ : Vm) (B : Pt), s.WarmedH vm₁ ∧ Stand p l e R s m args below meth c B.U B.locs B.cells B.slots ∧ Post ⟨T.setVm vm₁, locs, cells, slots⟩ argsL.toArray v B ∧
      ∀ target, Steps p.tables e below (B.U.setTop { g with pc := g.pc + 3, stack := v.toList ++ rest }) target → Steps p.tables e below (T.setTop g) target := by
  obtain ⟨mk, methM, cM, hnamed, hmethM, -, -, -, -, -, -, hsigM⟩ := Cond.codeWith_spec hcode
  have hstatic : methM.isStatic = true := Cond.static_spec hnamed hmethM hstat
  obtain ⟨kP, hkP, -⟩ := className_of_methodNamed hnamed
  have hinitP : kP.init = .initialized := Cond.initialized_spec (findClass_of_methodNamed hnamed) hkP hinit
  obtain ⟨vm₁, X₁, hstep₁⟩ := X.invokestatic hexec hown hlink hnamed hmethM hstatic hkP hinitP hy (g := g) hg (argsL := argsL) (rest := rest) (hlen _ hsigM) hstack hdg
  obtain ⟨v, B, X', hpost, hsteps⟩ := hK m meth c ⟨T.setVm vm₁, locs, cells, slots⟩ { g with stack := rest } (.invokestatic index) mk argsL.toArray X₁ hg hsize hdg hW (X₁.named hnamed) (hpre vm₁ X₁.warmed)
  exact ⟨v, vm₁, B, X₁.warmed, X', hpost, fun target h => hstep₁ _ fun acts => by rw [doInvoke_state]; exact hsteps.trans h⟩
theorem vx_runSW {y : MethodName} {bytes cc : ByteArray} {maxL nL mc ms n index : Nat} {ret : Option FieldType} {hh : List (Nat × Nat × Nat × Nat)} {ws : List Cond} {rm : Room} {Pc : Array Value → State → Prop} {Qc : Array Value → State → Outcome → State → Prop} {free : Addr → Prop} {Ts : List Cond} {own : String} {As rest : List Value} {g : JFrame}
    (S : CallFix p m c cc nL s args Ts own) (hM : Met l y ws rm Pc Qc mc ms free) (cw : vx_CSW R s args own index y bytes maxL ret hh ws rm mc ms n) (hp : PreS s H Pc As)
    (hg : g.method = m) (hn : As.length = n) (hsize : g.locals.size = nL) (hstack : g.stack = As.reverse ++ rest) (hW : 2 * g.monitorRoom + (rest.map fun v => v.category).sum ≤ 8) (hdg : decode cc g.pc = .ok (.invokestatic index, 3)) (hf : cells + mc ≤ R.cells ∧ slots + ms ≤ R.slots) :
    va_Run p l e R s m args below meth c H locs cells slots mc ms g rest (Qc As.toArray) (free) := by
  obtain ⟨⟨hrc, hrs, hfr, hlo, hws, hcw⟩, hcode, hini, hy, hlen, hl, hstt⟩ := cw
  have hK : Back l R p e below s args y 3 8 (PreOf R mc ms Pc) (PostOf Qc mc ms free) := va_backW (hh := hh) (bytes := bytes) (maxL := maxL) (ret := ret) hM hp.1 hrc hrs hfr hlo hws hcw (fun a' U hW => word_at hW (Or.inl (by first | rfl | simp [Cond.onTables, Cond.keeps, Cond.steady])) hini)
  obtain ⟨hx, hb, hml, ho, -⟩ := S
  intro T hT X
  obtain ⟨v, vm₁, ⟨U', l2, c2, s2⟩, hW₁, X', ⟨g', mk, t, L, e1, e2, hq, h1, hL, h2, h3⟩, st⟩ := vx_callSW X hx (hh := hh) (bytes := bytes) (maxL := maxL) (ret := ret) ho hl hstt hini hcode hy hK hg (hsize.trans hml.symm) (argsL := As) (rest := rest) (fun sig h => hn.trans (hlen sig h)) hstack hW (by rw [hb]; exact hdg)
    (fun vm₁ hW₁ => ⟨hf.1, hf.2, hp.2 (T.setVm vm₁) hT hW₁⟩)
  dsimp only [Pt.U, Pt.locs, Pt.cells, Pt.slots] at X' e1 e2 h1 h2 h3 st
  subst h1; subst h2; subst h3
  exact ⟨v, (T.setVm vm₁).calling g' mk As.toArray, t, U', L, hT, X', hL, e1, e2, hq, st⟩
/-- not caught here, past rows that name other classes: it goes on to the caller -/
theorem vx_outP {p : Program} {l : Launch} {e : Env} {R : Room} {s : State} {m : MethodId} {args : Array Value} {below : List Frame} {meth : Method} {c : Code} {H : Heap} {locs : List Loc} {cells slots : Nat} {free : Addr → Prop} {ls : Array Slot} {rest : List Value} {Qc : Array Value → State → Outcome → State → Prop} {XC : String → State → State → Prop}
    {pc : Nat} {own E : String} {ce : Cell} {q : Addr} {mc ms : Nat} (hown : s.vm.findClass own = some m.cls) (hlocks : meth.locks = false)
    (hpass : ∀ z ∈ c.exceptionTable.toList, covers z pc = false ∨ (z.catchType ≠ 0 ∧ ∃ nm : String, (Cond.classLink own z.catchType nm).before args s = true ∧ va_Nc E nm s)) (hcell : H[q]? = some ce) (hv : ce.vm = .none) (hcl : s.vm.findClass E = some ce.cls)
    (hx : ∀ t : State, t.heap = H → s.vm.Alike t.vm → XC E s t) (hf : ∀ z ∈ locs, free z.base) (hc : cells ≤ mc) (hs : slots ≤ ms) :
    vx_W p l e R s m args below meth c H locs cells slots (vx_MQ below Qc XC args s mc ms free) (F0 m pc ls rest) q := by
  intro T hT X
  have hpl : e.platform.magicAccessors = ({} : Platform).magicAccessors := by rw [X.admits.platform]
  obtain ⟨vm', hW', X', st⟩ := X.outThrough hlocks q (g := F0 m pc ls rest) rfl rfl rfl (cell := ce) (by rw [hT]; exact hcell) (by rw [hv]; rfl)
    (by obtain ⟨k9, h9, -⟩ := Vm.findClass_spec hcl; exact ⟨k9, h9⟩) (fun z hz => by
      rcases hpass z hz with h | ⟨hz0, nm, hl1, hn1⟩
      · exact Or.inl h
      · obtain ⟨c6, hc6, hcl6⟩ := Cond.classLink_spec hown hl1 e.platform hpl
        obtain ⟨a8, b8, h1, h2, h3⟩ := hn1
        cases Option.some.inj (h1.symm.trans hcl)
        cases Option.some.inj (h2.symm.trans hc6)
        exact Or.inr ⟨hz0, _, hcl6, h3⟩)
  obtain ⟨g₀, hfr⟩ := X'.frames_eq
  have hcell9 : ((T.setVm vm').setFrames (.throwing q :: below)).heap[q]? = some ce := by
    show T.heap[q]? = some ce
    rw [hT]; exact hcell
  have hend : Ended ((T.setVm vm').setFrames (.throwing q :: below)) below (.threw q) := State.frames_setFrames _ (State.cur_lt_of_frames hfr)
  refine ⟨(T.setVm vm').setFrames (.throwing q :: below), ?_, .threw q, X'.here.running, hend, Or.inr ⟨q, rfl, E, ce, locs, hx _ hT (X'.ends _).1.alike, hcell9, hv, hcl, (X'.ends _).1, (X'.ends _).2.mono hc hs, hf⟩⟩
  rw [X.pushThrowing_eq]
  exact st
/-- a thing of a world lies in the heap -/
theorem vx_lt {D : va_G} {cl : List vw_C} {ws : va_W} {H1 : Heap} (h : va_P D cl ws H1) {k : Nat} {q : Nat × va_E} (hk : ws[k]? = some q) : q.1 < H1.size := (h k q hk).lt
end VXS
/-! ===== END ===== -/
end
section
def z_str : List (Nat × String) := [(182, "no such sample"), (76, "a rectangle is at least 1 wide and 1 high"), (87, "noise is 0 .. 100"), (89, "a gap is 0 .. 24"), (177, "the page was not parted, or changed since"), (185, "there is none of this number"), (187, "nothing is told by this number")]
/-! THROWS: a method that may throw has two contracts: it returns (as any other), or it throws (z_ctX: one cell of six slots is new). -/
section ZT
abbrev z_nm : List String := ["java/lang/RuntimeException", "java/lang/Exception"]
def z_ex : Nat → String
  | 0 => "java/lang/IllegalStateException"
  | 1 => "java/lang/IndexOutOfBoundsException"
  | _ => "java/lang/IllegalArgumentException"
def z_cd (w : Cond) : Bool := match w with
  | .castable .. => true
  | .declares .. => true
  | _ => false
def z_bw : List Cond := lw_tbl.filter z_cd
/-- what a throw needs of the start: statics of Throwable, the texts, words that are not kept by calls of themselves -/
def z_T (l : Launch) (A : Nat → Prop) (U : State) : Prop :=
  l.stackTraces = false ∧ vx_Zq Bundle.tN "UNASSIGNED_STACK" Bundle.steD A U U.heap ∧ vx_Zq Bundle.tN "SUPPRESSED_SENTINEL" Bundle.listD A U U.heap ∧ (∀ w ∈ z_bw, va_Nw w U) ∧ (∀ q ∈ z_str, ∃ sa, vk_R R_P q.1 q.2 sa U) ∧ ∀ i j, i < 3 → j < 3 → i ≠ j → va_Nc (z_ex i) (z_ex j) U
theorem z_cd_warm {w : Cond} (h : z_cd w = true) {s U : State} (hW : s.WarmedH U.vm) (hZ : va_Nw w s) : va_Nw w U := by
  cases w <;> first | (simp [z_cd] at h; done) | exact va_Nw.warmC hW hZ | exact va_Nw.warmD hW hZ
theorem z_cd_tab {w : Cond} (h : z_cd w = true) : w.onTables = true := by
  cases w <;> first | (simp [z_cd] at h; done) | rfl
theorem z_bw_cd {w : Cond} (h : w ∈ z_bw) : z_cd w = true := (List.mem_filter.mp h).2
theorem z_T_mv {l : Launch} {A B : Nat → Prop} {s U : State} {H : Heap} {locs : List Loc} (h : z_T l A s) (hW : s.WarmedH U.vm) (hU : U.heap = H) (hS : va_S A s.heap H locs) (hA : ∀ q, B q → A q) : z_T l B U := by
  obtain ⟨h1, h2, h3, h4, h5, h6⟩ := h
  refine ⟨h1, ?_, ?_, fun w hw => z_cd_warm (z_bw_cd hw) hW (h4 w hw), fun q hq => ?_, fun i j hi hj hn => va_Nc.moved hW.alike (h6 i j hi hj hn)⟩
  · exact ((h2.moved hW.alike).kept (fun a ha hn => by rw [hU]; exact hS.2.1 a ha hn)).narrow hA
  · exact ((h3.moved hW.alike).kept (fun a ha hn => by rw [hU]; exact hS.2.1 a ha hn)).narrow hA
  · obtain ⟨sa, hs⟩ := h5 q hq
    exact ⟨sa, hs.warm hW⟩
theorem z_T_same {l : Launch} {A : Nat → Prop} {s U : State} (h : z_T l A s) (hv : U.vm = s.vm) (hh : U.heap = s.heap) : z_T l A U := by
  have hW : s.WarmedH U.vm := by rw [hv]; exact State.WarmedH.refl s
  exact z_T_mv h hW hh va_S.rf (fun _ h => h)
def z_PX (l : Launch) (D : va_G) (cA : Nat → ClassId) (n : Nat) (ad : Nat → Nat) (av : List Value) (S : zS) (sz : Nat) : Array Value → State → Prop := va_Pc av (fun U => U.heap.size = sz ∧ va_P D z_cl (z_w cA n ad S) U.heap ∧ va_K D z_cl (z_ty cA) U ∧ z_T l (z_fr n ad sz) U)
theorem z_PX_b {l : Launch} {D : va_G} {cA : Nat → ClassId} {n : Nat} {ad : Nat → Nat} {av : List Value} {S : zS} {sz : Nat} : FrameBlind (z_PX l D cA n ad av S sz) := fun a U g mk q => by
  obtain ⟨q0, q1, qP, qK, qT⟩ := q
  exact ⟨q0, q1, qP, va_K.moved (u := U) (U := U.calling g mk a) (Vm.Alike.refl U.vm) qK, z_T_same qT rfl rfl⟩
abbrev z_XC (D : va_G) (cA : Nat → ClassId) (n : Nat) (ad : Nat → Nat) (px : Nat → zS → Prop) (sz : Nat) : String → State → State → Prop := vx_X (fun u : Nat × zS => px u.1 u.2) (fun E u t => E = z_ex u.1 ∧ va_P D z_cl (z_w cA n ad u.2) t.heap) (z_fr n ad sz)
def z_ctX (l : Launch) (D : va_G) (cA : Nat → ClassId) (n : Nat) (ad : Nat → Nat) (y : MethodName) (cc : ByteArray) (maxL : Nat) (ret : Option FieldType) (rm : Room) (av : List Value) (S : zS) (px : Nat → zS → Prop) : Prop :=
  ∀ sz : Nat, (∀ i j, i < n → j < n → ad i = ad j → i = j) → vx_Met l y (Cond.code y cc maxL ret :: z_gw) rm (z_PX l D cA n ad av S sz) (fun _ _ _ _ => False) (z_XC D cA n ad px sz) 1 6 (z_fr n ad sz)
variable {p : Program} {l : Launch} {e : Env} {R : Room} {s : State} {m : MethodId} {args : Array Value} {below : List Frame} {meth : Method} {c : Code} {H : Heap} {locs : List Loc} {cells slots : Nat} {Q : State → Prop}
variable {cc : ByteArray} {pc nL : Nat} {ls : Array Slot} {rest : List Value} {D : va_G} {cA : Nat → ClassId} {n : Nat} {ad : Nat → Nat} {S : zS} {own : String}
variable {y : MethodName} {bytes : ByteArray} {maxL index : Nat} {ret : Option FieldType} {rm : Room} {As st0 : List Value}
/-- a call that throws, with what comes then -/
theorem z_thrown {px : Nat → zS → Prop} (hI : z_I D cA n ad s.heap S H locs) (hr : vx_Run p l e R s m args below meth c H locs cells slots 1 6 (F0 m pc ls st0) rest (fun _ _ _ => False) (z_XC D cA n ad px H.size) (z_fr n ad H.size))
    (kx : ∀ (cd : Nat) (S1 : zS) (H1 : Heap) (locs1 : List Loc) (q : Addr) (ce : Cell), px cd S1 → z_I D cA n ad s.heap S1 H1 locs1 → H1[q]? = some ce → ce.vm = .none → s.vm.findClass (z_ex cd) = some ce.cls → vx_W p l e R s m args below meth c H1 locs1 (cells + 1) (slots + 6) Q (F0 m pc ls rest) q) : W p l e R s m args below meth c H locs cells slots Q (F0 m pc ls st0) := by
  have hA := z_hA hI
  intro T hT X
  rcases hr T hT X with ⟨v, st₀, t, T', L, h0, X', hL, e1, e2, hF, st⟩ | ⟨q, st₀, t, T', L, E, ce, h0, X', hL, e1, e2, ⟨u, hp, ⟨hE, hB⟩, hF⟩, hce, hcv, hcl, st⟩
  · exact hF.elim
  · obtain ⟨k1, k2, k3⟩ := vx_keep h0 e1 hI.2 (fun q _ h => hA q h) hA hL hF
    subst hE
    obtain ⟨t2, a1, b1⟩ := kx u.1 u.2 T'.heap (locs ++ L) q ce hp ⟨by rw [e1]; exact hB, k3⟩ (by rw [e1]; exact hce) hcv hcl T' rfl X'
    exact ⟨t2, st.trans a1, b1⟩
theorem z_callVXc {px : Nat → zS → Prop} (C : z_CT p s m args c own cc nL D cA n ad) (hT : z_T l (z_fr n ad s.heap.size) s) (hI : z_I D cA n ad s.heap S H locs) (k : Nat) (hk : k < n) {ci : Nat} {fl : List (Option Nat)} (hkd : z_kd k = .inr (ci, fl)) {T : u_T} {N : Nat} (hc : z_cl[ci]? = some (y.cls, T, N))
    (hM : z_ctX l D cA n ad y bytes maxL ret rm (.ref (ad k) :: As) S px) (wc : z_wv y bytes maxL ret As.length) (wl : Cond.methodLink own index y ∈ z_gw) (hr0 : rm.cells = 1) (hr1 : rm.slots = 6) (h1 : rm.frames + 1 ≤ R.frames) (h2 : 8 + (maxL + 11) + rm.locals ≤ R.locals) (hcs : cells + 1 ≤ R.cells ∧ slots + 6 ≤ R.slots) (hls : ls.size = nL) (hst : (rest.map fun v => v.category).sum ≤ 8) (h0 : st0 = As.reverse ++ .ref (ad k) :: rest) (hdg : decode cc pc = .ok (.invokevirtual index, 3))
    (kx : ∀ (cd : Nat) (S1 : zS) (H1 : Heap) (locs1 : List Loc) (q : Addr) (ce : Cell), px cd S1 → z_I D cA n ad s.heap S1 H1 locs1 → H1[q]? = some ce → ce.vm = .none → s.vm.findClass (z_ex cd) = some ce.cls → vx_W p l e R s m args below meth c H1 locs1 (cells + 1) (slots + 6) Q (F0 m pc ls rest) q) : W p l e R s m args below meth c H locs cells slots Q (F0 m pc ls st0) := by
  obtain ⟨hx, hb, hml, hown, hts, hK, hJ⟩ := id C
  exact z_thrown hI (vx_runV (b := ad k) (As := As) (rest := rest) ⟨hx, hb, hml, hown, hts⟩ (hM H.size hJ) (cwV As.length hts (z_GV wc wl) rfl hr0 hr1 ⟨rfl, wc.2.2.2.2⟩ ⟨h1, h2⟩) ⟨z_PX_b, va_recv hK hI.1 (ci := ci) (q0 := k) hc (by rw [z_w_at hk, z_ce_o hkd]), fun U hU hW => ⟨rfl, by rw [hU], by rw [hU]; exact hI.1, va_K.moved hW.alike hK, z_T_mv hT hW hU hI.2 (fun q h => z_hA hI q h)⟩⟩ rfl rfl hls h0 (lv_room hst) hdg hcs) kx
theorem z_callSXc {px : Nat → zS → Prop} (C : z_CT p s m args c own cc nL D cA n ad) (hT : z_T l (z_fr n ad s.heap.size) s) (hI : z_I D cA n ad s.heap S H locs)
    (hM : z_ctX l D cA n ad y bytes maxL ret rm As S px) (wc : z_ws y bytes maxL ret As.length) (wl : Cond.methodLink own index y ∈ z_gw) (hr0 : rm.cells = 1) (hr1 : rm.slots = 6) (h1 : rm.frames + 1 ≤ R.frames) (h2 : 8 + (maxL + 11) + rm.locals ≤ R.locals) (hcs : cells + 1 ≤ R.cells ∧ slots + 6 ≤ R.slots) (hls : ls.size = nL) (hst : (rest.map fun v => v.category).sum ≤ 8) (h0 : st0 = As.reverse ++ rest) (hdg : decode cc pc = .ok (.invokestatic index, 3))
    (kx : ∀ (cd : Nat) (S1 : zS) (H1 : Heap) (locs1 : List Loc) (q : Addr) (ce : Cell), px cd S1 → z_I D cA n ad s.heap S1 H1 locs1 → H1[q]? = some ce → ce.vm = .none → s.vm.findClass (z_ex cd) = some ce.cls → vx_W p l e R s m args below meth c H1 locs1 (cells + 1) (slots + 6) Q (F0 m pc ls rest) q) : W p l e R s m args below meth c H locs cells slots Q (F0 m pc ls st0) := by
  obtain ⟨hx, hb, hml, hown, hts, hK, hJ⟩ := id C
  exact z_thrown hI (vx_runS (As := As) (rest := rest) ⟨hx, hb, hml, hown, hts⟩ (hM H.size hJ) (va_cwS As.length hts (z_GS wc wl) rfl hr0 hr1 wc.2.2.2 ⟨h1, h2⟩) ⟨z_PX_b, fun U hU hW => ⟨rfl, by rw [hU], by rw [hU]; exact hI.1, va_K.moved hW.alike hK, z_T_mv hT hW hU hI.2 (fun q h => z_hA hI q h)⟩⟩ rfl rfl hls h0 (lv_room hst) hdg hcs) kx
abbrev z_QX (below : List Frame) (D : va_G) (cA : Nat → ClassId) (n : Nat) (ad : Nat → Nat) (px : Nat → zS → Prop) (args : Array Value) (s : State) : State → Prop := vx_MQ below (fun _ _ _ _ => False) (z_XC D cA n ad px s.heap.size) args s 1 6 (z_fr n ad s.heap.size)
/-- it goes on to the caller -/
theorem z_goes {px : Nat → zS → Prop} (hout : ∀ x ∈ c.exceptionTable.toList, False) (hlocks : meth.locks = false) {cd : Nat} {q : Addr} {ce : Cell} (hp : px cd S) (hI : z_I D cA n ad s.heap S H locs) (hce : H[q]? = some ce) (hcv : ce.vm = .none) (hcl : s.vm.findClass (z_ex cd) = some ce.cls) : vx_W p l e R s m args below meth c H locs (0 + 1) (0 + 6) (z_QX below D cA n ad px args s) (F0 m pc ls rest) q :=
  vx_out (E := z_ex cd) (fun x hx => (hout x hx).elim) hlocks hce hcv hcl (fun t ht ha => ⟨(cd, S), hp, ⟨rfl, by show va_P D z_cl _ t.heap; rw [ht]; exact hI.1⟩, hI.2.F ht⟩) hI.2.2.2 (Nat.le_refl _) (Nat.le_refl _)
theorem z_callVX {px : Nat → zS → Prop} (C : z_CT p s m args c own cc nL D cA n ad) (hT : z_T l (z_fr n ad s.heap.size) s) (hout : ∀ x ∈ c.exceptionTable.toList, False) (hlocks : meth.locks = false) (hI : z_I D cA n ad s.heap S H locs) (k : Nat) (hk : k < n) {ci : Nat} {fl : List (Option Nat)} (hkd : z_kd k = .inr (ci, fl)) {T : u_T} {N : Nat} (hc : z_cl[ci]? = some (y.cls, T, N))
    (hM : z_ctX l D cA n ad y bytes maxL ret rm (.ref (ad k) :: As) S px) (wc : z_wv y bytes maxL ret As.length) (wl : Cond.methodLink own index y ∈ z_gw) (hr0 : rm.cells = 1) (hr1 : rm.slots = 6) (h1 : rm.frames + 1 ≤ R.frames) (h2 : 8 + (maxL + 11) + rm.locals ≤ R.locals) (hcs : 0 + 1 ≤ R.cells ∧ 0 + 6 ≤ R.slots) (hls : ls.size = nL) (hst : (rest.map fun v => v.category).sum ≤ 8) (h0 : st0 = As.reverse ++ .ref (ad k) :: rest) (hdg : decode cc pc = .ok (.invokevirtual index, 3)) : W p l e R s m args below meth c H locs 0 0 (z_QX below D cA n ad px args s) (F0 m pc ls st0) :=
  z_callVXc C hT hI k hk hkd hc hM wc wl hr0 hr1 h1 h2 hcs hls hst h0 hdg (fun _ _ _ _ _ _ hp hI h1 h2 h3 => z_goes hout hlocks hp hI h1 h2 h3)
theorem z_callSX {px : Nat → zS → Prop} (C : z_CT p s m args c own cc nL D cA n ad) (hT : z_T l (z_fr n ad s.heap.size) s) (hout : ∀ x ∈ c.exceptionTable.toList, False) (hlocks : meth.locks = false) (hI : z_I D cA n ad s.heap S H locs)
    (hM : z_ctX l D cA n ad y bytes maxL ret rm As S px) (wc : z_ws y bytes maxL ret As.length) (wl : Cond.methodLink own index y ∈ z_gw) (hr0 : rm.cells = 1) (hr1 : rm.slots = 6) (h1 : rm.frames + 1 ≤ R.frames) (h2 : 8 + (maxL + 11) + rm.locals ≤ R.locals) (hcs : 0 + 1 ≤ R.cells ∧ 0 + 6 ≤ R.slots) (hls : ls.size = nL) (hst : (rest.map fun v => v.category).sum ≤ 8) (h0 : st0 = As.reverse ++ rest) (hdg : decode cc pc = .ok (.invokestatic index, 3)) : W p l e R s m args below meth c H locs 0 0 (z_QX below D cA n ad px args s) (F0 m pc ls st0) :=
  z_callSXc C hT hI hM wc wl hr0 hr1 h1 h2 hcs hls hst h0 hdg (fun _ _ _ _ _ _ hp hI h1 h2 h3 => z_goes hout hlocks hp hI h1 h2 h3)
/-- 'throw new E("text")' -/
theorem z_throw {px : Nat → zS → Prop} (C : z_CT p s m args c R_P cc nL D cA n ad) (hT : z_T l (z_fr n ad s.heap.size) s) (hout : ∀ x ∈ c.exceptionTable.toList, False) (hlocks : meth.locks = false) (hI : z_I D cA n ad s.heap S H locs) (cd : Nat) {ik is ic : Nat} {text : String} (wk : Cond.classLink R_P ik (z_ex cd) ∈ z_gw) (wi : Cond.initialized (z_ex cd) ∈ z_gw) (ws : (is, text) ∈ z_str) (wa : ∀ w ∈ vx_atS R_P ic (z_ex cd) z_nm, w ∈ lw_tbl ∧ (goodWord w || z_cd w) = true) (hfit : Bundle.fit (z_ex cd) = true)
    (d0 : decode cc pc = .ok (.new ik, 3)) (d3 : decode cc (pc + 3) = .ok (.dup, 1)) (d4 : decode cc (pc + 4) = .ok (.ldc is, 2)) (d6 : decode cc (pc + 6) = .ok (.invokespecial ic, 3)) (d9 : decode cc (pc + 9) = .ok (.athrow, 1)) (hls : ls.size = nL) (h1 : 5 < R.frames) (h2 : (rest.map fun v => v.category).sum + 82 ≤ R.locals) (hcs : 0 + 1 ≤ R.cells ∧ 0 + 6 ≤ R.slots) (hp : px cd S) : W p l e R s m args below meth c H locs 0 0 (z_QX below D cA n ad px args s) (F0 m pc ls rest) := by
  obtain ⟨hx, hb, hml, hown, hts, hK, hJ⟩ := id C
  obtain ⟨t1, t2, t3, t4, t5, t6⟩ := hT
  obtain ⟨sa, hs⟩ := t5 _ ws
  refine vx_throwS (names := z_nm) (own := R_P) (cls := z_ex cd) (text := text) (sa := sa) hx hb t1 hown hfit (by decide +kernel) (hts _ wk) (hts _ wi) hs (fun w hw => ?_) (fun w hw => ?_) t2 t3 hI.2 (hls.trans hml.symm) d0 d3 d4 d6 d9 (fun x hx => (hout x hx).elim) h1 h2 hcs.1 hcs.2 hlocks (fun t ha hz hk => ?_) hI.2.2.2 (Nat.le_refl _) (Nat.le_refl _)
  · obtain ⟨a, b⟩ := wa w hw
    rcases Bool.or_eq_true_iff.mp b with g | g
    · exact hts w (List.mem_filter.mpr ⟨a, g⟩)
    · exact va_Nw.use (z_cd_tab g) (t4 w (List.mem_filter.mpr ⟨a, g⟩))
  · rcases List.mem_cons.mp hw with rfl | hw
    · exact Bool.or_eq_true_iff.mpr (Or.inr rfl)
    · rcases List.mem_cons.mp hw with rfl | hw
      · exact Bool.or_eq_true_iff.mpr (Or.inr rfl)
      · rcases Bool.or_eq_true_iff.mp (wa w hw).2 with g | g
        · exact Bool.or_eq_true_iff.mpr (Or.inr g)
        · exact Bool.or_eq_true_iff.mpr (Or.inl (z_cd_tab g))
  · refine ⟨(cd, S), hp, ⟨rfl, hI.1.kept (fun k q hq => hk _ (hI.1 k q hq).lt)⟩, Nat.le_trans hI.2.1 hz, fun q h3 h4 => ?_⟩
    rw [hk q (Nat.lt_of_lt_of_le h3 hI.2.1)]
    exact hI.2.2.1 q h3 h4
theorem z_metX {av : List Value} {px : Nat → zS → Prop} (hy : plainName y.cls = true) (hav : (lg_sl av).length ≤ maxL)
    (body : ∀ (p : Program) (e : Env) (s : State) (m : MethodId) (args : Array Value) (below : List Frame) (meth : Method) (c : Code) (ls : Array Slot), z_CT p s m args c y.cls cc maxL D cA n ad → z_T l (z_fr n ad s.heap.size) s → (∀ x ∈ c.exceptionTable.toList, False) → meth.locks = false → lv_has ls maxL (lv_args 0 av) → z_I D cA n ad s.heap S s.heap [] → W p l e rm s m args below meth c s.heap [] 0 0 (z_QX below D cA n ad px args s) (F0 m 0 ls [])) :
    z_ctX l D cA n ad y cc maxL ret rm av S px := by
  intro sz hJ
  refine vx_ofW (cc := cc) (maxL := maxL) (ret := ret) hy rfl ?_
  intro p e s m args below meth c s₁ B hml hout hv
  obtain ⟨rfl, hsz, hP, hK, hT⟩ := hv
  have hts := atoms_spec (ws := Cond.code y cc maxL ret :: z_gw) B.pre
  subst hsz
  rw [lg_entry_eq]
  exact body p e s m av.toArray below meth c _ ⟨B.exec, B.bytes, hml, findClass_of_methodNamed B.named, fun w hw => hts w (List.mem_cons_of_mem _ hw), hK, hJ⟩ hT hout B.notSynchronized (lv_entry av hav) ⟨hP, va_S.rf⟩
end ZT
end
