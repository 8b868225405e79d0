def R_P : String := "PageParts"
def F_P : u_T := fun k => match k with
  | 0 => ("PageParts", "width", "I", true)
  | 1 => ("PageParts", "height", "I", true)
  | 2 => ("PageParts", "black", "[Z", true)
  | 3 => ("PageParts", "clean", "[Z", true)
  | 4 => ("PageParts", "ink", "[Z", true)
  | 5 => ("PageParts", "strips", "[I", true)
  | 6 => ("PageParts", "parts", "LPageParts$Groups;", true)
  | 7 => ("PageParts", "cells", "LPageParts$Groups;", true)
  | 8 => ("PageParts", "covers", "LPageParts$Covers;", true)
  | 9 => ("PageParts", "reading", "LPageParts$Reading;", true)
  | 10 => ("PageParts", "blackCount", "I", false)
  | 11 => ("PageParts", "cleanCount", "I", false)
  | 12 => ("PageParts", "stripCount", "I", false)
  | 13 => ("PageParts", "noiseNow", "I", false)
  | _ => ("PageParts", "parted", "Z", false)
def ty_P : Nat → FieldType := fun k => match k with
  | 0 => .int
  | 1 => .int
  | 2 => .array .boolean
  | 3 => .array .boolean
  | 4 => .array .boolean
  | 5 => .array .int
  | 6 => .object "PageParts$Groups"
  | 7 => .object "PageParts$Groups"
  | 8 => .object "PageParts$Covers"
  | 9 => .object "PageParts$Reading"
  | 10 => .int
  | 11 => .int
  | 12 => .int
  | 13 => .int
  | _ => .boolean
def R_G : String := "PageParts$Groups"
def F_G : u_T := fun k => match k with
  | 0 => ("PageParts$Groups", "label", "[I", true)
  | 1 => ("PageParts$Groups", "left", "[I", true)
  | 2 => ("PageParts$Groups", "top", "[I", true)
  | 3 => ("PageParts$Groups", "right", "[I", true)
  | 4 => ("PageParts$Groups", "bottom", "[I", true)
  | 5 => ("PageParts$Groups", "size", "[I", true)
  | 6 => ("PageParts$Groups", "count", "I", false)
  | 7 => ("PageParts$Groups", "queue", "[I", true)
  | 8 => ("PageParts$Groups", "width", "I", true)
  | _ => ("PageParts$Groups", "height", "I", true)
def ty_G : Nat → FieldType := fun k => match k with
  | 0 => .array .int
  | 1 => .array .int
  | 2 => .array .int
  | 3 => .array .int
  | 4 => .array .int
  | 5 => .array .int
  | 6 => .int
  | 7 => .array .int
  | 8 => .int
  | _ => .int
def R_C : String := "PageParts$Covers"
def F_C : u_T := fun k => match k with
  | 0 => ("PageParts$Covers", "left", "[I", true)
  | 1 => ("PageParts$Covers", "top", "[I", true)
  | 2 => ("PageParts$Covers", "wide", "[I", true)
  | 3 => ("PageParts$Covers", "high", "[I", true)
  | 4 => ("PageParts$Covers", "count", "I", false)
  | 5 => ("PageParts$Covers", "reach", "[I", true)
  | 6 => ("PageParts$Covers", "width", "I", true)
  | 7 => ("PageParts$Covers", "height", "I", true)
  | _ => ("PageParts$Covers", "greatest", "I", false)
def ty_C : Nat → FieldType := fun k => match k with
  | 0 => .array .int
  | 1 => .array .int
  | 2 => .array .int
  | 3 => .array .int
  | 4 => .int
  | 5 => .array .int
  | 6 => .int
  | 7 => .int
  | _ => .int
def R_R : String := "PageParts$Reading"
def F_R : u_T := fun k => match k with
  | 0 => ("PageParts$Reading", "sequence", "[I", true)
  | 1 => ("PageParts$Reading", "behind", "[I", true)
  | 2 => ("PageParts$Reading", "ends", "[I", true)
  | 3 => ("PageParts$Reading", "cutAt", "I", false)
  | 4 => ("PageParts$Reading", "cutGap", "I", false)
  | _ => ("PageParts$Reading", "cutsRows", "Z", false)
def ty_R : Nat → FieldType := fun k => match k with
  | 0 => .array .int
  | 1 => .array .int
  | 2 => .array .int
  | 3 => .int
  | 4 => .int
  | _ => .boolean
def R_M : String := "PagePartsModel"
def F_M : u_T := fun k => match k with
  | 0 => ("PagePartsModel", "thrown", "I", false)
  | 1 => ("PagePartsModel", "width", "I", true)
  | 2 => ("PagePartsModel", "height", "I", true)
  | 3 => ("PagePartsModel", "black", "[Z", true)
  | 4 => ("PagePartsModel", "noise", "I", false)
  | 5 => ("PagePartsModel", "parted", "Z", false)
  | 6 => ("PagePartsModel", "specks", "[Z", true)
  | 7 => ("PagePartsModel", "clean", "[Z", true)
  | 8 => ("PagePartsModel", "ink", "[Z", true)
  | 9 => ("PagePartsModel", "covered", "[Z", true)
  | 10 => ("PagePartsModel", "labels", "[I", true)
  | 11 => ("PagePartsModel", "partOf", "[I", true)
  | 12 => ("PagePartsModel", "parts", "I", false)
  | 13 => ("PagePartsModel", "lefts", "[I", true)
  | 14 => ("PagePartsModel", "tops", "[I", true)
  | 15 => ("PagePartsModel", "rights", "[I", true)
  | 16 => ("PagePartsModel", "bottoms", "[I", true)
  | 17 => ("PagePartsModel", "kinds", "[I", true)
  | 18 => ("PagePartsModel", "order", "[I", true)
  | 19 => ("PagePartsModel", "covers", "I", false)
  | 20 => ("PagePartsModel", "coverRows", "[I", true)
  | 21 => ("PagePartsModel", "strips", "I", false)
  | 22 => ("PagePartsModel", "stripOf", "[I", true)
  | 23 => ("PagePartsModel", "cells", "I", false)
  | 24 => ("PagePartsModel", "cellOf", "[I", true)
  | 25 => ("PagePartsModel", "from", "[I", true)
  | _ => ("PagePartsModel", "to", "[I", true)
def ty_M : Nat → FieldType := fun k => match k with
  | 0 => .int
  | 1 => .int
  | 2 => .int
  | 3 => .array .boolean
  | 4 => .int
  | 5 => .boolean
  | 6 => .array .boolean
  | 7 => .array .boolean
  | 8 => .array .boolean
  | 9 => .array .boolean
  | 10 => .array .int
  | 11 => .array .int
  | 12 => .int
  | 13 => .array .int
  | 14 => .array .int
  | 15 => .array .int
  | 16 => .array .int
  | 17 => .array .int
  | 18 => .array .int
  | 19 => .int
  | 20 => .array .int
  | 21 => .int
  | 22 => .array .int
  | 23 => .int
  | 24 => .array .int
  | 25 => .array .int
  | _ => .array .int
def R_L : String := "PagePartsLaw"
def R_A : String := "java/util/Arrays"
abbrev z_cl : List vw_C := [(R_P, F_P, 15), (R_G, F_G, 10), (R_C, F_C, 9), (R_R, F_R, 6), (R_M, F_M, 27)]
theorem cl_P : z_cl[0]? = some (R_P, F_P, 15) := rfl
theorem cl_G : z_cl[1]? = some (R_G, F_G, 10) := rfl
theorem cl_C : z_cl[2]? = some (R_C, F_C, 9) := rfl
theorem cl_R : z_cl[3]? = some (R_R, F_R, 6) := rfl
theorem cl_M : z_cl[4]? = some (R_M, F_M, 27) := rfl
abbrev b_P_init : ByteArray := prog_1_method_1_code
def y_P_init : MethodName := ⟨R_P, "<init>", "(II)V"⟩
abbrev b_P_put : ByteArray := prog_1_method_2_code
def y_P_put : MethodName := ⟨R_P, "put", "(IIZ)Z"⟩
abbrev b_P_fill : ByteArray := prog_1_method_3_code
def y_P_fill : MethodName := ⟨R_P, "fill", "(IIIIZ)I"⟩
abbrev b_P_noise : ByteArray := prog_1_method_4_code
def y_P_noise : MethodName := ⟨R_P, "noise", "(I)I"⟩
abbrev b_P_run : ByteArray := prog_1_method_5_code
def y_P_run : MethodName := ⟨R_P, "run", "(II)I"⟩
abbrev b_P_part : ByteArray := prog_1_method_6_code
def y_P_part : MethodName := ⟨R_P, "part", "(II)I"⟩
abbrev b_P_partOf : ByteArray := prog_1_method_7_code
def y_P_partOf : MethodName := ⟨R_P, "partOf", "(II)I"⟩
abbrev b_P_line : ByteArray := prog_1_method_8_code
def y_P_line : MethodName := ⟨R_P, "line", "(III)I"⟩
abbrev b_P_order : ByteArray := prog_1_method_9_code
def y_P_order : MethodName := ⟨R_P, "order", "(I)I"⟩
abbrev b_P_cover : ByteArray := prog_1_method_10_code
def y_P_cover : MethodName := ⟨R_P, "cover", "(II)I"⟩
abbrev b_P_strip : ByteArray := prog_1_method_11_code
def y_P_strip : MethodName := ⟨R_P, "strip", "(I)I"⟩
abbrev b_P_cell : ByteArray := prog_1_method_12_code
def y_P_cell : MethodName := ⟨R_P, "cell", "(II)I"⟩
abbrev b_P_isSpeck : ByteArray := prog_1_method_13_code
def y_P_isSpeck : MethodName := ⟨R_P, "isSpeck", "(II)Z"⟩
abbrev b_P_told : ByteArray := prog_1_method_14_code
def y_P_told : MethodName := ⟨R_P, "told", "(I)I"⟩
abbrev b_P_clear : ByteArray := prog_1_method_15_code
def y_P_clear : MethodName := ⟨R_P, "clear", "()V"⟩
abbrev b_P_nearestSide : ByteArray := prog_1_method_16_code
def y_P_nearestSide : MethodName := ⟨R_P, "nearestSide", "(I)I"⟩
abbrev b_P_mustBeParted : ByteArray := prog_1_method_17_code
def y_P_mustBeParted : MethodName := ⟨R_P, "mustBeParted", "()V"⟩
abbrev b_P_mustBeSample : ByteArray := prog_1_method_18_code
def y_P_mustBeSample : MethodName := ⟨R_P, "mustBeSample", "(II)V"⟩
abbrev b_P_mustBeBelow : ByteArray := prog_1_method_19_code
def y_P_mustBeBelow : MethodName := ⟨R_P, "mustBeBelow", "(II)V"⟩
abbrev b_P_mustBeTold : ByteArray := prog_1_method_20_code
def y_P_mustBeTold : MethodName := ⟨R_P, "mustBeTold", "(II)V"⟩
abbrev b_P_paint : ByteArray := prog_1_method_21_code
def y_P_paint : MethodName := ⟨R_P, "paint", "(IIZ)Z"⟩
abbrev b_P_toldOfParted : ByteArray := prog_1_method_22_code
def y_P_toldOfParted : MethodName := ⟨R_P, "toldOfParted", "(I)I"⟩
abbrev b_P_findClean : ByteArray := prog_1_method_23_code
def y_P_findClean : MethodName := ⟨R_P, "findClean", "()V"⟩
abbrev b_P_smear : ByteArray := prog_1_method_24_code
def y_P_smear : MethodName := ⟨R_P, "smear", "(II)V"⟩
abbrev b_P_smearAlong : ByteArray := prog_1_method_25_code
def y_P_smearAlong : MethodName := ⟨R_P, "smearAlong", "(IIII)V"⟩
abbrev b_P_findStrips : ByteArray := prog_1_method_26_code
def y_P_findStrips : MethodName := ⟨R_P, "findStrips", "()V"⟩
abbrev b_P_hasInk : ByteArray := prog_1_method_27_code
def y_P_hasInk : MethodName := ⟨R_P, "hasInk", "(I)Z"⟩
abbrev b_P_weightOf : ByteArray := prog_1_method_28_code
def y_P_weightOf : MethodName := ⟨R_P, "weightOf", "(I)I"⟩
abbrev b_P_kindOf : ByteArray := prog_1_method_29_code
def y_P_kindOf : MethodName := ⟨R_P, "kindOf", "(I)I"⟩
abbrev b_P_isThin : ByteArray := prog_1_method_30_code
def y_P_isThin : MethodName := ⟨R_P, "isThin", "(II)Z"⟩
abbrev b_P_isFramed : ByteArray := prog_1_method_31_code
def y_P_isFramed : MethodName := ⟨R_P, "isFramed", "(I)Z"⟩
abbrev b_P_isMostlyEmptyWithin : ByteArray := prog_1_method_32_code
def y_P_isMostlyEmptyWithin : MethodName := ⟨R_P, "isMostlyEmptyWithin", "(I)Z"⟩
abbrev b_P_countClean : ByteArray := prog_1_method_33_code
def y_P_countClean : MethodName := ⟨R_P, "countClean", "(IIII)I"⟩
abbrev b_P_countLines : ByteArray := prog_1_method_34_code
def y_P_countLines : MethodName := ⟨R_P, "countLines", "(I)I"⟩
abbrev b_P_firstRowOfLine : ByteArray := prog_1_method_35_code
def y_P_firstRowOfLine : MethodName := ⟨R_P, "firstRowOfLine", "(II)I"⟩
abbrev b_P_countRowsOfLine : ByteArray := prog_1_method_36_code
def y_P_countRowsOfLine : MethodName := ⟨R_P, "countRowsOfLine", "(II)I"⟩
abbrev b_P_beginsLine : ByteArray := prog_1_method_37_code
def y_P_beginsLine : MethodName := ⟨R_P, "beginsLine", "(II)Z"⟩
abbrev b_P_hasCleanOf : ByteArray := prog_1_method_38_code
def y_P_hasCleanOf : MethodName := ⟨R_P, "hasCleanOf", "(II)Z"⟩
abbrev b_G_init : ByteArray := prog_3_method_1_code
def y_G_init : MethodName := ⟨R_G, "<init>", "(II)V"⟩
abbrev b_G_find : ByteArray := prog_3_method_2_code
def y_G_find : MethodName := ⟨R_G, "find", "([ZZZ)V"⟩
abbrev b_G_isOpen : ByteArray := prog_3_method_3_code
def y_G_isOpen : MethodName := ⟨R_G, "isOpen", "([ZZII)Z"⟩
abbrev b_G_begin : ByteArray := prog_3_method_4_code
def y_G_begin : MethodName := ⟨R_G, "begin", "(II)V"⟩
abbrev b_G_take : ByteArray := prog_3_method_5_code
def y_G_take : MethodName := ⟨R_G, "take", "(II)V"⟩
abbrev b_G_gather : ByteArray := prog_3_method_6_code
def y_G_gather : MethodName := ⟨R_G, "gather", "([ZZZ)V"⟩
abbrev b_G_dropAtEdge : ByteArray := prog_3_method_7_code
def y_G_dropAtEdge : MethodName := ⟨R_G, "dropAtEdge", "()V"⟩
abbrev b_G_wideOf : ByteArray := prog_3_method_8_code
def y_G_wideOf : MethodName := ⟨R_G, "wideOf", "(I)I"⟩
abbrev b_G_highOf : ByteArray := prog_3_method_9_code
def y_G_highOf : MethodName := ⟨R_G, "highOf", "(I)I"⟩
abbrev b_G_boxOf : ByteArray := prog_3_method_10_code
def y_G_boxOf : MethodName := ⟨R_G, "boxOf", "(II)I"⟩
abbrev b_C_init : ByteArray := prog_2_method_1_code
def y_C_init : MethodName := ⟨R_C, "<init>", "(II)V"⟩
abbrev b_C_find : ByteArray := prog_2_method_2_code
def y_C_find : MethodName := ⟨R_C, "find", "([Z)V"⟩
abbrev b_C_measure : ByteArray := prog_2_method_3_code
def y_C_measure : MethodName := ⟨R_C, "measure", "([Z)V"⟩
abbrev b_C_findGreatest : ByteArray := prog_2_method_4_code
def y_C_findGreatest : MethodName := ⟨R_C, "findGreatest", "(I)V"⟩
abbrev b_C_growFrom : ByteArray := prog_2_method_5_code
def y_C_growFrom : MethodName := ⟨R_C, "growFrom", "(III)V"⟩
abbrev b_C_block : ByteArray := prog_2_method_6_code
def y_C_block : MethodName := ⟨R_C, "block", "(I)V"⟩
abbrev b_C_shortenBefore : ByteArray := prog_2_method_7_code
def y_C_shortenBefore : MethodName := ⟨R_C, "shortenBefore", "(II)V"⟩
abbrev b_R_init : ByteArray := prog_4_method_1_code
def y_R_init : MethodName := ⟨R_R, "<init>", "()V"⟩
abbrev b_R_arrange : ByteArray := prog_4_method_2_code
def y_R_arrange : MethodName := ⟨R_R, "arrange", "(LPageParts$Groups;)V"⟩
abbrev b_R_sortByBoxes : ByteArray := prog_4_method_3_code
def y_R_sortByBoxes : MethodName := ⟨R_R, "sortByBoxes", "(LPageParts$Groups;)V"⟩
abbrev b_R_isBefore : ByteArray := prog_4_method_4_code
def y_R_isBefore : MethodName := ⟨R_R, "isBefore", "(LPageParts$Groups;II)Z"⟩
abbrev b_R_findCut : ByteArray := prog_4_method_5_code
def y_R_findCut : MethodName := ⟨R_R, "findCut", "(LPageParts$Groups;II)Z"⟩
abbrev b_R_lookAlong : ByteArray := prog_4_method_6_code
def y_R_lookAlong : MethodName := ⟨R_R, "lookAlong", "([I[IIIZ)V"⟩
abbrev b_R_bits : ByteArray := prog_4_method_7_code
def y_R_bits : MethodName := ⟨R_R, "bits", "(II)I"⟩
abbrev b_R_hasBit : ByteArray := prog_4_method_8_code
def y_R_hasBit : MethodName := ⟨R_R, "hasBit", "(II)Z"⟩
abbrev b_R_divide : ByteArray := prog_4_method_9_code
def y_R_divide : MethodName := ⟨R_R, "divide", "(LPageParts$Groups;II)I"⟩
abbrev b_M_init : ByteArray := prog_6_method_1_code
def y_M_init : MethodName := ⟨R_M, "<init>", "(II)V"⟩
abbrev b_M_nearest : ByteArray := prog_6_method_2_code
def y_M_nearest : MethodName := ⟨R_M, "nearest", "(I)I"⟩
abbrev b_M_thrown : ByteArray := prog_6_method_3_code
def y_M_thrown : MethodName := ⟨R_M, "thrown", "()I"⟩
abbrev b_M_in : ByteArray := prog_6_method_4_code
def y_M_in : MethodName := ⟨R_M, "in", "(III)Z"⟩
abbrev b_M_isSample : ByteArray := prog_6_method_5_code
def y_M_isSample : MethodName := ⟨R_M, "isSample", "(II)Z"⟩
abbrev b_M_goes : ByteArray := prog_6_method_6_code
def y_M_goes : MethodName := ⟨R_M, "goes", "(ZZZ)Z"⟩
abbrev b_M_put : ByteArray := prog_6_method_7_code
def y_M_put : MethodName := ⟨R_M, "put", "(IIZ)Z"⟩
abbrev b_M_fill : ByteArray := prog_6_method_8_code
def y_M_fill : MethodName := ⟨R_M, "fill", "(IIIIZ)I"⟩
abbrev b_M_noise : ByteArray := prog_6_method_9_code
def y_M_noise : MethodName := ⟨R_M, "noise", "(I)I"⟩
abbrev b_M_clear : ByteArray := prog_6_method_10_code
def y_M_clear : MethodName := ⟨R_M, "clear", "()V"⟩
abbrev b_M_is : ByteArray := prog_6_method_11_code
def y_M_is : MethodName := ⟨R_M, "is", "(II)Z"⟩
abbrev b_M_group : ByteArray := prog_6_method_12_code
def y_M_group : MethodName := ⟨R_M, "group", "(IZ)V"⟩
abbrev b_M_settles : ByteArray := prog_6_method_13_code
def y_M_settles : MethodName := ⟨R_M, "settles", "(IIZ)Z"⟩
abbrev b_M_sizeOf : ByteArray := prog_6_method_14_code
def y_M_sizeOf : MethodName := ⟨R_M, "sizeOf", "(I)I"⟩
abbrev b_M_inGap : ByteArray := prog_6_method_15_code
def y_M_inGap : MethodName := ⟨R_M, "inGap", "(IIIII)Z"⟩
abbrev b_M_takeInk : ByteArray := prog_6_method_16_code
def y_M_takeInk : MethodName := ⟨R_M, "takeInk", "(II)V"⟩
abbrev b_M_cleanIn : ByteArray := prog_6_method_17_code
def y_M_cleanIn : MethodName := ⟨R_M, "cleanIn", "(IIIII)I"⟩
abbrev b_M_takeParts : ByteArray := prog_6_method_18_code
def y_M_takeParts : MethodName := ⟨R_M, "takeParts", "()V"⟩
abbrev b_M_kindOf : ByteArray := prog_6_method_19_code
def y_M_kindOf : MethodName := ⟨R_M, "kindOf", "(IIII)I"⟩
abbrev b_M_takeCover : ByteArray := prog_6_method_20_code
def y_M_takeCover : MethodName := ⟨R_M, "takeCover", "()Z"⟩
abbrev b_M_takeCovers : ByteArray := prog_6_method_21_code
def y_M_takeCovers : MethodName := ⟨R_M, "takeCovers", "()V"⟩
abbrev b_M_takeStrips : ByteArray := prog_6_method_22_code
def y_M_takeStrips : MethodName := ⟨R_M, "takeStrips", "()V"⟩
abbrev b_M_takeCells : ByteArray := prog_6_method_23_code
def y_M_takeCells : MethodName := ⟨R_M, "takeCells", "()V"⟩
abbrev b_M_isClosed : ByteArray := prog_6_method_24_code
def y_M_isClosed : MethodName := ⟨R_M, "isClosed", "(I)Z"⟩
abbrev b_M_low : ByteArray := prog_6_method_25_code
def y_M_low : MethodName := ⟨R_M, "low", "(IZ)I"⟩
abbrev b_M_high : ByteArray := prog_6_method_26_code
def y_M_high : MethodName := ⟨R_M, "high", "(IZ)I"⟩
abbrev b_M_gap : ByteArray := prog_6_method_27_code
def y_M_gap : MethodName := ⟨R_M, "gap", "(IZII)I"⟩
abbrev b_M_swap : ByteArray := prog_6_method_28_code
def y_M_swap : MethodName := ⟨R_M, "swap", "(II)V"⟩
abbrev b_M_isBefore : ByteArray := prog_6_method_29_code
def y_M_isBefore : MethodName := ⟨R_M, "isBefore", "(II)Z"⟩
abbrev b_M_sort : ByteArray := prog_6_method_30_code
def y_M_sort : MethodName := ⟨R_M, "sort", "(II)V"⟩
abbrev b_M_parts : ByteArray := prog_6_method_31_code
def y_M_parts : MethodName := ⟨R_M, "parts", "(II)I"⟩
abbrev b_M_takeOrder : ByteArray := prog_6_method_32_code
def y_M_takeOrder : MethodName := ⟨R_M, "takeOrder", "()V"⟩
abbrev b_M_run : ByteArray := prog_6_method_33_code
def y_M_run : MethodName := ⟨R_M, "run", "(II)I"⟩
abbrev b_M_lines : ByteArray := prog_6_method_34_code
def y_M_lines : MethodName := ⟨R_M, "lines", "(I)I"⟩
abbrev b_M_inkOf : ByteArray := prog_6_method_35_code
def y_M_inkOf : MethodName := ⟨R_M, "inkOf", "(I)I"⟩
abbrev b_M_part : ByteArray := prog_6_method_36_code
def y_M_part : MethodName := ⟨R_M, "part", "(II)I"⟩
abbrev b_M_partOf : ByteArray := prog_6_method_37_code
def y_M_partOf : MethodName := ⟨R_M, "partOf", "(II)I"⟩
abbrev b_M_line : ByteArray := prog_6_method_38_code
def y_M_line : MethodName := ⟨R_M, "line", "(III)I"⟩
abbrev b_M_order : ByteArray := prog_6_method_39_code
def y_M_order : MethodName := ⟨R_M, "order", "(I)I"⟩
abbrev b_M_cover : ByteArray := prog_6_method_40_code
def y_M_cover : MethodName := ⟨R_M, "cover", "(II)I"⟩
abbrev b_M_strip : ByteArray := prog_6_method_41_code
def y_M_strip : MethodName := ⟨R_M, "strip", "(I)I"⟩
abbrev b_M_cell : ByteArray := prog_6_method_42_code
def y_M_cell : MethodName := ⟨R_M, "cell", "(II)I"⟩
abbrev b_M_isSpeck : ByteArray := prog_6_method_43_code
def y_M_isSpeck : MethodName := ⟨R_M, "isSpeck", "(II)Z"⟩
abbrev b_M_told : ByteArray := prog_6_method_44_code
def y_M_told : MethodName := ⟨R_M, "told", "(I)I"⟩
abbrev b_L_cell : ByteArray := method_2_code
def y_L_cell : MethodName := ⟨R_L, "cell", "([II)I"⟩
abbrev b_L_put : ByteArray := method_3_code
def y_L_put : MethodName := ⟨R_L, "put", "(LPageParts;IIZ[J)I"⟩
abbrev b_L_fill : ByteArray := method_4_code
def y_L_fill : MethodName := ⟨R_L, "fill", "(LPageParts;IIIIZ[J)I"⟩
abbrev b_L_noise : ByteArray := method_5_code
def y_L_noise : MethodName := ⟨R_L, "noise", "(LPageParts;I[J)I"⟩
abbrev b_L_run : ByteArray := method_6_code
def y_L_run : MethodName := ⟨R_L, "run", "(LPageParts;II[J)I"⟩
abbrev b_L_part : ByteArray := method_7_code
def y_L_part : MethodName := ⟨R_L, "part", "(LPageParts;II[J)I"⟩
abbrev b_L_partOf : ByteArray := method_8_code
def y_L_partOf : MethodName := ⟨R_L, "partOf", "(LPageParts;II[J)I"⟩
abbrev b_L_line : ByteArray := method_9_code
def y_L_line : MethodName := ⟨R_L, "line", "(LPageParts;III[J)I"⟩
abbrev b_L_order : ByteArray := method_10_code
def y_L_order : MethodName := ⟨R_L, "order", "(LPageParts;I[J)I"⟩
abbrev b_L_cover : ByteArray := method_11_code
def y_L_cover : MethodName := ⟨R_L, "cover", "(LPageParts;II[J)I"⟩
abbrev b_L_strip : ByteArray := method_12_code
def y_L_strip : MethodName := ⟨R_L, "strip", "(LPageParts;I[J)I"⟩
abbrev b_L_cell2 : ByteArray := method_13_code
def y_L_cell2 : MethodName := ⟨R_L, "cell", "(LPageParts;II[J)I"⟩
abbrev b_L_isSpeck : ByteArray := method_14_code
def y_L_isSpeck : MethodName := ⟨R_L, "isSpeck", "(LPageParts;II[J)I"⟩
abbrev b_L_law : ByteArray := code
def y_L_law : MethodName := ⟨R_L, "law", "([I)Z"⟩
abbrev b_A_fill : ByteArray := prog_16_method_103_code
def y_A_fill : MethodName := ⟨R_A, "fill", "([II)V"⟩
def z_gw : List Cond := lw_tbl.filter goodWord
theorem z_gwi {w : Cond} (i : Nat) (h : lw_tbl[i]? = some w) (hg : goodWord w = true) : w ∈ z_gw := List.mem_filter.mpr ⟨List.mem_of_getElem? h, hg⟩
theorem z_gws {ws : List Cond} (h : ∀ w ∈ ws, w ∈ lw_tbl ∧ goodWord w = true) : ∀ w ∈ ws, w ∈ z_gw := fun w hw => List.mem_filter.mpr (h w hw)
theorem iw_P : ∀ w ∈ u_ws R_P F_P 15, w ∈ z_gw := z_gws (by decide +kernel)
theorem ty_P_ok : ∀ k, k < 15 → parseFieldDescriptor (F_P k).2.2.1 = some (ty_P k) := by decide +kernel
theorem n_P : ∀ a, a < 15 → ∀ b, b < 15 → a ≠ b → (F_P a).2.1 ≠ (F_P b).2.1 := by decide +kernel
theorem iw_G : ∀ w ∈ u_ws R_G F_G 10, w ∈ z_gw := z_gws (by decide +kernel)
theorem ty_G_ok : ∀ k, k < 10 → parseFieldDescriptor (F_G k).2.2.1 = some (ty_G k) := by decide +kernel
theorem n_G : ∀ a, a < 10 → ∀ b, b < 10 → a ≠ b → (F_G a).2.1 ≠ (F_G b).2.1 := by decide +kernel
theorem iw_C : ∀ w ∈ u_ws R_C F_C 9, w ∈ z_gw := z_gws (by decide +kernel)
theorem ty_C_ok : ∀ k, k < 9 → parseFieldDescriptor (F_C k).2.2.1 = some (ty_C k) := by decide +kernel
theorem n_C : ∀ a, a < 9 → ∀ b, b < 9 → a ≠ b → (F_C a).2.1 ≠ (F_C b).2.1 := by decide +kernel
theorem iw_R : ∀ w ∈ u_ws R_R F_R 6, w ∈ z_gw := z_gws (by decide +kernel)
theorem ty_R_ok : ∀ k, k < 6 → parseFieldDescriptor (F_R k).2.2.1 = some (ty_R k) := by decide +kernel
theorem n_R : ∀ a, a < 6 → ∀ b, b < 6 → a ≠ b → (F_R a).2.1 ≠ (F_R b).2.1 := by decide +kernel
theorem iw_M : ∀ w ∈ u_ws R_M F_M 27, w ∈ z_gw := z_gws (by decide +kernel)
theorem ty_M_ok : ∀ k, k < 27 → parseFieldDescriptor (F_M k).2.2.1 = some (ty_M k) := by decide +kernel
theorem n_M : ∀ a, a < 27 → ∀ b, b < 27 → a ≠ b → (F_M a).2.1 ≠ (F_M b).2.1 := by decide +kernel
theorem k_fl_C_15 : Cond.fieldLink R_C 15 "PageParts$Covers" "top" "[I" ∈ z_gw := z_gwi 150 (by decide +kernel) (by decide +kernel)
theorem k_fl_C_18 : Cond.fieldLink R_C 18 "PageParts$Covers" "wide" "[I" ∈ z_gw := z_gwi 152 (by decide +kernel) (by decide +kernel)
theorem k_fl_C_21 : Cond.fieldLink R_C 21 "PageParts$Covers" "high" "[I" ∈ z_gw := z_gwi 154 (by decide +kernel) (by decide +kernel)
theorem k_fl_C_24 : Cond.fieldLink R_C 24 "PageParts$Covers" "reach" "[I" ∈ z_gw := z_gwi 158 (by decide +kernel) (by decide +kernel)
theorem k_fl_C_27 : Cond.fieldLink R_C 27 "PageParts$Covers" "width" "I" ∈ z_gw := z_gwi 159 (by decide +kernel) (by decide +kernel)
theorem k_fl_C_31 : Cond.fieldLink R_C 31 "PageParts$Covers" "height" "I" ∈ z_gw := z_gwi 160 (by decide +kernel) (by decide +kernel)
theorem k_fl_C_38 : Cond.fieldLink R_C 38 "PageParts$Covers" "count" "I" ∈ z_gw := z_gwi 156 (by decide +kernel) (by decide +kernel)
theorem k_fl_C_45 : Cond.fieldLink R_C 45 "PageParts$Covers" "greatest" "I" ∈ z_gw := z_gwi 161 (by decide +kernel) (by decide +kernel)
theorem k_fl_C_9 : Cond.fieldLink R_C 9 "PageParts$Covers" "left" "[I" ∈ z_gw := z_gwi 148 (by decide +kernel) (by decide +kernel)
theorem k_fl_G_15 : Cond.fieldLink R_G 15 "PageParts$Groups" "left" "[I" ∈ z_gw := z_gwi 99 (by decide +kernel) (by decide +kernel)
theorem k_fl_G_18 : Cond.fieldLink R_G 18 "PageParts$Groups" "top" "[I" ∈ z_gw := z_gwi 102 (by decide +kernel) (by decide +kernel)
theorem k_fl_G_21 : Cond.fieldLink R_G 21 "PageParts$Groups" "right" "[I" ∈ z_gw := z_gwi 105 (by decide +kernel) (by decide +kernel)
theorem k_fl_G_24 : Cond.fieldLink R_G 24 "PageParts$Groups" "bottom" "[I" ∈ z_gw := z_gwi 108 (by decide +kernel) (by decide +kernel)
theorem k_fl_G_27 : Cond.fieldLink R_G 27 "PageParts$Groups" "size" "[I" ∈ z_gw := z_gwi 111 (by decide +kernel) (by decide +kernel)
theorem k_fl_G_30 : Cond.fieldLink R_G 30 "PageParts$Groups" "queue" "[I" ∈ z_gw := z_gwi 116 (by decide +kernel) (by decide +kernel)
theorem k_fl_G_33 : Cond.fieldLink R_G 33 "PageParts$Groups" "width" "I" ∈ z_gw := z_gwi 117 (by decide +kernel) (by decide +kernel)
theorem k_fl_G_37 : Cond.fieldLink R_G 37 "PageParts$Groups" "height" "I" ∈ z_gw := z_gwi 118 (by decide +kernel) (by decide +kernel)
theorem k_fl_G_46 : Cond.fieldLink R_G 46 "PageParts$Groups" "count" "I" ∈ z_gw := z_gwi 113 (by decide +kernel) (by decide +kernel)
theorem k_fl_G_9 : Cond.fieldLink R_G 9 "PageParts$Groups" "label" "[I" ∈ z_gw := z_gwi 97 (by decide +kernel) (by decide +kernel)
theorem k_fl_M_116 : Cond.fieldLink R_M 116 "PagePartsModel" "parts" "I" ∈ z_gw := z_gwi 661 (by decide +kernel) (by decide +kernel)
theorem k_fl_M_127 : Cond.fieldLink R_M 127 "PagePartsModel" "covers" "I" ∈ z_gw := z_gwi 668 (by decide +kernel) (by decide +kernel)
theorem k_fl_M_13 : Cond.fieldLink R_M 13 "PagePartsModel" "noise" "I" ∈ z_gw := z_gwi 653 (by decide +kernel) (by decide +kernel)
theorem k_fl_M_134 : Cond.fieldLink R_M 134 "PagePartsModel" "strips" "I" ∈ z_gw := z_gwi 670 (by decide +kernel) (by decide +kernel)
theorem k_fl_M_137 : Cond.fieldLink R_M 137 "PagePartsModel" "cells" "I" ∈ z_gw := z_gwi 672 (by decide +kernel) (by decide +kernel)
theorem k_fl_M_17 : Cond.fieldLink R_M 17 "PagePartsModel" "specks" "[Z" ∈ z_gw := z_gwi 655 (by decide +kernel) (by decide +kernel)
theorem k_fl_M_20 : Cond.fieldLink R_M 20 "PagePartsModel" "clean" "[Z" ∈ z_gw := z_gwi 656 (by decide +kernel) (by decide +kernel)
theorem k_fl_M_23 : Cond.fieldLink R_M 23 "PagePartsModel" "ink" "[Z" ∈ z_gw := z_gwi 657 (by decide +kernel) (by decide +kernel)
theorem k_fl_M_26 : Cond.fieldLink R_M 26 "PagePartsModel" "covered" "[Z" ∈ z_gw := z_gwi 658 (by decide +kernel) (by decide +kernel)
theorem k_fl_M_29 : Cond.fieldLink R_M 29 "PagePartsModel" "labels" "[I" ∈ z_gw := z_gwi 659 (by decide +kernel) (by decide +kernel)
theorem k_fl_M_33 : Cond.fieldLink R_M 33 "PagePartsModel" "partOf" "[I" ∈ z_gw := z_gwi 660 (by decide +kernel) (by decide +kernel)
theorem k_fl_M_36 : Cond.fieldLink R_M 36 "PagePartsModel" "lefts" "[I" ∈ z_gw := z_gwi 662 (by decide +kernel) (by decide +kernel)
theorem k_fl_M_39 : Cond.fieldLink R_M 39 "PagePartsModel" "tops" "[I" ∈ z_gw := z_gwi 663 (by decide +kernel) (by decide +kernel)
theorem k_fl_M_42 : Cond.fieldLink R_M 42 "PagePartsModel" "rights" "[I" ∈ z_gw := z_gwi 664 (by decide +kernel) (by decide +kernel)
theorem k_fl_M_45 : Cond.fieldLink R_M 45 "PagePartsModel" "bottoms" "[I" ∈ z_gw := z_gwi 665 (by decide +kernel) (by decide +kernel)
theorem k_fl_M_48 : Cond.fieldLink R_M 48 "PagePartsModel" "kinds" "[I" ∈ z_gw := z_gwi 666 (by decide +kernel) (by decide +kernel)
theorem k_fl_M_51 : Cond.fieldLink R_M 51 "PagePartsModel" "order" "[I" ∈ z_gw := z_gwi 667 (by decide +kernel) (by decide +kernel)
theorem k_fl_M_54 : Cond.fieldLink R_M 54 "PagePartsModel" "coverRows" "[I" ∈ z_gw := z_gwi 669 (by decide +kernel) (by decide +kernel)
theorem k_fl_M_57 : Cond.fieldLink R_M 57 "PagePartsModel" "stripOf" "[I" ∈ z_gw := z_gwi 671 (by decide +kernel) (by decide +kernel)
theorem k_fl_M_60 : Cond.fieldLink R_M 60 "PagePartsModel" "cellOf" "[I" ∈ z_gw := z_gwi 673 (by decide +kernel) (by decide +kernel)
theorem k_fl_M_63 : Cond.fieldLink R_M 63 "PagePartsModel" "from" "[I" ∈ z_gw := z_gwi 674 (by decide +kernel) (by decide +kernel)
theorem k_fl_M_66 : Cond.fieldLink R_M 66 "PagePartsModel" "to" "[I" ∈ z_gw := z_gwi 675 (by decide +kernel) (by decide +kernel)
theorem k_fl_M_7 : Cond.fieldLink R_M 7 "PagePartsModel" "black" "[Z" ∈ z_gw := z_gwi 652 (by decide +kernel) (by decide +kernel)
theorem k_fl_M_73 : Cond.fieldLink R_M 73 "PagePartsModel" "width" "I" ∈ z_gw := z_gwi 650 (by decide +kernel) (by decide +kernel)
theorem k_fl_M_76 : Cond.fieldLink R_M 76 "PagePartsModel" "height" "I" ∈ z_gw := z_gwi 651 (by decide +kernel) (by decide +kernel)
theorem k_fl_M_79 : Cond.fieldLink R_M 79 "PagePartsModel" "thrown" "I" ∈ z_gw := z_gwi 649 (by decide +kernel) (by decide +kernel)
theorem k_fl_M_94 : Cond.fieldLink R_M 94 "PagePartsModel" "parted" "Z" ∈ z_gw := z_gwi 654 (by decide +kernel) (by decide +kernel)
theorem k_fl_P_114 : Cond.fieldLink R_P 114 "PageParts$Groups" "count" "I" ∈ z_gw := z_gwi 115 (by decide +kernel) (by decide +kernel)
theorem k_fl_P_13 : Cond.fieldLink R_P 13 "PageParts" "clean" "[Z" ∈ z_gw := z_gwi 210 (by decide +kernel) (by decide +kernel)
theorem k_fl_P_135 : Cond.fieldLink R_P 135 "PageParts$Groups" "size" "[I" ∈ z_gw := z_gwi 112 (by decide +kernel) (by decide +kernel)
theorem k_fl_P_141 : Cond.fieldLink R_P 141 "PageParts$Groups" "label" "[I" ∈ z_gw := z_gwi 98 (by decide +kernel) (by decide +kernel)
theorem k_fl_P_150 : Cond.fieldLink R_P 150 "PageParts$Reading" "sequence" "[I" ∈ z_gw := z_gwi 188 (by decide +kernel) (by decide +kernel)
theorem k_fl_P_153 : Cond.fieldLink R_P 153 "PageParts$Covers" "count" "I" ∈ z_gw := z_gwi 157 (by decide +kernel) (by decide +kernel)
theorem k_fl_P_154 : Cond.fieldLink R_P 154 "PageParts$Covers" "left" "[I" ∈ z_gw := z_gwi 149 (by decide +kernel) (by decide +kernel)
theorem k_fl_P_157 : Cond.fieldLink R_P 157 "PageParts$Covers" "top" "[I" ∈ z_gw := z_gwi 151 (by decide +kernel) (by decide +kernel)
theorem k_fl_P_16 : Cond.fieldLink R_P 16 "PageParts" "ink" "[Z" ∈ z_gw := z_gwi 211 (by decide +kernel) (by decide +kernel)
theorem k_fl_P_160 : Cond.fieldLink R_P 160 "PageParts$Covers" "wide" "[I" ∈ z_gw := z_gwi 153 (by decide +kernel) (by decide +kernel)
theorem k_fl_P_163 : Cond.fieldLink R_P 163 "PageParts$Covers" "high" "[I" ∈ z_gw := z_gwi 155 (by decide +kernel) (by decide +kernel)
theorem k_fl_P_166 : Cond.fieldLink R_P 166 "PageParts" "blackCount" "I" ∈ z_gw := z_gwi 217 (by decide +kernel) (by decide +kernel)
theorem k_fl_P_189 : Cond.fieldLink R_P 189 "PageParts" "stripCount" "I" ∈ z_gw := z_gwi 219 (by decide +kernel) (by decide +kernel)
theorem k_fl_P_19 : Cond.fieldLink R_P 19 "PageParts" "strips" "[I" ∈ z_gw := z_gwi 212 (by decide +kernel) (by decide +kernel)
theorem k_fl_P_192 : Cond.fieldLink R_P 192 "PageParts" "cleanCount" "I" ∈ z_gw := z_gwi 218 (by decide +kernel) (by decide +kernel)
theorem k_fl_P_219 : Cond.fieldLink R_P 219 "PageParts$Groups" "left" "[I" ∈ z_gw := z_gwi 101 (by decide +kernel) (by decide +kernel)
theorem k_fl_P_220 : Cond.fieldLink R_P 220 "PageParts$Groups" "top" "[I" ∈ z_gw := z_gwi 104 (by decide +kernel) (by decide +kernel)
theorem k_fl_P_225 : Cond.fieldLink R_P 225 "PageParts$Groups" "bottom" "[I" ∈ z_gw := z_gwi 110 (by decide +kernel) (by decide +kernel)
theorem k_fl_P_228 : Cond.fieldLink R_P 228 "PageParts$Groups" "right" "[I" ∈ z_gw := z_gwi 107 (by decide +kernel) (by decide +kernel)
theorem k_fl_P_27 : Cond.fieldLink R_P 27 "PageParts" "width" "I" ∈ z_gw := z_gwi 207 (by decide +kernel) (by decide +kernel)
theorem k_fl_P_31 : Cond.fieldLink R_P 31 "PageParts" "height" "I" ∈ z_gw := z_gwi 208 (by decide +kernel) (by decide +kernel)
theorem k_fl_P_39 : Cond.fieldLink R_P 39 "PageParts" "parts" "LPageParts$Groups;" ∈ z_gw := z_gwi 213 (by decide +kernel) (by decide +kernel)
theorem k_fl_P_43 : Cond.fieldLink R_P 43 "PageParts" "cells" "LPageParts$Groups;" ∈ z_gw := z_gwi 214 (by decide +kernel) (by decide +kernel)
theorem k_fl_P_49 : Cond.fieldLink R_P 49 "PageParts" "covers" "LPageParts$Covers;" ∈ z_gw := z_gwi 215 (by decide +kernel) (by decide +kernel)
theorem k_fl_P_56 : Cond.fieldLink R_P 56 "PageParts" "reading" "LPageParts$Reading;" ∈ z_gw := z_gwi 216 (by decide +kernel) (by decide +kernel)
theorem k_fl_P_60 : Cond.fieldLink R_P 60 "PageParts" "noiseNow" "I" ∈ z_gw := z_gwi 220 (by decide +kernel) (by decide +kernel)
theorem k_fl_P_66 : Cond.fieldLink R_P 66 "PageParts" "parted" "Z" ∈ z_gw := z_gwi 221 (by decide +kernel) (by decide +kernel)
theorem k_fl_P_9 : Cond.fieldLink R_P 9 "PageParts" "black" "[Z" ∈ z_gw := z_gwi 209 (by decide +kernel) (by decide +kernel)
theorem k_fl_R_15 : Cond.fieldLink R_R 15 "PageParts$Reading" "behind" "[I" ∈ z_gw := z_gwi 189 (by decide +kernel) (by decide +kernel)
theorem k_fl_R_18 : Cond.fieldLink R_R 18 "PageParts$Reading" "ends" "[I" ∈ z_gw := z_gwi 190 (by decide +kernel) (by decide +kernel)
theorem k_fl_R_25 : Cond.fieldLink R_R 25 "PageParts$Groups" "count" "I" ∈ z_gw := z_gwi 114 (by decide +kernel) (by decide +kernel)
theorem k_fl_R_42 : Cond.fieldLink R_R 42 "PageParts$Groups" "top" "[I" ∈ z_gw := z_gwi 103 (by decide +kernel) (by decide +kernel)
theorem k_fl_R_45 : Cond.fieldLink R_R 45 "PageParts$Groups" "left" "[I" ∈ z_gw := z_gwi 100 (by decide +kernel) (by decide +kernel)
theorem k_fl_R_48 : Cond.fieldLink R_R 48 "PageParts$Reading" "cutGap" "I" ∈ z_gw := z_gwi 192 (by decide +kernel) (by decide +kernel)
theorem k_fl_R_51 : Cond.fieldLink R_R 51 "PageParts$Groups" "right" "[I" ∈ z_gw := z_gwi 106 (by decide +kernel) (by decide +kernel)
theorem k_fl_R_58 : Cond.fieldLink R_R 58 "PageParts$Groups" "bottom" "[I" ∈ z_gw := z_gwi 109 (by decide +kernel) (by decide +kernel)
theorem k_fl_R_69 : Cond.fieldLink R_R 69 "PageParts$Reading" "cutAt" "I" ∈ z_gw := z_gwi 191 (by decide +kernel) (by decide +kernel)
theorem k_fl_R_72 : Cond.fieldLink R_R 72 "PageParts$Reading" "cutsRows" "Z" ∈ z_gw := z_gwi 193 (by decide +kernel) (by decide +kernel)
theorem k_fl_R_9 : Cond.fieldLink R_R 9 "PageParts$Reading" "sequence" "[I" ∈ z_gw := z_gwi 187 (by decide +kernel) (by decide +kernel)
theorem k_ml_C_3 : Cond.methodLink R_C 3 objectInit ∈ z_gw := z_gwi 147 (by decide +kernel) (by decide +kernel)
theorem k_ml_C_34 : Cond.methodLink R_C 34 y_C_measure ∈ z_gw := z_gwi 433 (by decide +kernel) (by decide +kernel)
theorem k_ml_C_41 : Cond.methodLink R_C 41 y_C_findGreatest ∈ z_gw := z_gwi 437 (by decide +kernel) (by decide +kernel)
theorem k_ml_C_48 : Cond.methodLink R_C 48 y_C_block ∈ z_gw := z_gwi 446 (by decide +kernel) (by decide +kernel)
theorem k_ml_C_51 : Cond.methodLink R_C 51 y_C_growFrom ∈ z_gw := z_gwi 441 (by decide +kernel) (by decide +kernel)
theorem k_ml_C_55 : Cond.methodLink R_C 55 Lib.Math.min.name ∈ z_gw := z_gwi 445 (by decide +kernel) (by decide +kernel)
theorem k_ml_C_61 : Cond.methodLink R_C 61 y_C_shortenBefore ∈ z_gw := z_gwi 450 (by decide +kernel) (by decide +kernel)
theorem k_ml_G_3 : Cond.methodLink R_G 3 objectInit ∈ z_gw := z_gwi 96 (by decide +kernel) (by decide +kernel)
theorem k_ml_G_40 : Cond.methodLink R_G 40 y_A_fill ∈ z_gw := z_gwi 400 (by decide +kernel) (by decide +kernel)
theorem k_ml_G_49 : Cond.methodLink R_G 49 y_G_isOpen ∈ z_gw := z_gwi 403 (by decide +kernel) (by decide +kernel)
theorem k_ml_G_53 : Cond.methodLink R_G 53 y_G_begin ∈ z_gw := z_gwi 407 (by decide +kernel) (by decide +kernel)
theorem k_ml_G_57 : Cond.methodLink R_G 57 y_G_gather ∈ z_gw := z_gwi 417 (by decide +kernel) (by decide +kernel)
theorem k_ml_G_61 : Cond.methodLink R_G 61 y_G_take ∈ z_gw := z_gwi 411 (by decide +kernel) (by decide +kernel)
theorem k_ml_G_64 : Cond.methodLink R_G 64 Lib.Math.min.name ∈ z_gw := z_gwi 415 (by decide +kernel) (by decide +kernel)
theorem k_ml_G_70 : Cond.methodLink R_G 70 Lib.Math.max.name ∈ z_gw := z_gwi 416 (by decide +kernel) (by decide +kernel)
theorem k_ml_G_73 : Cond.methodLink R_G 73 y_G_wideOf ∈ z_gw := z_gwi 581 (by decide +kernel) (by decide +kernel)
theorem k_ml_G_77 : Cond.methodLink R_G 77 y_G_highOf ∈ z_gw := z_gwi 582 (by decide +kernel) (by decide +kernel)
theorem k_ml_L_100 : Cond.methodLink R_L 100 y_M_order ∈ z_gw := z_gwi 874 (by decide +kernel) (by decide +kernel)
theorem k_ml_L_101 : Cond.methodLink R_L 101 y_L_cover ∈ z_gw := z_gwi 612 (by decide +kernel) (by decide +kernel)
theorem k_ml_L_103 : Cond.methodLink R_L 103 y_M_cover ∈ z_gw := z_gwi 878 (by decide +kernel) (by decide +kernel)
theorem k_ml_L_104 : Cond.methodLink R_L 104 y_L_strip ∈ z_gw := z_gwi 619 (by decide +kernel) (by decide +kernel)
theorem k_ml_L_106 : Cond.methodLink R_L 106 y_M_strip ∈ z_gw := z_gwi 882 (by decide +kernel) (by decide +kernel)
theorem k_ml_L_107 : Cond.methodLink R_L 107 y_L_cell2 ∈ z_gw := z_gwi 626 (by decide +kernel) (by decide +kernel)
theorem k_ml_L_109 : Cond.methodLink R_L 109 y_M_cell ∈ z_gw := z_gwi 886 (by decide +kernel) (by decide +kernel)
theorem k_ml_L_110 : Cond.methodLink R_L 110 y_L_isSpeck ∈ z_gw := z_gwi 633 (by decide +kernel) (by decide +kernel)
theorem k_ml_L_112 : Cond.methodLink R_L 112 y_M_isSpeck ∈ z_gw := z_gwi 890 (by decide +kernel) (by decide +kernel)
theorem k_ml_L_113 : Cond.methodLink R_L 113 y_P_told ∈ z_gw := z_gwi 253 (by decide +kernel) (by decide +kernel)
theorem k_ml_L_116 : Cond.methodLink R_L 116 y_M_told ∈ z_gw := z_gwi 894 (by decide +kernel) (by decide +kernel)
theorem k_ml_L_117 : Cond.methodLink R_L 117 y_P_clear ∈ z_gw := z_gwi 261 (by decide +kernel) (by decide +kernel)
theorem k_ml_L_120 : Cond.methodLink R_L 120 y_M_clear ∈ z_gw := z_gwi 758 (by decide +kernel) (by decide +kernel)
theorem k_ml_L_15 : Cond.methodLink R_L 15 y_P_fill ∈ z_gw := z_gwi 356 (by decide +kernel) (by decide +kernel)
theorem k_ml_L_21 : Cond.methodLink R_L 21 y_P_noise ∈ z_gw := z_gwi 379 (by decide +kernel) (by decide +kernel)
theorem k_ml_L_25 : Cond.methodLink R_L 25 y_P_run ∈ z_gw := z_gwi 387 (by decide +kernel) (by decide +kernel)
theorem k_ml_L_29 : Cond.methodLink R_L 29 y_P_part ∈ z_gw := z_gwi 502 (by decide +kernel) (by decide +kernel)
theorem k_ml_L_34 : Cond.methodLink R_L 34 y_P_partOf ∈ z_gw := z_gwi 586 (by decide +kernel) (by decide +kernel)
theorem k_ml_L_37 : Cond.methodLink R_L 37 y_P_line ∈ z_gw := z_gwi 593 (by decide +kernel) (by decide +kernel)
theorem k_ml_L_41 : Cond.methodLink R_L 41 y_P_order ∈ z_gw := z_gwi 608 (by decide +kernel) (by decide +kernel)
theorem k_ml_L_44 : Cond.methodLink R_L 44 y_P_cover ∈ z_gw := z_gwi 615 (by decide +kernel) (by decide +kernel)
theorem k_ml_L_47 : Cond.methodLink R_L 47 y_P_strip ∈ z_gw := z_gwi 622 (by decide +kernel) (by decide +kernel)
theorem k_ml_L_50 : Cond.methodLink R_L 50 y_P_cell ∈ z_gw := z_gwi 629 (by decide +kernel) (by decide +kernel)
theorem k_ml_L_53 : Cond.methodLink R_L 53 y_P_isSpeck ∈ z_gw := z_gwi 636 (by decide +kernel) (by decide +kernel)
theorem k_ml_L_57 : Cond.methodLink R_L 57 y_L_cell ∈ z_gw := z_gwi 265 (by decide +kernel) (by decide +kernel)
theorem k_ml_L_62 : Cond.methodLink R_L 62 y_P_init ∈ z_gw := z_gwi 76 (by decide +kernel) (by decide +kernel)
theorem k_ml_L_67 : Cond.methodLink R_L 67 y_M_init ∈ z_gw := z_gwi 642 (by decide +kernel) (by decide +kernel)
theorem k_ml_L_68 : Cond.methodLink R_L 68 y_L_put ∈ z_gw := z_gwi 268 (by decide +kernel) (by decide +kernel)
theorem k_ml_L_7 : Cond.methodLink R_L 7 y_P_put ∈ z_gw := z_gwi 272 (by decide +kernel) (by decide +kernel)
theorem k_ml_L_71 : Cond.methodLink R_L 71 y_M_put ∈ z_gw := z_gwi 735 (by decide +kernel) (by decide +kernel)
theorem k_ml_L_72 : Cond.methodLink R_L 72 y_M_thrown ∈ z_gw := z_gwi 731 (by decide +kernel) (by decide +kernel)
theorem k_ml_L_76 : Cond.methodLink R_L 76 y_L_fill ∈ z_gw := z_gwi 352 (by decide +kernel) (by decide +kernel)
theorem k_ml_L_79 : Cond.methodLink R_L 79 y_M_fill ∈ z_gw := z_gwi 750 (by decide +kernel) (by decide +kernel)
theorem k_ml_L_80 : Cond.methodLink R_L 80 y_L_noise ∈ z_gw := z_gwi 376 (by decide +kernel) (by decide +kernel)
theorem k_ml_L_83 : Cond.methodLink R_L 83 y_M_noise ∈ z_gw := z_gwi 754 (by decide +kernel) (by decide +kernel)
theorem k_ml_L_84 : Cond.methodLink R_L 84 y_L_run ∈ z_gw := z_gwi 384 (by decide +kernel) (by decide +kernel)
theorem k_ml_L_87 : Cond.methodLink R_L 87 y_M_run ∈ z_gw := z_gwi 762 (by decide +kernel) (by decide +kernel)
theorem k_ml_L_88 : Cond.methodLink R_L 88 y_L_part ∈ z_gw := z_gwi 498 (by decide +kernel) (by decide +kernel)
theorem k_ml_L_90 : Cond.methodLink R_L 90 y_M_part ∈ z_gw := z_gwi 854 (by decide +kernel) (by decide +kernel)
theorem k_ml_L_91 : Cond.methodLink R_L 91 y_L_partOf ∈ z_gw := z_gwi 583 (by decide +kernel) (by decide +kernel)
theorem k_ml_L_93 : Cond.methodLink R_L 93 y_M_partOf ∈ z_gw := z_gwi 866 (by decide +kernel) (by decide +kernel)
theorem k_ml_L_94 : Cond.methodLink R_L 94 y_L_line ∈ z_gw := z_gwi 590 (by decide +kernel) (by decide +kernel)
theorem k_ml_L_97 : Cond.methodLink R_L 97 y_M_line ∈ z_gw := z_gwi 870 (by decide +kernel) (by decide +kernel)
theorem k_ml_L_98 : Cond.methodLink R_L 98 y_L_order ∈ z_gw := z_gwi 605 (by decide +kernel) (by decide +kernel)
theorem k_ml_M_1 : Cond.methodLink R_M 1 objectInit ∈ z_gw := z_gwi 645 (by decide +kernel) (by decide +kernel)
theorem k_ml_M_101 : Cond.methodLink R_M 101 y_M_settles ∈ z_gw := z_gwi 778 (by decide +kernel) (by decide +kernel)
theorem k_ml_M_105 : Cond.methodLink R_M 105 y_M_group ∈ z_gw := z_gwi 770 (by decide +kernel) (by decide +kernel)
theorem k_ml_M_109 : Cond.methodLink R_M 109 y_M_sizeOf ∈ z_gw := z_gwi 782 (by decide +kernel) (by decide +kernel)
theorem k_ml_M_112 : Cond.methodLink R_M 112 y_M_inGap ∈ z_gw := z_gwi 786 (by decide +kernel) (by decide +kernel)
theorem k_ml_M_119 : Cond.methodLink R_M 119 y_M_kindOf ∈ z_gw := z_gwi 794 (by decide +kernel) (by decide +kernel)
theorem k_ml_M_123 : Cond.methodLink R_M 123 y_M_cleanIn ∈ z_gw := z_gwi 798 (by decide +kernel) (by decide +kernel)
theorem k_ml_M_130 : Cond.methodLink R_M 130 y_M_takeCover ∈ z_gw := z_gwi 806 (by decide +kernel) (by decide +kernel)
theorem k_ml_M_140 : Cond.methodLink R_M 140 y_M_isClosed ∈ z_gw := z_gwi 818 (by decide +kernel) (by decide +kernel)
theorem k_ml_M_144 : Cond.methodLink R_M 144 y_M_low ∈ z_gw := z_gwi 834 (by decide +kernel) (by decide +kernel)
theorem k_ml_M_148 : Cond.methodLink R_M 148 y_M_high ∈ z_gw := z_gwi 838 (by decide +kernel) (by decide +kernel)
theorem k_ml_M_151 : Cond.methodLink R_M 151 y_M_isBefore ∈ z_gw := z_gwi 850 (by decide +kernel) (by decide +kernel)
theorem k_ml_M_154 : Cond.methodLink R_M 154 y_M_swap ∈ z_gw := z_gwi 842 (by decide +kernel) (by decide +kernel)
theorem k_ml_M_158 : Cond.methodLink R_M 158 y_M_gap ∈ z_gw := z_gwi 830 (by decide +kernel) (by decide +kernel)
theorem k_ml_M_162 : Cond.methodLink R_M 162 y_M_parts ∈ z_gw := z_gwi 826 (by decide +kernel) (by decide +kernel)
theorem k_ml_M_165 : Cond.methodLink R_M 165 y_M_sort ∈ z_gw := z_gwi 846 (by decide +kernel) (by decide +kernel)
theorem k_ml_M_168 : Cond.methodLink R_M 168 y_M_takeInk ∈ z_gw := z_gwi 766 (by decide +kernel) (by decide +kernel)
theorem k_ml_M_171 : Cond.methodLink R_M 171 y_M_takeParts ∈ z_gw := z_gwi 790 (by decide +kernel) (by decide +kernel)
theorem k_ml_M_174 : Cond.methodLink R_M 174 y_M_takeCovers ∈ z_gw := z_gwi 802 (by decide +kernel) (by decide +kernel)
theorem k_ml_M_177 : Cond.methodLink R_M 177 y_M_takeStrips ∈ z_gw := z_gwi 810 (by decide +kernel) (by decide +kernel)
theorem k_ml_M_180 : Cond.methodLink R_M 180 y_M_takeCells ∈ z_gw := z_gwi 814 (by decide +kernel) (by decide +kernel)
theorem k_ml_M_183 : Cond.methodLink R_M 183 y_M_takeOrder ∈ z_gw := z_gwi 822 (by decide +kernel) (by decide +kernel)
theorem k_ml_M_186 : Cond.methodLink R_M 186 y_M_lines ∈ z_gw := z_gwi 858 (by decide +kernel) (by decide +kernel)
theorem k_ml_M_189 : Cond.methodLink R_M 189 y_M_inkOf ∈ z_gw := z_gwi 862 (by decide +kernel) (by decide +kernel)
theorem k_ml_M_69 : Cond.methodLink R_M 69 y_M_nearest ∈ z_gw := z_gwi 646 (by decide +kernel) (by decide +kernel)
theorem k_ml_M_82 : Cond.methodLink R_M 82 y_M_in ∈ z_gw := z_gwi 743 (by decide +kernel) (by decide +kernel)
theorem k_ml_M_86 : Cond.methodLink R_M 86 y_M_isSample ∈ z_gw := z_gwi 739 (by decide +kernel) (by decide +kernel)
theorem k_ml_M_90 : Cond.methodLink R_M 90 y_M_goes ∈ z_gw := z_gwi 746 (by decide +kernel) (by decide +kernel)
theorem k_ml_M_98 : Cond.methodLink R_M 98 y_M_is ∈ z_gw := z_gwi 774 (by decide +kernel) (by decide +kernel)
theorem k_ml_P_101 : Cond.methodLink R_P 101 y_C_find ∈ z_gw := z_gwi 429 (by decide +kernel) (by decide +kernel)
theorem k_ml_P_104 : Cond.methodLink R_P 104 y_P_findStrips ∈ z_gw := z_gwi 454 (by decide +kernel) (by decide +kernel)
theorem k_ml_P_107 : Cond.methodLink R_P 107 y_G_dropAtEdge ∈ z_gw := z_gwi 462 (by decide +kernel) (by decide +kernel)
theorem k_ml_P_110 : Cond.methodLink R_P 110 y_R_arrange ∈ z_gw := z_gwi 466 (by decide +kernel) (by decide +kernel)
theorem k_ml_P_117 : Cond.methodLink R_P 117 y_P_mustBeParted ∈ z_gw := z_gwi 506 (by decide +kernel) (by decide +kernel)
theorem k_ml_P_120 : Cond.methodLink R_P 120 y_P_mustBeBelow ∈ z_gw := z_gwi 526 (by decide +kernel) (by decide +kernel)
theorem k_ml_P_123 : Cond.methodLink R_P 123 y_P_mustBeTold ∈ z_gw := z_gwi 530 (by decide +kernel) (by decide +kernel)
theorem k_ml_P_126 : Cond.methodLink R_P 126 y_P_weightOf ∈ z_gw := z_gwi 534 (by decide +kernel) (by decide +kernel)
theorem k_ml_P_129 : Cond.methodLink R_P 129 y_P_kindOf ∈ z_gw := z_gwi 538 (by decide +kernel) (by decide +kernel)
theorem k_ml_P_132 : Cond.methodLink R_P 132 y_P_countLines ∈ z_gw := z_gwi 565 (by decide +kernel) (by decide +kernel)
theorem k_ml_P_138 : Cond.methodLink R_P 138 y_G_boxOf ∈ z_gw := z_gwi 577 (by decide +kernel) (by decide +kernel)
theorem k_ml_P_144 : Cond.methodLink R_P 144 y_P_firstRowOfLine ∈ z_gw := z_gwi 597 (by decide +kernel) (by decide +kernel)
theorem k_ml_P_147 : Cond.methodLink R_P 147 y_P_countRowsOfLine ∈ z_gw := z_gwi 601 (by decide +kernel) (by decide +kernel)
theorem k_ml_P_169 : Cond.methodLink R_P 169 y_P_toldOfParted ∈ z_gw := z_gwi 257 (by decide +kernel) (by decide +kernel)
theorem k_ml_P_172 : Cond.methodLink R_P 172 Lib.Math.max.name ∈ z_gw := z_gwi 88 (by decide +kernel) (by decide +kernel)
theorem k_ml_P_179 : Cond.methodLink R_P 179 ⟨"java/lang/IllegalStateException", "<init>", "(Ljava/lang/String;)V"⟩ ∈ z_gw := z_gwi 520 (by decide +kernel) (by decide +kernel)
theorem k_ml_P_184 : Cond.methodLink R_P 184 ⟨"java/lang/IndexOutOfBoundsException", "<init>", "(Ljava/lang/String;)V"⟩ ∈ z_gw := z_gwi 322 (by decide +kernel) (by decide +kernel)
theorem k_ml_P_195 : Cond.methodLink R_P 195 y_P_smearAlong ∈ z_gw := z_gwi 425 (by decide +kernel) (by decide +kernel)
theorem k_ml_P_199 : Cond.methodLink R_P 199 y_P_hasInk ∈ z_gw := z_gwi 458 (by decide +kernel) (by decide +kernel)
theorem k_ml_P_203 : Cond.methodLink R_P 203 y_G_wideOf ∈ z_gw := z_gwi 542 (by decide +kernel) (by decide +kernel)
theorem k_ml_P_206 : Cond.methodLink R_P 206 y_G_highOf ∈ z_gw := z_gwi 546 (by decide +kernel) (by decide +kernel)
theorem k_ml_P_209 : Cond.methodLink R_P 209 y_P_isThin ∈ z_gw := z_gwi 550 (by decide +kernel) (by decide +kernel)
theorem k_ml_P_213 : Cond.methodLink R_P 213 y_P_isFramed ∈ z_gw := z_gwi 553 (by decide +kernel) (by decide +kernel)
theorem k_ml_P_216 : Cond.methodLink R_P 216 y_P_isMostlyEmptyWithin ∈ z_gw := z_gwi 561 (by decide +kernel) (by decide +kernel)
theorem k_ml_P_221 : Cond.methodLink R_P 221 y_P_countClean ∈ z_gw := z_gwi 557 (by decide +kernel) (by decide +kernel)
theorem k_ml_P_23 : Cond.methodLink R_P 23 y_P_nearestSide ∈ z_gw := z_gwi 82 (by decide +kernel) (by decide +kernel)
theorem k_ml_P_231 : Cond.methodLink R_P 231 y_P_beginsLine ∈ z_gw := z_gwi 569 (by decide +kernel) (by decide +kernel)
theorem k_ml_P_234 : Cond.methodLink R_P 234 y_P_hasCleanOf ∈ z_gw := z_gwi 573 (by decide +kernel) (by decide +kernel)
theorem k_ml_P_3 : Cond.methodLink R_P 3 objectInit ∈ z_gw := z_gwi 79 (by decide +kernel) (by decide +kernel)
theorem k_ml_P_36 : Cond.methodLink R_P 36 y_G_init ∈ z_gw := z_gwi 93 (by decide +kernel) (by decide +kernel)
theorem k_ml_P_48 : Cond.methodLink R_P 48 y_C_init ∈ z_gw := z_gwi 144 (by decide +kernel) (by decide +kernel)
theorem k_ml_P_63 : Cond.methodLink R_P 63 y_P_mustBeSample ∈ z_gw := z_gwi 276 (by decide +kernel) (by decide +kernel)
theorem k_ml_P_70 : Cond.methodLink R_P 70 y_P_paint ∈ z_gw := z_gwi 348 (by decide +kernel) (by decide +kernel)
theorem k_ml_P_78 : Cond.methodLink R_P 78 ⟨"java/lang/IllegalArgumentException", "<init>", "(Ljava/lang/String;)V"⟩ ∈ z_gw := z_gwi 370 (by decide +kernel) (by decide +kernel)
theorem k_ml_P_81 : Cond.methodLink R_P 81 Lib.Math.min.name ∈ z_gw := z_gwi 85 (by decide +kernel) (by decide +kernel)
theorem k_ml_P_91 : Cond.methodLink R_P 91 y_P_findClean ∈ z_gw := z_gwi 392 (by decide +kernel) (by decide +kernel)
theorem k_ml_P_94 : Cond.methodLink R_P 94 y_P_smear ∈ z_gw := z_gwi 421 (by decide +kernel) (by decide +kernel)
theorem k_ml_P_97 : Cond.methodLink R_P 97 y_G_find ∈ z_gw := z_gwi 396 (by decide +kernel) (by decide +kernel)
theorem k_ml_R_21 : Cond.methodLink R_R 21 y_R_sortByBoxes ∈ z_gw := z_gwi 470 (by decide +kernel) (by decide +kernel)
theorem k_ml_R_3 : Cond.methodLink R_R 3 objectInit ∈ z_gw := z_gwi 186 (by decide +kernel) (by decide +kernel)
theorem k_ml_R_31 : Cond.methodLink R_R 31 y_R_findCut ∈ z_gw := z_gwi 477 (by decide +kernel) (by decide +kernel)
theorem k_ml_R_35 : Cond.methodLink R_R 35 y_R_divide ∈ z_gw := z_gwi 491 (by decide +kernel) (by decide +kernel)
theorem k_ml_R_39 : Cond.methodLink R_R 39 y_R_isBefore ∈ z_gw := z_gwi 474 (by decide +kernel) (by decide +kernel)
theorem k_ml_R_54 : Cond.methodLink R_R 54 y_R_lookAlong ∈ z_gw := z_gwi 481 (by decide +kernel) (by decide +kernel)
theorem k_ml_R_61 : Cond.methodLink R_R 61 y_R_bits ∈ z_gw := z_gwi 485 (by decide +kernel) (by decide +kernel)
theorem k_ml_R_65 : Cond.methodLink R_R 65 y_R_hasBit ∈ z_gw := z_gwi 488 (by decide +kernel) (by decide +kernel)
theorem k_ml_R_76 : Cond.methodLink R_R 76 arraycopyName ∈ z_gw := z_gwi 495 (by decide +kernel) (by decide +kernel)
theorem k_st_min : Cond.static Lib.Math.min.name ∈ z_gw := z_gwi 86 (by decide +kernel) (by decide +kernel)
theorem k_st_max : Cond.static Lib.Math.max.name ∈ z_gw := z_gwi 89 (by decide +kernel) (by decide +kernel)
theorem k_st_arraycopy : Cond.static arraycopyName ∈ z_gw := z_gwi 496 (by decide +kernel) (by decide +kernel)
theorem k_in_Math : Cond.initialized "java/lang/Math" ∈ z_gw := z_gwi 61 (by decide +kernel) (by decide +kernel)
theorem k_in_System : Cond.initialized "java/lang/System" ∈ z_gw := z_gwi 72 (by decide +kernel) (by decide +kernel)
theorem k_nt_arraycopy : Cond.native arraycopyName ∈ z_gw := z_gwi 497 (by decide +kernel) (by decide +kernel)
theorem k_co_min : Cond.code Lib.Math.min.name Lib.Math.min.code 2 (some .int) ∈ z_gw := z_gwi 87 (by decide +kernel) (by decide +kernel)
theorem k_co_max : Cond.code Lib.Math.max.name Lib.Math.max.code 2 (some .int) ∈ z_gw := z_gwi 90 (by decide +kernel) (by decide +kernel)
theorem k_in_P : Cond.initialized R_P ∈ z_gw := z_gwi 60 (by decide +kernel) (by decide +kernel)
theorem k_in_G : Cond.initialized R_G ∈ z_gw := z_gwi 62 (by decide +kernel) (by decide +kernel)
theorem k_in_C : Cond.initialized R_C ∈ z_gw := z_gwi 63 (by decide +kernel) (by decide +kernel)
theorem k_in_R : Cond.initialized R_R ∈ z_gw := z_gwi 64 (by decide +kernel) (by decide +kernel)
theorem k_in_M : Cond.initialized R_M ∈ z_gw := z_gwi 65 (by decide +kernel) (by decide +kernel)
theorem k_in_L : Cond.initialized R_L ∈ z_gw := z_gwi 59 (by decide +kernel) (by decide +kernel)
abbrev zS : Type := Nat → Nat → Int32
abbrev zK : Type := (Nat × Nat) ⊕ (Nat × List (Option Nat))
abbrev z_ix (i : Int32) : Nat := i.toNatClampNeg
abbrev z_bo (v : Int32) : Prop := v = 0 ∨ v = 1
def z_kd : Nat → zK
  | 0 => .inr (0, [none, none, some 1, some 2, some 3, some 4, some 5, some 13, some 21, some 27, none, none, none, none, none])
  | 1 => .inl (1, 576)
  | 2 => .inl (1, 576)
  | 3 => .inl (1, 576)
  | 4 => .inl (0, 24)
  | 5 => .inr (1, [some 6, some 7, some 8, some 9, some 10, some 11, none, some 12, none, none])
  | 6 => .inl (0, 576)
  | 7 => .inl (0, 288)
  | 8 => .inl (0, 288)
  | 9 => .inl (0, 288)
  | 10 => .inl (0, 288)
  | 11 => .inl (0, 288)
  | 12 => .inl (0, 576)
  | 13 => .inr (1, [some 14, some 15, some 16, some 17, some 18, some 19, none, some 20, none, none])
  | 14 => .inl (0, 576)
  | 15 => .inl (0, 288)
  | 16 => .inl (0, 288)
  | 17 => .inl (0, 288)
  | 18 => .inl (0, 288)
  | 19 => .inl (0, 288)
  | 20 => .inl (0, 576)
  | 21 => .inr (2, [some 22, some 23, some 24, some 25, none, some 26, none, none, none])
  | 22 => .inl (0, 6)
  | 23 => .inl (0, 6)
  | 24 => .inl (0, 6)
  | 25 => .inl (0, 6)
  | 26 => .inl (0, 576)
  | 27 => .inr (3, [some 28, some 29, some 30, none, none, none])
  | 28 => .inl (0, 288)
  | 29 => .inl (0, 288)
  | 30 => .inl (0, 288)
  | 31 => .inr (4, [none, none, none, some 32, none, none, some 33, some 34, some 35, some 36, some 37, some 38, none, some 39, some 40, some 41, some 42, some 43, some 44, none, some 45, none, some 46, none, some 47, some 48, some 49])
  | 32 => .inl (1, 576)
  | 33 => .inl (1, 576)
  | 34 => .inl (1, 576)
  | 35 => .inl (1, 576)
  | 36 => .inl (1, 576)
  | 37 => .inl (0, 576)
  | 38 => .inl (0, 576)
  | 39 => .inl (0, 300)
  | 40 => .inl (0, 300)
  | 41 => .inl (0, 300)
  | 42 => .inl (0, 300)
  | 43 => .inl (0, 300)
  | 44 => .inl (0, 300)
  | 45 => .inl (0, 24)
  | 46 => .inl (0, 24)
  | 47 => .inl (0, 576)
  | 48 => .inl (0, 300)
  | 49 => .inl (0, 300)
  | 50 => .inl (2, 1)
  | _ => .inl (0, 0)
theorem kd_0 : z_kd 0 = .inr (0, [none, none, some 1, some 2, some 3, some 4, some 5, some 13, some 21, some 27, none, none, none, none, none]) := rfl
theorem kd_1 : z_kd 1 = .inl (1, 576) := rfl
theorem kd_2 : z_kd 2 = .inl (1, 576) := rfl
theorem kd_3 : z_kd 3 = .inl (1, 576) := rfl
theorem kd_4 : z_kd 4 = .inl (0, 24) := rfl
theorem kd_5 : z_kd 5 = .inr (1, [some 6, some 7, some 8, some 9, some 10, some 11, none, some 12, none, none]) := rfl
theorem kd_6 : z_kd 6 = .inl (0, 576) := rfl
theorem kd_7 : z_kd 7 = .inl (0, 288) := rfl
theorem kd_8 : z_kd 8 = .inl (0, 288) := rfl
theorem kd_9 : z_kd 9 = .inl (0, 288) := rfl
theorem kd_10 : z_kd 10 = .inl (0, 288) := rfl
theorem kd_11 : z_kd 11 = .inl (0, 288) := rfl
theorem kd_12 : z_kd 12 = .inl (0, 576) := rfl
theorem kd_13 : z_kd 13 = .inr (1, [some 14, some 15, some 16, some 17, some 18, some 19, none, some 20, none, none]) := rfl
theorem kd_14 : z_kd 14 = .inl (0, 576) := rfl
theorem kd_15 : z_kd 15 = .inl (0, 288) := rfl
theorem kd_16 : z_kd 16 = .inl (0, 288) := rfl
theorem kd_17 : z_kd 17 = .inl (0, 288) := rfl
theorem kd_18 : z_kd 18 = .inl (0, 288) := rfl
theorem kd_19 : z_kd 19 = .inl (0, 288) := rfl
theorem kd_20 : z_kd 20 = .inl (0, 576) := rfl
theorem kd_21 : z_kd 21 = .inr (2, [some 22, some 23, some 24, some 25, none, some 26, none, none, none]) := rfl
theorem kd_22 : z_kd 22 = .inl (0, 6) := rfl
theorem kd_23 : z_kd 23 = .inl (0, 6) := rfl
theorem kd_24 : z_kd 24 = .inl (0, 6) := rfl
theorem kd_25 : z_kd 25 = .inl (0, 6) := rfl
theorem kd_26 : z_kd 26 = .inl (0, 576) := rfl
theorem kd_27 : z_kd 27 = .inr (3, [some 28, some 29, some 30, none, none, none]) := rfl
theorem kd_28 : z_kd 28 = .inl (0, 288) := rfl
theorem kd_29 : z_kd 29 = .inl (0, 288) := rfl
theorem kd_30 : z_kd 30 = .inl (0, 288) := rfl
theorem kd_31 : z_kd 31 = .inr (4, [none, none, none, some 32, none, none, some 33, some 34, some 35, some 36, some 37, some 38, none, some 39, some 40, some 41, some 42, some 43, some 44, none, some 45, none, some 46, none, some 47, some 48, some 49]) := rfl
theorem kd_32 : z_kd 32 = .inl (1, 576) := rfl
theorem kd_33 : z_kd 33 = .inl (1, 576) := rfl
theorem kd_34 : z_kd 34 = .inl (1, 576) := rfl
theorem kd_35 : z_kd 35 = .inl (1, 576) := rfl
theorem kd_36 : z_kd 36 = .inl (1, 576) := rfl
theorem kd_37 : z_kd 37 = .inl (0, 576) := rfl
theorem kd_38 : z_kd 38 = .inl (0, 576) := rfl
theorem kd_39 : z_kd 39 = .inl (0, 300) := rfl
theorem kd_40 : z_kd 40 = .inl (0, 300) := rfl
theorem kd_41 : z_kd 41 = .inl (0, 300) := rfl
theorem kd_42 : z_kd 42 = .inl (0, 300) := rfl
theorem kd_43 : z_kd 43 = .inl (0, 300) := rfl
theorem kd_44 : z_kd 44 = .inl (0, 300) := rfl
theorem kd_45 : z_kd 45 = .inl (0, 24) := rfl
theorem kd_46 : z_kd 46 = .inl (0, 24) := rfl
theorem kd_47 : z_kd 47 = .inl (0, 576) := rfl
theorem kd_48 : z_kd 48 = .inl (0, 300) := rfl
theorem kd_49 : z_kd 49 = .inl (0, 300) := rfl
theorem kd_50 : z_kd 50 = .inl (2, 1) := rfl
/-- a Groups and its arrays from cell g on -/
def z_G (g : Nat) : Prop := g + 7 < 51 ∧ z_kd g = .inr (1, [some (g + 1), some (g + 2), some (g + 3), some (g + 4), some (g + 5), some (g + 6), none, some (g + 7), none, none]) ∧ z_kd (g + 1) = .inl (0, 576) ∧ z_kd (g + 2) = .inl (0, 288) ∧ z_kd (g + 3) = .inl (0, 288) ∧ z_kd (g + 4) = .inl (0, 288) ∧ z_kd (g + 5) = .inl (0, 288) ∧ z_kd (g + 6) = .inl (0, 288) ∧ z_kd (g + 7) = .inl (0, 576)
theorem z_lt0 {g : Nat} (h : z_G g) : g < 51 := by have := h.1; omega
theorem z_lt {g : Nat} (h : z_G g) (k : Nat) (hk : k < 8) : g + k < 51 := by have := h.1; omega
theorem z_G_5 : z_G 5 := ⟨by decide, rfl, rfl, rfl, rfl, rfl, rfl, rfl, rfl⟩
theorem z_G_13 : z_G 13 := ⟨by decide, rfl, rfl, rfl, rfl, rfl, rfl, rfl, rfl⟩
def z_B (k : Nat) : Prop := k < 51 ∧ z_kd k = .inl (1, 576)
theorem z_B_1 : z_B 1 := ⟨by decide, rfl⟩
theorem z_B_2 : z_B 2 := ⟨by decide, rfl⟩
theorem z_B_3 : z_B 3 := ⟨by decide, rfl⟩
def z_A (k : Nat) : Prop := k < 51 ∧ z_kd k = .inl (0, 288)
def z_F (k : Nat) : Prop := k < 51 ∧ z_kd k = .inl (0, 576)
theorem z_A_7 : z_A 7 := ⟨by decide, rfl⟩
theorem z_A_8 : z_A 8 := ⟨by decide, rfl⟩
theorem z_A_9 : z_A 9 := ⟨by decide, rfl⟩
theorem z_A_10 : z_A 10 := ⟨by decide, rfl⟩
theorem z_A_11 : z_A 11 := ⟨by decide, rfl⟩
