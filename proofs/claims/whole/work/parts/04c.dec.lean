theorem d_P_isSpeck_0 : decode b_P_isSpeck 0 = .ok (.aload_n 0, 1) := by decide +kernel
theorem d_P_isSpeck_1 : decode b_P_isSpeck 1 = .ok (.invokevirtual 117, 3) := by decide +kernel
theorem d_P_isSpeck_4 : decode b_P_isSpeck 4 = .ok (.aload_n 0, 1) := by decide +kernel
theorem d_P_isSpeck_5 : decode b_P_isSpeck 5 = .ok (.iload_n 1, 1) := by decide +kernel
theorem d_P_isSpeck_6 : decode b_P_isSpeck 6 = .ok (.iload_n 2, 1) := by decide +kernel
theorem d_P_isSpeck_7 : decode b_P_isSpeck 7 = .ok (.invokevirtual 63, 3) := by decide +kernel
theorem d_P_isSpeck_10 : decode b_P_isSpeck 10 = .ok (.iload_n 2, 1) := by decide +kernel
theorem d_P_isSpeck_11 : decode b_P_isSpeck 11 = .ok (.bipush 24, 2) := by decide +kernel
theorem d_P_isSpeck_13 : decode b_P_isSpeck 13 = .ok (.imul, 1) := by decide +kernel
theorem d_P_isSpeck_14 : decode b_P_isSpeck 14 = .ok (.iload_n 1, 1) := by decide +kernel
theorem d_P_isSpeck_15 : decode b_P_isSpeck 15 = .ok (.iadd, 1) := by decide +kernel
theorem d_P_isSpeck_16 : decode b_P_isSpeck 16 = .ok (.istore_n 3, 1) := by decide +kernel
theorem d_P_isSpeck_17 : decode b_P_isSpeck 17 = .ok (.aload_n 0, 1) := by decide +kernel
theorem d_P_isSpeck_18 : decode b_P_isSpeck 18 = .ok (.getfield 9, 3) := by decide +kernel
theorem d_P_isSpeck_21 : decode b_P_isSpeck 21 = .ok (.iload_n 3, 1) := by decide +kernel
theorem d_P_isSpeck_22 : decode b_P_isSpeck 22 = .ok (.baload, 1) := by decide +kernel
theorem d_P_isSpeck_23 : decode b_P_isSpeck 23 = .ok (.ifCond .eq 16, 3) := by decide +kernel
theorem d_P_isSpeck_26 : decode b_P_isSpeck 26 = .ok (.aload_n 0, 1) := by decide +kernel
theorem d_P_isSpeck_27 : decode b_P_isSpeck 27 = .ok (.getfield 13, 3) := by decide +kernel
theorem d_P_isSpeck_30 : decode b_P_isSpeck 30 = .ok (.iload_n 3, 1) := by decide +kernel
theorem d_P_isSpeck_31 : decode b_P_isSpeck 31 = .ok (.baload, 1) := by decide +kernel
theorem d_P_isSpeck_32 : decode b_P_isSpeck 32 = .ok (.ifCond .ne 7, 3) := by decide +kernel
theorem d_P_isSpeck_35 : decode b_P_isSpeck 35 = .ok (.iconst 1, 1) := by decide +kernel
theorem d_P_isSpeck_36 : decode b_P_isSpeck 36 = .ok (.goto 4, 3) := by decide +kernel
theorem d_P_isSpeck_39 : decode b_P_isSpeck 39 = .ok (.iconst 0, 1) := by decide +kernel
theorem d_P_isSpeck_40 : decode b_P_isSpeck 40 = .ok (.ireturn, 1) := by decide +kernel
theorem d_P_told_0 : decode b_P_told 0 = .ok (.iload_n 1, 1) := by decide +kernel
theorem d_P_told_1 : decode b_P_told 1 = .ok (.tableswitch 42 0 2 #[27, 32, 37], 27) := by decide +kernel
theorem d_P_told_28 : decode b_P_told 28 = .ok (.aload_n 0, 1) := by decide +kernel
theorem d_P_told_29 : decode b_P_told 29 = .ok (.getfield 27, 3) := by decide +kernel
theorem d_P_told_32 : decode b_P_told 32 = .ok (.ireturn, 1) := by decide +kernel
theorem d_P_told_33 : decode b_P_told 33 = .ok (.aload_n 0, 1) := by decide +kernel
theorem d_P_told_34 : decode b_P_told 34 = .ok (.getfield 31, 3) := by decide +kernel
theorem d_P_told_37 : decode b_P_told 37 = .ok (.ireturn, 1) := by decide +kernel
theorem d_P_told_38 : decode b_P_told 38 = .ok (.aload_n 0, 1) := by decide +kernel
theorem d_P_told_39 : decode b_P_told 39 = .ok (.getfield 166, 3) := by decide +kernel
theorem d_P_told_42 : decode b_P_told 42 = .ok (.ireturn, 1) := by decide +kernel
theorem d_P_told_43 : decode b_P_told 43 = .ok (.aload_n 0, 1) := by decide +kernel
theorem d_P_told_44 : decode b_P_told 44 = .ok (.getfield 66, 3) := by decide +kernel
theorem d_P_told_47 : decode b_P_told 47 = .ok (.ifCond .eq 11, 3) := by decide +kernel
theorem d_P_told_50 : decode b_P_told 50 = .ok (.aload_n 0, 1) := by decide +kernel
theorem d_P_told_51 : decode b_P_told 51 = .ok (.iload_n 1, 1) := by decide +kernel
theorem d_P_told_52 : decode b_P_told 52 = .ok (.invokevirtual 169, 3) := by decide +kernel
theorem d_P_told_55 : decode b_P_told 55 = .ok (.goto 4, 3) := by decide +kernel
theorem d_P_told_58 : decode b_P_told 58 = .ok (.iconst (-1), 1) := by decide +kernel
theorem d_P_told_59 : decode b_P_told 59 = .ok (.ireturn, 1) := by decide +kernel
theorem d_P_clear_0 : decode b_P_clear 0 = .ok (.iconst 0, 1) := by decide +kernel
theorem d_P_clear_1 : decode b_P_clear 1 = .ok (.istore_n 1, 1) := by decide +kernel
theorem d_P_clear_2 : decode b_P_clear 2 = .ok (.iload_n 1, 1) := by decide +kernel
theorem d_P_clear_3 : decode b_P_clear 3 = .ok (.sipush 576, 3) := by decide +kernel
theorem d_P_clear_6 : decode b_P_clear 6 = .ok (.if_icmp .ge 16, 3) := by decide +kernel
theorem d_P_clear_9 : decode b_P_clear 9 = .ok (.aload_n 0, 1) := by decide +kernel
theorem d_P_clear_10 : decode b_P_clear 10 = .ok (.getfield 9, 3) := by decide +kernel
theorem d_P_clear_13 : decode b_P_clear 13 = .ok (.iload_n 1, 1) := by decide +kernel
theorem d_P_clear_14 : decode b_P_clear 14 = .ok (.iconst 0, 1) := by decide +kernel
theorem d_P_clear_15 : decode b_P_clear 15 = .ok (.bastore, 1) := by decide +kernel
theorem d_P_clear_16 : decode b_P_clear 16 = .ok (.iinc 1 1, 3) := by decide +kernel
theorem d_P_clear_19 : decode b_P_clear 19 = .ok (.goto (-17), 3) := by decide +kernel
theorem d_P_clear_22 : decode b_P_clear 22 = .ok (.aload_n 0, 1) := by decide +kernel
theorem d_P_clear_23 : decode b_P_clear 23 = .ok (.iconst 0, 1) := by decide +kernel
theorem d_P_clear_24 : decode b_P_clear 24 = .ok (.putfield 166, 3) := by decide +kernel
theorem d_P_clear_27 : decode b_P_clear 27 = .ok (.aload_n 0, 1) := by decide +kernel
theorem d_P_clear_28 : decode b_P_clear 28 = .ok (.iconst 3, 1) := by decide +kernel
theorem d_P_clear_29 : decode b_P_clear 29 = .ok (.putfield 60, 3) := by decide +kernel
theorem d_P_clear_32 : decode b_P_clear 32 = .ok (.aload_n 0, 1) := by decide +kernel
theorem d_P_clear_33 : decode b_P_clear 33 = .ok (.iconst 0, 1) := by decide +kernel
theorem d_P_clear_34 : decode b_P_clear 34 = .ok (.putfield 66, 3) := by decide +kernel
theorem d_P_clear_37 : decode b_P_clear 37 = .ok (.return_, 1) := by decide +kernel
theorem d_P_nearestSide_0 : decode b_P_nearestSide 0 = .ok (.iconst 1, 1) := by decide +kernel
theorem d_P_nearestSide_1 : decode b_P_nearestSide 1 = .ok (.bipush 24, 2) := by decide +kernel
theorem d_P_nearestSide_3 : decode b_P_nearestSide 3 = .ok (.iload_n 0, 1) := by decide +kernel
theorem d_P_nearestSide_4 : decode b_P_nearestSide 4 = .ok (.invokestatic 81, 3) := by decide +kernel
theorem d_P_nearestSide_7 : decode b_P_nearestSide 7 = .ok (.invokestatic 172, 3) := by decide +kernel
theorem d_P_nearestSide_10 : decode b_P_nearestSide 10 = .ok (.ireturn, 1) := by decide +kernel
theorem d_P_mustBeParted_0 : decode b_P_mustBeParted 0 = .ok (.aload_n 0, 1) := by decide +kernel
theorem d_P_mustBeParted_1 : decode b_P_mustBeParted 1 = .ok (.getfield 66, 3) := by decide +kernel
theorem d_P_mustBeParted_4 : decode b_P_mustBeParted 4 = .ok (.ifCond .ne 13, 3) := by decide +kernel
theorem d_P_mustBeParted_7 : decode b_P_mustBeParted 7 = .ok (.new 175, 3) := by decide +kernel
theorem d_P_mustBeParted_10 : decode b_P_mustBeParted 10 = .ok (.dup, 1) := by decide +kernel
theorem d_P_mustBeParted_11 : decode b_P_mustBeParted 11 = .ok (.ldc 177, 2) := by decide +kernel
theorem d_P_mustBeParted_13 : decode b_P_mustBeParted 13 = .ok (.invokespecial 179, 3) := by decide +kernel
theorem d_P_mustBeParted_16 : decode b_P_mustBeParted 16 = .ok (.athrow, 1) := by decide +kernel
theorem d_P_mustBeParted_17 : decode b_P_mustBeParted 17 = .ok (.return_, 1) := by decide +kernel
theorem d_P_mustBeSample_0 : decode b_P_mustBeSample 0 = .ok (.iload_n 1, 1) := by decide +kernel
theorem d_P_mustBeSample_1 : decode b_P_mustBeSample 1 = .ok (.ifCond .lt 23, 3) := by decide +kernel
theorem d_P_mustBeSample_4 : decode b_P_mustBeSample 4 = .ok (.iload_n 1, 1) := by decide +kernel
theorem d_P_mustBeSample_5 : decode b_P_mustBeSample 5 = .ok (.aload_n 0, 1) := by decide +kernel
theorem d_P_mustBeSample_6 : decode b_P_mustBeSample 6 = .ok (.getfield 27, 3) := by decide +kernel
theorem d_P_mustBeSample_9 : decode b_P_mustBeSample 9 = .ok (.if_icmp .ge 15, 3) := by decide +kernel
theorem d_P_mustBeSample_12 : decode b_P_mustBeSample 12 = .ok (.iload_n 2, 1) := by decide +kernel
theorem d_P_mustBeSample_13 : decode b_P_mustBeSample 13 = .ok (.ifCond .lt 11, 3) := by decide +kernel
theorem d_P_mustBeSample_16 : decode b_P_mustBeSample 16 = .ok (.iload_n 2, 1) := by decide +kernel
theorem d_P_mustBeSample_17 : decode b_P_mustBeSample 17 = .ok (.aload_n 0, 1) := by decide +kernel
theorem d_P_mustBeSample_18 : decode b_P_mustBeSample 18 = .ok (.getfield 31, 3) := by decide +kernel
theorem d_P_mustBeSample_21 : decode b_P_mustBeSample 21 = .ok (.if_icmp .lt 13, 3) := by decide +kernel
theorem d_P_mustBeSample_24 : decode b_P_mustBeSample 24 = .ok (.new 180, 3) := by decide +kernel
theorem d_P_mustBeSample_27 : decode b_P_mustBeSample 27 = .ok (.dup, 1) := by decide +kernel
theorem d_P_mustBeSample_28 : decode b_P_mustBeSample 28 = .ok (.ldc 182, 2) := by decide +kernel
theorem d_P_mustBeSample_30 : decode b_P_mustBeSample 30 = .ok (.invokespecial 184, 3) := by decide +kernel
theorem d_P_mustBeSample_33 : decode b_P_mustBeSample 33 = .ok (.athrow, 1) := by decide +kernel
theorem d_P_mustBeSample_34 : decode b_P_mustBeSample 34 = .ok (.return_, 1) := by decide +kernel
theorem d_P_mustBeBelow_0 : decode b_P_mustBeBelow 0 = .ok (.iload_n 0, 1) := by decide +kernel
theorem d_P_mustBeBelow_1 : decode b_P_mustBeBelow 1 = .ok (.ifCond .lt 8, 3) := by decide +kernel
theorem d_P_mustBeBelow_4 : decode b_P_mustBeBelow 4 = .ok (.iload_n 0, 1) := by decide +kernel
theorem d_P_mustBeBelow_5 : decode b_P_mustBeBelow 5 = .ok (.iload_n 1, 1) := by decide +kernel
theorem d_P_mustBeBelow_6 : decode b_P_mustBeBelow 6 = .ok (.if_icmp .lt 13, 3) := by decide +kernel
theorem d_P_mustBeBelow_9 : decode b_P_mustBeBelow 9 = .ok (.new 180, 3) := by decide +kernel
theorem d_P_mustBeBelow_12 : decode b_P_mustBeBelow 12 = .ok (.dup, 1) := by decide +kernel
theorem d_P_mustBeBelow_13 : decode b_P_mustBeBelow 13 = .ok (.ldc 185, 2) := by decide +kernel
theorem d_P_mustBeBelow_15 : decode b_P_mustBeBelow 15 = .ok (.invokespecial 184, 3) := by decide +kernel
theorem d_P_mustBeBelow_18 : decode b_P_mustBeBelow 18 = .ok (.athrow, 1) := by decide +kernel
theorem d_P_mustBeBelow_19 : decode b_P_mustBeBelow 19 = .ok (.return_, 1) := by decide +kernel
theorem d_P_mustBeTold_0 : decode b_P_mustBeTold 0 = .ok (.iload_n 0, 1) := by decide +kernel
theorem d_P_mustBeTold_1 : decode b_P_mustBeTold 1 = .ok (.ifCond .lt 8, 3) := by decide +kernel
theorem d_P_mustBeTold_4 : decode b_P_mustBeTold 4 = .ok (.iload_n 0, 1) := by decide +kernel
theorem d_P_mustBeTold_5 : decode b_P_mustBeTold 5 = .ok (.iload_n 1, 1) := by decide +kernel
theorem d_P_mustBeTold_6 : decode b_P_mustBeTold 6 = .ok (.if_icmp .lt 13, 3) := by decide +kernel
theorem d_P_mustBeTold_9 : decode b_P_mustBeTold 9 = .ok (.new 74, 3) := by decide +kernel
theorem d_P_mustBeTold_12 : decode b_P_mustBeTold 12 = .ok (.dup, 1) := by decide +kernel
theorem d_P_mustBeTold_13 : decode b_P_mustBeTold 13 = .ok (.ldc 187, 2) := by decide +kernel
theorem d_P_mustBeTold_15 : decode b_P_mustBeTold 15 = .ok (.invokespecial 78, 3) := by decide +kernel
theorem d_P_mustBeTold_18 : decode b_P_mustBeTold 18 = .ok (.athrow, 1) := by decide +kernel
theorem d_P_mustBeTold_19 : decode b_P_mustBeTold 19 = .ok (.return_, 1) := by decide +kernel
theorem d_P_paint_0 : decode b_P_paint 0 = .ok (.iload_n 2, 1) := by decide +kernel
theorem d_P_paint_1 : decode b_P_paint 1 = .ok (.bipush 24, 2) := by decide +kernel
theorem d_P_paint_3 : decode b_P_paint 3 = .ok (.imul, 1) := by decide +kernel
theorem d_P_paint_4 : decode b_P_paint 4 = .ok (.iload_n 1, 1) := by decide +kernel
theorem d_P_paint_5 : decode b_P_paint 5 = .ok (.iadd, 1) := by decide +kernel
theorem d_P_paint_6 : decode b_P_paint 6 = .ok (.istore 4, 2) := by decide +kernel
theorem d_P_paint_8 : decode b_P_paint 8 = .ok (.aload_n 0, 1) := by decide +kernel
theorem d_P_paint_9 : decode b_P_paint 9 = .ok (.getfield 9, 3) := by decide +kernel
theorem d_P_paint_12 : decode b_P_paint 12 = .ok (.iload 4, 2) := by decide +kernel
theorem d_P_paint_14 : decode b_P_paint 14 = .ok (.baload, 1) := by decide +kernel
theorem d_P_paint_15 : decode b_P_paint 15 = .ok (.iload_n 3, 1) := by decide +kernel
theorem d_P_paint_16 : decode b_P_paint 16 = .ok (.if_icmp .ne 5, 3) := by decide +kernel
theorem d_P_paint_19 : decode b_P_paint 19 = .ok (.iconst 0, 1) := by decide +kernel
theorem d_P_paint_20 : decode b_P_paint 20 = .ok (.ireturn, 1) := by decide +kernel
theorem d_P_paint_21 : decode b_P_paint 21 = .ok (.aload_n 0, 1) := by decide +kernel
theorem d_P_paint_22 : decode b_P_paint 22 = .ok (.getfield 9, 3) := by decide +kernel
theorem d_P_paint_25 : decode b_P_paint 25 = .ok (.iload 4, 2) := by decide +kernel
theorem d_P_paint_27 : decode b_P_paint 27 = .ok (.iload_n 3, 1) := by decide +kernel
theorem d_P_paint_28 : decode b_P_paint 28 = .ok (.bastore, 1) := by decide +kernel
theorem d_P_paint_29 : decode b_P_paint 29 = .ok (.aload_n 0, 1) := by decide +kernel
theorem d_P_paint_30 : decode b_P_paint 30 = .ok (.dup, 1) := by decide +kernel
theorem d_P_paint_31 : decode b_P_paint 31 = .ok (.getfield 166, 3) := by decide +kernel
theorem d_P_paint_34 : decode b_P_paint 34 = .ok (.iload_n 3, 1) := by decide +kernel
theorem d_P_paint_35 : decode b_P_paint 35 = .ok (.ifCond .eq 7, 3) := by decide +kernel
theorem d_P_paint_38 : decode b_P_paint 38 = .ok (.iconst 1, 1) := by decide +kernel
theorem d_P_paint_39 : decode b_P_paint 39 = .ok (.goto 4, 3) := by decide +kernel
theorem d_P_paint_42 : decode b_P_paint 42 = .ok (.iconst (-1), 1) := by decide +kernel
theorem d_P_paint_43 : decode b_P_paint 43 = .ok (.iadd, 1) := by decide +kernel
theorem d_P_paint_44 : decode b_P_paint 44 = .ok (.putfield 166, 3) := by decide +kernel
theorem d_P_paint_47 : decode b_P_paint 47 = .ok (.iconst 1, 1) := by decide +kernel
theorem d_P_paint_48 : decode b_P_paint 48 = .ok (.ireturn, 1) := by decide +kernel
theorem d_P_toldOfParted_0 : decode b_P_toldOfParted 0 = .ok (.iload_n 1, 1) := by decide +kernel
theorem d_P_toldOfParted_1 : decode b_P_toldOfParted 1 = .ok (.tableswitch 74 3 7 #[35, 43, 51, 56, 64], 35) := by decide +kernel
theorem d_P_toldOfParted_36 : decode b_P_toldOfParted 36 = .ok (.aload_n 0, 1) := by decide +kernel
theorem d_P_toldOfParted_37 : decode b_P_toldOfParted 37 = .ok (.getfield 39, 3) := by decide +kernel
theorem d_P_toldOfParted_40 : decode b_P_toldOfParted 40 = .ok (.getfield 114, 3) := by decide +kernel
theorem d_P_toldOfParted_43 : decode b_P_toldOfParted 43 = .ok (.ireturn, 1) := by decide +kernel
theorem d_P_toldOfParted_44 : decode b_P_toldOfParted 44 = .ok (.aload_n 0, 1) := by decide +kernel
theorem d_P_toldOfParted_45 : decode b_P_toldOfParted 45 = .ok (.getfield 49, 3) := by decide +kernel
theorem d_P_toldOfParted_48 : decode b_P_toldOfParted 48 = .ok (.getfield 153, 3) := by decide +kernel
theorem d_P_toldOfParted_51 : decode b_P_toldOfParted 51 = .ok (.ireturn, 1) := by decide +kernel
theorem d_P_toldOfParted_52 : decode b_P_toldOfParted 52 = .ok (.aload_n 0, 1) := by decide +kernel
theorem d_P_toldOfParted_53 : decode b_P_toldOfParted 53 = .ok (.getfield 189, 3) := by decide +kernel
theorem d_P_toldOfParted_56 : decode b_P_toldOfParted 56 = .ok (.ireturn, 1) := by decide +kernel
theorem d_P_toldOfParted_57 : decode b_P_toldOfParted 57 = .ok (.aload_n 0, 1) := by decide +kernel
theorem d_P_toldOfParted_58 : decode b_P_toldOfParted 58 = .ok (.getfield 43, 3) := by decide +kernel
theorem d_P_toldOfParted_61 : decode b_P_toldOfParted 61 = .ok (.getfield 114, 3) := by decide +kernel
theorem d_P_toldOfParted_64 : decode b_P_toldOfParted 64 = .ok (.ireturn, 1) := by decide +kernel
theorem d_P_toldOfParted_65 : decode b_P_toldOfParted 65 = .ok (.aload_n 0, 1) := by decide +kernel
theorem d_P_toldOfParted_66 : decode b_P_toldOfParted 66 = .ok (.getfield 166, 3) := by decide +kernel
theorem d_P_toldOfParted_69 : decode b_P_toldOfParted 69 = .ok (.aload_n 0, 1) := by decide +kernel
theorem d_P_toldOfParted_70 : decode b_P_toldOfParted 70 = .ok (.getfield 192, 3) := by decide +kernel
theorem d_P_toldOfParted_73 : decode b_P_toldOfParted 73 = .ok (.isub, 1) := by decide +kernel
theorem d_P_toldOfParted_74 : decode b_P_toldOfParted 74 = .ok (.ireturn, 1) := by decide +kernel
theorem d_P_toldOfParted_75 : decode b_P_toldOfParted 75 = .ok (.iconst (-1), 1) := by decide +kernel
theorem d_P_toldOfParted_76 : decode b_P_toldOfParted 76 = .ok (.ireturn, 1) := by decide +kernel
theorem d_P_findClean_0 : decode b_P_findClean 0 = .ok (.aload_n 0, 1) := by decide +kernel
theorem d_P_findClean_1 : decode b_P_findClean 1 = .ok (.getfield 43, 3) := by decide +kernel
theorem d_P_findClean_4 : decode b_P_findClean 4 = .ok (.aload_n 0, 1) := by decide +kernel
theorem d_P_findClean_5 : decode b_P_findClean 5 = .ok (.getfield 9, 3) := by decide +kernel
theorem d_P_findClean_8 : decode b_P_findClean 8 = .ok (.iconst 1, 1) := by decide +kernel
theorem d_P_findClean_9 : decode b_P_findClean 9 = .ok (.iconst 1, 1) := by decide +kernel
theorem d_P_findClean_10 : decode b_P_findClean 10 = .ok (.invokevirtual 97, 3) := by decide +kernel
theorem d_P_findClean_13 : decode b_P_findClean 13 = .ok (.aload_n 0, 1) := by decide +kernel
theorem d_P_findClean_14 : decode b_P_findClean 14 = .ok (.iconst 0, 1) := by decide +kernel
theorem d_P_findClean_15 : decode b_P_findClean 15 = .ok (.putfield 192, 3) := by decide +kernel
theorem d_P_findClean_18 : decode b_P_findClean 18 = .ok (.iconst 0, 1) := by decide +kernel
theorem d_P_findClean_19 : decode b_P_findClean 19 = .ok (.istore_n 1, 1) := by decide +kernel
theorem d_P_findClean_20 : decode b_P_findClean 20 = .ok (.iload_n 1, 1) := by decide +kernel
theorem d_P_findClean_21 : decode b_P_findClean 21 = .ok (.sipush 576, 3) := by decide +kernel
theorem d_P_findClean_24 : decode b_P_findClean 24 = .ok (.if_icmp .ge 82, 3) := by decide +kernel
theorem d_P_findClean_27 : decode b_P_findClean 27 = .ok (.aload_n 0, 1) := by decide +kernel
theorem d_P_findClean_28 : decode b_P_findClean 28 = .ok (.getfield 43, 3) := by decide +kernel
theorem d_P_findClean_31 : decode b_P_findClean 31 = .ok (.getfield 141, 3) := by decide +kernel
theorem d_P_findClean_34 : decode b_P_findClean 34 = .ok (.iload_n 1, 1) := by decide +kernel
theorem d_P_findClean_35 : decode b_P_findClean 35 = .ok (.iaload, 1) := by decide +kernel
theorem d_P_findClean_36 : decode b_P_findClean 36 = .ok (.istore_n 2, 1) := by decide +kernel
theorem d_P_findClean_37 : decode b_P_findClean 37 = .ok (.aload_n 0, 1) := by decide +kernel
theorem d_P_findClean_38 : decode b_P_findClean 38 = .ok (.getfield 13, 3) := by decide +kernel
theorem d_P_findClean_41 : decode b_P_findClean 41 = .ok (.iload_n 1, 1) := by decide +kernel
theorem d_P_findClean_42 : decode b_P_findClean 42 = .ok (.iload_n 2, 1) := by decide +kernel
theorem d_P_findClean_43 : decode b_P_findClean 43 = .ok (.iconst (-1), 1) := by decide +kernel
theorem d_P_findClean_44 : decode b_P_findClean 44 = .ok (.if_icmp .eq 23, 3) := by decide +kernel
theorem d_P_findClean_47 : decode b_P_findClean 47 = .ok (.aload_n 0, 1) := by decide +kernel
theorem d_P_findClean_48 : decode b_P_findClean 48 = .ok (.getfield 43, 3) := by decide +kernel
theorem d_P_findClean_51 : decode b_P_findClean 51 = .ok (.getfield 135, 3) := by decide +kernel
theorem d_P_findClean_54 : decode b_P_findClean 54 = .ok (.iload_n 2, 1) := by decide +kernel
theorem d_P_findClean_55 : decode b_P_findClean 55 = .ok (.iaload, 1) := by decide +kernel
theorem d_P_findClean_56 : decode b_P_findClean 56 = .ok (.aload_n 0, 1) := by decide +kernel
theorem d_P_findClean_57 : decode b_P_findClean 57 = .ok (.getfield 60, 3) := by decide +kernel
theorem d_P_findClean_60 : decode b_P_findClean 60 = .ok (.if_icmp .lt 7, 3) := by decide +kernel
theorem d_P_findClean_63 : decode b_P_findClean 63 = .ok (.iconst 1, 1) := by decide +kernel
theorem d_P_findClean_64 : decode b_P_findClean 64 = .ok (.goto 4, 3) := by decide +kernel
theorem d_P_findClean_67 : decode b_P_findClean 67 = .ok (.iconst 0, 1) := by decide +kernel
theorem d_P_findClean_68 : decode b_P_findClean 68 = .ok (.bastore, 1) := by decide +kernel
theorem d_P_findClean_69 : decode b_P_findClean 69 = .ok (.aload_n 0, 1) := by decide +kernel
theorem d_P_findClean_70 : decode b_P_findClean 70 = .ok (.getfield 16, 3) := by decide +kernel
theorem d_P_findClean_73 : decode b_P_findClean 73 = .ok (.iload_n 1, 1) := by decide +kernel
theorem d_P_findClean_74 : decode b_P_findClean 74 = .ok (.aload_n 0, 1) := by decide +kernel
theorem d_P_findClean_75 : decode b_P_findClean 75 = .ok (.getfield 13, 3) := by decide +kernel
theorem d_P_findClean_78 : decode b_P_findClean 78 = .ok (.iload_n 1, 1) := by decide +kernel
theorem d_P_findClean_79 : decode b_P_findClean 79 = .ok (.baload, 1) := by decide +kernel
theorem d_P_findClean_80 : decode b_P_findClean 80 = .ok (.bastore, 1) := by decide +kernel
theorem d_P_findClean_81 : decode b_P_findClean 81 = .ok (.aload_n 0, 1) := by decide +kernel
theorem d_P_findClean_82 : decode b_P_findClean 82 = .ok (.getfield 13, 3) := by decide +kernel
theorem d_P_findClean_85 : decode b_P_findClean 85 = .ok (.iload_n 1, 1) := by decide +kernel
theorem d_P_findClean_86 : decode b_P_findClean 86 = .ok (.baload, 1) := by decide +kernel
theorem d_P_findClean_87 : decode b_P_findClean 87 = .ok (.ifCond .eq 13, 3) := by decide +kernel
theorem d_P_findClean_90 : decode b_P_findClean 90 = .ok (.aload_n 0, 1) := by decide +kernel
theorem d_P_findClean_91 : decode b_P_findClean 91 = .ok (.dup, 1) := by decide +kernel
theorem d_P_findClean_92 : decode b_P_findClean 92 = .ok (.getfield 192, 3) := by decide +kernel
theorem d_P_findClean_95 : decode b_P_findClean 95 = .ok (.iconst 1, 1) := by decide +kernel
theorem d_P_findClean_96 : decode b_P_findClean 96 = .ok (.iadd, 1) := by decide +kernel
theorem d_P_findClean_97 : decode b_P_findClean 97 = .ok (.putfield 192, 3) := by decide +kernel
theorem d_P_findClean_100 : decode b_P_findClean 100 = .ok (.iinc 1 1, 3) := by decide +kernel
theorem d_P_findClean_103 : decode b_P_findClean 103 = .ok (.goto (-83), 3) := by decide +kernel
theorem d_P_findClean_106 : decode b_P_findClean 106 = .ok (.return_, 1) := by decide +kernel
theorem d_P_smear_0 : decode b_P_smear 0 = .ok (.iconst 0, 1) := by decide +kernel
theorem d_P_smear_1 : decode b_P_smear 1 = .ok (.istore_n 3, 1) := by decide +kernel
theorem d_P_smear_2 : decode b_P_smear 2 = .ok (.iload_n 3, 1) := by decide +kernel
theorem d_P_smear_3 : decode b_P_smear 3 = .ok (.aload_n 0, 1) := by decide +kernel
theorem d_P_smear_4 : decode b_P_smear 4 = .ok (.getfield 31, 3) := by decide +kernel
theorem d_P_smear_7 : decode b_P_smear 7 = .ok (.if_icmp .ge 23, 3) := by decide +kernel
theorem d_P_smear_10 : decode b_P_smear 10 = .ok (.aload_n 0, 1) := by decide +kernel
theorem d_P_smear_11 : decode b_P_smear 11 = .ok (.iload_n 3, 1) := by decide +kernel
theorem d_P_smear_12 : decode b_P_smear 12 = .ok (.bipush 24, 2) := by decide +kernel
theorem d_P_smear_14 : decode b_P_smear 14 = .ok (.imul, 1) := by decide +kernel
theorem d_P_smear_15 : decode b_P_smear 15 = .ok (.iconst 1, 1) := by decide +kernel
theorem d_P_smear_16 : decode b_P_smear 16 = .ok (.aload_n 0, 1) := by decide +kernel
theorem d_P_smear_17 : decode b_P_smear 17 = .ok (.getfield 27, 3) := by decide +kernel
theorem d_P_smear_20 : decode b_P_smear 20 = .ok (.iload_n 1, 1) := by decide +kernel
theorem d_P_smear_21 : decode b_P_smear 21 = .ok (.invokevirtual 195, 3) := by decide +kernel
theorem d_P_smear_24 : decode b_P_smear 24 = .ok (.iinc 3 1, 3) := by decide +kernel
theorem d_P_smear_27 : decode b_P_smear 27 = .ok (.goto (-25), 3) := by decide +kernel
theorem d_P_smear_30 : decode b_P_smear 30 = .ok (.iconst 0, 1) := by decide +kernel
theorem d_P_smear_31 : decode b_P_smear 31 = .ok (.istore_n 3, 1) := by decide +kernel
theorem d_P_smear_32 : decode b_P_smear 32 = .ok (.iload_n 3, 1) := by decide +kernel
theorem d_P_smear_33 : decode b_P_smear 33 = .ok (.aload_n 0, 1) := by decide +kernel
theorem d_P_smear_34 : decode b_P_smear 34 = .ok (.getfield 27, 3) := by decide +kernel
theorem d_P_smear_37 : decode b_P_smear 37 = .ok (.if_icmp .ge 21, 3) := by decide +kernel
theorem d_P_smear_40 : decode b_P_smear 40 = .ok (.aload_n 0, 1) := by decide +kernel
theorem d_P_smear_41 : decode b_P_smear 41 = .ok (.iload_n 3, 1) := by decide +kernel
theorem d_P_smear_42 : decode b_P_smear 42 = .ok (.bipush 24, 2) := by decide +kernel
theorem d_P_smear_44 : decode b_P_smear 44 = .ok (.aload_n 0, 1) := by decide +kernel
theorem d_P_smear_45 : decode b_P_smear 45 = .ok (.getfield 31, 3) := by decide +kernel
theorem d_P_smear_48 : decode b_P_smear 48 = .ok (.iload_n 2, 1) := by decide +kernel
theorem d_P_smear_49 : decode b_P_smear 49 = .ok (.invokevirtual 195, 3) := by decide +kernel
theorem d_P_smear_52 : decode b_P_smear 52 = .ok (.iinc 3 1, 3) := by decide +kernel
theorem d_P_smear_55 : decode b_P_smear 55 = .ok (.goto (-23), 3) := by decide +kernel
theorem d_P_smear_58 : decode b_P_smear 58 = .ok (.return_, 1) := by decide +kernel
theorem d_P_smearAlong_0 : decode b_P_smearAlong 0 = .ok (.iconst (-1), 1) := by decide +kernel
theorem d_P_smearAlong_1 : decode b_P_smearAlong 1 = .ok (.istore 5, 2) := by decide +kernel
theorem d_P_smearAlong_3 : decode b_P_smearAlong 3 = .ok (.iconst 0, 1) := by decide +kernel
theorem d_P_smearAlong_4 : decode b_P_smearAlong 4 = .ok (.istore 6, 2) := by decide +kernel
theorem d_P_smearAlong_6 : decode b_P_smearAlong 6 = .ok (.iload 6, 2) := by decide +kernel
theorem d_P_smearAlong_8 : decode b_P_smearAlong 8 = .ok (.iload_n 3, 1) := by decide +kernel
theorem d_P_smearAlong_9 : decode b_P_smearAlong 9 = .ok (.if_icmp .ge 79, 3) := by decide +kernel
theorem d_P_smearAlong_12 : decode b_P_smearAlong 12 = .ok (.aload_n 0, 1) := by decide +kernel
theorem d_P_smearAlong_13 : decode b_P_smearAlong 13 = .ok (.getfield 13, 3) := by decide +kernel
theorem d_P_smearAlong_16 : decode b_P_smearAlong 16 = .ok (.iload_n 1, 1) := by decide +kernel
theorem d_P_smearAlong_17 : decode b_P_smearAlong 17 = .ok (.iload 6, 2) := by decide +kernel
theorem d_P_smearAlong_19 : decode b_P_smearAlong 19 = .ok (.iload_n 2, 1) := by decide +kernel
theorem d_P_smearAlong_20 : decode b_P_smearAlong 20 = .ok (.imul, 1) := by decide +kernel
theorem d_P_smearAlong_21 : decode b_P_smearAlong 21 = .ok (.iadd, 1) := by decide +kernel
theorem d_P_smearAlong_22 : decode b_P_smearAlong 22 = .ok (.baload, 1) := by decide +kernel
theorem d_P_smearAlong_23 : decode b_P_smearAlong 23 = .ok (.ifCond .ne 6, 3) := by decide +kernel
theorem d_P_smearAlong_26 : decode b_P_smearAlong 26 = .ok (.goto 56, 3) := by decide +kernel
theorem d_P_smearAlong_29 : decode b_P_smearAlong 29 = .ok (.iload 5, 2) := by decide +kernel
theorem d_P_smearAlong_31 : decode b_P_smearAlong 31 = .ok (.iconst (-1), 1) := by decide +kernel
theorem d_P_smearAlong_32 : decode b_P_smearAlong 32 = .ok (.if_icmp .eq 46, 3) := by decide +kernel
theorem d_P_smearAlong_35 : decode b_P_smearAlong 35 = .ok (.iload 6, 2) := by decide +kernel
theorem d_P_smearAlong_37 : decode b_P_smearAlong 37 = .ok (.iload 5, 2) := by decide +kernel
theorem d_P_smearAlong_39 : decode b_P_smearAlong 39 = .ok (.isub, 1) := by decide +kernel
theorem d_P_smearAlong_40 : decode b_P_smearAlong 40 = .ok (.iconst 1, 1) := by decide +kernel
theorem d_P_smearAlong_41 : decode b_P_smearAlong 41 = .ok (.isub, 1) := by decide +kernel
theorem d_P_smearAlong_42 : decode b_P_smearAlong 42 = .ok (.iload 4, 2) := by decide +kernel
theorem d_P_smearAlong_44 : decode b_P_smearAlong 44 = .ok (.if_icmp .gt 34, 3) := by decide +kernel
theorem d_P_smearAlong_47 : decode b_P_smearAlong 47 = .ok (.iload 5, 2) := by decide +kernel
theorem d_P_smearAlong_49 : decode b_P_smearAlong 49 = .ok (.iconst 1, 1) := by decide +kernel
theorem d_P_smearAlong_50 : decode b_P_smearAlong 50 = .ok (.iadd, 1) := by decide +kernel
theorem d_P_smearAlong_51 : decode b_P_smearAlong 51 = .ok (.istore 7, 2) := by decide +kernel
theorem d_P_smearAlong_53 : decode b_P_smearAlong 53 = .ok (.iload 7, 2) := by decide +kernel
theorem d_P_smearAlong_55 : decode b_P_smearAlong 55 = .ok (.iload 6, 2) := by decide +kernel
theorem d_P_smearAlong_57 : decode b_P_smearAlong 57 = .ok (.if_icmp .ge 21, 3) := by decide +kernel
theorem d_P_smearAlong_60 : decode b_P_smearAlong 60 = .ok (.aload_n 0, 1) := by decide +kernel
theorem d_P_smearAlong_61 : decode b_P_smearAlong 61 = .ok (.getfield 16, 3) := by decide +kernel
theorem d_P_smearAlong_64 : decode b_P_smearAlong 64 = .ok (.iload_n 1, 1) := by decide +kernel
theorem d_P_smearAlong_65 : decode b_P_smearAlong 65 = .ok (.iload 7, 2) := by decide +kernel
theorem d_P_smearAlong_67 : decode b_P_smearAlong 67 = .ok (.iload_n 2, 1) := by decide +kernel
theorem d_P_smearAlong_68 : decode b_P_smearAlong 68 = .ok (.imul, 1) := by decide +kernel
theorem d_P_smearAlong_69 : decode b_P_smearAlong 69 = .ok (.iadd, 1) := by decide +kernel
theorem d_P_smearAlong_70 : decode b_P_smearAlong 70 = .ok (.iconst 1, 1) := by decide +kernel
theorem d_P_smearAlong_71 : decode b_P_smearAlong 71 = .ok (.bastore, 1) := by decide +kernel
theorem d_P_smearAlong_72 : decode b_P_smearAlong 72 = .ok (.iinc 7 1, 3) := by decide +kernel
theorem d_P_smearAlong_75 : decode b_P_smearAlong 75 = .ok (.goto (-22), 3) := by decide +kernel
theorem d_P_smearAlong_78 : decode b_P_smearAlong 78 = .ok (.iload 6, 2) := by decide +kernel
theorem d_P_smearAlong_80 : decode b_P_smearAlong 80 = .ok (.istore 5, 2) := by decide +kernel
theorem d_P_smearAlong_82 : decode b_P_smearAlong 82 = .ok (.iinc 6 1, 3) := by decide +kernel
theorem d_P_smearAlong_85 : decode b_P_smearAlong 85 = .ok (.goto (-79), 3) := by decide +kernel
theorem d_P_smearAlong_88 : decode b_P_smearAlong 88 = .ok (.return_, 1) := by decide +kernel
theorem d_P_findStrips_0 : decode b_P_findStrips 0 = .ok (.aload_n 0, 1) := by decide +kernel
theorem d_P_findStrips_1 : decode b_P_findStrips 1 = .ok (.iconst 0, 1) := by decide +kernel
theorem d_P_findStrips_2 : decode b_P_findStrips 2 = .ok (.putfield 189, 3) := by decide +kernel
theorem d_P_findStrips_5 : decode b_P_findStrips 5 = .ok (.iconst 0, 1) := by decide +kernel
theorem d_P_findStrips_6 : decode b_P_findStrips 6 = .ok (.istore_n 1, 1) := by decide +kernel
theorem d_P_findStrips_7 : decode b_P_findStrips 7 = .ok (.iconst 0, 1) := by decide +kernel
theorem d_P_findStrips_8 : decode b_P_findStrips 8 = .ok (.istore_n 2, 1) := by decide +kernel
theorem d_P_findStrips_9 : decode b_P_findStrips 9 = .ok (.iload_n 2, 1) := by decide +kernel
theorem d_P_findStrips_10 : decode b_P_findStrips 10 = .ok (.aload_n 0, 1) := by decide +kernel
theorem d_P_findStrips_11 : decode b_P_findStrips 11 = .ok (.getfield 27, 3) := by decide +kernel
theorem d_P_findStrips_14 : decode b_P_findStrips 14 = .ok (.if_icmp .ge 55, 3) := by decide +kernel
theorem d_P_findStrips_17 : decode b_P_findStrips 17 = .ok (.aload_n 0, 1) := by decide +kernel
theorem d_P_findStrips_18 : decode b_P_findStrips 18 = .ok (.iload_n 2, 1) := by decide +kernel
theorem d_P_findStrips_19 : decode b_P_findStrips 19 = .ok (.invokevirtual 199, 3) := by decide +kernel
theorem d_P_findStrips_22 : decode b_P_findStrips 22 = .ok (.istore_n 3, 1) := by decide +kernel
theorem d_P_findStrips_23 : decode b_P_findStrips 23 = .ok (.iload_n 3, 1) := by decide +kernel
theorem d_P_findStrips_24 : decode b_P_findStrips 24 = .ok (.ifCond .eq 17, 3) := by decide +kernel
theorem d_P_findStrips_27 : decode b_P_findStrips 27 = .ok (.iload_n 1, 1) := by decide +kernel
theorem d_P_findStrips_28 : decode b_P_findStrips 28 = .ok (.ifCond .ne 13, 3) := by decide +kernel
theorem d_P_findStrips_31 : decode b_P_findStrips 31 = .ok (.aload_n 0, 1) := by decide +kernel
theorem d_P_findStrips_32 : decode b_P_findStrips 32 = .ok (.dup, 1) := by decide +kernel
theorem d_P_findStrips_33 : decode b_P_findStrips 33 = .ok (.getfield 189, 3) := by decide +kernel
theorem d_P_findStrips_36 : decode b_P_findStrips 36 = .ok (.iconst 1, 1) := by decide +kernel
theorem d_P_findStrips_37 : decode b_P_findStrips 37 = .ok (.iadd, 1) := by decide +kernel
theorem d_P_findStrips_38 : decode b_P_findStrips 38 = .ok (.putfield 189, 3) := by decide +kernel
theorem d_P_findStrips_41 : decode b_P_findStrips 41 = .ok (.aload_n 0, 1) := by decide +kernel
theorem d_P_findStrips_42 : decode b_P_findStrips 42 = .ok (.getfield 19, 3) := by decide +kernel
theorem d_P_findStrips_45 : decode b_P_findStrips 45 = .ok (.iload_n 2, 1) := by decide +kernel
theorem d_P_findStrips_46 : decode b_P_findStrips 46 = .ok (.iload_n 3, 1) := by decide +kernel
theorem d_P_findStrips_47 : decode b_P_findStrips 47 = .ok (.ifCond .eq 12, 3) := by decide +kernel
theorem d_P_findStrips_50 : decode b_P_findStrips 50 = .ok (.aload_n 0, 1) := by decide +kernel
theorem d_P_findStrips_51 : decode b_P_findStrips 51 = .ok (.getfield 189, 3) := by decide +kernel
theorem d_P_findStrips_54 : decode b_P_findStrips 54 = .ok (.iconst 1, 1) := by decide +kernel
theorem d_P_findStrips_55 : decode b_P_findStrips 55 = .ok (.isub, 1) := by decide +kernel
theorem d_P_findStrips_56 : decode b_P_findStrips 56 = .ok (.goto 4, 3) := by decide +kernel
theorem d_P_findStrips_59 : decode b_P_findStrips 59 = .ok (.iconst (-1), 1) := by decide +kernel
theorem d_P_findStrips_60 : decode b_P_findStrips 60 = .ok (.iastore, 1) := by decide +kernel
theorem d_P_findStrips_61 : decode b_P_findStrips 61 = .ok (.iload_n 3, 1) := by decide +kernel
theorem d_P_findStrips_62 : decode b_P_findStrips 62 = .ok (.istore_n 1, 1) := by decide +kernel
theorem d_P_findStrips_63 : decode b_P_findStrips 63 = .ok (.iinc 2 1, 3) := by decide +kernel
theorem d_P_findStrips_66 : decode b_P_findStrips 66 = .ok (.goto (-57), 3) := by decide +kernel
theorem d_P_findStrips_69 : decode b_P_findStrips 69 = .ok (.return_, 1) := by decide +kernel
theorem d_P_hasInk_0 : decode b_P_hasInk 0 = .ok (.iconst 0, 1) := by decide +kernel
theorem d_P_hasInk_1 : decode b_P_hasInk 1 = .ok (.istore_n 2, 1) := by decide +kernel
theorem d_P_hasInk_2 : decode b_P_hasInk 2 = .ok (.iload_n 2, 1) := by decide +kernel
theorem d_P_hasInk_3 : decode b_P_hasInk 3 = .ok (.aload_n 0, 1) := by decide +kernel
theorem d_P_hasInk_4 : decode b_P_hasInk 4 = .ok (.getfield 31, 3) := by decide +kernel
theorem d_P_hasInk_7 : decode b_P_hasInk 7 = .ok (.if_icmp .ge 25, 3) := by decide +kernel
theorem d_P_hasInk_10 : decode b_P_hasInk 10 = .ok (.aload_n 0, 1) := by decide +kernel
theorem d_P_hasInk_11 : decode b_P_hasInk 11 = .ok (.getfield 16, 3) := by decide +kernel
theorem d_P_hasInk_14 : decode b_P_hasInk 14 = .ok (.iload_n 2, 1) := by decide +kernel
theorem d_P_hasInk_15 : decode b_P_hasInk 15 = .ok (.bipush 24, 2) := by decide +kernel
theorem d_P_hasInk_17 : decode b_P_hasInk 17 = .ok (.imul, 1) := by decide +kernel
theorem d_P_hasInk_18 : decode b_P_hasInk 18 = .ok (.iload_n 1, 1) := by decide +kernel
theorem d_P_hasInk_19 : decode b_P_hasInk 19 = .ok (.iadd, 1) := by decide +kernel
theorem d_P_hasInk_20 : decode b_P_hasInk 20 = .ok (.baload, 1) := by decide +kernel
theorem d_P_hasInk_21 : decode b_P_hasInk 21 = .ok (.ifCond .eq 5, 3) := by decide +kernel
theorem d_P_hasInk_24 : decode b_P_hasInk 24 = .ok (.iconst 1, 1) := by decide +kernel
theorem d_P_hasInk_25 : decode b_P_hasInk 25 = .ok (.ireturn, 1) := by decide +kernel
theorem d_P_hasInk_26 : decode b_P_hasInk 26 = .ok (.iinc 2 1, 3) := by decide +kernel
theorem d_P_hasInk_29 : decode b_P_hasInk 29 = .ok (.goto (-27), 3) := by decide +kernel
theorem d_P_hasInk_32 : decode b_P_hasInk 32 = .ok (.iconst 0, 1) := by decide +kernel
theorem d_P_hasInk_33 : decode b_P_hasInk 33 = .ok (.ireturn, 1) := by decide +kernel
theorem d_P_weightOf_0 : decode b_P_weightOf 0 = .ok (.iconst 0, 1) := by decide +kernel
theorem d_P_weightOf_1 : decode b_P_weightOf 1 = .ok (.istore_n 2, 1) := by decide +kernel
theorem d_P_weightOf_2 : decode b_P_weightOf 2 = .ok (.iconst 0, 1) := by decide +kernel
theorem d_P_weightOf_3 : decode b_P_weightOf 3 = .ok (.istore_n 3, 1) := by decide +kernel
theorem d_P_weightOf_4 : decode b_P_weightOf 4 = .ok (.iload_n 3, 1) := by decide +kernel
theorem d_P_weightOf_5 : decode b_P_weightOf 5 = .ok (.sipush 576, 3) := by decide +kernel
theorem d_P_weightOf_8 : decode b_P_weightOf 8 = .ok (.if_icmp .ge 34, 3) := by decide +kernel
theorem d_P_weightOf_11 : decode b_P_weightOf 11 = .ok (.aload_n 0, 1) := by decide +kernel
theorem d_P_weightOf_12 : decode b_P_weightOf 12 = .ok (.getfield 13, 3) := by decide +kernel
theorem d_P_weightOf_15 : decode b_P_weightOf 15 = .ok (.iload_n 3, 1) := by decide +kernel
theorem d_P_weightOf_16 : decode b_P_weightOf 16 = .ok (.baload, 1) := by decide +kernel
theorem d_P_weightOf_17 : decode b_P_weightOf 17 = .ok (.ifCond .eq 19, 3) := by decide +kernel
theorem d_P_weightOf_20 : decode b_P_weightOf 20 = .ok (.aload_n 0, 1) := by decide +kernel
theorem d_P_weightOf_21 : decode b_P_weightOf 21 = .ok (.getfield 39, 3) := by decide +kernel
theorem d_P_weightOf_24 : decode b_P_weightOf 24 = .ok (.getfield 141, 3) := by decide +kernel
theorem d_P_weightOf_27 : decode b_P_weightOf 27 = .ok (.iload_n 3, 1) := by decide +kernel
theorem d_P_weightOf_28 : decode b_P_weightOf 28 = .ok (.iaload, 1) := by decide +kernel
theorem d_P_weightOf_29 : decode b_P_weightOf 29 = .ok (.iload_n 1, 1) := by decide +kernel
theorem d_P_weightOf_30 : decode b_P_weightOf 30 = .ok (.if_icmp .ne 6, 3) := by decide +kernel
theorem d_P_weightOf_33 : decode b_P_weightOf 33 = .ok (.iinc 2 1, 3) := by decide +kernel
theorem d_P_weightOf_36 : decode b_P_weightOf 36 = .ok (.iinc 3 1, 3) := by decide +kernel
theorem d_P_weightOf_39 : decode b_P_weightOf 39 = .ok (.goto (-35), 3) := by decide +kernel
theorem d_P_weightOf_42 : decode b_P_weightOf 42 = .ok (.iload_n 2, 1) := by decide +kernel
theorem d_P_weightOf_43 : decode b_P_weightOf 43 = .ok (.ireturn, 1) := by decide +kernel
theorem d_P_kindOf_0 : decode b_P_kindOf 0 = .ok (.aload_n 0, 1) := by decide +kernel
theorem d_P_kindOf_1 : decode b_P_kindOf 1 = .ok (.getfield 39, 3) := by decide +kernel
theorem d_P_kindOf_4 : decode b_P_kindOf 4 = .ok (.iload_n 1, 1) := by decide +kernel
theorem d_P_kindOf_5 : decode b_P_kindOf 5 = .ok (.invokevirtual 203, 3) := by decide +kernel
theorem d_P_kindOf_8 : decode b_P_kindOf 8 = .ok (.istore_n 2, 1) := by decide +kernel
theorem d_P_kindOf_9 : decode b_P_kindOf 9 = .ok (.aload_n 0, 1) := by decide +kernel
theorem d_P_kindOf_10 : decode b_P_kindOf 10 = .ok (.getfield 39, 3) := by decide +kernel
theorem d_P_kindOf_13 : decode b_P_kindOf 13 = .ok (.iload_n 1, 1) := by decide +kernel
theorem d_P_kindOf_14 : decode b_P_kindOf 14 = .ok (.invokevirtual 206, 3) := by decide +kernel
theorem d_P_kindOf_17 : decode b_P_kindOf 17 = .ok (.istore_n 3, 1) := by decide +kernel
theorem d_P_kindOf_18 : decode b_P_kindOf 18 = .ok (.iload_n 2, 1) := by decide +kernel
theorem d_P_kindOf_19 : decode b_P_kindOf 19 = .ok (.iload_n 3, 1) := by decide +kernel
theorem d_P_kindOf_20 : decode b_P_kindOf 20 = .ok (.invokestatic 209, 3) := by decide +kernel
theorem d_P_kindOf_23 : decode b_P_kindOf 23 = .ok (.ifCond .ne 11, 3) := by decide +kernel
theorem d_P_kindOf_26 : decode b_P_kindOf 26 = .ok (.iload_n 3, 1) := by decide +kernel
theorem d_P_kindOf_27 : decode b_P_kindOf 27 = .ok (.iload_n 2, 1) := by decide +kernel
theorem d_P_kindOf_28 : decode b_P_kindOf 28 = .ok (.invokestatic 209, 3) := by decide +kernel
theorem d_P_kindOf_31 : decode b_P_kindOf 31 = .ok (.ifCond .eq 5, 3) := by decide +kernel
theorem d_P_kindOf_34 : decode b_P_kindOf 34 = .ok (.iconst 1, 1) := by decide +kernel
theorem d_P_kindOf_35 : decode b_P_kindOf 35 = .ok (.ireturn, 1) := by decide +kernel
theorem d_P_kindOf_36 : decode b_P_kindOf 36 = .ok (.iload_n 2, 1) := by decide +kernel
theorem d_P_kindOf_37 : decode b_P_kindOf 37 = .ok (.bipush 7, 2) := by decide +kernel
theorem d_P_kindOf_39 : decode b_P_kindOf 39 = .ok (.if_icmp .lt 9, 3) := by decide +kernel
theorem d_P_kindOf_42 : decode b_P_kindOf 42 = .ok (.iload_n 3, 1) := by decide +kernel
theorem d_P_kindOf_43 : decode b_P_kindOf 43 = .ok (.bipush 7, 2) := by decide +kernel
theorem d_P_kindOf_45 : decode b_P_kindOf 45 = .ok (.if_icmp .ge 5, 3) := by decide +kernel
theorem d_P_kindOf_48 : decode b_P_kindOf 48 = .ok (.iconst 0, 1) := by decide +kernel
theorem d_P_kindOf_49 : decode b_P_kindOf 49 = .ok (.ireturn, 1) := by decide +kernel
theorem d_P_kindOf_50 : decode b_P_kindOf 50 = .ok (.aload_n 0, 1) := by decide +kernel
theorem d_P_kindOf_51 : decode b_P_kindOf 51 = .ok (.iload_n 1, 1) := by decide +kernel
theorem d_P_kindOf_52 : decode b_P_kindOf 52 = .ok (.invokevirtual 213, 3) := by decide +kernel
theorem d_P_kindOf_55 : decode b_P_kindOf 55 = .ok (.ifCond .eq 13, 3) := by decide +kernel
theorem d_P_kindOf_58 : decode b_P_kindOf 58 = .ok (.aload_n 0, 1) := by decide +kernel
theorem d_P_kindOf_59 : decode b_P_kindOf 59 = .ok (.iload_n 1, 1) := by decide +kernel
theorem d_P_kindOf_60 : decode b_P_kindOf 60 = .ok (.invokevirtual 216, 3) := by decide +kernel
theorem d_P_kindOf_63 : decode b_P_kindOf 63 = .ok (.ifCond .eq 5, 3) := by decide +kernel
theorem d_P_kindOf_66 : decode b_P_kindOf 66 = .ok (.iconst 3, 1) := by decide +kernel
theorem d_P_kindOf_67 : decode b_P_kindOf 67 = .ok (.ireturn, 1) := by decide +kernel
theorem d_P_kindOf_68 : decode b_P_kindOf 68 = .ok (.aload_n 0, 1) := by decide +kernel
theorem d_P_kindOf_69 : decode b_P_kindOf 69 = .ok (.aload_n 0, 1) := by decide +kernel
theorem d_P_kindOf_70 : decode b_P_kindOf 70 = .ok (.getfield 39, 3) := by decide +kernel
theorem d_P_kindOf_73 : decode b_P_kindOf 73 = .ok (.getfield 219, 3) := by decide +kernel
theorem d_P_kindOf_76 : decode b_P_kindOf 76 = .ok (.iload_n 1, 1) := by decide +kernel
theorem d_P_kindOf_77 : decode b_P_kindOf 77 = .ok (.iaload, 1) := by decide +kernel
theorem d_P_kindOf_78 : decode b_P_kindOf 78 = .ok (.aload_n 0, 1) := by decide +kernel
theorem d_P_kindOf_79 : decode b_P_kindOf 79 = .ok (.getfield 39, 3) := by decide +kernel
theorem d_P_kindOf_82 : decode b_P_kindOf 82 = .ok (.getfield 220, 3) := by decide +kernel
theorem d_P_kindOf_85 : decode b_P_kindOf 85 = .ok (.iload_n 1, 1) := by decide +kernel
theorem d_P_kindOf_86 : decode b_P_kindOf 86 = .ok (.iaload, 1) := by decide +kernel
theorem d_P_kindOf_87 : decode b_P_kindOf 87 = .ok (.iload_n 2, 1) := by decide +kernel
theorem d_P_kindOf_88 : decode b_P_kindOf 88 = .ok (.iload_n 3, 1) := by decide +kernel
theorem d_P_kindOf_89 : decode b_P_kindOf 89 = .ok (.invokevirtual 221, 3) := by decide +kernel
theorem d_P_kindOf_92 : decode b_P_kindOf 92 = .ok (.istore 4, 2) := by decide +kernel
theorem d_P_kindOf_94 : decode b_P_kindOf 94 = .ok (.iconst 2, 1) := by decide +kernel
theorem d_P_kindOf_95 : decode b_P_kindOf 95 = .ok (.iload 4, 2) := by decide +kernel
theorem d_P_kindOf_97 : decode b_P_kindOf 97 = .ok (.imul, 1) := by decide +kernel
theorem d_P_kindOf_98 : decode b_P_kindOf 98 = .ok (.iload_n 2, 1) := by decide +kernel
theorem d_P_kindOf_99 : decode b_P_kindOf 99 = .ok (.iload_n 3, 1) := by decide +kernel
theorem d_P_kindOf_100 : decode b_P_kindOf 100 = .ok (.imul, 1) := by decide +kernel
theorem d_P_kindOf_101 : decode b_P_kindOf 101 = .ok (.if_icmp .lt 7, 3) := by decide +kernel
theorem d_P_kindOf_104 : decode b_P_kindOf 104 = .ok (.iconst 2, 1) := by decide +kernel
theorem d_P_kindOf_105 : decode b_P_kindOf 105 = .ok (.goto 4, 3) := by decide +kernel
theorem d_P_kindOf_108 : decode b_P_kindOf 108 = .ok (.iconst 0, 1) := by decide +kernel
theorem d_P_kindOf_109 : decode b_P_kindOf 109 = .ok (.ireturn, 1) := by decide +kernel
theorem d_P_isThin_0 : decode b_P_isThin 0 = .ok (.iload_n 1, 1) := by decide +kernel
theorem d_P_isThin_1 : decode b_P_isThin 1 = .ok (.iconst 2, 1) := by decide +kernel
theorem d_P_isThin_2 : decode b_P_isThin 2 = .ok (.if_icmp .gt 14, 3) := by decide +kernel
theorem d_P_isThin_5 : decode b_P_isThin 5 = .ok (.iload_n 0, 1) := by decide +kernel
theorem d_P_isThin_6 : decode b_P_isThin 6 = .ok (.iconst 5, 1) := by decide +kernel
theorem d_P_isThin_7 : decode b_P_isThin 7 = .ok (.iload_n 1, 1) := by decide +kernel
theorem d_P_isThin_8 : decode b_P_isThin 8 = .ok (.imul, 1) := by decide +kernel
theorem d_P_isThin_9 : decode b_P_isThin 9 = .ok (.if_icmp .lt 7, 3) := by decide +kernel
theorem d_P_isThin_12 : decode b_P_isThin 12 = .ok (.iconst 1, 1) := by decide +kernel
theorem d_P_isThin_13 : decode b_P_isThin 13 = .ok (.goto 4, 3) := by decide +kernel
theorem d_P_isThin_16 : decode b_P_isThin 16 = .ok (.iconst 0, 1) := by decide +kernel
theorem d_P_isThin_17 : decode b_P_isThin 17 = .ok (.ireturn, 1) := by decide +kernel
theorem d_P_isFramed_0 : decode b_P_isFramed 0 = .ok (.aload_n 0, 1) := by decide +kernel
theorem d_P_isFramed_1 : decode b_P_isFramed 1 = .ok (.getfield 39, 3) := by decide +kernel
theorem d_P_isFramed_4 : decode b_P_isFramed 4 = .ok (.getfield 219, 3) := by decide +kernel
theorem d_P_isFramed_7 : decode b_P_isFramed 7 = .ok (.iload_n 1, 1) := by decide +kernel
theorem d_P_isFramed_8 : decode b_P_isFramed 8 = .ok (.iaload, 1) := by decide +kernel
theorem d_P_isFramed_9 : decode b_P_isFramed 9 = .ok (.istore_n 2, 1) := by decide +kernel
theorem d_P_isFramed_10 : decode b_P_isFramed 10 = .ok (.aload_n 0, 1) := by decide +kernel
theorem d_P_isFramed_11 : decode b_P_isFramed 11 = .ok (.getfield 39, 3) := by decide +kernel
theorem d_P_isFramed_14 : decode b_P_isFramed 14 = .ok (.getfield 220, 3) := by decide +kernel
theorem d_P_isFramed_17 : decode b_P_isFramed 17 = .ok (.iload_n 1, 1) := by decide +kernel
theorem d_P_isFramed_18 : decode b_P_isFramed 18 = .ok (.iaload, 1) := by decide +kernel
theorem d_P_isFramed_19 : decode b_P_isFramed 19 = .ok (.istore_n 3, 1) := by decide +kernel
theorem d_P_isFramed_20 : decode b_P_isFramed 20 = .ok (.aload_n 0, 1) := by decide +kernel
theorem d_P_isFramed_21 : decode b_P_isFramed 21 = .ok (.getfield 39, 3) := by decide +kernel
theorem d_P_isFramed_24 : decode b_P_isFramed 24 = .ok (.iload_n 1, 1) := by decide +kernel
theorem d_P_isFramed_25 : decode b_P_isFramed 25 = .ok (.invokevirtual 203, 3) := by decide +kernel
theorem d_P_isFramed_28 : decode b_P_isFramed 28 = .ok (.istore 4, 2) := by decide +kernel
theorem d_P_isFramed_30 : decode b_P_isFramed 30 = .ok (.aload_n 0, 1) := by decide +kernel
theorem d_P_isFramed_31 : decode b_P_isFramed 31 = .ok (.getfield 39, 3) := by decide +kernel
theorem d_P_isFramed_34 : decode b_P_isFramed 34 = .ok (.iload_n 1, 1) := by decide +kernel
theorem d_P_isFramed_35 : decode b_P_isFramed 35 = .ok (.invokevirtual 206, 3) := by decide +kernel
theorem d_P_isFramed_38 : decode b_P_isFramed 38 = .ok (.istore 5, 2) := by decide +kernel
theorem d_P_isFramed_40 : decode b_P_isFramed 40 = .ok (.iconst 4, 1) := by decide +kernel
theorem d_P_isFramed_41 : decode b_P_isFramed 41 = .ok (.aload_n 0, 1) := by decide +kernel
theorem d_P_isFramed_42 : decode b_P_isFramed 42 = .ok (.iload_n 2, 1) := by decide +kernel
theorem d_P_isFramed_43 : decode b_P_isFramed 43 = .ok (.iload_n 3, 1) := by decide +kernel
theorem d_P_isFramed_44 : decode b_P_isFramed 44 = .ok (.iload 4, 2) := by decide +kernel
theorem d_P_isFramed_46 : decode b_P_isFramed 46 = .ok (.iconst 1, 1) := by decide +kernel
theorem d_P_isFramed_47 : decode b_P_isFramed 47 = .ok (.invokevirtual 221, 3) := by decide +kernel
theorem d_P_isFramed_50 : decode b_P_isFramed 50 = .ok (.imul, 1) := by decide +kernel
theorem d_P_isFramed_51 : decode b_P_isFramed 51 = .ok (.iconst 3, 1) := by decide +kernel
theorem d_P_isFramed_52 : decode b_P_isFramed 52 = .ok (.iload 4, 2) := by decide +kernel
theorem d_P_isFramed_54 : decode b_P_isFramed 54 = .ok (.imul, 1) := by decide +kernel
theorem d_P_isFramed_55 : decode b_P_isFramed 55 = .ok (.if_icmp .lt 77, 3) := by decide +kernel
theorem d_P_isFramed_58 : decode b_P_isFramed 58 = .ok (.iconst 4, 1) := by decide +kernel
theorem d_P_isFramed_59 : decode b_P_isFramed 59 = .ok (.aload_n 0, 1) := by decide +kernel
theorem d_P_isFramed_60 : decode b_P_isFramed 60 = .ok (.iload_n 2, 1) := by decide +kernel
theorem d_P_isFramed_61 : decode b_P_isFramed 61 = .ok (.aload_n 0, 1) := by decide +kernel
theorem d_P_isFramed_62 : decode b_P_isFramed 62 = .ok (.getfield 39, 3) := by decide +kernel
theorem d_P_isFramed_65 : decode b_P_isFramed 65 = .ok (.getfield 225, 3) := by decide +kernel
theorem d_P_isFramed_68 : decode b_P_isFramed 68 = .ok (.iload_n 1, 1) := by decide +kernel
theorem d_P_isFramed_69 : decode b_P_isFramed 69 = .ok (.iaload, 1) := by decide +kernel
theorem d_P_isFramed_70 : decode b_P_isFramed 70 = .ok (.iload 4, 2) := by decide +kernel
theorem d_P_isFramed_72 : decode b_P_isFramed 72 = .ok (.iconst 1, 1) := by decide +kernel
theorem d_P_isFramed_73 : decode b_P_isFramed 73 = .ok (.invokevirtual 221, 3) := by decide +kernel
theorem d_P_isFramed_76 : decode b_P_isFramed 76 = .ok (.imul, 1) := by decide +kernel
theorem d_P_isFramed_77 : decode b_P_isFramed 77 = .ok (.iconst 3, 1) := by decide +kernel
theorem d_P_isFramed_78 : decode b_P_isFramed 78 = .ok (.iload 4, 2) := by decide +kernel
theorem d_P_isFramed_80 : decode b_P_isFramed 80 = .ok (.imul, 1) := by decide +kernel
theorem d_P_isFramed_81 : decode b_P_isFramed 81 = .ok (.if_icmp .lt 51, 3) := by decide +kernel
theorem d_P_isFramed_84 : decode b_P_isFramed 84 = .ok (.iconst 4, 1) := by decide +kernel
theorem d_P_isFramed_85 : decode b_P_isFramed 85 = .ok (.aload_n 0, 1) := by decide +kernel
theorem d_P_isFramed_86 : decode b_P_isFramed 86 = .ok (.iload_n 2, 1) := by decide +kernel
theorem d_P_isFramed_87 : decode b_P_isFramed 87 = .ok (.iload_n 3, 1) := by decide +kernel
theorem d_P_isFramed_88 : decode b_P_isFramed 88 = .ok (.iconst 1, 1) := by decide +kernel
theorem d_P_isFramed_89 : decode b_P_isFramed 89 = .ok (.iload 5, 2) := by decide +kernel
theorem d_P_isFramed_91 : decode b_P_isFramed 91 = .ok (.invokevirtual 221, 3) := by decide +kernel
theorem d_P_isFramed_94 : decode b_P_isFramed 94 = .ok (.imul, 1) := by decide +kernel
theorem d_P_isFramed_95 : decode b_P_isFramed 95 = .ok (.iconst 3, 1) := by decide +kernel
theorem d_P_isFramed_96 : decode b_P_isFramed 96 = .ok (.iload 5, 2) := by decide +kernel
theorem d_P_isFramed_98 : decode b_P_isFramed 98 = .ok (.imul, 1) := by decide +kernel
theorem d_P_isFramed_99 : decode b_P_isFramed 99 = .ok (.if_icmp .lt 33, 3) := by decide +kernel
theorem d_P_isFramed_102 : decode b_P_isFramed 102 = .ok (.iconst 4, 1) := by decide +kernel
theorem d_P_isFramed_103 : decode b_P_isFramed 103 = .ok (.aload_n 0, 1) := by decide +kernel
theorem d_P_isFramed_104 : decode b_P_isFramed 104 = .ok (.aload_n 0, 1) := by decide +kernel
theorem d_P_isFramed_105 : decode b_P_isFramed 105 = .ok (.getfield 39, 3) := by decide +kernel
theorem d_P_isFramed_108 : decode b_P_isFramed 108 = .ok (.getfield 228, 3) := by decide +kernel
theorem d_P_isFramed_111 : decode b_P_isFramed 111 = .ok (.iload_n 1, 1) := by decide +kernel
theorem d_P_isFramed_112 : decode b_P_isFramed 112 = .ok (.iaload, 1) := by decide +kernel
theorem d_P_isFramed_113 : decode b_P_isFramed 113 = .ok (.iload_n 3, 1) := by decide +kernel
theorem d_P_isFramed_114 : decode b_P_isFramed 114 = .ok (.iconst 1, 1) := by decide +kernel
theorem d_P_isFramed_115 : decode b_P_isFramed 115 = .ok (.iload 5, 2) := by decide +kernel
theorem d_P_isFramed_117 : decode b_P_isFramed 117 = .ok (.invokevirtual 221, 3) := by decide +kernel
theorem d_P_isFramed_120 : decode b_P_isFramed 120 = .ok (.imul, 1) := by decide +kernel
theorem d_P_isFramed_121 : decode b_P_isFramed 121 = .ok (.iconst 3, 1) := by decide +kernel
theorem d_P_isFramed_122 : decode b_P_isFramed 122 = .ok (.iload 5, 2) := by decide +kernel
theorem d_P_isFramed_124 : decode b_P_isFramed 124 = .ok (.imul, 1) := by decide +kernel
theorem d_P_isFramed_125 : decode b_P_isFramed 125 = .ok (.if_icmp .lt 7, 3) := by decide +kernel
theorem d_P_isFramed_128 : decode b_P_isFramed 128 = .ok (.iconst 1, 1) := by decide +kernel
theorem d_P_isFramed_129 : decode b_P_isFramed 129 = .ok (.goto 4, 3) := by decide +kernel
theorem d_P_isFramed_132 : decode b_P_isFramed 132 = .ok (.iconst 0, 1) := by decide +kernel
theorem d_P_isFramed_133 : decode b_P_isFramed 133 = .ok (.ireturn, 1) := by decide +kernel
theorem d_P_isMostlyEmptyWithin_0 : decode b_P_isMostlyEmptyWithin 0 = .ok (.aload_n 0, 1) := by decide +kernel
theorem d_P_isMostlyEmptyWithin_1 : decode b_P_isMostlyEmptyWithin 1 = .ok (.getfield 39, 3) := by decide +kernel
theorem d_P_isMostlyEmptyWithin_4 : decode b_P_isMostlyEmptyWithin 4 = .ok (.iload_n 1, 1) := by decide +kernel
theorem d_P_isMostlyEmptyWithin_5 : decode b_P_isMostlyEmptyWithin 5 = .ok (.invokevirtual 203, 3) := by decide +kernel
theorem d_P_isMostlyEmptyWithin_8 : decode b_P_isMostlyEmptyWithin 8 = .ok (.iconst 2, 1) := by decide +kernel
theorem d_P_isMostlyEmptyWithin_9 : decode b_P_isMostlyEmptyWithin 9 = .ok (.isub, 1) := by decide +kernel
theorem d_P_isMostlyEmptyWithin_10 : decode b_P_isMostlyEmptyWithin 10 = .ok (.istore_n 2, 1) := by decide +kernel
theorem d_P_isMostlyEmptyWithin_11 : decode b_P_isMostlyEmptyWithin 11 = .ok (.aload_n 0, 1) := by decide +kernel
theorem d_P_isMostlyEmptyWithin_12 : decode b_P_isMostlyEmptyWithin 12 = .ok (.getfield 39, 3) := by decide +kernel
theorem d_P_isMostlyEmptyWithin_15 : decode b_P_isMostlyEmptyWithin 15 = .ok (.iload_n 1, 1) := by decide +kernel
theorem d_P_isMostlyEmptyWithin_16 : decode b_P_isMostlyEmptyWithin 16 = .ok (.invokevirtual 206, 3) := by decide +kernel
theorem d_P_isMostlyEmptyWithin_19 : decode b_P_isMostlyEmptyWithin 19 = .ok (.iconst 2, 1) := by decide +kernel
theorem d_P_isMostlyEmptyWithin_20 : decode b_P_isMostlyEmptyWithin 20 = .ok (.isub, 1) := by decide +kernel
theorem d_P_isMostlyEmptyWithin_21 : decode b_P_isMostlyEmptyWithin 21 = .ok (.istore_n 3, 1) := by decide +kernel
theorem d_P_isMostlyEmptyWithin_22 : decode b_P_isMostlyEmptyWithin 22 = .ok (.iconst 4, 1) := by decide +kernel
theorem d_P_isMostlyEmptyWithin_23 : decode b_P_isMostlyEmptyWithin 23 = .ok (.aload_n 0, 1) := by decide +kernel
theorem d_P_isMostlyEmptyWithin_24 : decode b_P_isMostlyEmptyWithin 24 = .ok (.aload_n 0, 1) := by decide +kernel
theorem d_P_isMostlyEmptyWithin_25 : decode b_P_isMostlyEmptyWithin 25 = .ok (.getfield 39, 3) := by decide +kernel
theorem d_P_isMostlyEmptyWithin_28 : decode b_P_isMostlyEmptyWithin 28 = .ok (.getfield 219, 3) := by decide +kernel
theorem d_P_isMostlyEmptyWithin_31 : decode b_P_isMostlyEmptyWithin 31 = .ok (.iload_n 1, 1) := by decide +kernel
theorem d_P_isMostlyEmptyWithin_32 : decode b_P_isMostlyEmptyWithin 32 = .ok (.iaload, 1) := by decide +kernel
theorem d_P_isMostlyEmptyWithin_33 : decode b_P_isMostlyEmptyWithin 33 = .ok (.iconst 1, 1) := by decide +kernel
theorem d_P_isMostlyEmptyWithin_34 : decode b_P_isMostlyEmptyWithin 34 = .ok (.iadd, 1) := by decide +kernel
theorem d_P_isMostlyEmptyWithin_35 : decode b_P_isMostlyEmptyWithin 35 = .ok (.aload_n 0, 1) := by decide +kernel
theorem d_P_isMostlyEmptyWithin_36 : decode b_P_isMostlyEmptyWithin 36 = .ok (.getfield 39, 3) := by decide +kernel
theorem d_P_isMostlyEmptyWithin_39 : decode b_P_isMostlyEmptyWithin 39 = .ok (.getfield 220, 3) := by decide +kernel
theorem d_P_isMostlyEmptyWithin_42 : decode b_P_isMostlyEmptyWithin 42 = .ok (.iload_n 1, 1) := by decide +kernel
theorem d_P_isMostlyEmptyWithin_43 : decode b_P_isMostlyEmptyWithin 43 = .ok (.iaload, 1) := by decide +kernel
theorem d_P_isMostlyEmptyWithin_44 : decode b_P_isMostlyEmptyWithin 44 = .ok (.iconst 1, 1) := by decide +kernel
theorem d_P_isMostlyEmptyWithin_45 : decode b_P_isMostlyEmptyWithin 45 = .ok (.iadd, 1) := by decide +kernel
theorem d_P_isMostlyEmptyWithin_46 : decode b_P_isMostlyEmptyWithin 46 = .ok (.iload_n 2, 1) := by decide +kernel
theorem d_P_isMostlyEmptyWithin_47 : decode b_P_isMostlyEmptyWithin 47 = .ok (.iload_n 3, 1) := by decide +kernel
theorem d_P_isMostlyEmptyWithin_48 : decode b_P_isMostlyEmptyWithin 48 = .ok (.invokevirtual 221, 3) := by decide +kernel
theorem d_P_isMostlyEmptyWithin_51 : decode b_P_isMostlyEmptyWithin 51 = .ok (.imul, 1) := by decide +kernel
theorem d_P_isMostlyEmptyWithin_52 : decode b_P_isMostlyEmptyWithin 52 = .ok (.iload_n 2, 1) := by decide +kernel
theorem d_P_isMostlyEmptyWithin_53 : decode b_P_isMostlyEmptyWithin 53 = .ok (.iload_n 3, 1) := by decide +kernel
theorem d_P_isMostlyEmptyWithin_54 : decode b_P_isMostlyEmptyWithin 54 = .ok (.imul, 1) := by decide +kernel
theorem d_P_isMostlyEmptyWithin_55 : decode b_P_isMostlyEmptyWithin 55 = .ok (.if_icmp .gt 7, 3) := by decide +kernel
theorem d_P_isMostlyEmptyWithin_58 : decode b_P_isMostlyEmptyWithin 58 = .ok (.iconst 1, 1) := by decide +kernel
theorem d_P_isMostlyEmptyWithin_59 : decode b_P_isMostlyEmptyWithin 59 = .ok (.goto 4, 3) := by decide +kernel
theorem d_P_isMostlyEmptyWithin_62 : decode b_P_isMostlyEmptyWithin 62 = .ok (.iconst 0, 1) := by decide +kernel
theorem d_P_isMostlyEmptyWithin_63 : decode b_P_isMostlyEmptyWithin 63 = .ok (.ireturn, 1) := by decide +kernel
theorem d_P_countClean_0 : decode b_P_countClean 0 = .ok (.iconst 0, 1) := by decide +kernel
theorem d_P_countClean_1 : decode b_P_countClean 1 = .ok (.istore 5, 2) := by decide +kernel
theorem d_P_countClean_3 : decode b_P_countClean 3 = .ok (.iload_n 2, 1) := by decide +kernel
theorem d_P_countClean_4 : decode b_P_countClean 4 = .ok (.istore 6, 2) := by decide +kernel
theorem d_P_countClean_6 : decode b_P_countClean 6 = .ok (.iload 6, 2) := by decide +kernel
theorem d_P_countClean_8 : decode b_P_countClean 8 = .ok (.iload_n 2, 1) := by decide +kernel
theorem d_P_countClean_9 : decode b_P_countClean 9 = .ok (.iload 4, 2) := by decide +kernel
theorem d_P_countClean_11 : decode b_P_countClean 11 = .ok (.iadd, 1) := by decide +kernel
theorem d_P_countClean_12 : decode b_P_countClean 12 = .ok (.if_icmp .ge 45, 3) := by decide +kernel
theorem d_P_countClean_15 : decode b_P_countClean 15 = .ok (.iload_n 1, 1) := by decide +kernel
theorem d_P_countClean_16 : decode b_P_countClean 16 = .ok (.istore 7, 2) := by decide +kernel
theorem d_P_countClean_18 : decode b_P_countClean 18 = .ok (.iload 7, 2) := by decide +kernel
theorem d_P_countClean_20 : decode b_P_countClean 20 = .ok (.iload_n 1, 1) := by decide +kernel
theorem d_P_countClean_21 : decode b_P_countClean 21 = .ok (.iload_n 3, 1) := by decide +kernel
theorem d_P_countClean_22 : decode b_P_countClean 22 = .ok (.iadd, 1) := by decide +kernel
theorem d_P_countClean_23 : decode b_P_countClean 23 = .ok (.if_icmp .ge 28, 3) := by decide +kernel
theorem d_P_countClean_26 : decode b_P_countClean 26 = .ok (.aload_n 0, 1) := by decide +kernel
theorem d_P_countClean_27 : decode b_P_countClean 27 = .ok (.getfield 13, 3) := by decide +kernel
theorem d_P_countClean_30 : decode b_P_countClean 30 = .ok (.iload 6, 2) := by decide +kernel
theorem d_P_countClean_32 : decode b_P_countClean 32 = .ok (.bipush 24, 2) := by decide +kernel
theorem d_P_countClean_34 : decode b_P_countClean 34 = .ok (.imul, 1) := by decide +kernel
theorem d_P_countClean_35 : decode b_P_countClean 35 = .ok (.iload 7, 2) := by decide +kernel
theorem d_P_countClean_37 : decode b_P_countClean 37 = .ok (.iadd, 1) := by decide +kernel
theorem d_P_countClean_38 : decode b_P_countClean 38 = .ok (.baload, 1) := by decide +kernel
theorem d_P_countClean_39 : decode b_P_countClean 39 = .ok (.ifCond .eq 6, 3) := by decide +kernel
theorem d_P_countClean_42 : decode b_P_countClean 42 = .ok (.iinc 5 1, 3) := by decide +kernel
theorem d_P_countClean_45 : decode b_P_countClean 45 = .ok (.iinc 7 1, 3) := by decide +kernel
theorem d_P_countClean_48 : decode b_P_countClean 48 = .ok (.goto (-30), 3) := by decide +kernel
theorem d_P_countClean_51 : decode b_P_countClean 51 = .ok (.iinc 6 1, 3) := by decide +kernel
theorem d_P_countClean_54 : decode b_P_countClean 54 = .ok (.goto (-48), 3) := by decide +kernel
theorem d_P_countClean_57 : decode b_P_countClean 57 = .ok (.iload 5, 2) := by decide +kernel
theorem d_P_countClean_59 : decode b_P_countClean 59 = .ok (.ireturn, 1) := by decide +kernel
theorem d_P_countLines_0 : decode b_P_countLines 0 = .ok (.iconst 0, 1) := by decide +kernel
theorem d_P_countLines_1 : decode b_P_countLines 1 = .ok (.istore_n 2, 1) := by decide +kernel
theorem d_P_countLines_2 : decode b_P_countLines 2 = .ok (.aload_n 0, 1) := by decide +kernel
theorem d_P_countLines_3 : decode b_P_countLines 3 = .ok (.getfield 39, 3) := by decide +kernel
theorem d_P_countLines_6 : decode b_P_countLines 6 = .ok (.getfield 220, 3) := by decide +kernel
theorem d_P_countLines_9 : decode b_P_countLines 9 = .ok (.iload_n 1, 1) := by decide +kernel
theorem d_P_countLines_10 : decode b_P_countLines 10 = .ok (.iaload, 1) := by decide +kernel
theorem d_P_countLines_11 : decode b_P_countLines 11 = .ok (.istore_n 3, 1) := by decide +kernel
theorem d_P_countLines_12 : decode b_P_countLines 12 = .ok (.iload_n 3, 1) := by decide +kernel
theorem d_P_countLines_13 : decode b_P_countLines 13 = .ok (.aload_n 0, 1) := by decide +kernel
theorem d_P_countLines_14 : decode b_P_countLines 14 = .ok (.getfield 39, 3) := by decide +kernel
theorem d_P_countLines_17 : decode b_P_countLines 17 = .ok (.getfield 225, 3) := by decide +kernel
theorem d_P_countLines_20 : decode b_P_countLines 20 = .ok (.iload_n 1, 1) := by decide +kernel
theorem d_P_countLines_21 : decode b_P_countLines 21 = .ok (.iaload, 1) := by decide +kernel
theorem d_P_countLines_22 : decode b_P_countLines 22 = .ok (.if_icmp .gt 21, 3) := by decide +kernel
theorem d_P_countLines_25 : decode b_P_countLines 25 = .ok (.aload_n 0, 1) := by decide +kernel
theorem d_P_countLines_26 : decode b_P_countLines 26 = .ok (.iload_n 1, 1) := by decide +kernel
theorem d_P_countLines_27 : decode b_P_countLines 27 = .ok (.iload_n 3, 1) := by decide +kernel
theorem d_P_countLines_28 : decode b_P_countLines 28 = .ok (.invokevirtual 231, 3) := by decide +kernel
theorem d_P_countLines_31 : decode b_P_countLines 31 = .ok (.ifCond .eq 6, 3) := by decide +kernel
theorem d_P_countLines_34 : decode b_P_countLines 34 = .ok (.iinc 2 1, 3) := by decide +kernel
theorem d_P_countLines_37 : decode b_P_countLines 37 = .ok (.iinc 3 1, 3) := by decide +kernel
theorem d_P_countLines_40 : decode b_P_countLines 40 = .ok (.goto (-28), 3) := by decide +kernel
theorem d_P_countLines_43 : decode b_P_countLines 43 = .ok (.iload_n 2, 1) := by decide +kernel
theorem d_P_countLines_44 : decode b_P_countLines 44 = .ok (.ireturn, 1) := by decide +kernel
theorem d_P_firstRowOfLine_0 : decode b_P_firstRowOfLine 0 = .ok (.iconst 0, 1) := by decide +kernel
theorem d_P_firstRowOfLine_1 : decode b_P_firstRowOfLine 1 = .ok (.istore_n 3, 1) := by decide +kernel
theorem d_P_firstRowOfLine_2 : decode b_P_firstRowOfLine 2 = .ok (.aload_n 0, 1) := by decide +kernel
theorem d_P_firstRowOfLine_3 : decode b_P_firstRowOfLine 3 = .ok (.getfield 39, 3) := by decide +kernel
theorem d_P_firstRowOfLine_6 : decode b_P_firstRowOfLine 6 = .ok (.getfield 220, 3) := by decide +kernel
theorem d_P_firstRowOfLine_9 : decode b_P_firstRowOfLine 9 = .ok (.iload_n 1, 1) := by decide +kernel
theorem d_P_firstRowOfLine_10 : decode b_P_firstRowOfLine 10 = .ok (.iaload, 1) := by decide +kernel
theorem d_P_firstRowOfLine_11 : decode b_P_firstRowOfLine 11 = .ok (.istore 4, 2) := by decide +kernel
theorem d_P_firstRowOfLine_13 : decode b_P_firstRowOfLine 13 = .ok (.iload 4, 2) := by decide +kernel
theorem d_P_firstRowOfLine_15 : decode b_P_firstRowOfLine 15 = .ok (.aload_n 0, 1) := by decide +kernel
theorem d_P_firstRowOfLine_16 : decode b_P_firstRowOfLine 16 = .ok (.getfield 39, 3) := by decide +kernel
theorem d_P_firstRowOfLine_19 : decode b_P_firstRowOfLine 19 = .ok (.getfield 225, 3) := by decide +kernel
theorem d_P_firstRowOfLine_22 : decode b_P_firstRowOfLine 22 = .ok (.iload_n 1, 1) := by decide +kernel
theorem d_P_firstRowOfLine_23 : decode b_P_firstRowOfLine 23 = .ok (.iaload, 1) := by decide +kernel
theorem d_P_firstRowOfLine_24 : decode b_P_firstRowOfLine 24 = .ok (.if_icmp .gt 30, 3) := by decide +kernel
theorem d_P_firstRowOfLine_27 : decode b_P_firstRowOfLine 27 = .ok (.aload_n 0, 1) := by decide +kernel
theorem d_P_firstRowOfLine_28 : decode b_P_firstRowOfLine 28 = .ok (.iload_n 1, 1) := by decide +kernel
theorem d_P_firstRowOfLine_29 : decode b_P_firstRowOfLine 29 = .ok (.iload 4, 2) := by decide +kernel
theorem d_P_firstRowOfLine_31 : decode b_P_firstRowOfLine 31 = .ok (.invokevirtual 231, 3) := by decide +kernel
theorem d_P_firstRowOfLine_34 : decode b_P_firstRowOfLine 34 = .ok (.ifCond .eq 14, 3) := by decide +kernel
theorem d_P_firstRowOfLine_37 : decode b_P_firstRowOfLine 37 = .ok (.iload_n 3, 1) := by decide +kernel
theorem d_P_firstRowOfLine_38 : decode b_P_firstRowOfLine 38 = .ok (.iload_n 2, 1) := by decide +kernel
theorem d_P_firstRowOfLine_39 : decode b_P_firstRowOfLine 39 = .ok (.if_icmp .ne 6, 3) := by decide +kernel
theorem d_P_firstRowOfLine_42 : decode b_P_firstRowOfLine 42 = .ok (.iload 4, 2) := by decide +kernel
theorem d_P_firstRowOfLine_44 : decode b_P_firstRowOfLine 44 = .ok (.ireturn, 1) := by decide +kernel
theorem d_P_firstRowOfLine_45 : decode b_P_firstRowOfLine 45 = .ok (.iinc 3 1, 3) := by decide +kernel
theorem d_P_firstRowOfLine_48 : decode b_P_firstRowOfLine 48 = .ok (.iinc 4 1, 3) := by decide +kernel
theorem d_P_firstRowOfLine_51 : decode b_P_firstRowOfLine 51 = .ok (.goto (-38), 3) := by decide +kernel
theorem d_P_firstRowOfLine_54 : decode b_P_firstRowOfLine 54 = .ok (.iconst (-1), 1) := by decide +kernel
theorem d_P_firstRowOfLine_55 : decode b_P_firstRowOfLine 55 = .ok (.ireturn, 1) := by decide +kernel
theorem d_P_countRowsOfLine_0 : decode b_P_countRowsOfLine 0 = .ok (.iload_n 2, 1) := by decide +kernel
theorem d_P_countRowsOfLine_1 : decode b_P_countRowsOfLine 1 = .ok (.istore_n 3, 1) := by decide +kernel
theorem d_P_countRowsOfLine_2 : decode b_P_countRowsOfLine 2 = .ok (.iload_n 3, 1) := by decide +kernel
theorem d_P_countRowsOfLine_3 : decode b_P_countRowsOfLine 3 = .ok (.aload_n 0, 1) := by decide +kernel
theorem d_P_countRowsOfLine_4 : decode b_P_countRowsOfLine 4 = .ok (.getfield 39, 3) := by decide +kernel
theorem d_P_countRowsOfLine_7 : decode b_P_countRowsOfLine 7 = .ok (.getfield 225, 3) := by decide +kernel
theorem d_P_countRowsOfLine_10 : decode b_P_countRowsOfLine 10 = .ok (.iload_n 1, 1) := by decide +kernel
theorem d_P_countRowsOfLine_11 : decode b_P_countRowsOfLine 11 = .ok (.iaload, 1) := by decide +kernel
theorem d_P_countRowsOfLine_12 : decode b_P_countRowsOfLine 12 = .ok (.if_icmp .gt 18, 3) := by decide +kernel
theorem d_P_countRowsOfLine_15 : decode b_P_countRowsOfLine 15 = .ok (.aload_n 0, 1) := by decide +kernel
theorem d_P_countRowsOfLine_16 : decode b_P_countRowsOfLine 16 = .ok (.iload_n 1, 1) := by decide +kernel
theorem d_P_countRowsOfLine_17 : decode b_P_countRowsOfLine 17 = .ok (.iload_n 3, 1) := by decide +kernel
theorem d_P_countRowsOfLine_18 : decode b_P_countRowsOfLine 18 = .ok (.invokevirtual 234, 3) := by decide +kernel
theorem d_P_countRowsOfLine_21 : decode b_P_countRowsOfLine 21 = .ok (.ifCond .eq 9, 3) := by decide +kernel
theorem d_P_countRowsOfLine_24 : decode b_P_countRowsOfLine 24 = .ok (.iinc 3 1, 3) := by decide +kernel
theorem d_P_countRowsOfLine_27 : decode b_P_countRowsOfLine 27 = .ok (.goto (-25), 3) := by decide +kernel
theorem d_P_countRowsOfLine_30 : decode b_P_countRowsOfLine 30 = .ok (.iload_n 3, 1) := by decide +kernel
theorem d_P_countRowsOfLine_31 : decode b_P_countRowsOfLine 31 = .ok (.iload_n 2, 1) := by decide +kernel
theorem d_P_countRowsOfLine_32 : decode b_P_countRowsOfLine 32 = .ok (.isub, 1) := by decide +kernel
theorem d_P_countRowsOfLine_33 : decode b_P_countRowsOfLine 33 = .ok (.ireturn, 1) := by decide +kernel
