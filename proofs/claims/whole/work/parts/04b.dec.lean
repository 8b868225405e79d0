theorem d_R_init_0 : decode b_R_init 0 = .ok (.aload_n 0, 1) := by decide +kernel
theorem d_R_init_1 : decode b_R_init 1 = .ok (.invokespecial 3, 3) := by decide +kernel
theorem d_R_init_4 : decode b_R_init 4 = .ok (.aload_n 0, 1) := by decide +kernel
theorem d_R_init_5 : decode b_R_init 5 = .ok (.sipush 288, 3) := by decide +kernel
theorem d_R_init_8 : decode b_R_init 8 = .ok (.newarray .int, 2) := by decide +kernel
theorem d_R_init_10 : decode b_R_init 10 = .ok (.putfield 9, 3) := by decide +kernel
theorem d_R_init_13 : decode b_R_init 13 = .ok (.aload_n 0, 1) := by decide +kernel
theorem d_R_init_14 : decode b_R_init 14 = .ok (.sipush 288, 3) := by decide +kernel
theorem d_R_init_17 : decode b_R_init 17 = .ok (.newarray .int, 2) := by decide +kernel
theorem d_R_init_19 : decode b_R_init 19 = .ok (.putfield 15, 3) := by decide +kernel
theorem d_R_init_22 : decode b_R_init 22 = .ok (.aload_n 0, 1) := by decide +kernel
theorem d_R_init_23 : decode b_R_init 23 = .ok (.sipush 288, 3) := by decide +kernel
theorem d_R_init_26 : decode b_R_init 26 = .ok (.newarray .int, 2) := by decide +kernel
theorem d_R_init_28 : decode b_R_init 28 = .ok (.putfield 18, 3) := by decide +kernel
theorem d_R_init_31 : decode b_R_init 31 = .ok (.return_, 1) := by decide +kernel
theorem d_R_arrange_0 : decode b_R_arrange 0 = .ok (.aload_n 0, 1) := by decide +kernel
theorem d_R_arrange_1 : decode b_R_arrange 1 = .ok (.aload_n 1, 1) := by decide +kernel
theorem d_R_arrange_2 : decode b_R_arrange 2 = .ok (.invokevirtual 21, 3) := by decide +kernel
theorem d_R_arrange_5 : decode b_R_arrange 5 = .ok (.iconst 0, 1) := by decide +kernel
theorem d_R_arrange_6 : decode b_R_arrange 6 = .ok (.istore_n 2, 1) := by decide +kernel
theorem d_R_arrange_7 : decode b_R_arrange 7 = .ok (.iconst 0, 1) := by decide +kernel
theorem d_R_arrange_8 : decode b_R_arrange 8 = .ok (.istore_n 3, 1) := by decide +kernel
theorem d_R_arrange_9 : decode b_R_arrange 9 = .ok (.aload_n 0, 1) := by decide +kernel
theorem d_R_arrange_10 : decode b_R_arrange 10 = .ok (.getfield 18, 3) := by decide +kernel
theorem d_R_arrange_13 : decode b_R_arrange 13 = .ok (.iload_n 3, 1) := by decide +kernel
theorem d_R_arrange_14 : decode b_R_arrange 14 = .ok (.aload_n 1, 1) := by decide +kernel
theorem d_R_arrange_15 : decode b_R_arrange 15 = .ok (.getfield 25, 3) := by decide +kernel
theorem d_R_arrange_18 : decode b_R_arrange 18 = .ok (.iastore, 1) := by decide +kernel
theorem d_R_arrange_19 : decode b_R_arrange 19 = .ok (.iconst 0, 1) := by decide +kernel
theorem d_R_arrange_20 : decode b_R_arrange 20 = .ok (.istore 4, 2) := by decide +kernel
theorem d_R_arrange_22 : decode b_R_arrange 22 = .ok (.iload 4, 2) := by decide +kernel
theorem d_R_arrange_24 : decode b_R_arrange 24 = .ok (.sipush 576, 3) := by decide +kernel
theorem d_R_arrange_27 : decode b_R_arrange 27 = .ok (.if_icmp .ge 67, 3) := by decide +kernel
theorem d_R_arrange_30 : decode b_R_arrange 30 = .ok (.iload_n 3, 1) := by decide +kernel
theorem d_R_arrange_31 : decode b_R_arrange 31 = .ok (.ifCond .lt 63, 3) := by decide +kernel
theorem d_R_arrange_34 : decode b_R_arrange 34 = .ok (.aload_n 0, 1) := by decide +kernel
theorem d_R_arrange_35 : decode b_R_arrange 35 = .ok (.getfield 18, 3) := by decide +kernel
theorem d_R_arrange_38 : decode b_R_arrange 38 = .ok (.iload_n 3, 1) := by decide +kernel
theorem d_R_arrange_39 : decode b_R_arrange 39 = .ok (.iaload, 1) := by decide +kernel
theorem d_R_arrange_40 : decode b_R_arrange 40 = .ok (.istore 5, 2) := by decide +kernel
theorem d_R_arrange_42 : decode b_R_arrange 42 = .ok (.aload_n 0, 1) := by decide +kernel
theorem d_R_arrange_43 : decode b_R_arrange 43 = .ok (.aload_n 1, 1) := by decide +kernel
theorem d_R_arrange_44 : decode b_R_arrange 44 = .ok (.iload_n 2, 1) := by decide +kernel
theorem d_R_arrange_45 : decode b_R_arrange 45 = .ok (.iload 5, 2) := by decide +kernel
theorem d_R_arrange_47 : decode b_R_arrange 47 = .ok (.invokevirtual 31, 3) := by decide +kernel
theorem d_R_arrange_50 : decode b_R_arrange 50 = .ok (.ifCond .eq 32, 3) := by decide +kernel
theorem d_R_arrange_53 : decode b_R_arrange 53 = .ok (.iload_n 3, 1) := by decide +kernel
theorem d_R_arrange_54 : decode b_R_arrange 54 = .ok (.iconst 1, 1) := by decide +kernel
theorem d_R_arrange_55 : decode b_R_arrange 55 = .ok (.iadd, 1) := by decide +kernel
theorem d_R_arrange_56 : decode b_R_arrange 56 = .ok (.sipush 288, 3) := by decide +kernel
theorem d_R_arrange_59 : decode b_R_arrange 59 = .ok (.if_icmp .ge 23, 3) := by decide +kernel
theorem d_R_arrange_62 : decode b_R_arrange 62 = .ok (.iinc 3 1, 3) := by decide +kernel
theorem d_R_arrange_65 : decode b_R_arrange 65 = .ok (.aload_n 0, 1) := by decide +kernel
theorem d_R_arrange_66 : decode b_R_arrange 66 = .ok (.getfield 18, 3) := by decide +kernel
theorem d_R_arrange_69 : decode b_R_arrange 69 = .ok (.iload_n 3, 1) := by decide +kernel
theorem d_R_arrange_70 : decode b_R_arrange 70 = .ok (.aload_n 0, 1) := by decide +kernel
theorem d_R_arrange_71 : decode b_R_arrange 71 = .ok (.aload_n 1, 1) := by decide +kernel
theorem d_R_arrange_72 : decode b_R_arrange 72 = .ok (.iload_n 2, 1) := by decide +kernel
theorem d_R_arrange_73 : decode b_R_arrange 73 = .ok (.iload 5, 2) := by decide +kernel
theorem d_R_arrange_75 : decode b_R_arrange 75 = .ok (.invokevirtual 35, 3) := by decide +kernel
theorem d_R_arrange_78 : decode b_R_arrange 78 = .ok (.iastore, 1) := by decide +kernel
theorem d_R_arrange_79 : decode b_R_arrange 79 = .ok (.goto 9, 3) := by decide +kernel
theorem d_R_arrange_82 : decode b_R_arrange 82 = .ok (.iload 5, 2) := by decide +kernel
theorem d_R_arrange_84 : decode b_R_arrange 84 = .ok (.istore_n 2, 1) := by decide +kernel
theorem d_R_arrange_85 : decode b_R_arrange 85 = .ok (.iinc 3 (-1), 3) := by decide +kernel
theorem d_R_arrange_88 : decode b_R_arrange 88 = .ok (.iinc 4 1, 3) := by decide +kernel
theorem d_R_arrange_91 : decode b_R_arrange 91 = .ok (.goto (-69), 3) := by decide +kernel
theorem d_R_arrange_94 : decode b_R_arrange 94 = .ok (.return_, 1) := by decide +kernel
theorem d_R_sortByBoxes_0 : decode b_R_sortByBoxes 0 = .ok (.iconst 0, 1) := by decide +kernel
theorem d_R_sortByBoxes_1 : decode b_R_sortByBoxes 1 = .ok (.istore_n 2, 1) := by decide +kernel
theorem d_R_sortByBoxes_2 : decode b_R_sortByBoxes 2 = .ok (.iload_n 2, 1) := by decide +kernel
theorem d_R_sortByBoxes_3 : decode b_R_sortByBoxes 3 = .ok (.aload_n 1, 1) := by decide +kernel
theorem d_R_sortByBoxes_4 : decode b_R_sortByBoxes 4 = .ok (.getfield 25, 3) := by decide +kernel
theorem d_R_sortByBoxes_7 : decode b_R_sortByBoxes 7 = .ok (.if_icmp .ge 58, 3) := by decide +kernel
theorem d_R_sortByBoxes_10 : decode b_R_sortByBoxes 10 = .ok (.iload_n 2, 1) := by decide +kernel
theorem d_R_sortByBoxes_11 : decode b_R_sortByBoxes 11 = .ok (.istore_n 3, 1) := by decide +kernel
theorem d_R_sortByBoxes_12 : decode b_R_sortByBoxes 12 = .ok (.iload_n 3, 1) := by decide +kernel
theorem d_R_sortByBoxes_13 : decode b_R_sortByBoxes 13 = .ok (.ifCond .le 39, 3) := by decide +kernel
theorem d_R_sortByBoxes_16 : decode b_R_sortByBoxes 16 = .ok (.aload_n 1, 1) := by decide +kernel
theorem d_R_sortByBoxes_17 : decode b_R_sortByBoxes 17 = .ok (.iload_n 2, 1) := by decide +kernel
theorem d_R_sortByBoxes_18 : decode b_R_sortByBoxes 18 = .ok (.aload_n 0, 1) := by decide +kernel
theorem d_R_sortByBoxes_19 : decode b_R_sortByBoxes 19 = .ok (.getfield 9, 3) := by decide +kernel
theorem d_R_sortByBoxes_22 : decode b_R_sortByBoxes 22 = .ok (.iload_n 3, 1) := by decide +kernel
theorem d_R_sortByBoxes_23 : decode b_R_sortByBoxes 23 = .ok (.iconst 1, 1) := by decide +kernel
theorem d_R_sortByBoxes_24 : decode b_R_sortByBoxes 24 = .ok (.isub, 1) := by decide +kernel
theorem d_R_sortByBoxes_25 : decode b_R_sortByBoxes 25 = .ok (.iaload, 1) := by decide +kernel
theorem d_R_sortByBoxes_26 : decode b_R_sortByBoxes 26 = .ok (.invokestatic 39, 3) := by decide +kernel
theorem d_R_sortByBoxes_29 : decode b_R_sortByBoxes 29 = .ok (.ifCond .eq 23, 3) := by decide +kernel
theorem d_R_sortByBoxes_32 : decode b_R_sortByBoxes 32 = .ok (.aload_n 0, 1) := by decide +kernel
theorem d_R_sortByBoxes_33 : decode b_R_sortByBoxes 33 = .ok (.getfield 9, 3) := by decide +kernel
theorem d_R_sortByBoxes_36 : decode b_R_sortByBoxes 36 = .ok (.iload_n 3, 1) := by decide +kernel
theorem d_R_sortByBoxes_37 : decode b_R_sortByBoxes 37 = .ok (.aload_n 0, 1) := by decide +kernel
theorem d_R_sortByBoxes_38 : decode b_R_sortByBoxes 38 = .ok (.getfield 9, 3) := by decide +kernel
theorem d_R_sortByBoxes_41 : decode b_R_sortByBoxes 41 = .ok (.iload_n 3, 1) := by decide +kernel
theorem d_R_sortByBoxes_42 : decode b_R_sortByBoxes 42 = .ok (.iconst 1, 1) := by decide +kernel
theorem d_R_sortByBoxes_43 : decode b_R_sortByBoxes 43 = .ok (.isub, 1) := by decide +kernel
theorem d_R_sortByBoxes_44 : decode b_R_sortByBoxes 44 = .ok (.iaload, 1) := by decide +kernel
theorem d_R_sortByBoxes_45 : decode b_R_sortByBoxes 45 = .ok (.iastore, 1) := by decide +kernel
theorem d_R_sortByBoxes_46 : decode b_R_sortByBoxes 46 = .ok (.iinc 3 (-1), 3) := by decide +kernel
theorem d_R_sortByBoxes_49 : decode b_R_sortByBoxes 49 = .ok (.goto (-37), 3) := by decide +kernel
theorem d_R_sortByBoxes_52 : decode b_R_sortByBoxes 52 = .ok (.aload_n 0, 1) := by decide +kernel
theorem d_R_sortByBoxes_53 : decode b_R_sortByBoxes 53 = .ok (.getfield 9, 3) := by decide +kernel
theorem d_R_sortByBoxes_56 : decode b_R_sortByBoxes 56 = .ok (.iload_n 3, 1) := by decide +kernel
theorem d_R_sortByBoxes_57 : decode b_R_sortByBoxes 57 = .ok (.iload_n 2, 1) := by decide +kernel
theorem d_R_sortByBoxes_58 : decode b_R_sortByBoxes 58 = .ok (.iastore, 1) := by decide +kernel
theorem d_R_sortByBoxes_59 : decode b_R_sortByBoxes 59 = .ok (.iinc 2 1, 3) := by decide +kernel
theorem d_R_sortByBoxes_62 : decode b_R_sortByBoxes 62 = .ok (.goto (-60), 3) := by decide +kernel
theorem d_R_sortByBoxes_65 : decode b_R_sortByBoxes 65 = .ok (.return_, 1) := by decide +kernel
theorem d_R_isBefore_0 : decode b_R_isBefore 0 = .ok (.aload_n 0, 1) := by decide +kernel
theorem d_R_isBefore_1 : decode b_R_isBefore 1 = .ok (.getfield 42, 3) := by decide +kernel
theorem d_R_isBefore_4 : decode b_R_isBefore 4 = .ok (.iload_n 1, 1) := by decide +kernel
theorem d_R_isBefore_5 : decode b_R_isBefore 5 = .ok (.iaload, 1) := by decide +kernel
theorem d_R_isBefore_6 : decode b_R_isBefore 6 = .ok (.aload_n 0, 1) := by decide +kernel
theorem d_R_isBefore_7 : decode b_R_isBefore 7 = .ok (.getfield 42, 3) := by decide +kernel
theorem d_R_isBefore_10 : decode b_R_isBefore 10 = .ok (.iload_n 2, 1) := by decide +kernel
theorem d_R_isBefore_11 : decode b_R_isBefore 11 = .ok (.iaload, 1) := by decide +kernel
theorem d_R_isBefore_12 : decode b_R_isBefore 12 = .ok (.if_icmp .eq 24, 3) := by decide +kernel
theorem d_R_isBefore_15 : decode b_R_isBefore 15 = .ok (.aload_n 0, 1) := by decide +kernel
theorem d_R_isBefore_16 : decode b_R_isBefore 16 = .ok (.getfield 42, 3) := by decide +kernel
theorem d_R_isBefore_19 : decode b_R_isBefore 19 = .ok (.iload_n 1, 1) := by decide +kernel
theorem d_R_isBefore_20 : decode b_R_isBefore 20 = .ok (.iaload, 1) := by decide +kernel
theorem d_R_isBefore_21 : decode b_R_isBefore 21 = .ok (.aload_n 0, 1) := by decide +kernel
theorem d_R_isBefore_22 : decode b_R_isBefore 22 = .ok (.getfield 42, 3) := by decide +kernel
theorem d_R_isBefore_25 : decode b_R_isBefore 25 = .ok (.iload_n 2, 1) := by decide +kernel
theorem d_R_isBefore_26 : decode b_R_isBefore 26 = .ok (.iaload, 1) := by decide +kernel
theorem d_R_isBefore_27 : decode b_R_isBefore 27 = .ok (.if_icmp .ge 7, 3) := by decide +kernel
theorem d_R_isBefore_30 : decode b_R_isBefore 30 = .ok (.iconst 1, 1) := by decide +kernel
theorem d_R_isBefore_31 : decode b_R_isBefore 31 = .ok (.goto 4, 3) := by decide +kernel
theorem d_R_isBefore_34 : decode b_R_isBefore 34 = .ok (.iconst 0, 1) := by decide +kernel
theorem d_R_isBefore_35 : decode b_R_isBefore 35 = .ok (.ireturn, 1) := by decide +kernel
theorem d_R_isBefore_36 : decode b_R_isBefore 36 = .ok (.aload_n 0, 1) := by decide +kernel
theorem d_R_isBefore_37 : decode b_R_isBefore 37 = .ok (.getfield 45, 3) := by decide +kernel
theorem d_R_isBefore_40 : decode b_R_isBefore 40 = .ok (.iload_n 1, 1) := by decide +kernel
theorem d_R_isBefore_41 : decode b_R_isBefore 41 = .ok (.iaload, 1) := by decide +kernel
theorem d_R_isBefore_42 : decode b_R_isBefore 42 = .ok (.aload_n 0, 1) := by decide +kernel
theorem d_R_isBefore_43 : decode b_R_isBefore 43 = .ok (.getfield 45, 3) := by decide +kernel
theorem d_R_isBefore_46 : decode b_R_isBefore 46 = .ok (.iload_n 2, 1) := by decide +kernel
theorem d_R_isBefore_47 : decode b_R_isBefore 47 = .ok (.iaload, 1) := by decide +kernel
theorem d_R_isBefore_48 : decode b_R_isBefore 48 = .ok (.if_icmp .eq 24, 3) := by decide +kernel
theorem d_R_isBefore_51 : decode b_R_isBefore 51 = .ok (.aload_n 0, 1) := by decide +kernel
theorem d_R_isBefore_52 : decode b_R_isBefore 52 = .ok (.getfield 45, 3) := by decide +kernel
theorem d_R_isBefore_55 : decode b_R_isBefore 55 = .ok (.iload_n 1, 1) := by decide +kernel
theorem d_R_isBefore_56 : decode b_R_isBefore 56 = .ok (.iaload, 1) := by decide +kernel
theorem d_R_isBefore_57 : decode b_R_isBefore 57 = .ok (.aload_n 0, 1) := by decide +kernel
theorem d_R_isBefore_58 : decode b_R_isBefore 58 = .ok (.getfield 45, 3) := by decide +kernel
theorem d_R_isBefore_61 : decode b_R_isBefore 61 = .ok (.iload_n 2, 1) := by decide +kernel
theorem d_R_isBefore_62 : decode b_R_isBefore 62 = .ok (.iaload, 1) := by decide +kernel
theorem d_R_isBefore_63 : decode b_R_isBefore 63 = .ok (.if_icmp .ge 7, 3) := by decide +kernel
theorem d_R_isBefore_66 : decode b_R_isBefore 66 = .ok (.iconst 1, 1) := by decide +kernel
theorem d_R_isBefore_67 : decode b_R_isBefore 67 = .ok (.goto 4, 3) := by decide +kernel
theorem d_R_isBefore_70 : decode b_R_isBefore 70 = .ok (.iconst 0, 1) := by decide +kernel
theorem d_R_isBefore_71 : decode b_R_isBefore 71 = .ok (.ireturn, 1) := by decide +kernel
theorem d_R_isBefore_72 : decode b_R_isBefore 72 = .ok (.iload_n 1, 1) := by decide +kernel
theorem d_R_isBefore_73 : decode b_R_isBefore 73 = .ok (.iload_n 2, 1) := by decide +kernel
theorem d_R_isBefore_74 : decode b_R_isBefore 74 = .ok (.if_icmp .ge 7, 3) := by decide +kernel
theorem d_R_isBefore_77 : decode b_R_isBefore 77 = .ok (.iconst 1, 1) := by decide +kernel
theorem d_R_isBefore_78 : decode b_R_isBefore 78 = .ok (.goto 4, 3) := by decide +kernel
theorem d_R_isBefore_81 : decode b_R_isBefore 81 = .ok (.iconst 0, 1) := by decide +kernel
theorem d_R_isBefore_82 : decode b_R_isBefore 82 = .ok (.ireturn, 1) := by decide +kernel
theorem d_R_findCut_0 : decode b_R_findCut 0 = .ok (.aload_n 0, 1) := by decide +kernel
theorem d_R_findCut_1 : decode b_R_findCut 1 = .ok (.iconst (-1), 1) := by decide +kernel
theorem d_R_findCut_2 : decode b_R_findCut 2 = .ok (.putfield 48, 3) := by decide +kernel
theorem d_R_findCut_5 : decode b_R_findCut 5 = .ok (.aload_n 0, 1) := by decide +kernel
theorem d_R_findCut_6 : decode b_R_findCut 6 = .ok (.aload_n 1, 1) := by decide +kernel
theorem d_R_findCut_7 : decode b_R_findCut 7 = .ok (.getfield 45, 3) := by decide +kernel
theorem d_R_findCut_10 : decode b_R_findCut 10 = .ok (.aload_n 1, 1) := by decide +kernel
theorem d_R_findCut_11 : decode b_R_findCut 11 = .ok (.getfield 51, 3) := by decide +kernel
theorem d_R_findCut_14 : decode b_R_findCut 14 = .ok (.iload_n 2, 1) := by decide +kernel
theorem d_R_findCut_15 : decode b_R_findCut 15 = .ok (.iload_n 3, 1) := by decide +kernel
theorem d_R_findCut_16 : decode b_R_findCut 16 = .ok (.iconst 0, 1) := by decide +kernel
theorem d_R_findCut_17 : decode b_R_findCut 17 = .ok (.invokevirtual 54, 3) := by decide +kernel
theorem d_R_findCut_20 : decode b_R_findCut 20 = .ok (.aload_n 0, 1) := by decide +kernel
theorem d_R_findCut_21 : decode b_R_findCut 21 = .ok (.aload_n 1, 1) := by decide +kernel
theorem d_R_findCut_22 : decode b_R_findCut 22 = .ok (.getfield 42, 3) := by decide +kernel
theorem d_R_findCut_25 : decode b_R_findCut 25 = .ok (.aload_n 1, 1) := by decide +kernel
theorem d_R_findCut_26 : decode b_R_findCut 26 = .ok (.getfield 58, 3) := by decide +kernel
theorem d_R_findCut_29 : decode b_R_findCut 29 = .ok (.iload_n 2, 1) := by decide +kernel
theorem d_R_findCut_30 : decode b_R_findCut 30 = .ok (.iload_n 3, 1) := by decide +kernel
theorem d_R_findCut_31 : decode b_R_findCut 31 = .ok (.iconst 1, 1) := by decide +kernel
theorem d_R_findCut_32 : decode b_R_findCut 32 = .ok (.invokevirtual 54, 3) := by decide +kernel
theorem d_R_findCut_35 : decode b_R_findCut 35 = .ok (.aload_n 0, 1) := by decide +kernel
theorem d_R_findCut_36 : decode b_R_findCut 36 = .ok (.getfield 48, 3) := by decide +kernel
theorem d_R_findCut_39 : decode b_R_findCut 39 = .ok (.iconst (-1), 1) := by decide +kernel
theorem d_R_findCut_40 : decode b_R_findCut 40 = .ok (.if_icmp .eq 7, 3) := by decide +kernel
theorem d_R_findCut_43 : decode b_R_findCut 43 = .ok (.iconst 1, 1) := by decide +kernel
theorem d_R_findCut_44 : decode b_R_findCut 44 = .ok (.goto 4, 3) := by decide +kernel
theorem d_R_findCut_47 : decode b_R_findCut 47 = .ok (.iconst 0, 1) := by decide +kernel
theorem d_R_findCut_48 : decode b_R_findCut 48 = .ok (.ireturn, 1) := by decide +kernel
theorem d_R_lookAlong_0 : decode b_R_lookAlong 0 = .ok (.iconst 0, 1) := by decide +kernel
theorem d_R_lookAlong_1 : decode b_R_lookAlong 1 = .ok (.istore 6, 2) := by decide +kernel
theorem d_R_lookAlong_3 : decode b_R_lookAlong 3 = .ok (.iconst 0, 1) := by decide +kernel
theorem d_R_lookAlong_4 : decode b_R_lookAlong 4 = .ok (.istore 7, 2) := by decide +kernel
theorem d_R_lookAlong_6 : decode b_R_lookAlong 6 = .ok (.iload_n 3, 1) := by decide +kernel
theorem d_R_lookAlong_7 : decode b_R_lookAlong 7 = .ok (.istore 8, 2) := by decide +kernel
theorem d_R_lookAlong_9 : decode b_R_lookAlong 9 = .ok (.iload 8, 2) := by decide +kernel
theorem d_R_lookAlong_11 : decode b_R_lookAlong 11 = .ok (.iload 4, 2) := by decide +kernel
theorem d_R_lookAlong_13 : decode b_R_lookAlong 13 = .ok (.if_icmp .ge 52, 3) := by decide +kernel
theorem d_R_lookAlong_16 : decode b_R_lookAlong 16 = .ok (.aload_n 0, 1) := by decide +kernel
theorem d_R_lookAlong_17 : decode b_R_lookAlong 17 = .ok (.getfield 9, 3) := by decide +kernel
theorem d_R_lookAlong_20 : decode b_R_lookAlong 20 = .ok (.iload 8, 2) := by decide +kernel
theorem d_R_lookAlong_22 : decode b_R_lookAlong 22 = .ok (.iaload, 1) := by decide +kernel
theorem d_R_lookAlong_23 : decode b_R_lookAlong 23 = .ok (.istore 9, 2) := by decide +kernel
theorem d_R_lookAlong_25 : decode b_R_lookAlong 25 = .ok (.iload 6, 2) := by decide +kernel
theorem d_R_lookAlong_27 : decode b_R_lookAlong 27 = .ok (.aload_n 1, 1) := by decide +kernel
theorem d_R_lookAlong_28 : decode b_R_lookAlong 28 = .ok (.iload 9, 2) := by decide +kernel
theorem d_R_lookAlong_30 : decode b_R_lookAlong 30 = .ok (.iaload, 1) := by decide +kernel
theorem d_R_lookAlong_31 : decode b_R_lookAlong 31 = .ok (.aload_n 2, 1) := by decide +kernel
theorem d_R_lookAlong_32 : decode b_R_lookAlong 32 = .ok (.iload 9, 2) := by decide +kernel
theorem d_R_lookAlong_34 : decode b_R_lookAlong 34 = .ok (.iaload, 1) := by decide +kernel
theorem d_R_lookAlong_35 : decode b_R_lookAlong 35 = .ok (.invokestatic 61, 3) := by decide +kernel
theorem d_R_lookAlong_38 : decode b_R_lookAlong 38 = .ok (.ior, 1) := by decide +kernel
theorem d_R_lookAlong_39 : decode b_R_lookAlong 39 = .ok (.istore 6, 2) := by decide +kernel
theorem d_R_lookAlong_41 : decode b_R_lookAlong 41 = .ok (.iload 7, 2) := by decide +kernel
theorem d_R_lookAlong_43 : decode b_R_lookAlong 43 = .ok (.aload_n 1, 1) := by decide +kernel
theorem d_R_lookAlong_44 : decode b_R_lookAlong 44 = .ok (.iload 9, 2) := by decide +kernel
theorem d_R_lookAlong_46 : decode b_R_lookAlong 46 = .ok (.iaload, 1) := by decide +kernel
theorem d_R_lookAlong_47 : decode b_R_lookAlong 47 = .ok (.iconst 1, 1) := by decide +kernel
theorem d_R_lookAlong_48 : decode b_R_lookAlong 48 = .ok (.iadd, 1) := by decide +kernel
theorem d_R_lookAlong_49 : decode b_R_lookAlong 49 = .ok (.aload_n 2, 1) := by decide +kernel
theorem d_R_lookAlong_50 : decode b_R_lookAlong 50 = .ok (.iload 9, 2) := by decide +kernel
theorem d_R_lookAlong_52 : decode b_R_lookAlong 52 = .ok (.iaload, 1) := by decide +kernel
theorem d_R_lookAlong_53 : decode b_R_lookAlong 53 = .ok (.invokestatic 61, 3) := by decide +kernel
theorem d_R_lookAlong_56 : decode b_R_lookAlong 56 = .ok (.ior, 1) := by decide +kernel
theorem d_R_lookAlong_57 : decode b_R_lookAlong 57 = .ok (.istore 7, 2) := by decide +kernel
theorem d_R_lookAlong_59 : decode b_R_lookAlong 59 = .ok (.iinc 8 1, 3) := by decide +kernel
theorem d_R_lookAlong_62 : decode b_R_lookAlong 62 = .ok (.goto (-53), 3) := by decide +kernel
theorem d_R_lookAlong_65 : decode b_R_lookAlong 65 = .ok (.iconst (-1), 1) := by decide +kernel
theorem d_R_lookAlong_66 : decode b_R_lookAlong 66 = .ok (.istore 8, 2) := by decide +kernel
theorem d_R_lookAlong_68 : decode b_R_lookAlong 68 = .ok (.iconst 0, 1) := by decide +kernel
theorem d_R_lookAlong_69 : decode b_R_lookAlong 69 = .ok (.istore 9, 2) := by decide +kernel
theorem d_R_lookAlong_71 : decode b_R_lookAlong 71 = .ok (.iload 9, 2) := by decide +kernel
theorem d_R_lookAlong_73 : decode b_R_lookAlong 73 = .ok (.bipush 24, 2) := by decide +kernel
theorem d_R_lookAlong_75 : decode b_R_lookAlong 75 = .ok (.if_icmp .ge 77, 3) := by decide +kernel
theorem d_R_lookAlong_78 : decode b_R_lookAlong 78 = .ok (.iload 6, 2) := by decide +kernel
theorem d_R_lookAlong_80 : decode b_R_lookAlong 80 = .ok (.iload 9, 2) := by decide +kernel
theorem d_R_lookAlong_82 : decode b_R_lookAlong 82 = .ok (.invokestatic 65, 3) := by decide +kernel
theorem d_R_lookAlong_85 : decode b_R_lookAlong 85 = .ok (.ifCond .ne 6, 3) := by decide +kernel
theorem d_R_lookAlong_88 : decode b_R_lookAlong 88 = .ok (.goto 58, 3) := by decide +kernel
theorem d_R_lookAlong_91 : decode b_R_lookAlong 91 = .ok (.iload 8, 2) := by decide +kernel
theorem d_R_lookAlong_93 : decode b_R_lookAlong 93 = .ok (.iconst (-1), 1) := by decide +kernel
theorem d_R_lookAlong_94 : decode b_R_lookAlong 94 = .ok (.if_icmp .eq 46, 3) := by decide +kernel
theorem d_R_lookAlong_97 : decode b_R_lookAlong 97 = .ok (.iload 7, 2) := by decide +kernel
theorem d_R_lookAlong_99 : decode b_R_lookAlong 99 = .ok (.iload 9, 2) := by decide +kernel
theorem d_R_lookAlong_101 : decode b_R_lookAlong 101 = .ok (.invokestatic 65, 3) := by decide +kernel
theorem d_R_lookAlong_104 : decode b_R_lookAlong 104 = .ok (.ifCond .ne 36, 3) := by decide +kernel
theorem d_R_lookAlong_107 : decode b_R_lookAlong 107 = .ok (.iload 9, 2) := by decide +kernel
theorem d_R_lookAlong_109 : decode b_R_lookAlong 109 = .ok (.iload 8, 2) := by decide +kernel
theorem d_R_lookAlong_111 : decode b_R_lookAlong 111 = .ok (.isub, 1) := by decide +kernel
theorem d_R_lookAlong_112 : decode b_R_lookAlong 112 = .ok (.aload_n 0, 1) := by decide +kernel
theorem d_R_lookAlong_113 : decode b_R_lookAlong 113 = .ok (.getfield 48, 3) := by decide +kernel
theorem d_R_lookAlong_116 : decode b_R_lookAlong 116 = .ok (.if_icmp .le 24, 3) := by decide +kernel
theorem d_R_lookAlong_119 : decode b_R_lookAlong 119 = .ok (.aload_n 0, 1) := by decide +kernel
theorem d_R_lookAlong_120 : decode b_R_lookAlong 120 = .ok (.iload 9, 2) := by decide +kernel
theorem d_R_lookAlong_122 : decode b_R_lookAlong 122 = .ok (.iload 8, 2) := by decide +kernel
theorem d_R_lookAlong_124 : decode b_R_lookAlong 124 = .ok (.isub, 1) := by decide +kernel
theorem d_R_lookAlong_125 : decode b_R_lookAlong 125 = .ok (.putfield 48, 3) := by decide +kernel
theorem d_R_lookAlong_128 : decode b_R_lookAlong 128 = .ok (.aload_n 0, 1) := by decide +kernel
theorem d_R_lookAlong_129 : decode b_R_lookAlong 129 = .ok (.iload 9, 2) := by decide +kernel
theorem d_R_lookAlong_131 : decode b_R_lookAlong 131 = .ok (.putfield 69, 3) := by decide +kernel
theorem d_R_lookAlong_134 : decode b_R_lookAlong 134 = .ok (.aload_n 0, 1) := by decide +kernel
theorem d_R_lookAlong_135 : decode b_R_lookAlong 135 = .ok (.iload 5, 2) := by decide +kernel
theorem d_R_lookAlong_137 : decode b_R_lookAlong 137 = .ok (.putfield 72, 3) := by decide +kernel
theorem d_R_lookAlong_140 : decode b_R_lookAlong 140 = .ok (.iload 9, 2) := by decide +kernel
theorem d_R_lookAlong_142 : decode b_R_lookAlong 142 = .ok (.iconst 1, 1) := by decide +kernel
theorem d_R_lookAlong_143 : decode b_R_lookAlong 143 = .ok (.iadd, 1) := by decide +kernel
theorem d_R_lookAlong_144 : decode b_R_lookAlong 144 = .ok (.istore 8, 2) := by decide +kernel
theorem d_R_lookAlong_146 : decode b_R_lookAlong 146 = .ok (.iinc 9 1, 3) := by decide +kernel
theorem d_R_lookAlong_149 : decode b_R_lookAlong 149 = .ok (.goto (-78), 3) := by decide +kernel
theorem d_R_lookAlong_152 : decode b_R_lookAlong 152 = .ok (.return_, 1) := by decide +kernel
theorem d_R_bits_0 : decode b_R_bits 0 = .ok (.iconst 1, 1) := by decide +kernel
theorem d_R_bits_1 : decode b_R_bits 1 = .ok (.iload_n 1, 1) := by decide +kernel
theorem d_R_bits_2 : decode b_R_bits 2 = .ok (.iconst 1, 1) := by decide +kernel
theorem d_R_bits_3 : decode b_R_bits 3 = .ok (.iadd, 1) := by decide +kernel
theorem d_R_bits_4 : decode b_R_bits 4 = .ok (.ishl, 1) := by decide +kernel
theorem d_R_bits_5 : decode b_R_bits 5 = .ok (.iconst 1, 1) := by decide +kernel
theorem d_R_bits_6 : decode b_R_bits 6 = .ok (.iload_n 0, 1) := by decide +kernel
theorem d_R_bits_7 : decode b_R_bits 7 = .ok (.ishl, 1) := by decide +kernel
theorem d_R_bits_8 : decode b_R_bits 8 = .ok (.isub, 1) := by decide +kernel
theorem d_R_bits_9 : decode b_R_bits 9 = .ok (.ireturn, 1) := by decide +kernel
theorem d_R_hasBit_0 : decode b_R_hasBit 0 = .ok (.iload_n 0, 1) := by decide +kernel
theorem d_R_hasBit_1 : decode b_R_hasBit 1 = .ok (.iload_n 1, 1) := by decide +kernel
theorem d_R_hasBit_2 : decode b_R_hasBit 2 = .ok (.ishr, 1) := by decide +kernel
theorem d_R_hasBit_3 : decode b_R_hasBit 3 = .ok (.iconst 1, 1) := by decide +kernel
theorem d_R_hasBit_4 : decode b_R_hasBit 4 = .ok (.iand, 1) := by decide +kernel
theorem d_R_hasBit_5 : decode b_R_hasBit 5 = .ok (.ifCond .eq 7, 3) := by decide +kernel
theorem d_R_hasBit_8 : decode b_R_hasBit 8 = .ok (.iconst 1, 1) := by decide +kernel
theorem d_R_hasBit_9 : decode b_R_hasBit 9 = .ok (.goto 4, 3) := by decide +kernel
theorem d_R_hasBit_12 : decode b_R_hasBit 12 = .ok (.iconst 0, 1) := by decide +kernel
theorem d_R_hasBit_13 : decode b_R_hasBit 13 = .ok (.ireturn, 1) := by decide +kernel
theorem d_R_divide_0 : decode b_R_divide 0 = .ok (.aload_n 0, 1) := by decide +kernel
theorem d_R_divide_1 : decode b_R_divide 1 = .ok (.getfield 72, 3) := by decide +kernel
theorem d_R_divide_4 : decode b_R_divide 4 = .ok (.ifCond .eq 10, 3) := by decide +kernel
theorem d_R_divide_7 : decode b_R_divide 7 = .ok (.aload_n 1, 1) := by decide +kernel
theorem d_R_divide_8 : decode b_R_divide 8 = .ok (.getfield 58, 3) := by decide +kernel
theorem d_R_divide_11 : decode b_R_divide 11 = .ok (.goto 7, 3) := by decide +kernel
theorem d_R_divide_14 : decode b_R_divide 14 = .ok (.aload_n 1, 1) := by decide +kernel
theorem d_R_divide_15 : decode b_R_divide 15 = .ok (.getfield 51, 3) := by decide +kernel
theorem d_R_divide_18 : decode b_R_divide 18 = .ok (.astore 4, 2) := by decide +kernel
theorem d_R_divide_20 : decode b_R_divide 20 = .ok (.iload_n 2, 1) := by decide +kernel
theorem d_R_divide_21 : decode b_R_divide 21 = .ok (.istore 5, 2) := by decide +kernel
theorem d_R_divide_23 : decode b_R_divide 23 = .ok (.iconst 0, 1) := by decide +kernel
theorem d_R_divide_24 : decode b_R_divide 24 = .ok (.istore 6, 2) := by decide +kernel
theorem d_R_divide_26 : decode b_R_divide 26 = .ok (.iload_n 2, 1) := by decide +kernel
theorem d_R_divide_27 : decode b_R_divide 27 = .ok (.istore 7, 2) := by decide +kernel
theorem d_R_divide_29 : decode b_R_divide 29 = .ok (.iload 7, 2) := by decide +kernel
theorem d_R_divide_31 : decode b_R_divide 31 = .ok (.iload_n 3, 1) := by decide +kernel
theorem d_R_divide_32 : decode b_R_divide 32 = .ok (.if_icmp .ge 57, 3) := by decide +kernel
theorem d_R_divide_35 : decode b_R_divide 35 = .ok (.aload_n 0, 1) := by decide +kernel
theorem d_R_divide_36 : decode b_R_divide 36 = .ok (.getfield 9, 3) := by decide +kernel
theorem d_R_divide_39 : decode b_R_divide 39 = .ok (.iload 7, 2) := by decide +kernel
theorem d_R_divide_41 : decode b_R_divide 41 = .ok (.iaload, 1) := by decide +kernel
theorem d_R_divide_42 : decode b_R_divide 42 = .ok (.istore 8, 2) := by decide +kernel
theorem d_R_divide_44 : decode b_R_divide 44 = .ok (.aload 4, 2) := by decide +kernel
theorem d_R_divide_46 : decode b_R_divide 46 = .ok (.iload 8, 2) := by decide +kernel
theorem d_R_divide_48 : decode b_R_divide 48 = .ok (.iaload, 1) := by decide +kernel
theorem d_R_divide_49 : decode b_R_divide 49 = .ok (.aload_n 0, 1) := by decide +kernel
theorem d_R_divide_50 : decode b_R_divide 50 = .ok (.getfield 69, 3) := by decide +kernel
theorem d_R_divide_53 : decode b_R_divide 53 = .ok (.if_icmp .ge 18, 3) := by decide +kernel
theorem d_R_divide_56 : decode b_R_divide 56 = .ok (.aload_n 0, 1) := by decide +kernel
theorem d_R_divide_57 : decode b_R_divide 57 = .ok (.getfield 9, 3) := by decide +kernel
theorem d_R_divide_60 : decode b_R_divide 60 = .ok (.iload 5, 2) := by decide +kernel
theorem d_R_divide_62 : decode b_R_divide 62 = .ok (.iload 8, 2) := by decide +kernel
theorem d_R_divide_64 : decode b_R_divide 64 = .ok (.iastore, 1) := by decide +kernel
theorem d_R_divide_65 : decode b_R_divide 65 = .ok (.iinc 5 1, 3) := by decide +kernel
theorem d_R_divide_68 : decode b_R_divide 68 = .ok (.goto 15, 3) := by decide +kernel
theorem d_R_divide_71 : decode b_R_divide 71 = .ok (.aload_n 0, 1) := by decide +kernel
theorem d_R_divide_72 : decode b_R_divide 72 = .ok (.getfield 15, 3) := by decide +kernel
theorem d_R_divide_75 : decode b_R_divide 75 = .ok (.iload 6, 2) := by decide +kernel
theorem d_R_divide_77 : decode b_R_divide 77 = .ok (.iload 8, 2) := by decide +kernel
theorem d_R_divide_79 : decode b_R_divide 79 = .ok (.iastore, 1) := by decide +kernel
theorem d_R_divide_80 : decode b_R_divide 80 = .ok (.iinc 6 1, 3) := by decide +kernel
theorem d_R_divide_83 : decode b_R_divide 83 = .ok (.iinc 7 1, 3) := by decide +kernel
theorem d_R_divide_86 : decode b_R_divide 86 = .ok (.goto (-57), 3) := by decide +kernel
theorem d_R_divide_89 : decode b_R_divide 89 = .ok (.aload_n 0, 1) := by decide +kernel
theorem d_R_divide_90 : decode b_R_divide 90 = .ok (.getfield 15, 3) := by decide +kernel
theorem d_R_divide_93 : decode b_R_divide 93 = .ok (.iconst 0, 1) := by decide +kernel
theorem d_R_divide_94 : decode b_R_divide 94 = .ok (.aload_n 0, 1) := by decide +kernel
theorem d_R_divide_95 : decode b_R_divide 95 = .ok (.getfield 9, 3) := by decide +kernel
theorem d_R_divide_98 : decode b_R_divide 98 = .ok (.iload 5, 2) := by decide +kernel
theorem d_R_divide_100 : decode b_R_divide 100 = .ok (.iload 6, 2) := by decide +kernel
theorem d_R_divide_102 : decode b_R_divide 102 = .ok (.invokestatic 76, 3) := by decide +kernel
theorem d_R_divide_105 : decode b_R_divide 105 = .ok (.iload 5, 2) := by decide +kernel
theorem d_R_divide_107 : decode b_R_divide 107 = .ok (.ireturn, 1) := by decide +kernel
theorem d_P_init_0 : decode b_P_init 0 = .ok (.aload_n 0, 1) := by decide +kernel
theorem d_P_init_1 : decode b_P_init 1 = .ok (.invokespecial 3, 3) := by decide +kernel
theorem d_P_init_4 : decode b_P_init 4 = .ok (.aload_n 0, 1) := by decide +kernel
theorem d_P_init_5 : decode b_P_init 5 = .ok (.sipush 576, 3) := by decide +kernel
theorem d_P_init_8 : decode b_P_init 8 = .ok (.newarray .boolean, 2) := by decide +kernel
theorem d_P_init_10 : decode b_P_init 10 = .ok (.putfield 9, 3) := by decide +kernel
theorem d_P_init_13 : decode b_P_init 13 = .ok (.aload_n 0, 1) := by decide +kernel
theorem d_P_init_14 : decode b_P_init 14 = .ok (.sipush 576, 3) := by decide +kernel
theorem d_P_init_17 : decode b_P_init 17 = .ok (.newarray .boolean, 2) := by decide +kernel
theorem d_P_init_19 : decode b_P_init 19 = .ok (.putfield 13, 3) := by decide +kernel
theorem d_P_init_22 : decode b_P_init 22 = .ok (.aload_n 0, 1) := by decide +kernel
theorem d_P_init_23 : decode b_P_init 23 = .ok (.sipush 576, 3) := by decide +kernel
theorem d_P_init_26 : decode b_P_init 26 = .ok (.newarray .boolean, 2) := by decide +kernel
theorem d_P_init_28 : decode b_P_init 28 = .ok (.putfield 16, 3) := by decide +kernel
theorem d_P_init_31 : decode b_P_init 31 = .ok (.aload_n 0, 1) := by decide +kernel
theorem d_P_init_32 : decode b_P_init 32 = .ok (.bipush 24, 2) := by decide +kernel
theorem d_P_init_34 : decode b_P_init 34 = .ok (.newarray .int, 2) := by decide +kernel
theorem d_P_init_36 : decode b_P_init 36 = .ok (.putfield 19, 3) := by decide +kernel
theorem d_P_init_39 : decode b_P_init 39 = .ok (.aload_n 0, 1) := by decide +kernel
theorem d_P_init_40 : decode b_P_init 40 = .ok (.iload_n 1, 1) := by decide +kernel
theorem d_P_init_41 : decode b_P_init 41 = .ok (.invokestatic 23, 3) := by decide +kernel
theorem d_P_init_44 : decode b_P_init 44 = .ok (.putfield 27, 3) := by decide +kernel
theorem d_P_init_47 : decode b_P_init 47 = .ok (.aload_n 0, 1) := by decide +kernel
theorem d_P_init_48 : decode b_P_init 48 = .ok (.iload_n 2, 1) := by decide +kernel
theorem d_P_init_49 : decode b_P_init 49 = .ok (.invokestatic 23, 3) := by decide +kernel
theorem d_P_init_52 : decode b_P_init 52 = .ok (.putfield 31, 3) := by decide +kernel
theorem d_P_init_55 : decode b_P_init 55 = .ok (.aload_n 0, 1) := by decide +kernel
theorem d_P_init_56 : decode b_P_init 56 = .ok (.new 34, 3) := by decide +kernel
theorem d_P_init_59 : decode b_P_init 59 = .ok (.dup, 1) := by decide +kernel
theorem d_P_init_60 : decode b_P_init 60 = .ok (.aload_n 0, 1) := by decide +kernel
theorem d_P_init_61 : decode b_P_init 61 = .ok (.getfield 27, 3) := by decide +kernel
theorem d_P_init_64 : decode b_P_init 64 = .ok (.aload_n 0, 1) := by decide +kernel
theorem d_P_init_65 : decode b_P_init 65 = .ok (.getfield 31, 3) := by decide +kernel
theorem d_P_init_68 : decode b_P_init 68 = .ok (.invokespecial 36, 3) := by decide +kernel
theorem d_P_init_71 : decode b_P_init 71 = .ok (.putfield 39, 3) := by decide +kernel
theorem d_P_init_74 : decode b_P_init 74 = .ok (.aload_n 0, 1) := by decide +kernel
theorem d_P_init_75 : decode b_P_init 75 = .ok (.new 34, 3) := by decide +kernel
theorem d_P_init_78 : decode b_P_init 78 = .ok (.dup, 1) := by decide +kernel
theorem d_P_init_79 : decode b_P_init 79 = .ok (.aload_n 0, 1) := by decide +kernel
theorem d_P_init_80 : decode b_P_init 80 = .ok (.getfield 27, 3) := by decide +kernel
theorem d_P_init_83 : decode b_P_init 83 = .ok (.aload_n 0, 1) := by decide +kernel
theorem d_P_init_84 : decode b_P_init 84 = .ok (.getfield 31, 3) := by decide +kernel
theorem d_P_init_87 : decode b_P_init 87 = .ok (.invokespecial 36, 3) := by decide +kernel
theorem d_P_init_90 : decode b_P_init 90 = .ok (.putfield 43, 3) := by decide +kernel
theorem d_P_init_93 : decode b_P_init 93 = .ok (.aload_n 0, 1) := by decide +kernel
theorem d_P_init_94 : decode b_P_init 94 = .ok (.new 46, 3) := by decide +kernel
theorem d_P_init_97 : decode b_P_init 97 = .ok (.dup, 1) := by decide +kernel
theorem d_P_init_98 : decode b_P_init 98 = .ok (.aload_n 0, 1) := by decide +kernel
theorem d_P_init_99 : decode b_P_init 99 = .ok (.getfield 27, 3) := by decide +kernel
theorem d_P_init_102 : decode b_P_init 102 = .ok (.aload_n 0, 1) := by decide +kernel
theorem d_P_init_103 : decode b_P_init 103 = .ok (.getfield 31, 3) := by decide +kernel
theorem d_P_init_106 : decode b_P_init 106 = .ok (.invokespecial 48, 3) := by decide +kernel
theorem d_P_init_109 : decode b_P_init 109 = .ok (.putfield 49, 3) := by decide +kernel
theorem d_P_init_112 : decode b_P_init 112 = .ok (.aload_n 0, 1) := by decide +kernel
theorem d_P_init_113 : decode b_P_init 113 = .ok (.new 53, 3) := by decide +kernel
theorem d_P_init_116 : decode b_P_init 116 = .ok (.dup, 1) := by decide +kernel
theorem d_P_init_117 : decode b_P_init 117 = .ok (.invokespecial 55, 3) := by decide +kernel
theorem d_P_init_120 : decode b_P_init 120 = .ok (.putfield 56, 3) := by decide +kernel
theorem d_P_init_123 : decode b_P_init 123 = .ok (.aload_n 0, 1) := by decide +kernel
theorem d_P_init_124 : decode b_P_init 124 = .ok (.iconst 3, 1) := by decide +kernel
theorem d_P_init_125 : decode b_P_init 125 = .ok (.putfield 60, 3) := by decide +kernel
theorem d_P_init_128 : decode b_P_init 128 = .ok (.return_, 1) := by decide +kernel
theorem d_P_put_0 : decode b_P_put 0 = .ok (.aload_n 0, 1) := by decide +kernel
theorem d_P_put_1 : decode b_P_put 1 = .ok (.iload_n 1, 1) := by decide +kernel
theorem d_P_put_2 : decode b_P_put 2 = .ok (.iload_n 2, 1) := by decide +kernel
theorem d_P_put_3 : decode b_P_put 3 = .ok (.invokevirtual 63, 3) := by decide +kernel
theorem d_P_put_6 : decode b_P_put 6 = .ok (.aload_n 0, 1) := by decide +kernel
theorem d_P_put_7 : decode b_P_put 7 = .ok (.iconst 0, 1) := by decide +kernel
theorem d_P_put_8 : decode b_P_put 8 = .ok (.putfield 66, 3) := by decide +kernel
theorem d_P_put_11 : decode b_P_put 11 = .ok (.aload_n 0, 1) := by decide +kernel
theorem d_P_put_12 : decode b_P_put 12 = .ok (.iload_n 1, 1) := by decide +kernel
theorem d_P_put_13 : decode b_P_put 13 = .ok (.iload_n 2, 1) := by decide +kernel
theorem d_P_put_14 : decode b_P_put 14 = .ok (.iload_n 3, 1) := by decide +kernel
theorem d_P_put_15 : decode b_P_put 15 = .ok (.invokevirtual 70, 3) := by decide +kernel
theorem d_P_put_18 : decode b_P_put 18 = .ok (.ireturn, 1) := by decide +kernel
theorem d_P_fill_0 : decode b_P_fill 0 = .ok (.aload_n 0, 1) := by decide +kernel
theorem d_P_fill_1 : decode b_P_fill 1 = .ok (.iload_n 1, 1) := by decide +kernel
theorem d_P_fill_2 : decode b_P_fill 2 = .ok (.iload_n 2, 1) := by decide +kernel
theorem d_P_fill_3 : decode b_P_fill 3 = .ok (.invokevirtual 63, 3) := by decide +kernel
theorem d_P_fill_6 : decode b_P_fill 6 = .ok (.iload_n 3, 1) := by decide +kernel
theorem d_P_fill_7 : decode b_P_fill 7 = .ok (.iconst 1, 1) := by decide +kernel
theorem d_P_fill_8 : decode b_P_fill 8 = .ok (.if_icmp .lt 9, 3) := by decide +kernel
theorem d_P_fill_11 : decode b_P_fill 11 = .ok (.iload 4, 2) := by decide +kernel
theorem d_P_fill_13 : decode b_P_fill 13 = .ok (.iconst 1, 1) := by decide +kernel
theorem d_P_fill_14 : decode b_P_fill 14 = .ok (.if_icmp .ge 13, 3) := by decide +kernel
theorem d_P_fill_17 : decode b_P_fill 17 = .ok (.new 74, 3) := by decide +kernel
theorem d_P_fill_20 : decode b_P_fill 20 = .ok (.dup, 1) := by decide +kernel
theorem d_P_fill_21 : decode b_P_fill 21 = .ok (.ldc 76, 2) := by decide +kernel
theorem d_P_fill_23 : decode b_P_fill 23 = .ok (.invokespecial 78, 3) := by decide +kernel
theorem d_P_fill_26 : decode b_P_fill 26 = .ok (.athrow, 1) := by decide +kernel
theorem d_P_fill_27 : decode b_P_fill 27 = .ok (.aload_n 0, 1) := by decide +kernel
theorem d_P_fill_28 : decode b_P_fill 28 = .ok (.iconst 0, 1) := by decide +kernel
theorem d_P_fill_29 : decode b_P_fill 29 = .ok (.putfield 66, 3) := by decide +kernel
theorem d_P_fill_32 : decode b_P_fill 32 = .ok (.iload_n 1, 1) := by decide +kernel
theorem d_P_fill_33 : decode b_P_fill 33 = .ok (.iload_n 3, 1) := by decide +kernel
theorem d_P_fill_34 : decode b_P_fill 34 = .ok (.aload_n 0, 1) := by decide +kernel
theorem d_P_fill_35 : decode b_P_fill 35 = .ok (.getfield 27, 3) := by decide +kernel
theorem d_P_fill_38 : decode b_P_fill 38 = .ok (.iload_n 1, 1) := by decide +kernel
theorem d_P_fill_39 : decode b_P_fill 39 = .ok (.isub, 1) := by decide +kernel
theorem d_P_fill_40 : decode b_P_fill 40 = .ok (.invokestatic 81, 3) := by decide +kernel
theorem d_P_fill_43 : decode b_P_fill 43 = .ok (.iadd, 1) := by decide +kernel
theorem d_P_fill_44 : decode b_P_fill 44 = .ok (.istore 6, 2) := by decide +kernel
theorem d_P_fill_46 : decode b_P_fill 46 = .ok (.iload_n 2, 1) := by decide +kernel
theorem d_P_fill_47 : decode b_P_fill 47 = .ok (.iload 4, 2) := by decide +kernel
theorem d_P_fill_49 : decode b_P_fill 49 = .ok (.aload_n 0, 1) := by decide +kernel
theorem d_P_fill_50 : decode b_P_fill 50 = .ok (.getfield 31, 3) := by decide +kernel
theorem d_P_fill_53 : decode b_P_fill 53 = .ok (.iload_n 2, 1) := by decide +kernel
theorem d_P_fill_54 : decode b_P_fill 54 = .ok (.isub, 1) := by decide +kernel
theorem d_P_fill_55 : decode b_P_fill 55 = .ok (.invokestatic 81, 3) := by decide +kernel
theorem d_P_fill_58 : decode b_P_fill 58 = .ok (.iadd, 1) := by decide +kernel
theorem d_P_fill_59 : decode b_P_fill 59 = .ok (.istore 7, 2) := by decide +kernel
theorem d_P_fill_61 : decode b_P_fill 61 = .ok (.iconst 0, 1) := by decide +kernel
theorem d_P_fill_62 : decode b_P_fill 62 = .ok (.istore 8, 2) := by decide +kernel
theorem d_P_fill_64 : decode b_P_fill 64 = .ok (.iload_n 2, 1) := by decide +kernel
theorem d_P_fill_65 : decode b_P_fill 65 = .ok (.istore 9, 2) := by decide +kernel
theorem d_P_fill_67 : decode b_P_fill 67 = .ok (.iload 9, 2) := by decide +kernel
theorem d_P_fill_69 : decode b_P_fill 69 = .ok (.iload 7, 2) := by decide +kernel
theorem d_P_fill_71 : decode b_P_fill 71 = .ok (.if_icmp .ge 41, 3) := by decide +kernel
theorem d_P_fill_74 : decode b_P_fill 74 = .ok (.iload_n 1, 1) := by decide +kernel
theorem d_P_fill_75 : decode b_P_fill 75 = .ok (.istore 10, 2) := by decide +kernel
theorem d_P_fill_77 : decode b_P_fill 77 = .ok (.iload 10, 2) := by decide +kernel
theorem d_P_fill_79 : decode b_P_fill 79 = .ok (.iload 6, 2) := by decide +kernel
theorem d_P_fill_81 : decode b_P_fill 81 = .ok (.if_icmp .ge 25, 3) := by decide +kernel
theorem d_P_fill_84 : decode b_P_fill 84 = .ok (.aload_n 0, 1) := by decide +kernel
theorem d_P_fill_85 : decode b_P_fill 85 = .ok (.iload 10, 2) := by decide +kernel
theorem d_P_fill_87 : decode b_P_fill 87 = .ok (.iload 9, 2) := by decide +kernel
theorem d_P_fill_89 : decode b_P_fill 89 = .ok (.iload 5, 2) := by decide +kernel
theorem d_P_fill_91 : decode b_P_fill 91 = .ok (.invokevirtual 70, 3) := by decide +kernel
theorem d_P_fill_94 : decode b_P_fill 94 = .ok (.ifCond .eq 6, 3) := by decide +kernel
theorem d_P_fill_97 : decode b_P_fill 97 = .ok (.iinc 8 1, 3) := by decide +kernel
theorem d_P_fill_100 : decode b_P_fill 100 = .ok (.iinc 10 1, 3) := by decide +kernel
theorem d_P_fill_103 : decode b_P_fill 103 = .ok (.goto (-26), 3) := by decide +kernel
theorem d_P_fill_106 : decode b_P_fill 106 = .ok (.iinc 9 1, 3) := by decide +kernel
theorem d_P_fill_109 : decode b_P_fill 109 = .ok (.goto (-42), 3) := by decide +kernel
theorem d_P_fill_112 : decode b_P_fill 112 = .ok (.iload 8, 2) := by decide +kernel
theorem d_P_fill_114 : decode b_P_fill 114 = .ok (.ireturn, 1) := by decide +kernel
theorem d_P_noise_0 : decode b_P_noise 0 = .ok (.iload_n 1, 1) := by decide +kernel
theorem d_P_noise_1 : decode b_P_noise 1 = .ok (.ifCond .lt 9, 3) := by decide +kernel
theorem d_P_noise_4 : decode b_P_noise 4 = .ok (.iload_n 1, 1) := by decide +kernel
theorem d_P_noise_5 : decode b_P_noise 5 = .ok (.bipush 100, 2) := by decide +kernel
theorem d_P_noise_7 : decode b_P_noise 7 = .ok (.if_icmp .le 13, 3) := by decide +kernel
theorem d_P_noise_10 : decode b_P_noise 10 = .ok (.new 74, 3) := by decide +kernel
theorem d_P_noise_13 : decode b_P_noise 13 = .ok (.dup, 1) := by decide +kernel
theorem d_P_noise_14 : decode b_P_noise 14 = .ok (.ldc 87, 2) := by decide +kernel
theorem d_P_noise_16 : decode b_P_noise 16 = .ok (.invokespecial 78, 3) := by decide +kernel
theorem d_P_noise_19 : decode b_P_noise 19 = .ok (.athrow, 1) := by decide +kernel
theorem d_P_noise_20 : decode b_P_noise 20 = .ok (.aload_n 0, 1) := by decide +kernel
theorem d_P_noise_21 : decode b_P_noise 21 = .ok (.getfield 60, 3) := by decide +kernel
theorem d_P_noise_24 : decode b_P_noise 24 = .ok (.istore_n 2, 1) := by decide +kernel
theorem d_P_noise_25 : decode b_P_noise 25 = .ok (.aload_n 0, 1) := by decide +kernel
theorem d_P_noise_26 : decode b_P_noise 26 = .ok (.iload_n 1, 1) := by decide +kernel
theorem d_P_noise_27 : decode b_P_noise 27 = .ok (.putfield 60, 3) := by decide +kernel
theorem d_P_noise_30 : decode b_P_noise 30 = .ok (.aload_n 0, 1) := by decide +kernel
theorem d_P_noise_31 : decode b_P_noise 31 = .ok (.iconst 0, 1) := by decide +kernel
theorem d_P_noise_32 : decode b_P_noise 32 = .ok (.putfield 66, 3) := by decide +kernel
theorem d_P_noise_35 : decode b_P_noise 35 = .ok (.iload_n 2, 1) := by decide +kernel
theorem d_P_noise_36 : decode b_P_noise 36 = .ok (.ireturn, 1) := by decide +kernel
theorem d_P_run_0 : decode b_P_run 0 = .ok (.iload_n 1, 1) := by decide +kernel
theorem d_P_run_1 : decode b_P_run 1 = .ok (.ifCond .lt 19, 3) := by decide +kernel
theorem d_P_run_4 : decode b_P_run 4 = .ok (.iload_n 1, 1) := by decide +kernel
theorem d_P_run_5 : decode b_P_run 5 = .ok (.bipush 24, 2) := by decide +kernel
theorem d_P_run_7 : decode b_P_run 7 = .ok (.if_icmp .gt 13, 3) := by decide +kernel
theorem d_P_run_10 : decode b_P_run 10 = .ok (.iload_n 2, 1) := by decide +kernel
theorem d_P_run_11 : decode b_P_run 11 = .ok (.ifCond .lt 9, 3) := by decide +kernel
theorem d_P_run_14 : decode b_P_run 14 = .ok (.iload_n 2, 1) := by decide +kernel
theorem d_P_run_15 : decode b_P_run 15 = .ok (.bipush 24, 2) := by decide +kernel
theorem d_P_run_17 : decode b_P_run 17 = .ok (.if_icmp .le 13, 3) := by decide +kernel
theorem d_P_run_20 : decode b_P_run 20 = .ok (.new 74, 3) := by decide +kernel
theorem d_P_run_23 : decode b_P_run 23 = .ok (.dup, 1) := by decide +kernel
theorem d_P_run_24 : decode b_P_run 24 = .ok (.ldc 89, 2) := by decide +kernel
theorem d_P_run_26 : decode b_P_run 26 = .ok (.invokespecial 78, 3) := by decide +kernel
theorem d_P_run_29 : decode b_P_run 29 = .ok (.athrow, 1) := by decide +kernel
theorem d_P_run_30 : decode b_P_run 30 = .ok (.aload_n 0, 1) := by decide +kernel
theorem d_P_run_31 : decode b_P_run 31 = .ok (.invokevirtual 91, 3) := by decide +kernel
theorem d_P_run_34 : decode b_P_run 34 = .ok (.aload_n 0, 1) := by decide +kernel
theorem d_P_run_35 : decode b_P_run 35 = .ok (.iload_n 1, 1) := by decide +kernel
theorem d_P_run_36 : decode b_P_run 36 = .ok (.iload_n 2, 1) := by decide +kernel
theorem d_P_run_37 : decode b_P_run 37 = .ok (.invokevirtual 94, 3) := by decide +kernel
theorem d_P_run_40 : decode b_P_run 40 = .ok (.aload_n 0, 1) := by decide +kernel
theorem d_P_run_41 : decode b_P_run 41 = .ok (.getfield 39, 3) := by decide +kernel
theorem d_P_run_44 : decode b_P_run 44 = .ok (.aload_n 0, 1) := by decide +kernel
theorem d_P_run_45 : decode b_P_run 45 = .ok (.getfield 16, 3) := by decide +kernel
theorem d_P_run_48 : decode b_P_run 48 = .ok (.iconst 1, 1) := by decide +kernel
theorem d_P_run_49 : decode b_P_run 49 = .ok (.iconst 0, 1) := by decide +kernel
theorem d_P_run_50 : decode b_P_run 50 = .ok (.invokevirtual 97, 3) := by decide +kernel
theorem d_P_run_53 : decode b_P_run 53 = .ok (.aload_n 0, 1) := by decide +kernel
theorem d_P_run_54 : decode b_P_run 54 = .ok (.getfield 49, 3) := by decide +kernel
theorem d_P_run_57 : decode b_P_run 57 = .ok (.aload_n 0, 1) := by decide +kernel
theorem d_P_run_58 : decode b_P_run 58 = .ok (.getfield 16, 3) := by decide +kernel
theorem d_P_run_61 : decode b_P_run 61 = .ok (.invokevirtual 101, 3) := by decide +kernel
theorem d_P_run_64 : decode b_P_run 64 = .ok (.aload_n 0, 1) := by decide +kernel
theorem d_P_run_65 : decode b_P_run 65 = .ok (.invokevirtual 104, 3) := by decide +kernel
theorem d_P_run_68 : decode b_P_run 68 = .ok (.aload_n 0, 1) := by decide +kernel
theorem d_P_run_69 : decode b_P_run 69 = .ok (.getfield 43, 3) := by decide +kernel
theorem d_P_run_72 : decode b_P_run 72 = .ok (.aload_n 0, 1) := by decide +kernel
theorem d_P_run_73 : decode b_P_run 73 = .ok (.getfield 13, 3) := by decide +kernel
theorem d_P_run_76 : decode b_P_run 76 = .ok (.iconst 0, 1) := by decide +kernel
theorem d_P_run_77 : decode b_P_run 77 = .ok (.iconst 0, 1) := by decide +kernel
theorem d_P_run_78 : decode b_P_run 78 = .ok (.invokevirtual 97, 3) := by decide +kernel
theorem d_P_run_81 : decode b_P_run 81 = .ok (.aload_n 0, 1) := by decide +kernel
theorem d_P_run_82 : decode b_P_run 82 = .ok (.getfield 43, 3) := by decide +kernel
theorem d_P_run_85 : decode b_P_run 85 = .ok (.invokevirtual 107, 3) := by decide +kernel
theorem d_P_run_88 : decode b_P_run 88 = .ok (.aload_n 0, 1) := by decide +kernel
theorem d_P_run_89 : decode b_P_run 89 = .ok (.getfield 56, 3) := by decide +kernel
theorem d_P_run_92 : decode b_P_run 92 = .ok (.aload_n 0, 1) := by decide +kernel
theorem d_P_run_93 : decode b_P_run 93 = .ok (.getfield 39, 3) := by decide +kernel
theorem d_P_run_96 : decode b_P_run 96 = .ok (.invokevirtual 110, 3) := by decide +kernel
theorem d_P_run_99 : decode b_P_run 99 = .ok (.aload_n 0, 1) := by decide +kernel
theorem d_P_run_100 : decode b_P_run 100 = .ok (.iconst 1, 1) := by decide +kernel
theorem d_P_run_101 : decode b_P_run 101 = .ok (.putfield 66, 3) := by decide +kernel
theorem d_P_run_104 : decode b_P_run 104 = .ok (.aload_n 0, 1) := by decide +kernel
theorem d_P_run_105 : decode b_P_run 105 = .ok (.getfield 39, 3) := by decide +kernel
theorem d_P_run_108 : decode b_P_run 108 = .ok (.getfield 114, 3) := by decide +kernel
theorem d_P_run_111 : decode b_P_run 111 = .ok (.ireturn, 1) := by decide +kernel
theorem d_P_part_0 : decode b_P_part 0 = .ok (.aload_n 0, 1) := by decide +kernel
theorem d_P_part_1 : decode b_P_part 1 = .ok (.invokevirtual 117, 3) := by decide +kernel
theorem d_P_part_4 : decode b_P_part 4 = .ok (.iload_n 1, 1) := by decide +kernel
theorem d_P_part_5 : decode b_P_part 5 = .ok (.aload_n 0, 1) := by decide +kernel
theorem d_P_part_6 : decode b_P_part 6 = .ok (.getfield 39, 3) := by decide +kernel
theorem d_P_part_9 : decode b_P_part 9 = .ok (.getfield 114, 3) := by decide +kernel
theorem d_P_part_12 : decode b_P_part 12 = .ok (.invokestatic 120, 3) := by decide +kernel
theorem d_P_part_15 : decode b_P_part 15 = .ok (.iload_n 2, 1) := by decide +kernel
theorem d_P_part_16 : decode b_P_part 16 = .ok (.bipush 8, 2) := by decide +kernel
theorem d_P_part_18 : decode b_P_part 18 = .ok (.invokestatic 123, 3) := by decide +kernel
theorem d_P_part_21 : decode b_P_part 21 = .ok (.iload_n 2, 1) := by decide +kernel
theorem d_P_part_22 : decode b_P_part 22 = .ok (.tableswitch 58 4 7 #[30, 36, 42, 48], 30) := by decide +kernel
theorem d_P_part_52 : decode b_P_part 52 = .ok (.aload_n 0, 1) := by decide +kernel
theorem d_P_part_53 : decode b_P_part 53 = .ok (.iload_n 1, 1) := by decide +kernel
theorem d_P_part_54 : decode b_P_part 54 = .ok (.invokevirtual 126, 3) := by decide +kernel
theorem d_P_part_57 : decode b_P_part 57 = .ok (.ireturn, 1) := by decide +kernel
theorem d_P_part_58 : decode b_P_part 58 = .ok (.aload_n 0, 1) := by decide +kernel
theorem d_P_part_59 : decode b_P_part 59 = .ok (.iload_n 1, 1) := by decide +kernel
theorem d_P_part_60 : decode b_P_part 60 = .ok (.invokevirtual 129, 3) := by decide +kernel
theorem d_P_part_63 : decode b_P_part 63 = .ok (.ireturn, 1) := by decide +kernel
theorem d_P_part_64 : decode b_P_part 64 = .ok (.aload_n 0, 1) := by decide +kernel
theorem d_P_part_65 : decode b_P_part 65 = .ok (.iload_n 1, 1) := by decide +kernel
theorem d_P_part_66 : decode b_P_part 66 = .ok (.invokevirtual 132, 3) := by decide +kernel
theorem d_P_part_69 : decode b_P_part 69 = .ok (.ireturn, 1) := by decide +kernel
theorem d_P_part_70 : decode b_P_part 70 = .ok (.aload_n 0, 1) := by decide +kernel
theorem d_P_part_71 : decode b_P_part 71 = .ok (.getfield 39, 3) := by decide +kernel
theorem d_P_part_74 : decode b_P_part 74 = .ok (.getfield 135, 3) := by decide +kernel
theorem d_P_part_77 : decode b_P_part 77 = .ok (.iload_n 1, 1) := by decide +kernel
theorem d_P_part_78 : decode b_P_part 78 = .ok (.iaload, 1) := by decide +kernel
theorem d_P_part_79 : decode b_P_part 79 = .ok (.ireturn, 1) := by decide +kernel
theorem d_P_part_80 : decode b_P_part 80 = .ok (.aload_n 0, 1) := by decide +kernel
theorem d_P_part_81 : decode b_P_part 81 = .ok (.getfield 39, 3) := by decide +kernel
theorem d_P_part_84 : decode b_P_part 84 = .ok (.iload_n 1, 1) := by decide +kernel
theorem d_P_part_85 : decode b_P_part 85 = .ok (.iload_n 2, 1) := by decide +kernel
theorem d_P_part_86 : decode b_P_part 86 = .ok (.invokevirtual 138, 3) := by decide +kernel
theorem d_P_part_89 : decode b_P_part 89 = .ok (.ireturn, 1) := by decide +kernel
theorem d_P_partOf_0 : decode b_P_partOf 0 = .ok (.aload_n 0, 1) := by decide +kernel
theorem d_P_partOf_1 : decode b_P_partOf 1 = .ok (.invokevirtual 117, 3) := by decide +kernel
theorem d_P_partOf_4 : decode b_P_partOf 4 = .ok (.aload_n 0, 1) := by decide +kernel
theorem d_P_partOf_5 : decode b_P_partOf 5 = .ok (.iload_n 1, 1) := by decide +kernel
theorem d_P_partOf_6 : decode b_P_partOf 6 = .ok (.iload_n 2, 1) := by decide +kernel
theorem d_P_partOf_7 : decode b_P_partOf 7 = .ok (.invokevirtual 63, 3) := by decide +kernel
theorem d_P_partOf_10 : decode b_P_partOf 10 = .ok (.aload_n 0, 1) := by decide +kernel
theorem d_P_partOf_11 : decode b_P_partOf 11 = .ok (.getfield 39, 3) := by decide +kernel
theorem d_P_partOf_14 : decode b_P_partOf 14 = .ok (.getfield 141, 3) := by decide +kernel
theorem d_P_partOf_17 : decode b_P_partOf 17 = .ok (.iload_n 2, 1) := by decide +kernel
theorem d_P_partOf_18 : decode b_P_partOf 18 = .ok (.bipush 24, 2) := by decide +kernel
theorem d_P_partOf_20 : decode b_P_partOf 20 = .ok (.imul, 1) := by decide +kernel
theorem d_P_partOf_21 : decode b_P_partOf 21 = .ok (.iload_n 1, 1) := by decide +kernel
theorem d_P_partOf_22 : decode b_P_partOf 22 = .ok (.iadd, 1) := by decide +kernel
theorem d_P_partOf_23 : decode b_P_partOf 23 = .ok (.iaload, 1) := by decide +kernel
theorem d_P_partOf_24 : decode b_P_partOf 24 = .ok (.ireturn, 1) := by decide +kernel
theorem d_P_line_0 : decode b_P_line 0 = .ok (.aload_n 0, 1) := by decide +kernel
theorem d_P_line_1 : decode b_P_line 1 = .ok (.invokevirtual 117, 3) := by decide +kernel
theorem d_P_line_4 : decode b_P_line 4 = .ok (.iload_n 1, 1) := by decide +kernel
theorem d_P_line_5 : decode b_P_line 5 = .ok (.aload_n 0, 1) := by decide +kernel
theorem d_P_line_6 : decode b_P_line 6 = .ok (.getfield 39, 3) := by decide +kernel
theorem d_P_line_9 : decode b_P_line 9 = .ok (.getfield 114, 3) := by decide +kernel
theorem d_P_line_12 : decode b_P_line 12 = .ok (.invokestatic 120, 3) := by decide +kernel
theorem d_P_line_15 : decode b_P_line 15 = .ok (.iload_n 2, 1) := by decide +kernel
theorem d_P_line_16 : decode b_P_line 16 = .ok (.aload_n 0, 1) := by decide +kernel
theorem d_P_line_17 : decode b_P_line 17 = .ok (.iload_n 1, 1) := by decide +kernel
theorem d_P_line_18 : decode b_P_line 18 = .ok (.invokevirtual 132, 3) := by decide +kernel
theorem d_P_line_21 : decode b_P_line 21 = .ok (.invokestatic 120, 3) := by decide +kernel
theorem d_P_line_24 : decode b_P_line 24 = .ok (.iload_n 3, 1) := by decide +kernel
theorem d_P_line_25 : decode b_P_line 25 = .ok (.iconst 2, 1) := by decide +kernel
theorem d_P_line_26 : decode b_P_line 26 = .ok (.invokestatic 123, 3) := by decide +kernel
theorem d_P_line_29 : decode b_P_line 29 = .ok (.aload_n 0, 1) := by decide +kernel
theorem d_P_line_30 : decode b_P_line 30 = .ok (.iload_n 1, 1) := by decide +kernel
theorem d_P_line_31 : decode b_P_line 31 = .ok (.iload_n 2, 1) := by decide +kernel
theorem d_P_line_32 : decode b_P_line 32 = .ok (.invokevirtual 144, 3) := by decide +kernel
theorem d_P_line_35 : decode b_P_line 35 = .ok (.istore 4, 2) := by decide +kernel
theorem d_P_line_37 : decode b_P_line 37 = .ok (.iload_n 3, 1) := by decide +kernel
theorem d_P_line_38 : decode b_P_line 38 = .ok (.ifCond .ne 8, 3) := by decide +kernel
theorem d_P_line_41 : decode b_P_line 41 = .ok (.iload 4, 2) := by decide +kernel
theorem d_P_line_43 : decode b_P_line 43 = .ok (.goto 10, 3) := by decide +kernel
theorem d_P_line_46 : decode b_P_line 46 = .ok (.aload_n 0, 1) := by decide +kernel
theorem d_P_line_47 : decode b_P_line 47 = .ok (.iload_n 1, 1) := by decide +kernel
theorem d_P_line_48 : decode b_P_line 48 = .ok (.iload 4, 2) := by decide +kernel
theorem d_P_line_50 : decode b_P_line 50 = .ok (.invokevirtual 147, 3) := by decide +kernel
theorem d_P_line_53 : decode b_P_line 53 = .ok (.ireturn, 1) := by decide +kernel
theorem d_P_order_0 : decode b_P_order 0 = .ok (.aload_n 0, 1) := by decide +kernel
theorem d_P_order_1 : decode b_P_order 1 = .ok (.invokevirtual 117, 3) := by decide +kernel
theorem d_P_order_4 : decode b_P_order 4 = .ok (.iload_n 1, 1) := by decide +kernel
theorem d_P_order_5 : decode b_P_order 5 = .ok (.aload_n 0, 1) := by decide +kernel
theorem d_P_order_6 : decode b_P_order 6 = .ok (.getfield 39, 3) := by decide +kernel
theorem d_P_order_9 : decode b_P_order 9 = .ok (.getfield 114, 3) := by decide +kernel
theorem d_P_order_12 : decode b_P_order 12 = .ok (.invokestatic 120, 3) := by decide +kernel
theorem d_P_order_15 : decode b_P_order 15 = .ok (.aload_n 0, 1) := by decide +kernel
theorem d_P_order_16 : decode b_P_order 16 = .ok (.getfield 56, 3) := by decide +kernel
theorem d_P_order_19 : decode b_P_order 19 = .ok (.getfield 150, 3) := by decide +kernel
theorem d_P_order_22 : decode b_P_order 22 = .ok (.iload_n 1, 1) := by decide +kernel
theorem d_P_order_23 : decode b_P_order 23 = .ok (.iaload, 1) := by decide +kernel
theorem d_P_order_24 : decode b_P_order 24 = .ok (.ireturn, 1) := by decide +kernel
theorem d_P_cover_0 : decode b_P_cover 0 = .ok (.aload_n 0, 1) := by decide +kernel
theorem d_P_cover_1 : decode b_P_cover 1 = .ok (.invokevirtual 117, 3) := by decide +kernel
theorem d_P_cover_4 : decode b_P_cover 4 = .ok (.iload_n 1, 1) := by decide +kernel
theorem d_P_cover_5 : decode b_P_cover 5 = .ok (.aload_n 0, 1) := by decide +kernel
theorem d_P_cover_6 : decode b_P_cover 6 = .ok (.getfield 49, 3) := by decide +kernel
theorem d_P_cover_9 : decode b_P_cover 9 = .ok (.getfield 153, 3) := by decide +kernel
theorem d_P_cover_12 : decode b_P_cover 12 = .ok (.invokestatic 120, 3) := by decide +kernel
theorem d_P_cover_15 : decode b_P_cover 15 = .ok (.iload_n 2, 1) := by decide +kernel
theorem d_P_cover_16 : decode b_P_cover 16 = .ok (.iconst 4, 1) := by decide +kernel
theorem d_P_cover_17 : decode b_P_cover 17 = .ok (.invokestatic 123, 3) := by decide +kernel
theorem d_P_cover_20 : decode b_P_cover 20 = .ok (.iload_n 2, 1) := by decide +kernel
theorem d_P_cover_21 : decode b_P_cover 21 = .ok (.tableswitch 57 0 2 #[27, 37, 47], 27) := by decide +kernel
theorem d_P_cover_48 : decode b_P_cover 48 = .ok (.aload_n 0, 1) := by decide +kernel
theorem d_P_cover_49 : decode b_P_cover 49 = .ok (.getfield 49, 3) := by decide +kernel
theorem d_P_cover_52 : decode b_P_cover 52 = .ok (.getfield 154, 3) := by decide +kernel
theorem d_P_cover_55 : decode b_P_cover 55 = .ok (.iload_n 1, 1) := by decide +kernel
theorem d_P_cover_56 : decode b_P_cover 56 = .ok (.iaload, 1) := by decide +kernel
theorem d_P_cover_57 : decode b_P_cover 57 = .ok (.ireturn, 1) := by decide +kernel
theorem d_P_cover_58 : decode b_P_cover 58 = .ok (.aload_n 0, 1) := by decide +kernel
theorem d_P_cover_59 : decode b_P_cover 59 = .ok (.getfield 49, 3) := by decide +kernel
theorem d_P_cover_62 : decode b_P_cover 62 = .ok (.getfield 157, 3) := by decide +kernel
theorem d_P_cover_65 : decode b_P_cover 65 = .ok (.iload_n 1, 1) := by decide +kernel
theorem d_P_cover_66 : decode b_P_cover 66 = .ok (.iaload, 1) := by decide +kernel
theorem d_P_cover_67 : decode b_P_cover 67 = .ok (.ireturn, 1) := by decide +kernel
theorem d_P_cover_68 : decode b_P_cover 68 = .ok (.aload_n 0, 1) := by decide +kernel
theorem d_P_cover_69 : decode b_P_cover 69 = .ok (.getfield 49, 3) := by decide +kernel
theorem d_P_cover_72 : decode b_P_cover 72 = .ok (.getfield 160, 3) := by decide +kernel
theorem d_P_cover_75 : decode b_P_cover 75 = .ok (.iload_n 1, 1) := by decide +kernel
theorem d_P_cover_76 : decode b_P_cover 76 = .ok (.iaload, 1) := by decide +kernel
theorem d_P_cover_77 : decode b_P_cover 77 = .ok (.ireturn, 1) := by decide +kernel
theorem d_P_cover_78 : decode b_P_cover 78 = .ok (.aload_n 0, 1) := by decide +kernel
theorem d_P_cover_79 : decode b_P_cover 79 = .ok (.getfield 49, 3) := by decide +kernel
theorem d_P_cover_82 : decode b_P_cover 82 = .ok (.getfield 163, 3) := by decide +kernel
theorem d_P_cover_85 : decode b_P_cover 85 = .ok (.iload_n 1, 1) := by decide +kernel
theorem d_P_cover_86 : decode b_P_cover 86 = .ok (.iaload, 1) := by decide +kernel
theorem d_P_cover_87 : decode b_P_cover 87 = .ok (.ireturn, 1) := by decide +kernel
theorem d_P_strip_0 : decode b_P_strip 0 = .ok (.aload_n 0, 1) := by decide +kernel
theorem d_P_strip_1 : decode b_P_strip 1 = .ok (.invokevirtual 117, 3) := by decide +kernel
theorem d_P_strip_4 : decode b_P_strip 4 = .ok (.iload_n 1, 1) := by decide +kernel
theorem d_P_strip_5 : decode b_P_strip 5 = .ok (.aload_n 0, 1) := by decide +kernel
theorem d_P_strip_6 : decode b_P_strip 6 = .ok (.getfield 27, 3) := by decide +kernel
theorem d_P_strip_9 : decode b_P_strip 9 = .ok (.invokestatic 120, 3) := by decide +kernel
theorem d_P_strip_12 : decode b_P_strip 12 = .ok (.aload_n 0, 1) := by decide +kernel
theorem d_P_strip_13 : decode b_P_strip 13 = .ok (.getfield 19, 3) := by decide +kernel
theorem d_P_strip_16 : decode b_P_strip 16 = .ok (.iload_n 1, 1) := by decide +kernel
theorem d_P_strip_17 : decode b_P_strip 17 = .ok (.iaload, 1) := by decide +kernel
theorem d_P_strip_18 : decode b_P_strip 18 = .ok (.ireturn, 1) := by decide +kernel
theorem d_P_cell_0 : decode b_P_cell 0 = .ok (.aload_n 0, 1) := by decide +kernel
theorem d_P_cell_1 : decode b_P_cell 1 = .ok (.invokevirtual 117, 3) := by decide +kernel
theorem d_P_cell_4 : decode b_P_cell 4 = .ok (.iload_n 1, 1) := by decide +kernel
theorem d_P_cell_5 : decode b_P_cell 5 = .ok (.aload_n 0, 1) := by decide +kernel
theorem d_P_cell_6 : decode b_P_cell 6 = .ok (.getfield 43, 3) := by decide +kernel
theorem d_P_cell_9 : decode b_P_cell 9 = .ok (.getfield 114, 3) := by decide +kernel
theorem d_P_cell_12 : decode b_P_cell 12 = .ok (.invokestatic 120, 3) := by decide +kernel
theorem d_P_cell_15 : decode b_P_cell 15 = .ok (.iload_n 2, 1) := by decide +kernel
theorem d_P_cell_16 : decode b_P_cell 16 = .ok (.iconst 5, 1) := by decide +kernel
theorem d_P_cell_17 : decode b_P_cell 17 = .ok (.invokestatic 123, 3) := by decide +kernel
theorem d_P_cell_20 : decode b_P_cell 20 = .ok (.iload_n 2, 1) := by decide +kernel
theorem d_P_cell_21 : decode b_P_cell 21 = .ok (.iconst 4, 1) := by decide +kernel
theorem d_P_cell_22 : decode b_P_cell 22 = .ok (.if_icmp .ne 15, 3) := by decide +kernel
theorem d_P_cell_25 : decode b_P_cell 25 = .ok (.aload_n 0, 1) := by decide +kernel
theorem d_P_cell_26 : decode b_P_cell 26 = .ok (.getfield 43, 3) := by decide +kernel
theorem d_P_cell_29 : decode b_P_cell 29 = .ok (.getfield 135, 3) := by decide +kernel
theorem d_P_cell_32 : decode b_P_cell 32 = .ok (.iload_n 1, 1) := by decide +kernel
theorem d_P_cell_33 : decode b_P_cell 33 = .ok (.iaload, 1) := by decide +kernel
theorem d_P_cell_34 : decode b_P_cell 34 = .ok (.goto 12, 3) := by decide +kernel
theorem d_P_cell_37 : decode b_P_cell 37 = .ok (.aload_n 0, 1) := by decide +kernel
theorem d_P_cell_38 : decode b_P_cell 38 = .ok (.getfield 43, 3) := by decide +kernel
theorem d_P_cell_41 : decode b_P_cell 41 = .ok (.iload_n 1, 1) := by decide +kernel
theorem d_P_cell_42 : decode b_P_cell 42 = .ok (.iload_n 2, 1) := by decide +kernel
theorem d_P_cell_43 : decode b_P_cell 43 = .ok (.invokevirtual 138, 3) := by decide +kernel
theorem d_P_cell_46 : decode b_P_cell 46 = .ok (.ireturn, 1) := by decide +kernel
