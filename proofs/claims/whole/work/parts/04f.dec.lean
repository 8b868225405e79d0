theorem d_M_isClosed_0 : decode b_M_isClosed 0 = .ok (.iconst 1, 1) := by decide +kernel
theorem d_M_isClosed_1 : decode b_M_isClosed 1 = .ok (.istore_n 2, 1) := by decide +kernel
theorem d_M_isClosed_2 : decode b_M_isClosed 2 = .ok (.iconst 0, 1) := by decide +kernel
theorem d_M_isClosed_3 : decode b_M_isClosed 3 = .ok (.istore_n 3, 1) := by decide +kernel
theorem d_M_isClosed_4 : decode b_M_isClosed 4 = .ok (.iload_n 3, 1) := by decide +kernel
theorem d_M_isClosed_5 : decode b_M_isClosed 5 = .ok (.aload_n 0, 1) := by decide +kernel
theorem d_M_isClosed_6 : decode b_M_isClosed 6 = .ok (.getfield 76, 3) := by decide +kernel
theorem d_M_isClosed_9 : decode b_M_isClosed 9 = .ok (.if_icmp .ge 95, 3) := by decide +kernel
theorem d_M_isClosed_12 : decode b_M_isClosed 12 = .ok (.iconst 0, 1) := by decide +kernel
theorem d_M_isClosed_13 : decode b_M_isClosed 13 = .ok (.istore 4, 2) := by decide +kernel
theorem d_M_isClosed_15 : decode b_M_isClosed 15 = .ok (.iload 4, 2) := by decide +kernel
theorem d_M_isClosed_17 : decode b_M_isClosed 17 = .ok (.aload_n 0, 1) := by decide +kernel
theorem d_M_isClosed_18 : decode b_M_isClosed 18 = .ok (.getfield 73, 3) := by decide +kernel
theorem d_M_isClosed_21 : decode b_M_isClosed 21 = .ok (.if_icmp .ge 77, 3) := by decide +kernel
theorem d_M_isClosed_24 : decode b_M_isClosed 24 = .ok (.iload 4, 2) := by decide +kernel
theorem d_M_isClosed_26 : decode b_M_isClosed 26 = .ok (.ifCond .eq 28, 3) := by decide +kernel
theorem d_M_isClosed_29 : decode b_M_isClosed 29 = .ok (.iload_n 3, 1) := by decide +kernel
theorem d_M_isClosed_30 : decode b_M_isClosed 30 = .ok (.ifCond .eq 24, 3) := by decide +kernel
theorem d_M_isClosed_33 : decode b_M_isClosed 33 = .ok (.iload 4, 2) := by decide +kernel
theorem d_M_isClosed_35 : decode b_M_isClosed 35 = .ok (.aload_n 0, 1) := by decide +kernel
theorem d_M_isClosed_36 : decode b_M_isClosed 36 = .ok (.getfield 73, 3) := by decide +kernel
theorem d_M_isClosed_39 : decode b_M_isClosed 39 = .ok (.iconst 1, 1) := by decide +kernel
theorem d_M_isClosed_40 : decode b_M_isClosed 40 = .ok (.isub, 1) := by decide +kernel
theorem d_M_isClosed_41 : decode b_M_isClosed 41 = .ok (.if_icmp .eq 13, 3) := by decide +kernel
theorem d_M_isClosed_44 : decode b_M_isClosed 44 = .ok (.iload_n 3, 1) := by decide +kernel
theorem d_M_isClosed_45 : decode b_M_isClosed 45 = .ok (.aload_n 0, 1) := by decide +kernel
theorem d_M_isClosed_46 : decode b_M_isClosed 46 = .ok (.getfield 76, 3) := by decide +kernel
theorem d_M_isClosed_49 : decode b_M_isClosed 49 = .ok (.iconst 1, 1) := by decide +kernel
theorem d_M_isClosed_50 : decode b_M_isClosed 50 = .ok (.isub, 1) := by decide +kernel
theorem d_M_isClosed_51 : decode b_M_isClosed 51 = .ok (.if_icmp .ne 7, 3) := by decide +kernel
theorem d_M_isClosed_54 : decode b_M_isClosed 54 = .ok (.iconst 1, 1) := by decide +kernel
theorem d_M_isClosed_55 : decode b_M_isClosed 55 = .ok (.goto 4, 3) := by decide +kernel
theorem d_M_isClosed_58 : decode b_M_isClosed 58 = .ok (.iconst 0, 1) := by decide +kernel
theorem d_M_isClosed_59 : decode b_M_isClosed 59 = .ok (.istore 5, 2) := by decide +kernel
theorem d_M_isClosed_61 : decode b_M_isClosed 61 = .ok (.iload_n 2, 1) := by decide +kernel
theorem d_M_isClosed_62 : decode b_M_isClosed 62 = .ok (.ifCond .eq 28, 3) := by decide +kernel
theorem d_M_isClosed_65 : decode b_M_isClosed 65 = .ok (.iload 5, 2) := by decide +kernel
theorem d_M_isClosed_67 : decode b_M_isClosed 67 = .ok (.ifCond .eq 19, 3) := by decide +kernel
theorem d_M_isClosed_70 : decode b_M_isClosed 70 = .ok (.aload_n 0, 1) := by decide +kernel
theorem d_M_isClosed_71 : decode b_M_isClosed 71 = .ok (.getfield 29, 3) := by decide +kernel
theorem d_M_isClosed_74 : decode b_M_isClosed 74 = .ok (.bipush 24, 2) := by decide +kernel
theorem d_M_isClosed_76 : decode b_M_isClosed 76 = .ok (.iload_n 3, 1) := by decide +kernel
theorem d_M_isClosed_77 : decode b_M_isClosed 77 = .ok (.imul, 1) := by decide +kernel
theorem d_M_isClosed_78 : decode b_M_isClosed 78 = .ok (.iload 4, 2) := by decide +kernel
theorem d_M_isClosed_80 : decode b_M_isClosed 80 = .ok (.iadd, 1) := by decide +kernel
theorem d_M_isClosed_81 : decode b_M_isClosed 81 = .ok (.iaload, 1) := by decide +kernel
theorem d_M_isClosed_82 : decode b_M_isClosed 82 = .ok (.iload_n 1, 1) := by decide +kernel
theorem d_M_isClosed_83 : decode b_M_isClosed 83 = .ok (.if_icmp .eq 7, 3) := by decide +kernel
theorem d_M_isClosed_86 : decode b_M_isClosed 86 = .ok (.iconst 1, 1) := by decide +kernel
theorem d_M_isClosed_87 : decode b_M_isClosed 87 = .ok (.goto 4, 3) := by decide +kernel
theorem d_M_isClosed_90 : decode b_M_isClosed 90 = .ok (.iconst 0, 1) := by decide +kernel
theorem d_M_isClosed_91 : decode b_M_isClosed 91 = .ok (.istore_n 2, 1) := by decide +kernel
theorem d_M_isClosed_92 : decode b_M_isClosed 92 = .ok (.iinc 4 1, 3) := by decide +kernel
theorem d_M_isClosed_95 : decode b_M_isClosed 95 = .ok (.goto (-80), 3) := by decide +kernel
theorem d_M_isClosed_98 : decode b_M_isClosed 98 = .ok (.iinc 3 1, 3) := by decide +kernel
theorem d_M_isClosed_101 : decode b_M_isClosed 101 = .ok (.goto (-97), 3) := by decide +kernel
theorem d_M_isClosed_104 : decode b_M_isClosed 104 = .ok (.iload_n 2, 1) := by decide +kernel
theorem d_M_isClosed_105 : decode b_M_isClosed 105 = .ok (.ireturn, 1) := by decide +kernel
theorem d_M_low_0 : decode b_M_low 0 = .ok (.iload_n 2, 1) := by decide +kernel
theorem d_M_low_1 : decode b_M_low 1 = .ok (.ifCond .eq 12, 3) := by decide +kernel
theorem d_M_low_4 : decode b_M_low 4 = .ok (.aload_n 0, 1) := by decide +kernel
theorem d_M_low_5 : decode b_M_low 5 = .ok (.getfield 39, 3) := by decide +kernel
theorem d_M_low_8 : decode b_M_low 8 = .ok (.iload_n 1, 1) := by decide +kernel
theorem d_M_low_9 : decode b_M_low 9 = .ok (.iaload, 1) := by decide +kernel
theorem d_M_low_10 : decode b_M_low 10 = .ok (.goto 9, 3) := by decide +kernel
theorem d_M_low_13 : decode b_M_low 13 = .ok (.aload_n 0, 1) := by decide +kernel
theorem d_M_low_14 : decode b_M_low 14 = .ok (.getfield 36, 3) := by decide +kernel
theorem d_M_low_17 : decode b_M_low 17 = .ok (.iload_n 1, 1) := by decide +kernel
theorem d_M_low_18 : decode b_M_low 18 = .ok (.iaload, 1) := by decide +kernel
theorem d_M_low_19 : decode b_M_low 19 = .ok (.ireturn, 1) := by decide +kernel
theorem d_M_high_0 : decode b_M_high 0 = .ok (.iload_n 2, 1) := by decide +kernel
theorem d_M_high_1 : decode b_M_high 1 = .ok (.ifCond .eq 12, 3) := by decide +kernel
theorem d_M_high_4 : decode b_M_high 4 = .ok (.aload_n 0, 1) := by decide +kernel
theorem d_M_high_5 : decode b_M_high 5 = .ok (.getfield 45, 3) := by decide +kernel
theorem d_M_high_8 : decode b_M_high 8 = .ok (.iload_n 1, 1) := by decide +kernel
theorem d_M_high_9 : decode b_M_high 9 = .ok (.iaload, 1) := by decide +kernel
theorem d_M_high_10 : decode b_M_high 10 = .ok (.goto 9, 3) := by decide +kernel
theorem d_M_high_13 : decode b_M_high 13 = .ok (.aload_n 0, 1) := by decide +kernel
theorem d_M_high_14 : decode b_M_high 14 = .ok (.getfield 42, 3) := by decide +kernel
theorem d_M_high_17 : decode b_M_high 17 = .ok (.iload_n 1, 1) := by decide +kernel
theorem d_M_high_18 : decode b_M_high 18 = .ok (.iaload, 1) := by decide +kernel
theorem d_M_high_19 : decode b_M_high 19 = .ok (.ireturn, 1) := by decide +kernel
theorem d_M_gap_0 : decode b_M_gap 0 = .ok (.iconst (-1), 1) := by decide +kernel
theorem d_M_gap_1 : decode b_M_gap 1 = .ok (.istore 5, 2) := by decide +kernel
theorem d_M_gap_3 : decode b_M_gap 3 = .ok (.bipush 24, 2) := by decide +kernel
theorem d_M_gap_5 : decode b_M_gap 5 = .ok (.istore 6, 2) := by decide +kernel
theorem d_M_gap_7 : decode b_M_gap 7 = .ok (.iconst 1, 1) := by decide +kernel
theorem d_M_gap_8 : decode b_M_gap 8 = .ok (.istore 7, 2) := by decide +kernel
theorem d_M_gap_10 : decode b_M_gap 10 = .ok (.iload_n 3, 1) := by decide +kernel
theorem d_M_gap_11 : decode b_M_gap 11 = .ok (.istore 8, 2) := by decide +kernel
theorem d_M_gap_13 : decode b_M_gap 13 = .ok (.iload 8, 2) := by decide +kernel
theorem d_M_gap_15 : decode b_M_gap 15 = .ok (.iload 4, 2) := by decide +kernel
theorem d_M_gap_17 : decode b_M_gap 17 = .ok (.if_icmp .ge 105, 3) := by decide +kernel
theorem d_M_gap_20 : decode b_M_gap 20 = .ok (.aload_n 0, 1) := by decide +kernel
theorem d_M_gap_21 : decode b_M_gap 21 = .ok (.aload_n 0, 1) := by decide +kernel
theorem d_M_gap_22 : decode b_M_gap 22 = .ok (.getfield 51, 3) := by decide +kernel
theorem d_M_gap_25 : decode b_M_gap 25 = .ok (.iload 8, 2) := by decide +kernel
theorem d_M_gap_27 : decode b_M_gap 27 = .ok (.iaload, 1) := by decide +kernel
theorem d_M_gap_28 : decode b_M_gap 28 = .ok (.iload_n 2, 1) := by decide +kernel
theorem d_M_gap_29 : decode b_M_gap 29 = .ok (.invokevirtual 144, 3) := by decide +kernel
theorem d_M_gap_32 : decode b_M_gap 32 = .ok (.istore 9, 2) := by decide +kernel
theorem d_M_gap_34 : decode b_M_gap 34 = .ok (.aload_n 0, 1) := by decide +kernel
theorem d_M_gap_35 : decode b_M_gap 35 = .ok (.aload_n 0, 1) := by decide +kernel
theorem d_M_gap_36 : decode b_M_gap 36 = .ok (.getfield 51, 3) := by decide +kernel
theorem d_M_gap_39 : decode b_M_gap 39 = .ok (.iload 8, 2) := by decide +kernel
theorem d_M_gap_41 : decode b_M_gap 41 = .ok (.iaload, 1) := by decide +kernel
theorem d_M_gap_42 : decode b_M_gap 42 = .ok (.iload_n 2, 1) := by decide +kernel
theorem d_M_gap_43 : decode b_M_gap 43 = .ok (.invokevirtual 148, 3) := by decide +kernel
theorem d_M_gap_46 : decode b_M_gap 46 = .ok (.istore 10, 2) := by decide +kernel
theorem d_M_gap_48 : decode b_M_gap 48 = .ok (.iload 7, 2) := by decide +kernel
theorem d_M_gap_50 : decode b_M_gap 50 = .ok (.ifCond .eq 19, 3) := by decide +kernel
theorem d_M_gap_53 : decode b_M_gap 53 = .ok (.iload 9, 2) := by decide +kernel
theorem d_M_gap_55 : decode b_M_gap 55 = .ok (.iload_n 1, 1) := by decide +kernel
theorem d_M_gap_56 : decode b_M_gap 56 = .ok (.if_icmp .ge 9, 3) := by decide +kernel
theorem d_M_gap_59 : decode b_M_gap 59 = .ok (.iload 10, 2) := by decide +kernel
theorem d_M_gap_61 : decode b_M_gap 61 = .ok (.iload_n 1, 1) := by decide +kernel
theorem d_M_gap_62 : decode b_M_gap 62 = .ok (.if_icmp .ge 7, 3) := by decide +kernel
theorem d_M_gap_65 : decode b_M_gap 65 = .ok (.iconst 1, 1) := by decide +kernel
theorem d_M_gap_66 : decode b_M_gap 66 = .ok (.goto 4, 3) := by decide +kernel
theorem d_M_gap_69 : decode b_M_gap 69 = .ok (.iconst 0, 1) := by decide +kernel
theorem d_M_gap_70 : decode b_M_gap 70 = .ok (.istore 7, 2) := by decide +kernel
theorem d_M_gap_72 : decode b_M_gap 72 = .ok (.iload 10, 2) := by decide +kernel
theorem d_M_gap_74 : decode b_M_gap 74 = .ok (.iload_n 1, 1) := by decide +kernel
theorem d_M_gap_75 : decode b_M_gap 75 = .ok (.if_icmp .ge 15, 3) := by decide +kernel
theorem d_M_gap_78 : decode b_M_gap 78 = .ok (.iload 10, 2) := by decide +kernel
theorem d_M_gap_80 : decode b_M_gap 80 = .ok (.iload 5, 2) := by decide +kernel
theorem d_M_gap_82 : decode b_M_gap 82 = .ok (.if_icmp .le 8, 3) := by decide +kernel
theorem d_M_gap_85 : decode b_M_gap 85 = .ok (.iload 10, 2) := by decide +kernel
theorem d_M_gap_87 : decode b_M_gap 87 = .ok (.goto 5, 3) := by decide +kernel
theorem d_M_gap_90 : decode b_M_gap 90 = .ok (.iload 5, 2) := by decide +kernel
theorem d_M_gap_92 : decode b_M_gap 92 = .ok (.istore 5, 2) := by decide +kernel
theorem d_M_gap_94 : decode b_M_gap 94 = .ok (.iload 9, 2) := by decide +kernel
theorem d_M_gap_96 : decode b_M_gap 96 = .ok (.iload_n 1, 1) := by decide +kernel
theorem d_M_gap_97 : decode b_M_gap 97 = .ok (.if_icmp .lt 15, 3) := by decide +kernel
theorem d_M_gap_100 : decode b_M_gap 100 = .ok (.iload 9, 2) := by decide +kernel
theorem d_M_gap_102 : decode b_M_gap 102 = .ok (.iload 6, 2) := by decide +kernel
theorem d_M_gap_104 : decode b_M_gap 104 = .ok (.if_icmp .ge 8, 3) := by decide +kernel
theorem d_M_gap_107 : decode b_M_gap 107 = .ok (.iload 9, 2) := by decide +kernel
theorem d_M_gap_109 : decode b_M_gap 109 = .ok (.goto 5, 3) := by decide +kernel
theorem d_M_gap_112 : decode b_M_gap 112 = .ok (.iload 6, 2) := by decide +kernel
theorem d_M_gap_114 : decode b_M_gap 114 = .ok (.istore 6, 2) := by decide +kernel
theorem d_M_gap_116 : decode b_M_gap 116 = .ok (.iinc 8 1, 3) := by decide +kernel
theorem d_M_gap_119 : decode b_M_gap 119 = .ok (.goto (-106), 3) := by decide +kernel
theorem d_M_gap_122 : decode b_M_gap 122 = .ok (.iload 7, 2) := by decide +kernel
theorem d_M_gap_124 : decode b_M_gap 124 = .ok (.ifCond .eq 26, 3) := by decide +kernel
theorem d_M_gap_127 : decode b_M_gap 127 = .ok (.iload 5, 2) := by decide +kernel
theorem d_M_gap_129 : decode b_M_gap 129 = .ok (.iconst (-1), 1) := by decide +kernel
theorem d_M_gap_130 : decode b_M_gap 130 = .ok (.if_icmp .eq 20, 3) := by decide +kernel
theorem d_M_gap_133 : decode b_M_gap 133 = .ok (.iload 6, 2) := by decide +kernel
theorem d_M_gap_135 : decode b_M_gap 135 = .ok (.bipush 24, 2) := by decide +kernel
theorem d_M_gap_137 : decode b_M_gap 137 = .ok (.if_icmp .eq 13, 3) := by decide +kernel
theorem d_M_gap_140 : decode b_M_gap 140 = .ok (.iload 6, 2) := by decide +kernel
theorem d_M_gap_142 : decode b_M_gap 142 = .ok (.iload 5, 2) := by decide +kernel
theorem d_M_gap_144 : decode b_M_gap 144 = .ok (.isub, 1) := by decide +kernel
theorem d_M_gap_145 : decode b_M_gap 145 = .ok (.iconst 1, 1) := by decide +kernel
theorem d_M_gap_146 : decode b_M_gap 146 = .ok (.isub, 1) := by decide +kernel
theorem d_M_gap_147 : decode b_M_gap 147 = .ok (.goto 4, 3) := by decide +kernel
theorem d_M_gap_150 : decode b_M_gap 150 = .ok (.iconst (-1), 1) := by decide +kernel
theorem d_M_gap_151 : decode b_M_gap 151 = .ok (.ireturn, 1) := by decide +kernel
theorem d_M_swap_0 : decode b_M_swap 0 = .ok (.aload_n 0, 1) := by decide +kernel
theorem d_M_swap_1 : decode b_M_swap 1 = .ok (.getfield 51, 3) := by decide +kernel
theorem d_M_swap_4 : decode b_M_swap 4 = .ok (.iload_n 1, 1) := by decide +kernel
theorem d_M_swap_5 : decode b_M_swap 5 = .ok (.iaload, 1) := by decide +kernel
theorem d_M_swap_6 : decode b_M_swap 6 = .ok (.istore_n 3, 1) := by decide +kernel
theorem d_M_swap_7 : decode b_M_swap 7 = .ok (.aload_n 0, 1) := by decide +kernel
theorem d_M_swap_8 : decode b_M_swap 8 = .ok (.getfield 51, 3) := by decide +kernel
theorem d_M_swap_11 : decode b_M_swap 11 = .ok (.iload_n 1, 1) := by decide +kernel
theorem d_M_swap_12 : decode b_M_swap 12 = .ok (.aload_n 0, 1) := by decide +kernel
theorem d_M_swap_13 : decode b_M_swap 13 = .ok (.getfield 51, 3) := by decide +kernel
theorem d_M_swap_16 : decode b_M_swap 16 = .ok (.iload_n 2, 1) := by decide +kernel
theorem d_M_swap_17 : decode b_M_swap 17 = .ok (.iaload, 1) := by decide +kernel
theorem d_M_swap_18 : decode b_M_swap 18 = .ok (.iastore, 1) := by decide +kernel
theorem d_M_swap_19 : decode b_M_swap 19 = .ok (.aload_n 0, 1) := by decide +kernel
theorem d_M_swap_20 : decode b_M_swap 20 = .ok (.getfield 51, 3) := by decide +kernel
theorem d_M_swap_23 : decode b_M_swap 23 = .ok (.iload_n 2, 1) := by decide +kernel
theorem d_M_swap_24 : decode b_M_swap 24 = .ok (.iload_n 3, 1) := by decide +kernel
theorem d_M_swap_25 : decode b_M_swap 25 = .ok (.iastore, 1) := by decide +kernel
theorem d_M_swap_26 : decode b_M_swap 26 = .ok (.return_, 1) := by decide +kernel
theorem d_M_isBefore_0 : decode b_M_isBefore 0 = .ok (.aload_n 0, 1) := by decide +kernel
theorem d_M_isBefore_1 : decode b_M_isBefore 1 = .ok (.getfield 39, 3) := by decide +kernel
theorem d_M_isBefore_4 : decode b_M_isBefore 4 = .ok (.iload_n 1, 1) := by decide +kernel
theorem d_M_isBefore_5 : decode b_M_isBefore 5 = .ok (.iaload, 1) := by decide +kernel
theorem d_M_isBefore_6 : decode b_M_isBefore 6 = .ok (.aload_n 0, 1) := by decide +kernel
theorem d_M_isBefore_7 : decode b_M_isBefore 7 = .ok (.getfield 39, 3) := by decide +kernel
theorem d_M_isBefore_10 : decode b_M_isBefore 10 = .ok (.iload_n 2, 1) := by decide +kernel
theorem d_M_isBefore_11 : decode b_M_isBefore 11 = .ok (.iaload, 1) := by decide +kernel
theorem d_M_isBefore_12 : decode b_M_isBefore 12 = .ok (.if_icmp .eq 26, 3) := by decide +kernel
theorem d_M_isBefore_15 : decode b_M_isBefore 15 = .ok (.aload_n 0, 1) := by decide +kernel
theorem d_M_isBefore_16 : decode b_M_isBefore 16 = .ok (.getfield 39, 3) := by decide +kernel
theorem d_M_isBefore_19 : decode b_M_isBefore 19 = .ok (.iload_n 1, 1) := by decide +kernel
theorem d_M_isBefore_20 : decode b_M_isBefore 20 = .ok (.iaload, 1) := by decide +kernel
theorem d_M_isBefore_21 : decode b_M_isBefore 21 = .ok (.aload_n 0, 1) := by decide +kernel
theorem d_M_isBefore_22 : decode b_M_isBefore 22 = .ok (.getfield 39, 3) := by decide +kernel
theorem d_M_isBefore_25 : decode b_M_isBefore 25 = .ok (.iload_n 2, 1) := by decide +kernel
theorem d_M_isBefore_26 : decode b_M_isBefore 26 = .ok (.iaload, 1) := by decide +kernel
theorem d_M_isBefore_27 : decode b_M_isBefore 27 = .ok (.if_icmp .ge 7, 3) := by decide +kernel
theorem d_M_isBefore_30 : decode b_M_isBefore 30 = .ok (.iconst 1, 1) := by decide +kernel
theorem d_M_isBefore_31 : decode b_M_isBefore 31 = .ok (.goto 55, 3) := by decide +kernel
theorem d_M_isBefore_34 : decode b_M_isBefore 34 = .ok (.iconst 0, 1) := by decide +kernel
theorem d_M_isBefore_35 : decode b_M_isBefore 35 = .ok (.goto 51, 3) := by decide +kernel
theorem d_M_isBefore_38 : decode b_M_isBefore 38 = .ok (.aload_n 0, 1) := by decide +kernel
theorem d_M_isBefore_39 : decode b_M_isBefore 39 = .ok (.getfield 36, 3) := by decide +kernel
theorem d_M_isBefore_42 : decode b_M_isBefore 42 = .ok (.iload_n 1, 1) := by decide +kernel
theorem d_M_isBefore_43 : decode b_M_isBefore 43 = .ok (.iaload, 1) := by decide +kernel
theorem d_M_isBefore_44 : decode b_M_isBefore 44 = .ok (.aload_n 0, 1) := by decide +kernel
theorem d_M_isBefore_45 : decode b_M_isBefore 45 = .ok (.getfield 36, 3) := by decide +kernel
theorem d_M_isBefore_48 : decode b_M_isBefore 48 = .ok (.iload_n 2, 1) := by decide +kernel
theorem d_M_isBefore_49 : decode b_M_isBefore 49 = .ok (.iaload, 1) := by decide +kernel
theorem d_M_isBefore_50 : decode b_M_isBefore 50 = .ok (.if_icmp .eq 26, 3) := by decide +kernel
theorem d_M_isBefore_53 : decode b_M_isBefore 53 = .ok (.aload_n 0, 1) := by decide +kernel
theorem d_M_isBefore_54 : decode b_M_isBefore 54 = .ok (.getfield 36, 3) := by decide +kernel
theorem d_M_isBefore_57 : decode b_M_isBefore 57 = .ok (.iload_n 1, 1) := by decide +kernel
theorem d_M_isBefore_58 : decode b_M_isBefore 58 = .ok (.iaload, 1) := by decide +kernel
theorem d_M_isBefore_59 : decode b_M_isBefore 59 = .ok (.aload_n 0, 1) := by decide +kernel
theorem d_M_isBefore_60 : decode b_M_isBefore 60 = .ok (.getfield 36, 3) := by decide +kernel
theorem d_M_isBefore_63 : decode b_M_isBefore 63 = .ok (.iload_n 2, 1) := by decide +kernel
theorem d_M_isBefore_64 : decode b_M_isBefore 64 = .ok (.iaload, 1) := by decide +kernel
theorem d_M_isBefore_65 : decode b_M_isBefore 65 = .ok (.if_icmp .ge 7, 3) := by decide +kernel
theorem d_M_isBefore_68 : decode b_M_isBefore 68 = .ok (.iconst 1, 1) := by decide +kernel
theorem d_M_isBefore_69 : decode b_M_isBefore 69 = .ok (.goto 17, 3) := by decide +kernel
theorem d_M_isBefore_72 : decode b_M_isBefore 72 = .ok (.iconst 0, 1) := by decide +kernel
theorem d_M_isBefore_73 : decode b_M_isBefore 73 = .ok (.goto 13, 3) := by decide +kernel
theorem d_M_isBefore_76 : decode b_M_isBefore 76 = .ok (.iload_n 1, 1) := by decide +kernel
theorem d_M_isBefore_77 : decode b_M_isBefore 77 = .ok (.iload_n 2, 1) := by decide +kernel
theorem d_M_isBefore_78 : decode b_M_isBefore 78 = .ok (.if_icmp .ge 7, 3) := by decide +kernel
theorem d_M_isBefore_81 : decode b_M_isBefore 81 = .ok (.iconst 1, 1) := by decide +kernel
theorem d_M_isBefore_82 : decode b_M_isBefore 82 = .ok (.goto 4, 3) := by decide +kernel
theorem d_M_isBefore_85 : decode b_M_isBefore 85 = .ok (.iconst 0, 1) := by decide +kernel
theorem d_M_isBefore_86 : decode b_M_isBefore 86 = .ok (.ireturn, 1) := by decide +kernel
theorem d_M_sort_0 : decode b_M_sort 0 = .ok (.iload_n 1, 1) := by decide +kernel
theorem d_M_sort_1 : decode b_M_sort 1 = .ok (.istore_n 3, 1) := by decide +kernel
theorem d_M_sort_2 : decode b_M_sort 2 = .ok (.iload_n 3, 1) := by decide +kernel
theorem d_M_sort_3 : decode b_M_sort 3 = .ok (.iload_n 2, 1) := by decide +kernel
theorem d_M_sort_4 : decode b_M_sort 4 = .ok (.if_icmp .ge 57, 3) := by decide +kernel
theorem d_M_sort_7 : decode b_M_sort 7 = .ok (.iload_n 3, 1) := by decide +kernel
theorem d_M_sort_8 : decode b_M_sort 8 = .ok (.istore 4, 2) := by decide +kernel
theorem d_M_sort_10 : decode b_M_sort 10 = .ok (.iload 4, 2) := by decide +kernel
theorem d_M_sort_12 : decode b_M_sort 12 = .ok (.iload_n 1, 1) := by decide +kernel
theorem d_M_sort_13 : decode b_M_sort 13 = .ok (.if_icmp .le 42, 3) := by decide +kernel
theorem d_M_sort_16 : decode b_M_sort 16 = .ok (.aload_n 0, 1) := by decide +kernel
theorem d_M_sort_17 : decode b_M_sort 17 = .ok (.aload_n 0, 1) := by decide +kernel
theorem d_M_sort_18 : decode b_M_sort 18 = .ok (.getfield 51, 3) := by decide +kernel
theorem d_M_sort_21 : decode b_M_sort 21 = .ok (.iload 4, 2) := by decide +kernel
theorem d_M_sort_23 : decode b_M_sort 23 = .ok (.iaload, 1) := by decide +kernel
theorem d_M_sort_24 : decode b_M_sort 24 = .ok (.aload_n 0, 1) := by decide +kernel
theorem d_M_sort_25 : decode b_M_sort 25 = .ok (.getfield 51, 3) := by decide +kernel
theorem d_M_sort_28 : decode b_M_sort 28 = .ok (.iload 4, 2) := by decide +kernel
theorem d_M_sort_30 : decode b_M_sort 30 = .ok (.iconst 1, 1) := by decide +kernel
theorem d_M_sort_31 : decode b_M_sort 31 = .ok (.isub, 1) := by decide +kernel
theorem d_M_sort_32 : decode b_M_sort 32 = .ok (.iaload, 1) := by decide +kernel
theorem d_M_sort_33 : decode b_M_sort 33 = .ok (.invokevirtual 151, 3) := by decide +kernel
theorem d_M_sort_36 : decode b_M_sort 36 = .ok (.ifCond .eq 19, 3) := by decide +kernel
theorem d_M_sort_39 : decode b_M_sort 39 = .ok (.aload_n 0, 1) := by decide +kernel
theorem d_M_sort_40 : decode b_M_sort 40 = .ok (.iload 4, 2) := by decide +kernel
theorem d_M_sort_42 : decode b_M_sort 42 = .ok (.iload 4, 2) := by decide +kernel
theorem d_M_sort_44 : decode b_M_sort 44 = .ok (.iconst 1, 1) := by decide +kernel
theorem d_M_sort_45 : decode b_M_sort 45 = .ok (.isub, 1) := by decide +kernel
theorem d_M_sort_46 : decode b_M_sort 46 = .ok (.invokevirtual 154, 3) := by decide +kernel
theorem d_M_sort_49 : decode b_M_sort 49 = .ok (.iinc 4 (-1), 3) := by decide +kernel
theorem d_M_sort_52 : decode b_M_sort 52 = .ok (.goto (-42), 3) := by decide +kernel
theorem d_M_sort_55 : decode b_M_sort 55 = .ok (.iinc 3 1, 3) := by decide +kernel
theorem d_M_sort_58 : decode b_M_sort 58 = .ok (.goto (-56), 3) := by decide +kernel
theorem d_M_sort_61 : decode b_M_sort 61 = .ok (.return_, 1) := by decide +kernel
theorem d_M_parts_0 : decode b_M_parts 0 = .ok (.iconst (-1), 1) := by decide +kernel
theorem d_M_parts_1 : decode b_M_parts 1 = .ok (.istore_n 3, 1) := by decide +kernel
theorem d_M_parts_2 : decode b_M_parts 2 = .ok (.iconst 0, 1) := by decide +kernel
theorem d_M_parts_3 : decode b_M_parts 3 = .ok (.istore 4, 2) := by decide +kernel
theorem d_M_parts_5 : decode b_M_parts 5 = .ok (.iconst 0, 1) := by decide +kernel
theorem d_M_parts_6 : decode b_M_parts 6 = .ok (.istore 5, 2) := by decide +kernel
theorem d_M_parts_8 : decode b_M_parts 8 = .ok (.iconst 0, 1) := by decide +kernel
theorem d_M_parts_9 : decode b_M_parts 9 = .ok (.istore 6, 2) := by decide +kernel
theorem d_M_parts_11 : decode b_M_parts 11 = .ok (.iload 6, 2) := by decide +kernel
theorem d_M_parts_13 : decode b_M_parts 13 = .ok (.bipush 48, 2) := by decide +kernel
theorem d_M_parts_15 : decode b_M_parts 15 = .ok (.if_icmp .ge 58, 3) := by decide +kernel
theorem d_M_parts_18 : decode b_M_parts 18 = .ok (.iload 6, 2) := by decide +kernel
theorem d_M_parts_20 : decode b_M_parts 20 = .ok (.bipush 24, 2) := by decide +kernel
theorem d_M_parts_22 : decode b_M_parts 22 = .ok (.if_icmp .lt 7, 3) := by decide +kernel
theorem d_M_parts_25 : decode b_M_parts 25 = .ok (.iconst 1, 1) := by decide +kernel
theorem d_M_parts_26 : decode b_M_parts 26 = .ok (.goto 4, 3) := by decide +kernel
theorem d_M_parts_29 : decode b_M_parts 29 = .ok (.iconst 0, 1) := by decide +kernel
theorem d_M_parts_30 : decode b_M_parts 30 = .ok (.istore 7, 2) := by decide +kernel
theorem d_M_parts_32 : decode b_M_parts 32 = .ok (.aload_n 0, 1) := by decide +kernel
theorem d_M_parts_33 : decode b_M_parts 33 = .ok (.iload 6, 2) := by decide +kernel
theorem d_M_parts_35 : decode b_M_parts 35 = .ok (.bipush 24, 2) := by decide +kernel
theorem d_M_parts_37 : decode b_M_parts 37 = .ok (.irem, 1) := by decide +kernel
theorem d_M_parts_38 : decode b_M_parts 38 = .ok (.iload 7, 2) := by decide +kernel
theorem d_M_parts_40 : decode b_M_parts 40 = .ok (.iload_n 1, 1) := by decide +kernel
theorem d_M_parts_41 : decode b_M_parts 41 = .ok (.iload_n 2, 1) := by decide +kernel
theorem d_M_parts_42 : decode b_M_parts 42 = .ok (.invokevirtual 158, 3) := by decide +kernel
theorem d_M_parts_45 : decode b_M_parts 45 = .ok (.istore 8, 2) := by decide +kernel
theorem d_M_parts_47 : decode b_M_parts 47 = .ok (.iload 8, 2) := by decide +kernel
theorem d_M_parts_49 : decode b_M_parts 49 = .ok (.iload_n 3, 1) := by decide +kernel
theorem d_M_parts_50 : decode b_M_parts 50 = .ok (.if_icmp .le 17, 3) := by decide +kernel
theorem d_M_parts_53 : decode b_M_parts 53 = .ok (.iload 8, 2) := by decide +kernel
theorem d_M_parts_55 : decode b_M_parts 55 = .ok (.istore_n 3, 1) := by decide +kernel
theorem d_M_parts_56 : decode b_M_parts 56 = .ok (.iload 6, 2) := by decide +kernel
theorem d_M_parts_58 : decode b_M_parts 58 = .ok (.bipush 24, 2) := by decide +kernel
theorem d_M_parts_60 : decode b_M_parts 60 = .ok (.irem, 1) := by decide +kernel
theorem d_M_parts_61 : decode b_M_parts 61 = .ok (.istore 4, 2) := by decide +kernel
theorem d_M_parts_63 : decode b_M_parts 63 = .ok (.iload 7, 2) := by decide +kernel
theorem d_M_parts_65 : decode b_M_parts 65 = .ok (.istore 5, 2) := by decide +kernel
theorem d_M_parts_67 : decode b_M_parts 67 = .ok (.iinc 6 1, 3) := by decide +kernel
theorem d_M_parts_70 : decode b_M_parts 70 = .ok (.goto (-59), 3) := by decide +kernel
theorem d_M_parts_73 : decode b_M_parts 73 = .ok (.iload_n 3, 1) := by decide +kernel
theorem d_M_parts_74 : decode b_M_parts 74 = .ok (.iconst (-1), 1) := by decide +kernel
theorem d_M_parts_75 : decode b_M_parts 75 = .ok (.if_icmp .ne 5, 3) := by decide +kernel
theorem d_M_parts_78 : decode b_M_parts 78 = .ok (.iload_n 2, 1) := by decide +kernel
theorem d_M_parts_79 : decode b_M_parts 79 = .ok (.ireturn, 1) := by decide +kernel
theorem d_M_parts_80 : decode b_M_parts 80 = .ok (.iload_n 1, 1) := by decide +kernel
theorem d_M_parts_81 : decode b_M_parts 81 = .ok (.istore 6, 2) := by decide +kernel
theorem d_M_parts_83 : decode b_M_parts 83 = .ok (.iload_n 1, 1) := by decide +kernel
theorem d_M_parts_84 : decode b_M_parts 84 = .ok (.istore 7, 2) := by decide +kernel
theorem d_M_parts_86 : decode b_M_parts 86 = .ok (.iload 7, 2) := by decide +kernel
theorem d_M_parts_88 : decode b_M_parts 88 = .ok (.iload_n 2, 1) := by decide +kernel
theorem d_M_parts_89 : decode b_M_parts 89 = .ok (.if_icmp .ge 38, 3) := by decide +kernel
theorem d_M_parts_92 : decode b_M_parts 92 = .ok (.aload_n 0, 1) := by decide +kernel
theorem d_M_parts_93 : decode b_M_parts 93 = .ok (.aload_n 0, 1) := by decide +kernel
theorem d_M_parts_94 : decode b_M_parts 94 = .ok (.getfield 51, 3) := by decide +kernel
theorem d_M_parts_97 : decode b_M_parts 97 = .ok (.iload 7, 2) := by decide +kernel
theorem d_M_parts_99 : decode b_M_parts 99 = .ok (.iaload, 1) := by decide +kernel
theorem d_M_parts_100 : decode b_M_parts 100 = .ok (.iload 5, 2) := by decide +kernel
theorem d_M_parts_102 : decode b_M_parts 102 = .ok (.invokevirtual 148, 3) := by decide +kernel
theorem d_M_parts_105 : decode b_M_parts 105 = .ok (.iload 4, 2) := by decide +kernel
theorem d_M_parts_107 : decode b_M_parts 107 = .ok (.if_icmp .ge 14, 3) := by decide +kernel
theorem d_M_parts_110 : decode b_M_parts 110 = .ok (.aload_n 0, 1) := by decide +kernel
theorem d_M_parts_111 : decode b_M_parts 111 = .ok (.iload 7, 2) := by decide +kernel
theorem d_M_parts_113 : decode b_M_parts 113 = .ok (.iload 6, 2) := by decide +kernel
theorem d_M_parts_115 : decode b_M_parts 115 = .ok (.invokevirtual 154, 3) := by decide +kernel
theorem d_M_parts_118 : decode b_M_parts 118 = .ok (.iinc 6 1, 3) := by decide +kernel
theorem d_M_parts_121 : decode b_M_parts 121 = .ok (.iinc 7 1, 3) := by decide +kernel
theorem d_M_parts_124 : decode b_M_parts 124 = .ok (.goto (-38), 3) := by decide +kernel
theorem d_M_parts_127 : decode b_M_parts 127 = .ok (.iload 6, 2) := by decide +kernel
theorem d_M_parts_129 : decode b_M_parts 129 = .ok (.ireturn, 1) := by decide +kernel
theorem d_M_takeOrder_0 : decode b_M_takeOrder 0 = .ok (.iconst 0, 1) := by decide +kernel
theorem d_M_takeOrder_1 : decode b_M_takeOrder 1 = .ok (.istore_n 1, 1) := by decide +kernel
theorem d_M_takeOrder_2 : decode b_M_takeOrder 2 = .ok (.iload_n 1, 1) := by decide +kernel
theorem d_M_takeOrder_3 : decode b_M_takeOrder 3 = .ok (.aload_n 0, 1) := by decide +kernel
theorem d_M_takeOrder_4 : decode b_M_takeOrder 4 = .ok (.getfield 116, 3) := by decide +kernel
theorem d_M_takeOrder_7 : decode b_M_takeOrder 7 = .ok (.if_icmp .ge 16, 3) := by decide +kernel
theorem d_M_takeOrder_10 : decode b_M_takeOrder 10 = .ok (.aload_n 0, 1) := by decide +kernel
theorem d_M_takeOrder_11 : decode b_M_takeOrder 11 = .ok (.getfield 51, 3) := by decide +kernel
theorem d_M_takeOrder_14 : decode b_M_takeOrder 14 = .ok (.iload_n 1, 1) := by decide +kernel
theorem d_M_takeOrder_15 : decode b_M_takeOrder 15 = .ok (.iload_n 1, 1) := by decide +kernel
theorem d_M_takeOrder_16 : decode b_M_takeOrder 16 = .ok (.iastore, 1) := by decide +kernel
theorem d_M_takeOrder_17 : decode b_M_takeOrder 17 = .ok (.iinc 1 1, 3) := by decide +kernel
theorem d_M_takeOrder_20 : decode b_M_takeOrder 20 = .ok (.goto (-18), 3) := by decide +kernel
theorem d_M_takeOrder_23 : decode b_M_takeOrder 23 = .ok (.iconst 1, 1) := by decide +kernel
theorem d_M_takeOrder_24 : decode b_M_takeOrder 24 = .ok (.istore_n 1, 1) := by decide +kernel
theorem d_M_takeOrder_25 : decode b_M_takeOrder 25 = .ok (.aload_n 0, 1) := by decide +kernel
theorem d_M_takeOrder_26 : decode b_M_takeOrder 26 = .ok (.getfield 63, 3) := by decide +kernel
theorem d_M_takeOrder_29 : decode b_M_takeOrder 29 = .ok (.iconst 0, 1) := by decide +kernel
theorem d_M_takeOrder_30 : decode b_M_takeOrder 30 = .ok (.iconst 0, 1) := by decide +kernel
theorem d_M_takeOrder_31 : decode b_M_takeOrder 31 = .ok (.iastore, 1) := by decide +kernel
theorem d_M_takeOrder_32 : decode b_M_takeOrder 32 = .ok (.aload_n 0, 1) := by decide +kernel
theorem d_M_takeOrder_33 : decode b_M_takeOrder 33 = .ok (.getfield 66, 3) := by decide +kernel
theorem d_M_takeOrder_36 : decode b_M_takeOrder 36 = .ok (.iconst 0, 1) := by decide +kernel
theorem d_M_takeOrder_37 : decode b_M_takeOrder 37 = .ok (.aload_n 0, 1) := by decide +kernel
theorem d_M_takeOrder_38 : decode b_M_takeOrder 38 = .ok (.getfield 116, 3) := by decide +kernel
theorem d_M_takeOrder_41 : decode b_M_takeOrder 41 = .ok (.iastore, 1) := by decide +kernel
theorem d_M_takeOrder_42 : decode b_M_takeOrder 42 = .ok (.iload_n 1, 1) := by decide +kernel
theorem d_M_takeOrder_43 : decode b_M_takeOrder 43 = .ok (.ifCond .le 95, 3) := by decide +kernel
theorem d_M_takeOrder_46 : decode b_M_takeOrder 46 = .ok (.iinc 1 (-1), 3) := by decide +kernel
theorem d_M_takeOrder_49 : decode b_M_takeOrder 49 = .ok (.aload_n 0, 1) := by decide +kernel
theorem d_M_takeOrder_50 : decode b_M_takeOrder 50 = .ok (.getfield 63, 3) := by decide +kernel
theorem d_M_takeOrder_53 : decode b_M_takeOrder 53 = .ok (.iload_n 1, 1) := by decide +kernel
theorem d_M_takeOrder_54 : decode b_M_takeOrder 54 = .ok (.iaload, 1) := by decide +kernel
theorem d_M_takeOrder_55 : decode b_M_takeOrder 55 = .ok (.istore_n 2, 1) := by decide +kernel
theorem d_M_takeOrder_56 : decode b_M_takeOrder 56 = .ok (.aload_n 0, 1) := by decide +kernel
theorem d_M_takeOrder_57 : decode b_M_takeOrder 57 = .ok (.getfield 66, 3) := by decide +kernel
theorem d_M_takeOrder_60 : decode b_M_takeOrder 60 = .ok (.iload_n 1, 1) := by decide +kernel
theorem d_M_takeOrder_61 : decode b_M_takeOrder 61 = .ok (.iaload, 1) := by decide +kernel
theorem d_M_takeOrder_62 : decode b_M_takeOrder 62 = .ok (.istore_n 3, 1) := by decide +kernel
theorem d_M_takeOrder_63 : decode b_M_takeOrder 63 = .ok (.iload_n 3, 1) := by decide +kernel
theorem d_M_takeOrder_64 : decode b_M_takeOrder 64 = .ok (.iload_n 2, 1) := by decide +kernel
theorem d_M_takeOrder_65 : decode b_M_takeOrder 65 = .ok (.isub, 1) := by decide +kernel
theorem d_M_takeOrder_66 : decode b_M_takeOrder 66 = .ok (.iconst 1, 1) := by decide +kernel
theorem d_M_takeOrder_67 : decode b_M_takeOrder 67 = .ok (.if_icmp .le 12, 3) := by decide +kernel
theorem d_M_takeOrder_70 : decode b_M_takeOrder 70 = .ok (.aload_n 0, 1) := by decide +kernel
theorem d_M_takeOrder_71 : decode b_M_takeOrder 71 = .ok (.iload_n 2, 1) := by decide +kernel
theorem d_M_takeOrder_72 : decode b_M_takeOrder 72 = .ok (.iload_n 3, 1) := by decide +kernel
theorem d_M_takeOrder_73 : decode b_M_takeOrder 73 = .ok (.invokevirtual 162, 3) := by decide +kernel
theorem d_M_takeOrder_76 : decode b_M_takeOrder 76 = .ok (.goto 4, 3) := by decide +kernel
theorem d_M_takeOrder_79 : decode b_M_takeOrder 79 = .ok (.iload_n 3, 1) := by decide +kernel
theorem d_M_takeOrder_80 : decode b_M_takeOrder 80 = .ok (.istore 4, 2) := by decide +kernel
theorem d_M_takeOrder_82 : decode b_M_takeOrder 82 = .ok (.iload 4, 2) := by decide +kernel
theorem d_M_takeOrder_84 : decode b_M_takeOrder 84 = .ok (.iload_n 3, 1) := by decide +kernel
theorem d_M_takeOrder_85 : decode b_M_takeOrder 85 = .ok (.if_icmp .ne 12, 3) := by decide +kernel
theorem d_M_takeOrder_88 : decode b_M_takeOrder 88 = .ok (.aload_n 0, 1) := by decide +kernel
theorem d_M_takeOrder_89 : decode b_M_takeOrder 89 = .ok (.iload_n 2, 1) := by decide +kernel
theorem d_M_takeOrder_90 : decode b_M_takeOrder 90 = .ok (.iload_n 3, 1) := by decide +kernel
theorem d_M_takeOrder_91 : decode b_M_takeOrder 91 = .ok (.invokevirtual 165, 3) := by decide +kernel
theorem d_M_takeOrder_94 : decode b_M_takeOrder 94 = .ok (.goto 41, 3) := by decide +kernel
theorem d_M_takeOrder_97 : decode b_M_takeOrder 97 = .ok (.aload_n 0, 1) := by decide +kernel
theorem d_M_takeOrder_98 : decode b_M_takeOrder 98 = .ok (.getfield 63, 3) := by decide +kernel
theorem d_M_takeOrder_101 : decode b_M_takeOrder 101 = .ok (.iload_n 1, 1) := by decide +kernel
theorem d_M_takeOrder_102 : decode b_M_takeOrder 102 = .ok (.iload_n 2, 1) := by decide +kernel
theorem d_M_takeOrder_103 : decode b_M_takeOrder 103 = .ok (.iastore, 1) := by decide +kernel
theorem d_M_takeOrder_104 : decode b_M_takeOrder 104 = .ok (.aload_n 0, 1) := by decide +kernel
theorem d_M_takeOrder_105 : decode b_M_takeOrder 105 = .ok (.getfield 66, 3) := by decide +kernel
theorem d_M_takeOrder_108 : decode b_M_takeOrder 108 = .ok (.iload_n 1, 1) := by decide +kernel
theorem d_M_takeOrder_109 : decode b_M_takeOrder 109 = .ok (.iload 4, 2) := by decide +kernel
theorem d_M_takeOrder_111 : decode b_M_takeOrder 111 = .ok (.iastore, 1) := by decide +kernel
theorem d_M_takeOrder_112 : decode b_M_takeOrder 112 = .ok (.aload_n 0, 1) := by decide +kernel
theorem d_M_takeOrder_113 : decode b_M_takeOrder 113 = .ok (.getfield 63, 3) := by decide +kernel
theorem d_M_takeOrder_116 : decode b_M_takeOrder 116 = .ok (.iload_n 1, 1) := by decide +kernel
theorem d_M_takeOrder_117 : decode b_M_takeOrder 117 = .ok (.iconst 1, 1) := by decide +kernel
theorem d_M_takeOrder_118 : decode b_M_takeOrder 118 = .ok (.iadd, 1) := by decide +kernel
theorem d_M_takeOrder_119 : decode b_M_takeOrder 119 = .ok (.iload 4, 2) := by decide +kernel
theorem d_M_takeOrder_121 : decode b_M_takeOrder 121 = .ok (.iastore, 1) := by decide +kernel
theorem d_M_takeOrder_122 : decode b_M_takeOrder 122 = .ok (.aload_n 0, 1) := by decide +kernel
theorem d_M_takeOrder_123 : decode b_M_takeOrder 123 = .ok (.getfield 66, 3) := by decide +kernel
theorem d_M_takeOrder_126 : decode b_M_takeOrder 126 = .ok (.iload_n 1, 1) := by decide +kernel
theorem d_M_takeOrder_127 : decode b_M_takeOrder 127 = .ok (.iconst 1, 1) := by decide +kernel
theorem d_M_takeOrder_128 : decode b_M_takeOrder 128 = .ok (.iadd, 1) := by decide +kernel
theorem d_M_takeOrder_129 : decode b_M_takeOrder 129 = .ok (.iload_n 3, 1) := by decide +kernel
theorem d_M_takeOrder_130 : decode b_M_takeOrder 130 = .ok (.iastore, 1) := by decide +kernel
theorem d_M_takeOrder_131 : decode b_M_takeOrder 131 = .ok (.iload_n 1, 1) := by decide +kernel
theorem d_M_takeOrder_132 : decode b_M_takeOrder 132 = .ok (.iconst 2, 1) := by decide +kernel
theorem d_M_takeOrder_133 : decode b_M_takeOrder 133 = .ok (.iadd, 1) := by decide +kernel
theorem d_M_takeOrder_134 : decode b_M_takeOrder 134 = .ok (.istore_n 1, 1) := by decide +kernel
theorem d_M_takeOrder_135 : decode b_M_takeOrder 135 = .ok (.goto (-93), 3) := by decide +kernel
theorem d_M_takeOrder_138 : decode b_M_takeOrder 138 = .ok (.return_, 1) := by decide +kernel
theorem d_M_run_0 : decode b_M_run 0 = .ok (.aload_n 0, 1) := by decide +kernel
theorem d_M_run_1 : decode b_M_run 1 = .ok (.iload_n 1, 1) := by decide +kernel
theorem d_M_run_2 : decode b_M_run 2 = .ok (.iconst 0, 1) := by decide +kernel
theorem d_M_run_3 : decode b_M_run 3 = .ok (.bipush 24, 2) := by decide +kernel
theorem d_M_run_5 : decode b_M_run 5 = .ok (.invokestatic 82, 3) := by decide +kernel
theorem d_M_run_8 : decode b_M_run 8 = .ok (.ifCond .eq 17, 3) := by decide +kernel
theorem d_M_run_11 : decode b_M_run 11 = .ok (.iload_n 2, 1) := by decide +kernel
theorem d_M_run_12 : decode b_M_run 12 = .ok (.iconst 0, 1) := by decide +kernel
theorem d_M_run_13 : decode b_M_run 13 = .ok (.bipush 24, 2) := by decide +kernel
theorem d_M_run_15 : decode b_M_run 15 = .ok (.invokestatic 82, 3) := by decide +kernel
theorem d_M_run_18 : decode b_M_run 18 = .ok (.ifCond .eq 7, 3) := by decide +kernel
theorem d_M_run_21 : decode b_M_run 21 = .ok (.iconst 1, 1) := by decide +kernel
theorem d_M_run_22 : decode b_M_run 22 = .ok (.goto 4, 3) := by decide +kernel
theorem d_M_run_25 : decode b_M_run 25 = .ok (.iconst 0, 1) := by decide +kernel
theorem d_M_run_26 : decode b_M_run 26 = .ok (.iconst 1, 1) := by decide +kernel
theorem d_M_run_27 : decode b_M_run 27 = .ok (.iconst 1, 1) := by decide +kernel
theorem d_M_run_28 : decode b_M_run 28 = .ok (.invokevirtual 90, 3) := by decide +kernel
theorem d_M_run_31 : decode b_M_run 31 = .ok (.ifCond .ne 5, 3) := by decide +kernel
theorem d_M_run_34 : decode b_M_run 34 = .ok (.iconst 0, 1) := by decide +kernel
theorem d_M_run_35 : decode b_M_run 35 = .ok (.ireturn, 1) := by decide +kernel
theorem d_M_run_36 : decode b_M_run 36 = .ok (.aload_n 0, 1) := by decide +kernel
theorem d_M_run_37 : decode b_M_run 37 = .ok (.iload_n 1, 1) := by decide +kernel
theorem d_M_run_38 : decode b_M_run 38 = .ok (.iload_n 2, 1) := by decide +kernel
theorem d_M_run_39 : decode b_M_run 39 = .ok (.invokevirtual 168, 3) := by decide +kernel
theorem d_M_run_42 : decode b_M_run 42 = .ok (.aload_n 0, 1) := by decide +kernel
theorem d_M_run_43 : decode b_M_run 43 = .ok (.invokevirtual 171, 3) := by decide +kernel
theorem d_M_run_46 : decode b_M_run 46 = .ok (.aload_n 0, 1) := by decide +kernel
theorem d_M_run_47 : decode b_M_run 47 = .ok (.invokevirtual 174, 3) := by decide +kernel
theorem d_M_run_50 : decode b_M_run 50 = .ok (.aload_n 0, 1) := by decide +kernel
theorem d_M_run_51 : decode b_M_run 51 = .ok (.invokevirtual 177, 3) := by decide +kernel
theorem d_M_run_54 : decode b_M_run 54 = .ok (.aload_n 0, 1) := by decide +kernel
theorem d_M_run_55 : decode b_M_run 55 = .ok (.invokevirtual 180, 3) := by decide +kernel
theorem d_M_run_58 : decode b_M_run 58 = .ok (.aload_n 0, 1) := by decide +kernel
theorem d_M_run_59 : decode b_M_run 59 = .ok (.invokevirtual 183, 3) := by decide +kernel
theorem d_M_run_62 : decode b_M_run 62 = .ok (.aload_n 0, 1) := by decide +kernel
theorem d_M_run_63 : decode b_M_run 63 = .ok (.iconst 1, 1) := by decide +kernel
theorem d_M_run_64 : decode b_M_run 64 = .ok (.putfield 94, 3) := by decide +kernel
theorem d_M_run_67 : decode b_M_run 67 = .ok (.aload_n 0, 1) := by decide +kernel
theorem d_M_run_68 : decode b_M_run 68 = .ok (.getfield 116, 3) := by decide +kernel
theorem d_M_run_71 : decode b_M_run 71 = .ok (.ireturn, 1) := by decide +kernel
theorem d_M_lines_0 : decode b_M_lines 0 = .ok (.iconst 0, 1) := by decide +kernel
theorem d_M_lines_1 : decode b_M_lines 1 = .ok (.istore_n 2, 1) := by decide +kernel
theorem d_M_lines_2 : decode b_M_lines 2 = .ok (.iconst 0, 1) := by decide +kernel
theorem d_M_lines_3 : decode b_M_lines 3 = .ok (.istore_n 3, 1) := by decide +kernel
theorem d_M_lines_4 : decode b_M_lines 4 = .ok (.aload_n 0, 1) := by decide +kernel
theorem d_M_lines_5 : decode b_M_lines 5 = .ok (.getfield 39, 3) := by decide +kernel
theorem d_M_lines_8 : decode b_M_lines 8 = .ok (.iload_n 1, 1) := by decide +kernel
theorem d_M_lines_9 : decode b_M_lines 9 = .ok (.iaload, 1) := by decide +kernel
theorem d_M_lines_10 : decode b_M_lines 10 = .ok (.istore 4, 2) := by decide +kernel
theorem d_M_lines_12 : decode b_M_lines 12 = .ok (.iload 4, 2) := by decide +kernel
theorem d_M_lines_14 : decode b_M_lines 14 = .ok (.aload_n 0, 1) := by decide +kernel
theorem d_M_lines_15 : decode b_M_lines 15 = .ok (.getfield 45, 3) := by decide +kernel
theorem d_M_lines_18 : decode b_M_lines 18 = .ok (.iload_n 1, 1) := by decide +kernel
theorem d_M_lines_19 : decode b_M_lines 19 = .ok (.iaload, 1) := by decide +kernel
theorem d_M_lines_20 : decode b_M_lines 20 = .ok (.if_icmp .gt 60, 3) := by decide +kernel
theorem d_M_lines_23 : decode b_M_lines 23 = .ok (.aload_n 0, 1) := by decide +kernel
theorem d_M_lines_24 : decode b_M_lines 24 = .ok (.aload_n 0, 1) := by decide +kernel
theorem d_M_lines_25 : decode b_M_lines 25 = .ok (.getfield 36, 3) := by decide +kernel
theorem d_M_lines_28 : decode b_M_lines 28 = .ok (.iload_n 1, 1) := by decide +kernel
theorem d_M_lines_29 : decode b_M_lines 29 = .ok (.iaload, 1) := by decide +kernel
theorem d_M_lines_30 : decode b_M_lines 30 = .ok (.iload 4, 2) := by decide +kernel
theorem d_M_lines_32 : decode b_M_lines 32 = .ok (.aload_n 0, 1) := by decide +kernel
theorem d_M_lines_33 : decode b_M_lines 33 = .ok (.getfield 42, 3) := by decide +kernel
theorem d_M_lines_36 : decode b_M_lines 36 = .ok (.iload_n 1, 1) := by decide +kernel
theorem d_M_lines_37 : decode b_M_lines 37 = .ok (.iaload, 1) := by decide +kernel
theorem d_M_lines_38 : decode b_M_lines 38 = .ok (.iload 4, 2) := by decide +kernel
theorem d_M_lines_40 : decode b_M_lines 40 = .ok (.iload_n 1, 1) := by decide +kernel
theorem d_M_lines_41 : decode b_M_lines 41 = .ok (.invokevirtual 123, 3) := by decide +kernel
theorem d_M_lines_44 : decode b_M_lines 44 = .ok (.ifCond .le 7, 3) := by decide +kernel
theorem d_M_lines_47 : decode b_M_lines 47 = .ok (.iconst 1, 1) := by decide +kernel
theorem d_M_lines_48 : decode b_M_lines 48 = .ok (.goto 4, 3) := by decide +kernel
theorem d_M_lines_51 : decode b_M_lines 51 = .ok (.iconst 0, 1) := by decide +kernel
theorem d_M_lines_52 : decode b_M_lines 52 = .ok (.istore 5, 2) := by decide +kernel
theorem d_M_lines_54 : decode b_M_lines 54 = .ok (.iload 5, 2) := by decide +kernel
theorem d_M_lines_56 : decode b_M_lines 56 = .ok (.ifCond .eq 13, 3) := by decide +kernel
theorem d_M_lines_59 : decode b_M_lines 59 = .ok (.iload_n 3, 1) := by decide +kernel
theorem d_M_lines_60 : decode b_M_lines 60 = .ok (.ifCond .ne 9, 3) := by decide +kernel
theorem d_M_lines_63 : decode b_M_lines 63 = .ok (.iload_n 2, 1) := by decide +kernel
theorem d_M_lines_64 : decode b_M_lines 64 = .ok (.iconst 1, 1) := by decide +kernel
theorem d_M_lines_65 : decode b_M_lines 65 = .ok (.iadd, 1) := by decide +kernel
theorem d_M_lines_66 : decode b_M_lines 66 = .ok (.goto 4, 3) := by decide +kernel
theorem d_M_lines_69 : decode b_M_lines 69 = .ok (.iload_n 2, 1) := by decide +kernel
theorem d_M_lines_70 : decode b_M_lines 70 = .ok (.istore_n 2, 1) := by decide +kernel
theorem d_M_lines_71 : decode b_M_lines 71 = .ok (.iload 5, 2) := by decide +kernel
theorem d_M_lines_73 : decode b_M_lines 73 = .ok (.istore_n 3, 1) := by decide +kernel
theorem d_M_lines_74 : decode b_M_lines 74 = .ok (.iinc 4 1, 3) := by decide +kernel
theorem d_M_lines_77 : decode b_M_lines 77 = .ok (.goto (-65), 3) := by decide +kernel
theorem d_M_lines_80 : decode b_M_lines 80 = .ok (.iload_n 2, 1) := by decide +kernel
theorem d_M_lines_81 : decode b_M_lines 81 = .ok (.ireturn, 1) := by decide +kernel
theorem d_M_inkOf_0 : decode b_M_inkOf 0 = .ok (.iconst 0, 1) := by decide +kernel
theorem d_M_inkOf_1 : decode b_M_inkOf 1 = .ok (.istore_n 2, 1) := by decide +kernel
theorem d_M_inkOf_2 : decode b_M_inkOf 2 = .ok (.iconst 0, 1) := by decide +kernel
theorem d_M_inkOf_3 : decode b_M_inkOf 3 = .ok (.istore_n 3, 1) := by decide +kernel
theorem d_M_inkOf_4 : decode b_M_inkOf 4 = .ok (.iload_n 3, 1) := by decide +kernel
theorem d_M_inkOf_5 : decode b_M_inkOf 5 = .ok (.aload_n 0, 1) := by decide +kernel
theorem d_M_inkOf_6 : decode b_M_inkOf 6 = .ok (.getfield 76, 3) := by decide +kernel
theorem d_M_inkOf_9 : decode b_M_inkOf 9 = .ok (.if_icmp .ge 51, 3) := by decide +kernel
theorem d_M_inkOf_12 : decode b_M_inkOf 12 = .ok (.iconst 0, 1) := by decide +kernel
theorem d_M_inkOf_13 : decode b_M_inkOf 13 = .ok (.istore 4, 2) := by decide +kernel
theorem d_M_inkOf_15 : decode b_M_inkOf 15 = .ok (.iload 4, 2) := by decide +kernel
theorem d_M_inkOf_17 : decode b_M_inkOf 17 = .ok (.aload_n 0, 1) := by decide +kernel
theorem d_M_inkOf_18 : decode b_M_inkOf 18 = .ok (.getfield 73, 3) := by decide +kernel
theorem d_M_inkOf_21 : decode b_M_inkOf 21 = .ok (.if_icmp .ge 33, 3) := by decide +kernel
theorem d_M_inkOf_24 : decode b_M_inkOf 24 = .ok (.aload_n 0, 1) := by decide +kernel
theorem d_M_inkOf_25 : decode b_M_inkOf 25 = .ok (.getfield 33, 3) := by decide +kernel
theorem d_M_inkOf_28 : decode b_M_inkOf 28 = .ok (.bipush 24, 2) := by decide +kernel
theorem d_M_inkOf_30 : decode b_M_inkOf 30 = .ok (.iload_n 3, 1) := by decide +kernel
theorem d_M_inkOf_31 : decode b_M_inkOf 31 = .ok (.imul, 1) := by decide +kernel
theorem d_M_inkOf_32 : decode b_M_inkOf 32 = .ok (.iload 4, 2) := by decide +kernel
theorem d_M_inkOf_34 : decode b_M_inkOf 34 = .ok (.iadd, 1) := by decide +kernel
theorem d_M_inkOf_35 : decode b_M_inkOf 35 = .ok (.iaload, 1) := by decide +kernel
theorem d_M_inkOf_36 : decode b_M_inkOf 36 = .ok (.iload_n 1, 1) := by decide +kernel
theorem d_M_inkOf_37 : decode b_M_inkOf 37 = .ok (.if_icmp .ne 9, 3) := by decide +kernel
theorem d_M_inkOf_40 : decode b_M_inkOf 40 = .ok (.iload_n 2, 1) := by decide +kernel
theorem d_M_inkOf_41 : decode b_M_inkOf 41 = .ok (.iconst 1, 1) := by decide +kernel
theorem d_M_inkOf_42 : decode b_M_inkOf 42 = .ok (.iadd, 1) := by decide +kernel
theorem d_M_inkOf_43 : decode b_M_inkOf 43 = .ok (.goto 4, 3) := by decide +kernel
theorem d_M_inkOf_46 : decode b_M_inkOf 46 = .ok (.iload_n 2, 1) := by decide +kernel
theorem d_M_inkOf_47 : decode b_M_inkOf 47 = .ok (.istore_n 2, 1) := by decide +kernel
theorem d_M_inkOf_48 : decode b_M_inkOf 48 = .ok (.iinc 4 1, 3) := by decide +kernel
theorem d_M_inkOf_51 : decode b_M_inkOf 51 = .ok (.goto (-36), 3) := by decide +kernel
theorem d_M_inkOf_54 : decode b_M_inkOf 54 = .ok (.iinc 3 1, 3) := by decide +kernel
theorem d_M_inkOf_57 : decode b_M_inkOf 57 = .ok (.goto (-53), 3) := by decide +kernel
theorem d_M_inkOf_60 : decode b_M_inkOf 60 = .ok (.iload_n 2, 1) := by decide +kernel
theorem d_M_inkOf_61 : decode b_M_inkOf 61 = .ok (.ireturn, 1) := by decide +kernel
theorem d_M_part_0 : decode b_M_part 0 = .ok (.aload_n 0, 1) := by decide +kernel
theorem d_M_part_1 : decode b_M_part 1 = .ok (.aload_n 0, 1) := by decide +kernel
theorem d_M_part_2 : decode b_M_part 2 = .ok (.getfield 94, 3) := by decide +kernel
theorem d_M_part_5 : decode b_M_part 5 = .ok (.iload_n 1, 1) := by decide +kernel
theorem d_M_part_6 : decode b_M_part 6 = .ok (.iconst 0, 1) := by decide +kernel
theorem d_M_part_7 : decode b_M_part 7 = .ok (.aload_n 0, 1) := by decide +kernel
theorem d_M_part_8 : decode b_M_part 8 = .ok (.getfield 116, 3) := by decide +kernel
theorem d_M_part_11 : decode b_M_part 11 = .ok (.iconst 1, 1) := by decide +kernel
theorem d_M_part_12 : decode b_M_part 12 = .ok (.isub, 1) := by decide +kernel
theorem d_M_part_13 : decode b_M_part 13 = .ok (.invokestatic 82, 3) := by decide +kernel
theorem d_M_part_16 : decode b_M_part 16 = .ok (.iload_n 2, 1) := by decide +kernel
theorem d_M_part_17 : decode b_M_part 17 = .ok (.iconst 0, 1) := by decide +kernel
theorem d_M_part_18 : decode b_M_part 18 = .ok (.bipush 7, 2) := by decide +kernel
theorem d_M_part_20 : decode b_M_part 20 = .ok (.invokestatic 82, 3) := by decide +kernel
theorem d_M_part_23 : decode b_M_part 23 = .ok (.invokevirtual 90, 3) := by decide +kernel
theorem d_M_part_26 : decode b_M_part 26 = .ok (.ifCond .ne 5, 3) := by decide +kernel
theorem d_M_part_29 : decode b_M_part 29 = .ok (.iconst 0, 1) := by decide +kernel
theorem d_M_part_30 : decode b_M_part 30 = .ok (.ireturn, 1) := by decide +kernel
theorem d_M_part_31 : decode b_M_part 31 = .ok (.iload_n 2, 1) := by decide +kernel
theorem d_M_part_32 : decode b_M_part 32 = .ok (.tableswitch 123 0 6 #[44, 51, 58, 74, 90, 110, 117], 44) := by decide +kernel
theorem d_M_part_76 : decode b_M_part 76 = .ok (.aload_n 0, 1) := by decide +kernel
theorem d_M_part_77 : decode b_M_part 77 = .ok (.getfield 36, 3) := by decide +kernel
theorem d_M_part_80 : decode b_M_part 80 = .ok (.iload_n 1, 1) := by decide +kernel
theorem d_M_part_81 : decode b_M_part 81 = .ok (.iaload, 1) := by decide +kernel
theorem d_M_part_82 : decode b_M_part 82 = .ok (.ireturn, 1) := by decide +kernel
theorem d_M_part_83 : decode b_M_part 83 = .ok (.aload_n 0, 1) := by decide +kernel
theorem d_M_part_84 : decode b_M_part 84 = .ok (.getfield 39, 3) := by decide +kernel
theorem d_M_part_87 : decode b_M_part 87 = .ok (.iload_n 1, 1) := by decide +kernel
theorem d_M_part_88 : decode b_M_part 88 = .ok (.iaload, 1) := by decide +kernel
theorem d_M_part_89 : decode b_M_part 89 = .ok (.ireturn, 1) := by decide +kernel
theorem d_M_part_90 : decode b_M_part 90 = .ok (.aload_n 0, 1) := by decide +kernel
theorem d_M_part_91 : decode b_M_part 91 = .ok (.getfield 42, 3) := by decide +kernel
theorem d_M_part_94 : decode b_M_part 94 = .ok (.iload_n 1, 1) := by decide +kernel
theorem d_M_part_95 : decode b_M_part 95 = .ok (.iaload, 1) := by decide +kernel
theorem d_M_part_96 : decode b_M_part 96 = .ok (.aload_n 0, 1) := by decide +kernel
theorem d_M_part_97 : decode b_M_part 97 = .ok (.getfield 36, 3) := by decide +kernel
theorem d_M_part_100 : decode b_M_part 100 = .ok (.iload_n 1, 1) := by decide +kernel
theorem d_M_part_101 : decode b_M_part 101 = .ok (.iaload, 1) := by decide +kernel
theorem d_M_part_102 : decode b_M_part 102 = .ok (.isub, 1) := by decide +kernel
theorem d_M_part_103 : decode b_M_part 103 = .ok (.iconst 1, 1) := by decide +kernel
theorem d_M_part_104 : decode b_M_part 104 = .ok (.iadd, 1) := by decide +kernel
theorem d_M_part_105 : decode b_M_part 105 = .ok (.ireturn, 1) := by decide +kernel
theorem d_M_part_106 : decode b_M_part 106 = .ok (.aload_n 0, 1) := by decide +kernel
theorem d_M_part_107 : decode b_M_part 107 = .ok (.getfield 45, 3) := by decide +kernel
theorem d_M_part_110 : decode b_M_part 110 = .ok (.iload_n 1, 1) := by decide +kernel
theorem d_M_part_111 : decode b_M_part 111 = .ok (.iaload, 1) := by decide +kernel
theorem d_M_part_112 : decode b_M_part 112 = .ok (.aload_n 0, 1) := by decide +kernel
theorem d_M_part_113 : decode b_M_part 113 = .ok (.getfield 39, 3) := by decide +kernel
theorem d_M_part_116 : decode b_M_part 116 = .ok (.iload_n 1, 1) := by decide +kernel
theorem d_M_part_117 : decode b_M_part 117 = .ok (.iaload, 1) := by decide +kernel
theorem d_M_part_118 : decode b_M_part 118 = .ok (.isub, 1) := by decide +kernel
theorem d_M_part_119 : decode b_M_part 119 = .ok (.iconst 1, 1) := by decide +kernel
theorem d_M_part_120 : decode b_M_part 120 = .ok (.iadd, 1) := by decide +kernel
theorem d_M_part_121 : decode b_M_part 121 = .ok (.ireturn, 1) := by decide +kernel
theorem d_M_part_122 : decode b_M_part 122 = .ok (.aload_n 0, 1) := by decide +kernel
theorem d_M_part_123 : decode b_M_part 123 = .ok (.iconst 0, 1) := by decide +kernel
theorem d_M_part_124 : decode b_M_part 124 = .ok (.iconst 0, 1) := by decide +kernel
theorem d_M_part_125 : decode b_M_part 125 = .ok (.aload_n 0, 1) := by decide +kernel
theorem d_M_part_126 : decode b_M_part 126 = .ok (.getfield 73, 3) := by decide +kernel
theorem d_M_part_129 : decode b_M_part 129 = .ok (.iconst 1, 1) := by decide +kernel
theorem d_M_part_130 : decode b_M_part 130 = .ok (.isub, 1) := by decide +kernel
theorem d_M_part_131 : decode b_M_part 131 = .ok (.aload_n 0, 1) := by decide +kernel
theorem d_M_part_132 : decode b_M_part 132 = .ok (.getfield 76, 3) := by decide +kernel
theorem d_M_part_135 : decode b_M_part 135 = .ok (.iconst 1, 1) := by decide +kernel
theorem d_M_part_136 : decode b_M_part 136 = .ok (.isub, 1) := by decide +kernel
theorem d_M_part_137 : decode b_M_part 137 = .ok (.iload_n 1, 1) := by decide +kernel
theorem d_M_part_138 : decode b_M_part 138 = .ok (.invokevirtual 123, 3) := by decide +kernel
theorem d_M_part_141 : decode b_M_part 141 = .ok (.ireturn, 1) := by decide +kernel
theorem d_M_part_142 : decode b_M_part 142 = .ok (.aload_n 0, 1) := by decide +kernel
theorem d_M_part_143 : decode b_M_part 143 = .ok (.getfield 48, 3) := by decide +kernel
theorem d_M_part_146 : decode b_M_part 146 = .ok (.iload_n 1, 1) := by decide +kernel
theorem d_M_part_147 : decode b_M_part 147 = .ok (.iaload, 1) := by decide +kernel
theorem d_M_part_148 : decode b_M_part 148 = .ok (.ireturn, 1) := by decide +kernel
theorem d_M_part_149 : decode b_M_part 149 = .ok (.aload_n 0, 1) := by decide +kernel
theorem d_M_part_150 : decode b_M_part 150 = .ok (.iload_n 1, 1) := by decide +kernel
theorem d_M_part_151 : decode b_M_part 151 = .ok (.invokevirtual 186, 3) := by decide +kernel
theorem d_M_part_154 : decode b_M_part 154 = .ok (.ireturn, 1) := by decide +kernel
theorem d_M_part_155 : decode b_M_part 155 = .ok (.aload_n 0, 1) := by decide +kernel
theorem d_M_part_156 : decode b_M_part 156 = .ok (.iload_n 1, 1) := by decide +kernel
theorem d_M_part_157 : decode b_M_part 157 = .ok (.invokevirtual 189, 3) := by decide +kernel
theorem d_M_part_160 : decode b_M_part 160 = .ok (.ireturn, 1) := by decide +kernel
theorem d_M_partOf_0 : decode b_M_partOf 0 = .ok (.aload_n 0, 1) := by decide +kernel
theorem d_M_partOf_1 : decode b_M_partOf 1 = .ok (.aload_n 0, 1) := by decide +kernel
theorem d_M_partOf_2 : decode b_M_partOf 2 = .ok (.getfield 94, 3) := by decide +kernel
theorem d_M_partOf_5 : decode b_M_partOf 5 = .ok (.aload_n 0, 1) := by decide +kernel
theorem d_M_partOf_6 : decode b_M_partOf 6 = .ok (.iload_n 1, 1) := by decide +kernel
theorem d_M_partOf_7 : decode b_M_partOf 7 = .ok (.iload_n 2, 1) := by decide +kernel
theorem d_M_partOf_8 : decode b_M_partOf 8 = .ok (.invokevirtual 86, 3) := by decide +kernel
theorem d_M_partOf_11 : decode b_M_partOf 11 = .ok (.iconst 1, 1) := by decide +kernel
theorem d_M_partOf_12 : decode b_M_partOf 12 = .ok (.invokevirtual 90, 3) := by decide +kernel
theorem d_M_partOf_15 : decode b_M_partOf 15 = .ok (.ifCond .eq 17, 3) := by decide +kernel
theorem d_M_partOf_18 : decode b_M_partOf 18 = .ok (.aload_n 0, 1) := by decide +kernel
theorem d_M_partOf_19 : decode b_M_partOf 19 = .ok (.getfield 33, 3) := by decide +kernel
theorem d_M_partOf_22 : decode b_M_partOf 22 = .ok (.bipush 24, 2) := by decide +kernel
theorem d_M_partOf_24 : decode b_M_partOf 24 = .ok (.iload_n 2, 1) := by decide +kernel
theorem d_M_partOf_25 : decode b_M_partOf 25 = .ok (.imul, 1) := by decide +kernel
theorem d_M_partOf_26 : decode b_M_partOf 26 = .ok (.iload_n 1, 1) := by decide +kernel
theorem d_M_partOf_27 : decode b_M_partOf 27 = .ok (.iadd, 1) := by decide +kernel
theorem d_M_partOf_28 : decode b_M_partOf 28 = .ok (.iaload, 1) := by decide +kernel
theorem d_M_partOf_29 : decode b_M_partOf 29 = .ok (.goto 4, 3) := by decide +kernel
theorem d_M_partOf_32 : decode b_M_partOf 32 = .ok (.iconst 0, 1) := by decide +kernel
theorem d_M_partOf_33 : decode b_M_partOf 33 = .ok (.ireturn, 1) := by decide +kernel
theorem d_M_line_0 : decode b_M_line 0 = .ok (.aload_n 0, 1) := by decide +kernel
theorem d_M_line_1 : decode b_M_line 1 = .ok (.getfield 94, 3) := by decide +kernel
theorem d_M_line_4 : decode b_M_line 4 = .ok (.ifCond .eq 36, 3) := by decide +kernel
theorem d_M_line_7 : decode b_M_line 7 = .ok (.iload_n 1, 1) := by decide +kernel
theorem d_M_line_8 : decode b_M_line 8 = .ok (.iconst 0, 1) := by decide +kernel
theorem d_M_line_9 : decode b_M_line 9 = .ok (.aload_n 0, 1) := by decide +kernel
theorem d_M_line_10 : decode b_M_line 10 = .ok (.getfield 116, 3) := by decide +kernel
theorem d_M_line_13 : decode b_M_line 13 = .ok (.iconst 1, 1) := by decide +kernel
theorem d_M_line_14 : decode b_M_line 14 = .ok (.isub, 1) := by decide +kernel
theorem d_M_line_15 : decode b_M_line 15 = .ok (.invokestatic 82, 3) := by decide +kernel
theorem d_M_line_18 : decode b_M_line 18 = .ok (.ifCond .eq 22, 3) := by decide +kernel
theorem d_M_line_21 : decode b_M_line 21 = .ok (.iload_n 2, 1) := by decide +kernel
theorem d_M_line_22 : decode b_M_line 22 = .ok (.iconst 0, 1) := by decide +kernel
theorem d_M_line_23 : decode b_M_line 23 = .ok (.aload_n 0, 1) := by decide +kernel
theorem d_M_line_24 : decode b_M_line 24 = .ok (.iload_n 1, 1) := by decide +kernel
theorem d_M_line_25 : decode b_M_line 25 = .ok (.invokevirtual 186, 3) := by decide +kernel
theorem d_M_line_28 : decode b_M_line 28 = .ok (.iconst 1, 1) := by decide +kernel
theorem d_M_line_29 : decode b_M_line 29 = .ok (.isub, 1) := by decide +kernel
theorem d_M_line_30 : decode b_M_line 30 = .ok (.invokestatic 82, 3) := by decide +kernel
theorem d_M_line_33 : decode b_M_line 33 = .ok (.ifCond .eq 7, 3) := by decide +kernel
theorem d_M_line_36 : decode b_M_line 36 = .ok (.iconst 1, 1) := by decide +kernel
theorem d_M_line_37 : decode b_M_line 37 = .ok (.goto 4, 3) := by decide +kernel
theorem d_M_line_40 : decode b_M_line 40 = .ok (.iconst 0, 1) := by decide +kernel
theorem d_M_line_41 : decode b_M_line 41 = .ok (.istore 4, 2) := by decide +kernel
theorem d_M_line_43 : decode b_M_line 43 = .ok (.aload_n 0, 1) := by decide +kernel
theorem d_M_line_44 : decode b_M_line 44 = .ok (.aload_n 0, 1) := by decide +kernel
theorem d_M_line_45 : decode b_M_line 45 = .ok (.getfield 94, 3) := by decide +kernel
theorem d_M_line_48 : decode b_M_line 48 = .ok (.iload 4, 2) := by decide +kernel
theorem d_M_line_50 : decode b_M_line 50 = .ok (.iload_n 3, 1) := by decide +kernel
theorem d_M_line_51 : decode b_M_line 51 = .ok (.iconst 0, 1) := by decide +kernel
theorem d_M_line_52 : decode b_M_line 52 = .ok (.iconst 1, 1) := by decide +kernel
theorem d_M_line_53 : decode b_M_line 53 = .ok (.invokestatic 82, 3) := by decide +kernel
theorem d_M_line_56 : decode b_M_line 56 = .ok (.invokevirtual 90, 3) := by decide +kernel
theorem d_M_line_59 : decode b_M_line 59 = .ok (.ifCond .ne 5, 3) := by decide +kernel
theorem d_M_line_62 : decode b_M_line 62 = .ok (.iconst 0, 1) := by decide +kernel
theorem d_M_line_63 : decode b_M_line 63 = .ok (.ireturn, 1) := by decide +kernel
theorem d_M_line_64 : decode b_M_line 64 = .ok (.iload_n 2, 1) := by decide +kernel
theorem d_M_line_65 : decode b_M_line 65 = .ok (.istore 5, 2) := by decide +kernel
theorem d_M_line_67 : decode b_M_line 67 = .ok (.aload_n 0, 1) := by decide +kernel
theorem d_M_line_68 : decode b_M_line 68 = .ok (.getfield 39, 3) := by decide +kernel
theorem d_M_line_71 : decode b_M_line 71 = .ok (.iload_n 1, 1) := by decide +kernel
theorem d_M_line_72 : decode b_M_line 72 = .ok (.iaload, 1) := by decide +kernel
theorem d_M_line_73 : decode b_M_line 73 = .ok (.istore 6, 2) := by decide +kernel
theorem d_M_line_75 : decode b_M_line 75 = .ok (.aload_n 0, 1) := by decide +kernel
theorem d_M_line_76 : decode b_M_line 76 = .ok (.aload_n 0, 1) := by decide +kernel
theorem d_M_line_77 : decode b_M_line 77 = .ok (.getfield 36, 3) := by decide +kernel
theorem d_M_line_80 : decode b_M_line 80 = .ok (.iload_n 1, 1) := by decide +kernel
theorem d_M_line_81 : decode b_M_line 81 = .ok (.iaload, 1) := by decide +kernel
theorem d_M_line_82 : decode b_M_line 82 = .ok (.iload 6, 2) := by decide +kernel
theorem d_M_line_84 : decode b_M_line 84 = .ok (.aload_n 0, 1) := by decide +kernel
theorem d_M_line_85 : decode b_M_line 85 = .ok (.getfield 42, 3) := by decide +kernel
theorem d_M_line_88 : decode b_M_line 88 = .ok (.iload_n 1, 1) := by decide +kernel
theorem d_M_line_89 : decode b_M_line 89 = .ok (.iaload, 1) := by decide +kernel
theorem d_M_line_90 : decode b_M_line 90 = .ok (.iload 6, 2) := by decide +kernel
theorem d_M_line_92 : decode b_M_line 92 = .ok (.iload_n 1, 1) := by decide +kernel
theorem d_M_line_93 : decode b_M_line 93 = .ok (.invokevirtual 123, 3) := by decide +kernel
theorem d_M_line_96 : decode b_M_line 96 = .ok (.ifCond .ne 9, 3) := by decide +kernel
theorem d_M_line_99 : decode b_M_line 99 = .ok (.iinc 6 1, 3) := by decide +kernel
theorem d_M_line_102 : decode b_M_line 102 = .ok (.goto (-27), 3) := by decide +kernel
theorem d_M_line_105 : decode b_M_line 105 = .ok (.iload 6, 2) := by decide +kernel
theorem d_M_line_107 : decode b_M_line 107 = .ok (.istore 7, 2) := by decide +kernel
theorem d_M_line_109 : decode b_M_line 109 = .ok (.iload 7, 2) := by decide +kernel
theorem d_M_line_111 : decode b_M_line 111 = .ok (.aload_n 0, 1) := by decide +kernel
theorem d_M_line_112 : decode b_M_line 112 = .ok (.getfield 45, 3) := by decide +kernel
theorem d_M_line_115 : decode b_M_line 115 = .ok (.iload_n 1, 1) := by decide +kernel
theorem d_M_line_116 : decode b_M_line 116 = .ok (.iaload, 1) := by decide +kernel
theorem d_M_line_117 : decode b_M_line 117 = .ok (.if_icmp .gt 33, 3) := by decide +kernel
theorem d_M_line_120 : decode b_M_line 120 = .ok (.aload_n 0, 1) := by decide +kernel
theorem d_M_line_121 : decode b_M_line 121 = .ok (.aload_n 0, 1) := by decide +kernel
theorem d_M_line_122 : decode b_M_line 122 = .ok (.getfield 36, 3) := by decide +kernel
theorem d_M_line_125 : decode b_M_line 125 = .ok (.iload_n 1, 1) := by decide +kernel
theorem d_M_line_126 : decode b_M_line 126 = .ok (.iaload, 1) := by decide +kernel
theorem d_M_line_127 : decode b_M_line 127 = .ok (.iload 7, 2) := by decide +kernel
theorem d_M_line_129 : decode b_M_line 129 = .ok (.aload_n 0, 1) := by decide +kernel
theorem d_M_line_130 : decode b_M_line 130 = .ok (.getfield 42, 3) := by decide +kernel
theorem d_M_line_133 : decode b_M_line 133 = .ok (.iload_n 1, 1) := by decide +kernel
theorem d_M_line_134 : decode b_M_line 134 = .ok (.iaload, 1) := by decide +kernel
theorem d_M_line_135 : decode b_M_line 135 = .ok (.iload 7, 2) := by decide +kernel
theorem d_M_line_137 : decode b_M_line 137 = .ok (.iload_n 1, 1) := by decide +kernel
theorem d_M_line_138 : decode b_M_line 138 = .ok (.invokevirtual 123, 3) := by decide +kernel
theorem d_M_line_141 : decode b_M_line 141 = .ok (.ifCond .le 9, 3) := by decide +kernel
theorem d_M_line_144 : decode b_M_line 144 = .ok (.iinc 7 1, 3) := by decide +kernel
theorem d_M_line_147 : decode b_M_line 147 = .ok (.goto (-38), 3) := by decide +kernel
theorem d_M_line_150 : decode b_M_line 150 = .ok (.iload 5, 2) := by decide +kernel
theorem d_M_line_152 : decode b_M_line 152 = .ok (.ifCond .ne 18, 3) := by decide +kernel
theorem d_M_line_155 : decode b_M_line 155 = .ok (.iload_n 3, 1) := by decide +kernel
theorem d_M_line_156 : decode b_M_line 156 = .ok (.ifCond .ne 8, 3) := by decide +kernel
theorem d_M_line_159 : decode b_M_line 159 = .ok (.iload 6, 2) := by decide +kernel
theorem d_M_line_161 : decode b_M_line 161 = .ok (.goto 8, 3) := by decide +kernel
theorem d_M_line_164 : decode b_M_line 164 = .ok (.iload 7, 2) := by decide +kernel
theorem d_M_line_166 : decode b_M_line 166 = .ok (.iload 6, 2) := by decide +kernel
theorem d_M_line_168 : decode b_M_line 168 = .ok (.isub, 1) := by decide +kernel
theorem d_M_line_169 : decode b_M_line 169 = .ok (.ireturn, 1) := by decide +kernel
theorem d_M_line_170 : decode b_M_line 170 = .ok (.iinc 5 (-1), 3) := by decide +kernel
theorem d_M_line_173 : decode b_M_line 173 = .ok (.iload 7, 2) := by decide +kernel
theorem d_M_line_175 : decode b_M_line 175 = .ok (.istore 6, 2) := by decide +kernel
theorem d_M_line_177 : decode b_M_line 177 = .ok (.goto (-102), 3) := by decide +kernel
