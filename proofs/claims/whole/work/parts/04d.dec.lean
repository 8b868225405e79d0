theorem d_P_beginsLine_0 : decode b_P_beginsLine 0 = .ok (.aload_n 0, 1) := by decide +kernel
theorem d_P_beginsLine_1 : decode b_P_beginsLine 1 = .ok (.iload_n 1, 1) := by decide +kernel
theorem d_P_beginsLine_2 : decode b_P_beginsLine 2 = .ok (.iload_n 2, 1) := by decide +kernel
theorem d_P_beginsLine_3 : decode b_P_beginsLine 3 = .ok (.invokevirtual 234, 3) := by decide +kernel
theorem d_P_beginsLine_6 : decode b_P_beginsLine 6 = .ok (.ifCond .eq 18, 3) := by decide +kernel
theorem d_P_beginsLine_9 : decode b_P_beginsLine 9 = .ok (.aload_n 0, 1) := by decide +kernel
theorem d_P_beginsLine_10 : decode b_P_beginsLine 10 = .ok (.iload_n 1, 1) := by decide +kernel
theorem d_P_beginsLine_11 : decode b_P_beginsLine 11 = .ok (.iload_n 2, 1) := by decide +kernel
theorem d_P_beginsLine_12 : decode b_P_beginsLine 12 = .ok (.iconst 1, 1) := by decide +kernel
theorem d_P_beginsLine_13 : decode b_P_beginsLine 13 = .ok (.isub, 1) := by decide +kernel
theorem d_P_beginsLine_14 : decode b_P_beginsLine 14 = .ok (.invokevirtual 234, 3) := by decide +kernel
theorem d_P_beginsLine_17 : decode b_P_beginsLine 17 = .ok (.ifCond .ne 7, 3) := by decide +kernel
theorem d_P_beginsLine_20 : decode b_P_beginsLine 20 = .ok (.iconst 1, 1) := by decide +kernel
theorem d_P_beginsLine_21 : decode b_P_beginsLine 21 = .ok (.goto 4, 3) := by decide +kernel
theorem d_P_beginsLine_24 : decode b_P_beginsLine 24 = .ok (.iconst 0, 1) := by decide +kernel
theorem d_P_beginsLine_25 : decode b_P_beginsLine 25 = .ok (.ireturn, 1) := by decide +kernel
theorem d_P_hasCleanOf_0 : decode b_P_hasCleanOf 0 = .ok (.iload_n 2, 1) := by decide +kernel
theorem d_P_hasCleanOf_1 : decode b_P_hasCleanOf 1 = .ok (.ifCond .lt 11, 3) := by decide +kernel
theorem d_P_hasCleanOf_4 : decode b_P_hasCleanOf 4 = .ok (.iload_n 2, 1) := by decide +kernel
theorem d_P_hasCleanOf_5 : decode b_P_hasCleanOf 5 = .ok (.aload_n 0, 1) := by decide +kernel
theorem d_P_hasCleanOf_6 : decode b_P_hasCleanOf 6 = .ok (.getfield 31, 3) := by decide +kernel
theorem d_P_hasCleanOf_9 : decode b_P_hasCleanOf 9 = .ok (.if_icmp .lt 5, 3) := by decide +kernel
theorem d_P_hasCleanOf_12 : decode b_P_hasCleanOf 12 = .ok (.iconst 0, 1) := by decide +kernel
theorem d_P_hasCleanOf_13 : decode b_P_hasCleanOf 13 = .ok (.ireturn, 1) := by decide +kernel
theorem d_P_hasCleanOf_14 : decode b_P_hasCleanOf 14 = .ok (.aload_n 0, 1) := by decide +kernel
theorem d_P_hasCleanOf_15 : decode b_P_hasCleanOf 15 = .ok (.getfield 39, 3) := by decide +kernel
theorem d_P_hasCleanOf_18 : decode b_P_hasCleanOf 18 = .ok (.getfield 219, 3) := by decide +kernel
theorem d_P_hasCleanOf_21 : decode b_P_hasCleanOf 21 = .ok (.iload_n 1, 1) := by decide +kernel
theorem d_P_hasCleanOf_22 : decode b_P_hasCleanOf 22 = .ok (.iaload, 1) := by decide +kernel
theorem d_P_hasCleanOf_23 : decode b_P_hasCleanOf 23 = .ok (.istore_n 3, 1) := by decide +kernel
theorem d_P_hasCleanOf_24 : decode b_P_hasCleanOf 24 = .ok (.iload_n 3, 1) := by decide +kernel
theorem d_P_hasCleanOf_25 : decode b_P_hasCleanOf 25 = .ok (.aload_n 0, 1) := by decide +kernel
theorem d_P_hasCleanOf_26 : decode b_P_hasCleanOf 26 = .ok (.getfield 39, 3) := by decide +kernel
theorem d_P_hasCleanOf_29 : decode b_P_hasCleanOf 29 = .ok (.getfield 228, 3) := by decide +kernel
theorem d_P_hasCleanOf_32 : decode b_P_hasCleanOf 32 = .ok (.iload_n 1, 1) := by decide +kernel
theorem d_P_hasCleanOf_33 : decode b_P_hasCleanOf 33 = .ok (.iaload, 1) := by decide +kernel
theorem d_P_hasCleanOf_34 : decode b_P_hasCleanOf 34 = .ok (.if_icmp .gt 43, 3) := by decide +kernel
theorem d_P_hasCleanOf_37 : decode b_P_hasCleanOf 37 = .ok (.iload_n 2, 1) := by decide +kernel
theorem d_P_hasCleanOf_38 : decode b_P_hasCleanOf 38 = .ok (.bipush 24, 2) := by decide +kernel
theorem d_P_hasCleanOf_40 : decode b_P_hasCleanOf 40 = .ok (.imul, 1) := by decide +kernel
theorem d_P_hasCleanOf_41 : decode b_P_hasCleanOf 41 = .ok (.iload_n 3, 1) := by decide +kernel
theorem d_P_hasCleanOf_42 : decode b_P_hasCleanOf 42 = .ok (.iadd, 1) := by decide +kernel
theorem d_P_hasCleanOf_43 : decode b_P_hasCleanOf 43 = .ok (.istore 4, 2) := by decide +kernel
theorem d_P_hasCleanOf_45 : decode b_P_hasCleanOf 45 = .ok (.aload_n 0, 1) := by decide +kernel
theorem d_P_hasCleanOf_46 : decode b_P_hasCleanOf 46 = .ok (.getfield 13, 3) := by decide +kernel
theorem d_P_hasCleanOf_49 : decode b_P_hasCleanOf 49 = .ok (.iload 4, 2) := by decide +kernel
theorem d_P_hasCleanOf_51 : decode b_P_hasCleanOf 51 = .ok (.baload, 1) := by decide +kernel
theorem d_P_hasCleanOf_52 : decode b_P_hasCleanOf 52 = .ok (.ifCond .eq 19, 3) := by decide +kernel
theorem d_P_hasCleanOf_55 : decode b_P_hasCleanOf 55 = .ok (.aload_n 0, 1) := by decide +kernel
theorem d_P_hasCleanOf_56 : decode b_P_hasCleanOf 56 = .ok (.getfield 39, 3) := by decide +kernel
theorem d_P_hasCleanOf_59 : decode b_P_hasCleanOf 59 = .ok (.getfield 141, 3) := by decide +kernel
theorem d_P_hasCleanOf_62 : decode b_P_hasCleanOf 62 = .ok (.iload 4, 2) := by decide +kernel
theorem d_P_hasCleanOf_64 : decode b_P_hasCleanOf 64 = .ok (.iaload, 1) := by decide +kernel
theorem d_P_hasCleanOf_65 : decode b_P_hasCleanOf 65 = .ok (.iload_n 1, 1) := by decide +kernel
theorem d_P_hasCleanOf_66 : decode b_P_hasCleanOf 66 = .ok (.if_icmp .ne 5, 3) := by decide +kernel
theorem d_P_hasCleanOf_69 : decode b_P_hasCleanOf 69 = .ok (.iconst 1, 1) := by decide +kernel
theorem d_P_hasCleanOf_70 : decode b_P_hasCleanOf 70 = .ok (.ireturn, 1) := by decide +kernel
theorem d_P_hasCleanOf_71 : decode b_P_hasCleanOf 71 = .ok (.iinc 3 1, 3) := by decide +kernel
theorem d_P_hasCleanOf_74 : decode b_P_hasCleanOf 74 = .ok (.goto (-50), 3) := by decide +kernel
theorem d_P_hasCleanOf_77 : decode b_P_hasCleanOf 77 = .ok (.iconst 0, 1) := by decide +kernel
theorem d_P_hasCleanOf_78 : decode b_P_hasCleanOf 78 = .ok (.ireturn, 1) := by decide +kernel
theorem d_M_init_0 : decode b_M_init 0 = .ok (.aload_n 0, 1) := by decide +kernel
theorem d_M_init_1 : decode b_M_init 1 = .ok (.invokespecial 1, 3) := by decide +kernel
theorem d_M_init_4 : decode b_M_init 4 = .ok (.aload_n 0, 1) := by decide +kernel
theorem d_M_init_5 : decode b_M_init 5 = .ok (.sipush 576, 3) := by decide +kernel
theorem d_M_init_8 : decode b_M_init 8 = .ok (.newarray .boolean, 2) := by decide +kernel
theorem d_M_init_10 : decode b_M_init 10 = .ok (.putfield 7, 3) := by decide +kernel
theorem d_M_init_13 : decode b_M_init 13 = .ok (.aload_n 0, 1) := by decide +kernel
theorem d_M_init_14 : decode b_M_init 14 = .ok (.iconst 3, 1) := by decide +kernel
theorem d_M_init_15 : decode b_M_init 15 = .ok (.putfield 13, 3) := by decide +kernel
theorem d_M_init_18 : decode b_M_init 18 = .ok (.aload_n 0, 1) := by decide +kernel
theorem d_M_init_19 : decode b_M_init 19 = .ok (.sipush 576, 3) := by decide +kernel
theorem d_M_init_22 : decode b_M_init 22 = .ok (.newarray .boolean, 2) := by decide +kernel
theorem d_M_init_24 : decode b_M_init 24 = .ok (.putfield 17, 3) := by decide +kernel
theorem d_M_init_27 : decode b_M_init 27 = .ok (.aload_n 0, 1) := by decide +kernel
theorem d_M_init_28 : decode b_M_init 28 = .ok (.sipush 576, 3) := by decide +kernel
theorem d_M_init_31 : decode b_M_init 31 = .ok (.newarray .boolean, 2) := by decide +kernel
theorem d_M_init_33 : decode b_M_init 33 = .ok (.putfield 20, 3) := by decide +kernel
theorem d_M_init_36 : decode b_M_init 36 = .ok (.aload_n 0, 1) := by decide +kernel
theorem d_M_init_37 : decode b_M_init 37 = .ok (.sipush 576, 3) := by decide +kernel
theorem d_M_init_40 : decode b_M_init 40 = .ok (.newarray .boolean, 2) := by decide +kernel
theorem d_M_init_42 : decode b_M_init 42 = .ok (.putfield 23, 3) := by decide +kernel
theorem d_M_init_45 : decode b_M_init 45 = .ok (.aload_n 0, 1) := by decide +kernel
theorem d_M_init_46 : decode b_M_init 46 = .ok (.sipush 576, 3) := by decide +kernel
theorem d_M_init_49 : decode b_M_init 49 = .ok (.newarray .boolean, 2) := by decide +kernel
theorem d_M_init_51 : decode b_M_init 51 = .ok (.putfield 26, 3) := by decide +kernel
theorem d_M_init_54 : decode b_M_init 54 = .ok (.aload_n 0, 1) := by decide +kernel
theorem d_M_init_55 : decode b_M_init 55 = .ok (.sipush 576, 3) := by decide +kernel
theorem d_M_init_58 : decode b_M_init 58 = .ok (.newarray .int, 2) := by decide +kernel
theorem d_M_init_60 : decode b_M_init 60 = .ok (.putfield 29, 3) := by decide +kernel
theorem d_M_init_63 : decode b_M_init 63 = .ok (.aload_n 0, 1) := by decide +kernel
theorem d_M_init_64 : decode b_M_init 64 = .ok (.sipush 576, 3) := by decide +kernel
theorem d_M_init_67 : decode b_M_init 67 = .ok (.newarray .int, 2) := by decide +kernel
theorem d_M_init_69 : decode b_M_init 69 = .ok (.putfield 33, 3) := by decide +kernel
theorem d_M_init_72 : decode b_M_init 72 = .ok (.aload_n 0, 1) := by decide +kernel
theorem d_M_init_73 : decode b_M_init 73 = .ok (.sipush 300, 3) := by decide +kernel
theorem d_M_init_76 : decode b_M_init 76 = .ok (.newarray .int, 2) := by decide +kernel
theorem d_M_init_78 : decode b_M_init 78 = .ok (.putfield 36, 3) := by decide +kernel
theorem d_M_init_81 : decode b_M_init 81 = .ok (.aload_n 0, 1) := by decide +kernel
theorem d_M_init_82 : decode b_M_init 82 = .ok (.sipush 300, 3) := by decide +kernel
theorem d_M_init_85 : decode b_M_init 85 = .ok (.newarray .int, 2) := by decide +kernel
theorem d_M_init_87 : decode b_M_init 87 = .ok (.putfield 39, 3) := by decide +kernel
theorem d_M_init_90 : decode b_M_init 90 = .ok (.aload_n 0, 1) := by decide +kernel
theorem d_M_init_91 : decode b_M_init 91 = .ok (.sipush 300, 3) := by decide +kernel
theorem d_M_init_94 : decode b_M_init 94 = .ok (.newarray .int, 2) := by decide +kernel
theorem d_M_init_96 : decode b_M_init 96 = .ok (.putfield 42, 3) := by decide +kernel
theorem d_M_init_99 : decode b_M_init 99 = .ok (.aload_n 0, 1) := by decide +kernel
theorem d_M_init_100 : decode b_M_init 100 = .ok (.sipush 300, 3) := by decide +kernel
theorem d_M_init_103 : decode b_M_init 103 = .ok (.newarray .int, 2) := by decide +kernel
theorem d_M_init_105 : decode b_M_init 105 = .ok (.putfield 45, 3) := by decide +kernel
theorem d_M_init_108 : decode b_M_init 108 = .ok (.aload_n 0, 1) := by decide +kernel
theorem d_M_init_109 : decode b_M_init 109 = .ok (.sipush 300, 3) := by decide +kernel
theorem d_M_init_112 : decode b_M_init 112 = .ok (.newarray .int, 2) := by decide +kernel
theorem d_M_init_114 : decode b_M_init 114 = .ok (.putfield 48, 3) := by decide +kernel
theorem d_M_init_117 : decode b_M_init 117 = .ok (.aload_n 0, 1) := by decide +kernel
theorem d_M_init_118 : decode b_M_init 118 = .ok (.sipush 300, 3) := by decide +kernel
theorem d_M_init_121 : decode b_M_init 121 = .ok (.newarray .int, 2) := by decide +kernel
theorem d_M_init_123 : decode b_M_init 123 = .ok (.putfield 51, 3) := by decide +kernel
theorem d_M_init_126 : decode b_M_init 126 = .ok (.aload_n 0, 1) := by decide +kernel
theorem d_M_init_127 : decode b_M_init 127 = .ok (.bipush 24, 2) := by decide +kernel
theorem d_M_init_129 : decode b_M_init 129 = .ok (.newarray .int, 2) := by decide +kernel
theorem d_M_init_131 : decode b_M_init 131 = .ok (.putfield 54, 3) := by decide +kernel
theorem d_M_init_134 : decode b_M_init 134 = .ok (.aload_n 0, 1) := by decide +kernel
theorem d_M_init_135 : decode b_M_init 135 = .ok (.bipush 24, 2) := by decide +kernel
theorem d_M_init_137 : decode b_M_init 137 = .ok (.newarray .int, 2) := by decide +kernel
theorem d_M_init_139 : decode b_M_init 139 = .ok (.putfield 57, 3) := by decide +kernel
theorem d_M_init_142 : decode b_M_init 142 = .ok (.aload_n 0, 1) := by decide +kernel
theorem d_M_init_143 : decode b_M_init 143 = .ok (.sipush 576, 3) := by decide +kernel
theorem d_M_init_146 : decode b_M_init 146 = .ok (.newarray .int, 2) := by decide +kernel
theorem d_M_init_148 : decode b_M_init 148 = .ok (.putfield 60, 3) := by decide +kernel
theorem d_M_init_151 : decode b_M_init 151 = .ok (.aload_n 0, 1) := by decide +kernel
theorem d_M_init_152 : decode b_M_init 152 = .ok (.sipush 300, 3) := by decide +kernel
theorem d_M_init_155 : decode b_M_init 155 = .ok (.newarray .int, 2) := by decide +kernel
theorem d_M_init_157 : decode b_M_init 157 = .ok (.putfield 63, 3) := by decide +kernel
theorem d_M_init_160 : decode b_M_init 160 = .ok (.aload_n 0, 1) := by decide +kernel
theorem d_M_init_161 : decode b_M_init 161 = .ok (.sipush 300, 3) := by decide +kernel
theorem d_M_init_164 : decode b_M_init 164 = .ok (.newarray .int, 2) := by decide +kernel
theorem d_M_init_166 : decode b_M_init 166 = .ok (.putfield 66, 3) := by decide +kernel
theorem d_M_init_169 : decode b_M_init 169 = .ok (.aload_n 0, 1) := by decide +kernel
theorem d_M_init_170 : decode b_M_init 170 = .ok (.iload_n 1, 1) := by decide +kernel
theorem d_M_init_171 : decode b_M_init 171 = .ok (.invokestatic 69, 3) := by decide +kernel
theorem d_M_init_174 : decode b_M_init 174 = .ok (.putfield 73, 3) := by decide +kernel
theorem d_M_init_177 : decode b_M_init 177 = .ok (.aload_n 0, 1) := by decide +kernel
theorem d_M_init_178 : decode b_M_init 178 = .ok (.iload_n 2, 1) := by decide +kernel
theorem d_M_init_179 : decode b_M_init 179 = .ok (.invokestatic 69, 3) := by decide +kernel
theorem d_M_init_182 : decode b_M_init 182 = .ok (.putfield 76, 3) := by decide +kernel
theorem d_M_init_185 : decode b_M_init 185 = .ok (.return_, 1) := by decide +kernel
theorem d_M_nearest_0 : decode b_M_nearest 0 = .ok (.iload_n 0, 1) := by decide +kernel
theorem d_M_nearest_1 : decode b_M_nearest 1 = .ok (.iconst 1, 1) := by decide +kernel
theorem d_M_nearest_2 : decode b_M_nearest 2 = .ok (.if_icmp .ge 7, 3) := by decide +kernel
theorem d_M_nearest_5 : decode b_M_nearest 5 = .ok (.iconst 1, 1) := by decide +kernel
theorem d_M_nearest_6 : decode b_M_nearest 6 = .ok (.goto 15, 3) := by decide +kernel
theorem d_M_nearest_9 : decode b_M_nearest 9 = .ok (.iload_n 0, 1) := by decide +kernel
theorem d_M_nearest_10 : decode b_M_nearest 10 = .ok (.bipush 24, 2) := by decide +kernel
theorem d_M_nearest_12 : decode b_M_nearest 12 = .ok (.if_icmp .le 8, 3) := by decide +kernel
theorem d_M_nearest_15 : decode b_M_nearest 15 = .ok (.bipush 24, 2) := by decide +kernel
theorem d_M_nearest_17 : decode b_M_nearest 17 = .ok (.goto 4, 3) := by decide +kernel
theorem d_M_nearest_20 : decode b_M_nearest 20 = .ok (.iload_n 0, 1) := by decide +kernel
theorem d_M_nearest_21 : decode b_M_nearest 21 = .ok (.ireturn, 1) := by decide +kernel
theorem d_M_thrown_0 : decode b_M_thrown 0 = .ok (.aload_n 0, 1) := by decide +kernel
theorem d_M_thrown_1 : decode b_M_thrown 1 = .ok (.getfield 79, 3) := by decide +kernel
theorem d_M_thrown_4 : decode b_M_thrown 4 = .ok (.ireturn, 1) := by decide +kernel
theorem d_M_in_0 : decode b_M_in 0 = .ok (.iload_n 0, 1) := by decide +kernel
theorem d_M_in_1 : decode b_M_in 1 = .ok (.iload_n 1, 1) := by decide +kernel
theorem d_M_in_2 : decode b_M_in 2 = .ok (.if_icmp .lt 12, 3) := by decide +kernel
theorem d_M_in_5 : decode b_M_in 5 = .ok (.iload_n 0, 1) := by decide +kernel
theorem d_M_in_6 : decode b_M_in 6 = .ok (.iload_n 2, 1) := by decide +kernel
theorem d_M_in_7 : decode b_M_in 7 = .ok (.if_icmp .gt 7, 3) := by decide +kernel
theorem d_M_in_10 : decode b_M_in 10 = .ok (.iconst 1, 1) := by decide +kernel
theorem d_M_in_11 : decode b_M_in 11 = .ok (.goto 4, 3) := by decide +kernel
theorem d_M_in_14 : decode b_M_in 14 = .ok (.iconst 0, 1) := by decide +kernel
theorem d_M_in_15 : decode b_M_in 15 = .ok (.ireturn, 1) := by decide +kernel
theorem d_M_isSample_0 : decode b_M_isSample 0 = .ok (.iload_n 1, 1) := by decide +kernel
theorem d_M_isSample_1 : decode b_M_isSample 1 = .ok (.iconst 0, 1) := by decide +kernel
theorem d_M_isSample_2 : decode b_M_isSample 2 = .ok (.aload_n 0, 1) := by decide +kernel
theorem d_M_isSample_3 : decode b_M_isSample 3 = .ok (.getfield 73, 3) := by decide +kernel
theorem d_M_isSample_6 : decode b_M_isSample 6 = .ok (.iconst 1, 1) := by decide +kernel
theorem d_M_isSample_7 : decode b_M_isSample 7 = .ok (.isub, 1) := by decide +kernel
theorem d_M_isSample_8 : decode b_M_isSample 8 = .ok (.invokestatic 82, 3) := by decide +kernel
theorem d_M_isSample_11 : decode b_M_isSample 11 = .ok (.ifCond .eq 21, 3) := by decide +kernel
theorem d_M_isSample_14 : decode b_M_isSample 14 = .ok (.iload_n 2, 1) := by decide +kernel
theorem d_M_isSample_15 : decode b_M_isSample 15 = .ok (.iconst 0, 1) := by decide +kernel
theorem d_M_isSample_16 : decode b_M_isSample 16 = .ok (.aload_n 0, 1) := by decide +kernel
theorem d_M_isSample_17 : decode b_M_isSample 17 = .ok (.getfield 76, 3) := by decide +kernel
theorem d_M_isSample_20 : decode b_M_isSample 20 = .ok (.iconst 1, 1) := by decide +kernel
theorem d_M_isSample_21 : decode b_M_isSample 21 = .ok (.isub, 1) := by decide +kernel
theorem d_M_isSample_22 : decode b_M_isSample 22 = .ok (.invokestatic 82, 3) := by decide +kernel
theorem d_M_isSample_25 : decode b_M_isSample 25 = .ok (.ifCond .eq 7, 3) := by decide +kernel
theorem d_M_isSample_28 : decode b_M_isSample 28 = .ok (.iconst 1, 1) := by decide +kernel
theorem d_M_isSample_29 : decode b_M_isSample 29 = .ok (.goto 4, 3) := by decide +kernel
theorem d_M_isSample_32 : decode b_M_isSample 32 = .ok (.iconst 0, 1) := by decide +kernel
theorem d_M_isSample_33 : decode b_M_isSample 33 = .ok (.ireturn, 1) := by decide +kernel
theorem d_M_goes_0 : decode b_M_goes 0 = .ok (.aload_n 0, 1) := by decide +kernel
theorem d_M_goes_1 : decode b_M_goes 1 = .ok (.iload_n 1, 1) := by decide +kernel
theorem d_M_goes_2 : decode b_M_goes 2 = .ok (.ifCond .ne 7, 3) := by decide +kernel
theorem d_M_goes_5 : decode b_M_goes 5 = .ok (.iconst 1, 1) := by decide +kernel
theorem d_M_goes_6 : decode b_M_goes 6 = .ok (.goto 20, 3) := by decide +kernel
theorem d_M_goes_9 : decode b_M_goes 9 = .ok (.iload_n 2, 1) := by decide +kernel
theorem d_M_goes_10 : decode b_M_goes 10 = .ok (.ifCond .ne 7, 3) := by decide +kernel
theorem d_M_goes_13 : decode b_M_goes 13 = .ok (.iconst 2, 1) := by decide +kernel
theorem d_M_goes_14 : decode b_M_goes 14 = .ok (.goto 12, 3) := by decide +kernel
theorem d_M_goes_17 : decode b_M_goes 17 = .ok (.iload_n 3, 1) := by decide +kernel
theorem d_M_goes_18 : decode b_M_goes 18 = .ok (.ifCond .ne 7, 3) := by decide +kernel
theorem d_M_goes_21 : decode b_M_goes 21 = .ok (.iconst 3, 1) := by decide +kernel
theorem d_M_goes_22 : decode b_M_goes 22 = .ok (.goto 4, 3) := by decide +kernel
theorem d_M_goes_25 : decode b_M_goes 25 = .ok (.iconst 0, 1) := by decide +kernel
theorem d_M_goes_26 : decode b_M_goes 26 = .ok (.putfield 79, 3) := by decide +kernel
theorem d_M_goes_29 : decode b_M_goes 29 = .ok (.aload_n 0, 1) := by decide +kernel
theorem d_M_goes_30 : decode b_M_goes 30 = .ok (.getfield 79, 3) := by decide +kernel
theorem d_M_goes_33 : decode b_M_goes 33 = .ok (.ifCond .ne 7, 3) := by decide +kernel
theorem d_M_goes_36 : decode b_M_goes 36 = .ok (.iconst 1, 1) := by decide +kernel
theorem d_M_goes_37 : decode b_M_goes 37 = .ok (.goto 4, 3) := by decide +kernel
theorem d_M_goes_40 : decode b_M_goes 40 = .ok (.iconst 0, 1) := by decide +kernel
theorem d_M_goes_41 : decode b_M_goes 41 = .ok (.ireturn, 1) := by decide +kernel
theorem d_M_put_0 : decode b_M_put 0 = .ok (.aload_n 0, 1) := by decide +kernel
theorem d_M_put_1 : decode b_M_put 1 = .ok (.aload_n 0, 1) := by decide +kernel
theorem d_M_put_2 : decode b_M_put 2 = .ok (.iload_n 1, 1) := by decide +kernel
theorem d_M_put_3 : decode b_M_put 3 = .ok (.iload_n 2, 1) := by decide +kernel
theorem d_M_put_4 : decode b_M_put 4 = .ok (.invokevirtual 86, 3) := by decide +kernel
theorem d_M_put_7 : decode b_M_put 7 = .ok (.iconst 1, 1) := by decide +kernel
theorem d_M_put_8 : decode b_M_put 8 = .ok (.iconst 1, 1) := by decide +kernel
theorem d_M_put_9 : decode b_M_put 9 = .ok (.invokevirtual 90, 3) := by decide +kernel
theorem d_M_put_12 : decode b_M_put 12 = .ok (.ifCond .ne 5, 3) := by decide +kernel
theorem d_M_put_15 : decode b_M_put 15 = .ok (.iconst 0, 1) := by decide +kernel
theorem d_M_put_16 : decode b_M_put 16 = .ok (.ireturn, 1) := by decide +kernel
theorem d_M_put_17 : decode b_M_put 17 = .ok (.bipush 24, 2) := by decide +kernel
theorem d_M_put_19 : decode b_M_put 19 = .ok (.iload_n 2, 1) := by decide +kernel
theorem d_M_put_20 : decode b_M_put 20 = .ok (.imul, 1) := by decide +kernel
theorem d_M_put_21 : decode b_M_put 21 = .ok (.iload_n 1, 1) := by decide +kernel
theorem d_M_put_22 : decode b_M_put 22 = .ok (.iadd, 1) := by decide +kernel
theorem d_M_put_23 : decode b_M_put 23 = .ok (.istore 4, 2) := by decide +kernel
theorem d_M_put_25 : decode b_M_put 25 = .ok (.aload_n 0, 1) := by decide +kernel
theorem d_M_put_26 : decode b_M_put 26 = .ok (.getfield 7, 3) := by decide +kernel
theorem d_M_put_29 : decode b_M_put 29 = .ok (.iload 4, 2) := by decide +kernel
theorem d_M_put_31 : decode b_M_put 31 = .ok (.baload, 1) := by decide +kernel
theorem d_M_put_32 : decode b_M_put 32 = .ok (.iload_n 3, 1) := by decide +kernel
theorem d_M_put_33 : decode b_M_put 33 = .ok (.if_icmp .eq 7, 3) := by decide +kernel
theorem d_M_put_36 : decode b_M_put 36 = .ok (.iconst 1, 1) := by decide +kernel
theorem d_M_put_37 : decode b_M_put 37 = .ok (.goto 4, 3) := by decide +kernel
theorem d_M_put_40 : decode b_M_put 40 = .ok (.iconst 0, 1) := by decide +kernel
theorem d_M_put_41 : decode b_M_put 41 = .ok (.istore 5, 2) := by decide +kernel
theorem d_M_put_43 : decode b_M_put 43 = .ok (.aload_n 0, 1) := by decide +kernel
theorem d_M_put_44 : decode b_M_put 44 = .ok (.getfield 7, 3) := by decide +kernel
theorem d_M_put_47 : decode b_M_put 47 = .ok (.iload 4, 2) := by decide +kernel
theorem d_M_put_49 : decode b_M_put 49 = .ok (.iload_n 3, 1) := by decide +kernel
theorem d_M_put_50 : decode b_M_put 50 = .ok (.bastore, 1) := by decide +kernel
theorem d_M_put_51 : decode b_M_put 51 = .ok (.aload_n 0, 1) := by decide +kernel
theorem d_M_put_52 : decode b_M_put 52 = .ok (.iconst 0, 1) := by decide +kernel
theorem d_M_put_53 : decode b_M_put 53 = .ok (.putfield 94, 3) := by decide +kernel
theorem d_M_put_56 : decode b_M_put 56 = .ok (.iload 5, 2) := by decide +kernel
theorem d_M_put_58 : decode b_M_put 58 = .ok (.ireturn, 1) := by decide +kernel
theorem d_M_fill_0 : decode b_M_fill 0 = .ok (.aload_n 0, 1) := by decide +kernel
theorem d_M_fill_1 : decode b_M_fill 1 = .ok (.aload_n 0, 1) := by decide +kernel
theorem d_M_fill_2 : decode b_M_fill 2 = .ok (.iload_n 1, 1) := by decide +kernel
theorem d_M_fill_3 : decode b_M_fill 3 = .ok (.iload_n 2, 1) := by decide +kernel
theorem d_M_fill_4 : decode b_M_fill 4 = .ok (.invokevirtual 86, 3) := by decide +kernel
theorem d_M_fill_7 : decode b_M_fill 7 = .ok (.iload_n 3, 1) := by decide +kernel
theorem d_M_fill_8 : decode b_M_fill 8 = .ok (.iconst 1, 1) := by decide +kernel
theorem d_M_fill_9 : decode b_M_fill 9 = .ok (.if_icmp .lt 13, 3) := by decide +kernel
theorem d_M_fill_12 : decode b_M_fill 12 = .ok (.iload 4, 2) := by decide +kernel
theorem d_M_fill_14 : decode b_M_fill 14 = .ok (.iconst 1, 1) := by decide +kernel
theorem d_M_fill_15 : decode b_M_fill 15 = .ok (.if_icmp .lt 7, 3) := by decide +kernel
theorem d_M_fill_18 : decode b_M_fill 18 = .ok (.iconst 1, 1) := by decide +kernel
theorem d_M_fill_19 : decode b_M_fill 19 = .ok (.goto 4, 3) := by decide +kernel
theorem d_M_fill_22 : decode b_M_fill 22 = .ok (.iconst 0, 1) := by decide +kernel
theorem d_M_fill_23 : decode b_M_fill 23 = .ok (.iconst 1, 1) := by decide +kernel
theorem d_M_fill_24 : decode b_M_fill 24 = .ok (.invokevirtual 90, 3) := by decide +kernel
theorem d_M_fill_27 : decode b_M_fill 27 = .ok (.ifCond .ne 5, 3) := by decide +kernel
theorem d_M_fill_30 : decode b_M_fill 30 = .ok (.iconst 0, 1) := by decide +kernel
theorem d_M_fill_31 : decode b_M_fill 31 = .ok (.ireturn, 1) := by decide +kernel
theorem d_M_fill_32 : decode b_M_fill 32 = .ok (.iconst 0, 1) := by decide +kernel
theorem d_M_fill_33 : decode b_M_fill 33 = .ok (.istore 6, 2) := by decide +kernel
theorem d_M_fill_35 : decode b_M_fill 35 = .ok (.iload_n 2, 1) := by decide +kernel
theorem d_M_fill_36 : decode b_M_fill 36 = .ok (.istore 7, 2) := by decide +kernel
theorem d_M_fill_38 : decode b_M_fill 38 = .ok (.iload 7, 2) := by decide +kernel
theorem d_M_fill_40 : decode b_M_fill 40 = .ok (.aload_n 0, 1) := by decide +kernel
theorem d_M_fill_41 : decode b_M_fill 41 = .ok (.getfield 76, 3) := by decide +kernel
theorem d_M_fill_44 : decode b_M_fill 44 = .ok (.if_icmp .ge 88, 3) := by decide +kernel
theorem d_M_fill_47 : decode b_M_fill 47 = .ok (.iload 7, 2) := by decide +kernel
theorem d_M_fill_49 : decode b_M_fill 49 = .ok (.iload_n 2, 1) := by decide +kernel
theorem d_M_fill_50 : decode b_M_fill 50 = .ok (.isub, 1) := by decide +kernel
theorem d_M_fill_51 : decode b_M_fill 51 = .ok (.iload 4, 2) := by decide +kernel
theorem d_M_fill_53 : decode b_M_fill 53 = .ok (.if_icmp .ge 79, 3) := by decide +kernel
theorem d_M_fill_56 : decode b_M_fill 56 = .ok (.iload_n 1, 1) := by decide +kernel
theorem d_M_fill_57 : decode b_M_fill 57 = .ok (.istore 8, 2) := by decide +kernel
theorem d_M_fill_59 : decode b_M_fill 59 = .ok (.iload 8, 2) := by decide +kernel
theorem d_M_fill_61 : decode b_M_fill 61 = .ok (.aload_n 0, 1) := by decide +kernel
theorem d_M_fill_62 : decode b_M_fill 62 = .ok (.getfield 73, 3) := by decide +kernel
theorem d_M_fill_65 : decode b_M_fill 65 = .ok (.if_icmp .ge 61, 3) := by decide +kernel
theorem d_M_fill_68 : decode b_M_fill 68 = .ok (.iload 8, 2) := by decide +kernel
theorem d_M_fill_70 : decode b_M_fill 70 = .ok (.iload_n 1, 1) := by decide +kernel
theorem d_M_fill_71 : decode b_M_fill 71 = .ok (.isub, 1) := by decide +kernel
theorem d_M_fill_72 : decode b_M_fill 72 = .ok (.iload_n 3, 1) := by decide +kernel
theorem d_M_fill_73 : decode b_M_fill 73 = .ok (.if_icmp .ge 53, 3) := by decide +kernel
theorem d_M_fill_76 : decode b_M_fill 76 = .ok (.aload_n 0, 1) := by decide +kernel
theorem d_M_fill_77 : decode b_M_fill 77 = .ok (.getfield 7, 3) := by decide +kernel
theorem d_M_fill_80 : decode b_M_fill 80 = .ok (.bipush 24, 2) := by decide +kernel
theorem d_M_fill_82 : decode b_M_fill 82 = .ok (.iload 7, 2) := by decide +kernel
theorem d_M_fill_84 : decode b_M_fill 84 = .ok (.imul, 1) := by decide +kernel
theorem d_M_fill_85 : decode b_M_fill 85 = .ok (.iload 8, 2) := by decide +kernel
theorem d_M_fill_87 : decode b_M_fill 87 = .ok (.iadd, 1) := by decide +kernel
theorem d_M_fill_88 : decode b_M_fill 88 = .ok (.baload, 1) := by decide +kernel
theorem d_M_fill_89 : decode b_M_fill 89 = .ok (.iload 5, 2) := by decide +kernel
theorem d_M_fill_91 : decode b_M_fill 91 = .ok (.if_icmp .eq 10, 3) := by decide +kernel
theorem d_M_fill_94 : decode b_M_fill 94 = .ok (.iload 6, 2) := by decide +kernel
theorem d_M_fill_96 : decode b_M_fill 96 = .ok (.iconst 1, 1) := by decide +kernel
theorem d_M_fill_97 : decode b_M_fill 97 = .ok (.iadd, 1) := by decide +kernel
theorem d_M_fill_98 : decode b_M_fill 98 = .ok (.goto 5, 3) := by decide +kernel
theorem d_M_fill_101 : decode b_M_fill 101 = .ok (.iload 6, 2) := by decide +kernel
theorem d_M_fill_103 : decode b_M_fill 103 = .ok (.istore 6, 2) := by decide +kernel
theorem d_M_fill_105 : decode b_M_fill 105 = .ok (.aload_n 0, 1) := by decide +kernel
theorem d_M_fill_106 : decode b_M_fill 106 = .ok (.getfield 7, 3) := by decide +kernel
theorem d_M_fill_109 : decode b_M_fill 109 = .ok (.bipush 24, 2) := by decide +kernel
theorem d_M_fill_111 : decode b_M_fill 111 = .ok (.iload 7, 2) := by decide +kernel
theorem d_M_fill_113 : decode b_M_fill 113 = .ok (.imul, 1) := by decide +kernel
theorem d_M_fill_114 : decode b_M_fill 114 = .ok (.iload 8, 2) := by decide +kernel
theorem d_M_fill_116 : decode b_M_fill 116 = .ok (.iadd, 1) := by decide +kernel
theorem d_M_fill_117 : decode b_M_fill 117 = .ok (.iload 5, 2) := by decide +kernel
theorem d_M_fill_119 : decode b_M_fill 119 = .ok (.bastore, 1) := by decide +kernel
theorem d_M_fill_120 : decode b_M_fill 120 = .ok (.iinc 8 1, 3) := by decide +kernel
theorem d_M_fill_123 : decode b_M_fill 123 = .ok (.goto (-64), 3) := by decide +kernel
theorem d_M_fill_126 : decode b_M_fill 126 = .ok (.iinc 7 1, 3) := by decide +kernel
theorem d_M_fill_129 : decode b_M_fill 129 = .ok (.goto (-91), 3) := by decide +kernel
theorem d_M_fill_132 : decode b_M_fill 132 = .ok (.aload_n 0, 1) := by decide +kernel
theorem d_M_fill_133 : decode b_M_fill 133 = .ok (.iconst 0, 1) := by decide +kernel
theorem d_M_fill_134 : decode b_M_fill 134 = .ok (.putfield 94, 3) := by decide +kernel
theorem d_M_fill_137 : decode b_M_fill 137 = .ok (.iload 6, 2) := by decide +kernel
theorem d_M_fill_139 : decode b_M_fill 139 = .ok (.ireturn, 1) := by decide +kernel
theorem d_M_noise_0 : decode b_M_noise 0 = .ok (.aload_n 0, 1) := by decide +kernel
theorem d_M_noise_1 : decode b_M_noise 1 = .ok (.iload_n 1, 1) := by decide +kernel
theorem d_M_noise_2 : decode b_M_noise 2 = .ok (.iconst 0, 1) := by decide +kernel
theorem d_M_noise_3 : decode b_M_noise 3 = .ok (.bipush 100, 2) := by decide +kernel
theorem d_M_noise_5 : decode b_M_noise 5 = .ok (.invokestatic 82, 3) := by decide +kernel
theorem d_M_noise_8 : decode b_M_noise 8 = .ok (.iconst 1, 1) := by decide +kernel
theorem d_M_noise_9 : decode b_M_noise 9 = .ok (.iconst 1, 1) := by decide +kernel
theorem d_M_noise_10 : decode b_M_noise 10 = .ok (.invokevirtual 90, 3) := by decide +kernel
theorem d_M_noise_13 : decode b_M_noise 13 = .ok (.ifCond .ne 5, 3) := by decide +kernel
theorem d_M_noise_16 : decode b_M_noise 16 = .ok (.iconst 0, 1) := by decide +kernel
theorem d_M_noise_17 : decode b_M_noise 17 = .ok (.ireturn, 1) := by decide +kernel
theorem d_M_noise_18 : decode b_M_noise 18 = .ok (.aload_n 0, 1) := by decide +kernel
theorem d_M_noise_19 : decode b_M_noise 19 = .ok (.getfield 13, 3) := by decide +kernel
theorem d_M_noise_22 : decode b_M_noise 22 = .ok (.istore_n 2, 1) := by decide +kernel
theorem d_M_noise_23 : decode b_M_noise 23 = .ok (.aload_n 0, 1) := by decide +kernel
theorem d_M_noise_24 : decode b_M_noise 24 = .ok (.iload_n 1, 1) := by decide +kernel
theorem d_M_noise_25 : decode b_M_noise 25 = .ok (.putfield 13, 3) := by decide +kernel
theorem d_M_noise_28 : decode b_M_noise 28 = .ok (.aload_n 0, 1) := by decide +kernel
theorem d_M_noise_29 : decode b_M_noise 29 = .ok (.iconst 0, 1) := by decide +kernel
theorem d_M_noise_30 : decode b_M_noise 30 = .ok (.putfield 94, 3) := by decide +kernel
theorem d_M_noise_33 : decode b_M_noise 33 = .ok (.iload_n 2, 1) := by decide +kernel
theorem d_M_noise_34 : decode b_M_noise 34 = .ok (.ireturn, 1) := by decide +kernel
theorem d_M_clear_0 : decode b_M_clear 0 = .ok (.aload_n 0, 1) := by decide +kernel
theorem d_M_clear_1 : decode b_M_clear 1 = .ok (.iconst 0, 1) := by decide +kernel
theorem d_M_clear_2 : decode b_M_clear 2 = .ok (.putfield 79, 3) := by decide +kernel
theorem d_M_clear_5 : decode b_M_clear 5 = .ok (.iconst 0, 1) := by decide +kernel
theorem d_M_clear_6 : decode b_M_clear 6 = .ok (.istore_n 1, 1) := by decide +kernel
theorem d_M_clear_7 : decode b_M_clear 7 = .ok (.iload_n 1, 1) := by decide +kernel
theorem d_M_clear_8 : decode b_M_clear 8 = .ok (.sipush 576, 3) := by decide +kernel
theorem d_M_clear_11 : decode b_M_clear 11 = .ok (.if_icmp .ge 16, 3) := by decide +kernel
theorem d_M_clear_14 : decode b_M_clear 14 = .ok (.aload_n 0, 1) := by decide +kernel
theorem d_M_clear_15 : decode b_M_clear 15 = .ok (.getfield 7, 3) := by decide +kernel
theorem d_M_clear_18 : decode b_M_clear 18 = .ok (.iload_n 1, 1) := by decide +kernel
theorem d_M_clear_19 : decode b_M_clear 19 = .ok (.iconst 0, 1) := by decide +kernel
theorem d_M_clear_20 : decode b_M_clear 20 = .ok (.bastore, 1) := by decide +kernel
theorem d_M_clear_21 : decode b_M_clear 21 = .ok (.iinc 1 1, 3) := by decide +kernel
theorem d_M_clear_24 : decode b_M_clear 24 = .ok (.goto (-17), 3) := by decide +kernel
theorem d_M_clear_27 : decode b_M_clear 27 = .ok (.aload_n 0, 1) := by decide +kernel
theorem d_M_clear_28 : decode b_M_clear 28 = .ok (.iconst 3, 1) := by decide +kernel
theorem d_M_clear_29 : decode b_M_clear 29 = .ok (.putfield 13, 3) := by decide +kernel
theorem d_M_clear_32 : decode b_M_clear 32 = .ok (.aload_n 0, 1) := by decide +kernel
theorem d_M_clear_33 : decode b_M_clear 33 = .ok (.iconst 0, 1) := by decide +kernel
theorem d_M_clear_34 : decode b_M_clear 34 = .ok (.putfield 94, 3) := by decide +kernel
theorem d_M_clear_37 : decode b_M_clear 37 = .ok (.return_, 1) := by decide +kernel
theorem d_M_is_0 : decode b_M_is 0 = .ok (.iload_n 1, 1) := by decide +kernel
theorem d_M_is_1 : decode b_M_is 1 = .ok (.ifCond .ne 12, 3) := by decide +kernel
theorem d_M_is_4 : decode b_M_is 4 = .ok (.aload_n 0, 1) := by decide +kernel
theorem d_M_is_5 : decode b_M_is 5 = .ok (.getfield 7, 3) := by decide +kernel
theorem d_M_is_8 : decode b_M_is 8 = .ok (.iload_n 2, 1) := by decide +kernel
theorem d_M_is_9 : decode b_M_is 9 = .ok (.baload, 1) := by decide +kernel
theorem d_M_is_10 : decode b_M_is 10 = .ok (.goto 31, 3) := by decide +kernel
theorem d_M_is_13 : decode b_M_is 13 = .ok (.iload_n 1, 1) := by decide +kernel
theorem d_M_is_14 : decode b_M_is 14 = .ok (.iconst 1, 1) := by decide +kernel
theorem d_M_is_15 : decode b_M_is 15 = .ok (.if_icmp .ne 12, 3) := by decide +kernel
theorem d_M_is_18 : decode b_M_is 18 = .ok (.aload_n 0, 1) := by decide +kernel
theorem d_M_is_19 : decode b_M_is 19 = .ok (.getfield 23, 3) := by decide +kernel
theorem d_M_is_22 : decode b_M_is 22 = .ok (.iload_n 2, 1) := by decide +kernel
theorem d_M_is_23 : decode b_M_is 23 = .ok (.baload, 1) := by decide +kernel
theorem d_M_is_24 : decode b_M_is 24 = .ok (.goto 17, 3) := by decide +kernel
theorem d_M_is_27 : decode b_M_is 27 = .ok (.aload_n 0, 1) := by decide +kernel
theorem d_M_is_28 : decode b_M_is 28 = .ok (.getfield 20, 3) := by decide +kernel
theorem d_M_is_31 : decode b_M_is 31 = .ok (.iload_n 2, 1) := by decide +kernel
theorem d_M_is_32 : decode b_M_is 32 = .ok (.baload, 1) := by decide +kernel
theorem d_M_is_33 : decode b_M_is 33 = .ok (.ifCond .ne 7, 3) := by decide +kernel
theorem d_M_is_36 : decode b_M_is 36 = .ok (.iconst 1, 1) := by decide +kernel
theorem d_M_is_37 : decode b_M_is 37 = .ok (.goto 4, 3) := by decide +kernel
theorem d_M_is_40 : decode b_M_is 40 = .ok (.iconst 0, 1) := by decide +kernel
theorem d_M_is_41 : decode b_M_is 41 = .ok (.ireturn, 1) := by decide +kernel
theorem d_M_group_0 : decode b_M_group 0 = .ok (.iconst 0, 1) := by decide +kernel
theorem d_M_group_1 : decode b_M_group 1 = .ok (.istore_n 3, 1) := by decide +kernel
theorem d_M_group_2 : decode b_M_group 2 = .ok (.iload_n 3, 1) := by decide +kernel
theorem d_M_group_3 : decode b_M_group 3 = .ok (.aload_n 0, 1) := by decide +kernel
theorem d_M_group_4 : decode b_M_group 4 = .ok (.getfield 76, 3) := by decide +kernel
theorem d_M_group_7 : decode b_M_group 7 = .ok (.if_icmp .ge 65, 3) := by decide +kernel
theorem d_M_group_10 : decode b_M_group 10 = .ok (.iconst 0, 1) := by decide +kernel
theorem d_M_group_11 : decode b_M_group 11 = .ok (.istore 4, 2) := by decide +kernel
theorem d_M_group_13 : decode b_M_group 13 = .ok (.iload 4, 2) := by decide +kernel
theorem d_M_group_15 : decode b_M_group 15 = .ok (.aload_n 0, 1) := by decide +kernel
theorem d_M_group_16 : decode b_M_group 16 = .ok (.getfield 73, 3) := by decide +kernel
theorem d_M_group_19 : decode b_M_group 19 = .ok (.if_icmp .ge 47, 3) := by decide +kernel
theorem d_M_group_22 : decode b_M_group 22 = .ok (.aload_n 0, 1) := by decide +kernel
theorem d_M_group_23 : decode b_M_group 23 = .ok (.getfield 29, 3) := by decide +kernel
theorem d_M_group_26 : decode b_M_group 26 = .ok (.bipush 24, 2) := by decide +kernel
theorem d_M_group_28 : decode b_M_group 28 = .ok (.iload_n 3, 1) := by decide +kernel
theorem d_M_group_29 : decode b_M_group 29 = .ok (.imul, 1) := by decide +kernel
theorem d_M_group_30 : decode b_M_group 30 = .ok (.iload 4, 2) := by decide +kernel
theorem d_M_group_32 : decode b_M_group 32 = .ok (.iadd, 1) := by decide +kernel
theorem d_M_group_33 : decode b_M_group 33 = .ok (.aload_n 0, 1) := by decide +kernel
theorem d_M_group_34 : decode b_M_group 34 = .ok (.iload_n 1, 1) := by decide +kernel
theorem d_M_group_35 : decode b_M_group 35 = .ok (.bipush 24, 2) := by decide +kernel
theorem d_M_group_37 : decode b_M_group 37 = .ok (.iload_n 3, 1) := by decide +kernel
theorem d_M_group_38 : decode b_M_group 38 = .ok (.imul, 1) := by decide +kernel
theorem d_M_group_39 : decode b_M_group 39 = .ok (.iload 4, 2) := by decide +kernel
theorem d_M_group_41 : decode b_M_group 41 = .ok (.iadd, 1) := by decide +kernel
theorem d_M_group_42 : decode b_M_group 42 = .ok (.invokevirtual 98, 3) := by decide +kernel
theorem d_M_group_45 : decode b_M_group 45 = .ok (.ifCond .eq 13, 3) := by decide +kernel
theorem d_M_group_48 : decode b_M_group 48 = .ok (.bipush 24, 2) := by decide +kernel
theorem d_M_group_50 : decode b_M_group 50 = .ok (.iload_n 3, 1) := by decide +kernel
theorem d_M_group_51 : decode b_M_group 51 = .ok (.imul, 1) := by decide +kernel
theorem d_M_group_52 : decode b_M_group 52 = .ok (.iload 4, 2) := by decide +kernel
theorem d_M_group_54 : decode b_M_group 54 = .ok (.iadd, 1) := by decide +kernel
theorem d_M_group_55 : decode b_M_group 55 = .ok (.goto 4, 3) := by decide +kernel
theorem d_M_group_58 : decode b_M_group 58 = .ok (.iconst (-1), 1) := by decide +kernel
theorem d_M_group_59 : decode b_M_group 59 = .ok (.iastore, 1) := by decide +kernel
theorem d_M_group_60 : decode b_M_group 60 = .ok (.iinc 4 1, 3) := by decide +kernel
theorem d_M_group_63 : decode b_M_group 63 = .ok (.goto (-50), 3) := by decide +kernel
theorem d_M_group_66 : decode b_M_group 66 = .ok (.iinc 3 1, 3) := by decide +kernel
theorem d_M_group_69 : decode b_M_group 69 = .ok (.goto (-67), 3) := by decide +kernel
theorem d_M_group_72 : decode b_M_group 72 = .ok (.iconst 1, 1) := by decide +kernel
theorem d_M_group_73 : decode b_M_group 73 = .ok (.istore_n 3, 1) := by decide +kernel
theorem d_M_group_74 : decode b_M_group 74 = .ok (.iconst 1, 1) := by decide +kernel
theorem d_M_group_75 : decode b_M_group 75 = .ok (.istore 4, 2) := by decide +kernel
theorem d_M_group_77 : decode b_M_group 77 = .ok (.iload_n 3, 1) := by decide +kernel
theorem d_M_group_78 : decode b_M_group 78 = .ok (.ifCond .eq 101, 3) := by decide +kernel
theorem d_M_group_81 : decode b_M_group 81 = .ok (.iconst 0, 1) := by decide +kernel
theorem d_M_group_82 : decode b_M_group 82 = .ok (.istore_n 3, 1) := by decide +kernel
theorem d_M_group_83 : decode b_M_group 83 = .ok (.iconst 0, 1) := by decide +kernel
theorem d_M_group_84 : decode b_M_group 84 = .ok (.istore 5, 2) := by decide +kernel
theorem d_M_group_86 : decode b_M_group 86 = .ok (.iload 5, 2) := by decide +kernel
theorem d_M_group_88 : decode b_M_group 88 = .ok (.aload_n 0, 1) := by decide +kernel
theorem d_M_group_89 : decode b_M_group 89 = .ok (.getfield 73, 3) := by decide +kernel
theorem d_M_group_92 : decode b_M_group 92 = .ok (.aload_n 0, 1) := by decide +kernel
theorem d_M_group_93 : decode b_M_group 93 = .ok (.getfield 76, 3) := by decide +kernel
theorem d_M_group_96 : decode b_M_group 96 = .ok (.imul, 1) := by decide +kernel
theorem d_M_group_97 : decode b_M_group 97 = .ok (.if_icmp .ge 67, 3) := by decide +kernel
theorem d_M_group_100 : decode b_M_group 100 = .ok (.iload 4, 2) := by decide +kernel
theorem d_M_group_102 : decode b_M_group 102 = .ok (.ifCond .eq 8, 3) := by decide +kernel
theorem d_M_group_105 : decode b_M_group 105 = .ok (.iload 5, 2) := by decide +kernel
theorem d_M_group_107 : decode b_M_group 107 = .ok (.goto 17, 3) := by decide +kernel
theorem d_M_group_110 : decode b_M_group 110 = .ok (.aload_n 0, 1) := by decide +kernel
theorem d_M_group_111 : decode b_M_group 111 = .ok (.getfield 73, 3) := by decide +kernel
theorem d_M_group_114 : decode b_M_group 114 = .ok (.aload_n 0, 1) := by decide +kernel
theorem d_M_group_115 : decode b_M_group 115 = .ok (.getfield 76, 3) := by decide +kernel
theorem d_M_group_118 : decode b_M_group 118 = .ok (.imul, 1) := by decide +kernel
theorem d_M_group_119 : decode b_M_group 119 = .ok (.iconst 1, 1) := by decide +kernel
theorem d_M_group_120 : decode b_M_group 120 = .ok (.isub, 1) := by decide +kernel
theorem d_M_group_121 : decode b_M_group 121 = .ok (.iload 5, 2) := by decide +kernel
theorem d_M_group_123 : decode b_M_group 123 = .ok (.isub, 1) := by decide +kernel
theorem d_M_group_124 : decode b_M_group 124 = .ok (.istore 6, 2) := by decide +kernel
theorem d_M_group_126 : decode b_M_group 126 = .ok (.aload_n 0, 1) := by decide +kernel
theorem d_M_group_127 : decode b_M_group 127 = .ok (.iload 6, 2) := by decide +kernel
theorem d_M_group_129 : decode b_M_group 129 = .ok (.aload_n 0, 1) := by decide +kernel
theorem d_M_group_130 : decode b_M_group 130 = .ok (.getfield 73, 3) := by decide +kernel
theorem d_M_group_133 : decode b_M_group 133 = .ok (.irem, 1) := by decide +kernel
theorem d_M_group_134 : decode b_M_group 134 = .ok (.iload 6, 2) := by decide +kernel
theorem d_M_group_136 : decode b_M_group 136 = .ok (.aload_n 0, 1) := by decide +kernel
theorem d_M_group_137 : decode b_M_group 137 = .ok (.getfield 73, 3) := by decide +kernel
theorem d_M_group_140 : decode b_M_group 140 = .ok (.idiv, 1) := by decide +kernel
theorem d_M_group_141 : decode b_M_group 141 = .ok (.iload_n 2, 1) := by decide +kernel
theorem d_M_group_142 : decode b_M_group 142 = .ok (.invokevirtual 101, 3) := by decide +kernel
theorem d_M_group_145 : decode b_M_group 145 = .ok (.ifCond .ne 7, 3) := by decide +kernel
theorem d_M_group_148 : decode b_M_group 148 = .ok (.iload_n 3, 1) := by decide +kernel
theorem d_M_group_149 : decode b_M_group 149 = .ok (.ifCond .eq 7, 3) := by decide +kernel
theorem d_M_group_152 : decode b_M_group 152 = .ok (.iconst 1, 1) := by decide +kernel
theorem d_M_group_153 : decode b_M_group 153 = .ok (.goto 4, 3) := by decide +kernel
theorem d_M_group_156 : decode b_M_group 156 = .ok (.iconst 0, 1) := by decide +kernel
theorem d_M_group_157 : decode b_M_group 157 = .ok (.istore_n 3, 1) := by decide +kernel
theorem d_M_group_158 : decode b_M_group 158 = .ok (.iinc 5 1, 3) := by decide +kernel
theorem d_M_group_161 : decode b_M_group 161 = .ok (.goto (-75), 3) := by decide +kernel
theorem d_M_group_164 : decode b_M_group 164 = .ok (.iload 4, 2) := by decide +kernel
theorem d_M_group_166 : decode b_M_group 166 = .ok (.ifCond .ne 7, 3) := by decide +kernel
theorem d_M_group_169 : decode b_M_group 169 = .ok (.iconst 1, 1) := by decide +kernel
theorem d_M_group_170 : decode b_M_group 170 = .ok (.goto 4, 3) := by decide +kernel
theorem d_M_group_173 : decode b_M_group 173 = .ok (.iconst 0, 1) := by decide +kernel
theorem d_M_group_174 : decode b_M_group 174 = .ok (.istore 4, 2) := by decide +kernel
theorem d_M_group_176 : decode b_M_group 176 = .ok (.goto (-99), 3) := by decide +kernel
theorem d_M_group_179 : decode b_M_group 179 = .ok (.return_, 1) := by decide +kernel
theorem d_M_settles_0 : decode b_M_settles 0 = .ok (.bipush 24, 2) := by decide +kernel
theorem d_M_settles_2 : decode b_M_settles 2 = .ok (.iload_n 2, 1) := by decide +kernel
theorem d_M_settles_3 : decode b_M_settles 3 = .ok (.imul, 1) := by decide +kernel
theorem d_M_settles_4 : decode b_M_settles 4 = .ok (.iload_n 1, 1) := by decide +kernel
theorem d_M_settles_5 : decode b_M_settles 5 = .ok (.iadd, 1) := by decide +kernel
theorem d_M_settles_6 : decode b_M_settles 6 = .ok (.istore 4, 2) := by decide +kernel
theorem d_M_settles_8 : decode b_M_settles 8 = .ok (.aload_n 0, 1) := by decide +kernel
theorem d_M_settles_9 : decode b_M_settles 9 = .ok (.getfield 29, 3) := by decide +kernel
theorem d_M_settles_12 : decode b_M_settles 12 = .ok (.iload 4, 2) := by decide +kernel
theorem d_M_settles_14 : decode b_M_settles 14 = .ok (.iaload, 1) := by decide +kernel
theorem d_M_settles_15 : decode b_M_settles 15 = .ok (.istore 5, 2) := by decide +kernel
theorem d_M_settles_17 : decode b_M_settles 17 = .ok (.iconst (-1), 1) := by decide +kernel
theorem d_M_settles_18 : decode b_M_settles 18 = .ok (.istore 6, 2) := by decide +kernel
theorem d_M_settles_20 : decode b_M_settles 20 = .ok (.iload 6, 2) := by decide +kernel
theorem d_M_settles_22 : decode b_M_settles 22 = .ok (.iconst 1, 1) := by decide +kernel
theorem d_M_settles_23 : decode b_M_settles 23 = .ok (.if_icmp .gt 111, 3) := by decide +kernel
theorem d_M_settles_26 : decode b_M_settles 26 = .ok (.iload 5, 2) := by decide +kernel
theorem d_M_settles_28 : decode b_M_settles 28 = .ok (.iconst (-1), 1) := by decide +kernel
theorem d_M_settles_29 : decode b_M_settles 29 = .ok (.if_icmp .eq 105, 3) := by decide +kernel
theorem d_M_settles_32 : decode b_M_settles 32 = .ok (.iconst (-1), 1) := by decide +kernel
theorem d_M_settles_33 : decode b_M_settles 33 = .ok (.istore 7, 2) := by decide +kernel
theorem d_M_settles_35 : decode b_M_settles 35 = .ok (.iload 7, 2) := by decide +kernel
theorem d_M_settles_37 : decode b_M_settles 37 = .ok (.iconst 1, 1) := by decide +kernel
theorem d_M_settles_38 : decode b_M_settles 38 = .ok (.if_icmp .gt 90, 3) := by decide +kernel
theorem d_M_settles_41 : decode b_M_settles 41 = .ok (.iload_n 3, 1) := by decide +kernel
theorem d_M_settles_42 : decode b_M_settles 42 = .ok (.ifCond .ne 13, 3) := by decide +kernel
theorem d_M_settles_45 : decode b_M_settles 45 = .ok (.iload 7, 2) := by decide +kernel
theorem d_M_settles_47 : decode b_M_settles 47 = .ok (.ifCond .eq 8, 3) := by decide +kernel
theorem d_M_settles_50 : decode b_M_settles 50 = .ok (.iload 6, 2) := by decide +kernel
theorem d_M_settles_52 : decode b_M_settles 52 = .ok (.ifCond .ne 7, 3) := by decide +kernel
theorem d_M_settles_55 : decode b_M_settles 55 = .ok (.iconst 1, 1) := by decide +kernel
theorem d_M_settles_56 : decode b_M_settles 56 = .ok (.goto 4, 3) := by decide +kernel
theorem d_M_settles_59 : decode b_M_settles 59 = .ok (.iconst 0, 1) := by decide +kernel
theorem d_M_settles_60 : decode b_M_settles 60 = .ok (.istore 8, 2) := by decide +kernel
theorem d_M_settles_62 : decode b_M_settles 62 = .ok (.iload 8, 2) := by decide +kernel
theorem d_M_settles_64 : decode b_M_settles 64 = .ok (.ifCond .eq 58, 3) := by decide +kernel
theorem d_M_settles_67 : decode b_M_settles 67 = .ok (.aload_n 0, 1) := by decide +kernel
theorem d_M_settles_68 : decode b_M_settles 68 = .ok (.iload_n 1, 1) := by decide +kernel
theorem d_M_settles_69 : decode b_M_settles 69 = .ok (.iload 7, 2) := by decide +kernel
theorem d_M_settles_71 : decode b_M_settles 71 = .ok (.iadd, 1) := by decide +kernel
theorem d_M_settles_72 : decode b_M_settles 72 = .ok (.iload_n 2, 1) := by decide +kernel
theorem d_M_settles_73 : decode b_M_settles 73 = .ok (.iload 6, 2) := by decide +kernel
theorem d_M_settles_75 : decode b_M_settles 75 = .ok (.iadd, 1) := by decide +kernel
theorem d_M_settles_76 : decode b_M_settles 76 = .ok (.invokevirtual 86, 3) := by decide +kernel
theorem d_M_settles_79 : decode b_M_settles 79 = .ok (.ifCond .eq 43, 3) := by decide +kernel
theorem d_M_settles_82 : decode b_M_settles 82 = .ok (.aload_n 0, 1) := by decide +kernel
theorem d_M_settles_83 : decode b_M_settles 83 = .ok (.getfield 29, 3) := by decide +kernel
theorem d_M_settles_86 : decode b_M_settles 86 = .ok (.iload 4, 2) := by decide +kernel
theorem d_M_settles_88 : decode b_M_settles 88 = .ok (.bipush 24, 2) := by decide +kernel
theorem d_M_settles_90 : decode b_M_settles 90 = .ok (.iload 6, 2) := by decide +kernel
theorem d_M_settles_92 : decode b_M_settles 92 = .ok (.imul, 1) := by decide +kernel
theorem d_M_settles_93 : decode b_M_settles 93 = .ok (.iadd, 1) := by decide +kernel
theorem d_M_settles_94 : decode b_M_settles 94 = .ok (.iload 7, 2) := by decide +kernel
theorem d_M_settles_96 : decode b_M_settles 96 = .ok (.iadd, 1) := by decide +kernel
theorem d_M_settles_97 : decode b_M_settles 97 = .ok (.iaload, 1) := by decide +kernel
theorem d_M_settles_98 : decode b_M_settles 98 = .ok (.istore 9, 2) := by decide +kernel
theorem d_M_settles_100 : decode b_M_settles 100 = .ok (.iload 9, 2) := by decide +kernel
theorem d_M_settles_102 : decode b_M_settles 102 = .ok (.iconst (-1), 1) := by decide +kernel
theorem d_M_settles_103 : decode b_M_settles 103 = .ok (.if_icmp .eq 15, 3) := by decide +kernel
theorem d_M_settles_106 : decode b_M_settles 106 = .ok (.iload 9, 2) := by decide +kernel
theorem d_M_settles_108 : decode b_M_settles 108 = .ok (.iload 5, 2) := by decide +kernel
theorem d_M_settles_110 : decode b_M_settles 110 = .ok (.if_icmp .ge 8, 3) := by decide +kernel
theorem d_M_settles_113 : decode b_M_settles 113 = .ok (.iload 9, 2) := by decide +kernel
theorem d_M_settles_115 : decode b_M_settles 115 = .ok (.goto 5, 3) := by decide +kernel
theorem d_M_settles_118 : decode b_M_settles 118 = .ok (.iload 5, 2) := by decide +kernel
theorem d_M_settles_120 : decode b_M_settles 120 = .ok (.istore 5, 2) := by decide +kernel
theorem d_M_settles_122 : decode b_M_settles 122 = .ok (.iinc 7 1, 3) := by decide +kernel
theorem d_M_settles_125 : decode b_M_settles 125 = .ok (.goto (-90), 3) := by decide +kernel
theorem d_M_settles_128 : decode b_M_settles 128 = .ok (.iinc 6 1, 3) := by decide +kernel
theorem d_M_settles_131 : decode b_M_settles 131 = .ok (.goto (-111), 3) := by decide +kernel
theorem d_M_settles_134 : decode b_M_settles 134 = .ok (.iload 5, 2) := by decide +kernel
theorem d_M_settles_136 : decode b_M_settles 136 = .ok (.aload_n 0, 1) := by decide +kernel
theorem d_M_settles_137 : decode b_M_settles 137 = .ok (.getfield 29, 3) := by decide +kernel
theorem d_M_settles_140 : decode b_M_settles 140 = .ok (.iload 4, 2) := by decide +kernel
theorem d_M_settles_142 : decode b_M_settles 142 = .ok (.iaload, 1) := by decide +kernel
theorem d_M_settles_143 : decode b_M_settles 143 = .ok (.if_icmp .eq 7, 3) := by decide +kernel
theorem d_M_settles_146 : decode b_M_settles 146 = .ok (.iconst 1, 1) := by decide +kernel
theorem d_M_settles_147 : decode b_M_settles 147 = .ok (.goto 4, 3) := by decide +kernel
theorem d_M_settles_150 : decode b_M_settles 150 = .ok (.iconst 0, 1) := by decide +kernel
theorem d_M_settles_151 : decode b_M_settles 151 = .ok (.istore 6, 2) := by decide +kernel
theorem d_M_settles_153 : decode b_M_settles 153 = .ok (.aload_n 0, 1) := by decide +kernel
theorem d_M_settles_154 : decode b_M_settles 154 = .ok (.getfield 29, 3) := by decide +kernel
theorem d_M_settles_157 : decode b_M_settles 157 = .ok (.iload 4, 2) := by decide +kernel
theorem d_M_settles_159 : decode b_M_settles 159 = .ok (.iload 5, 2) := by decide +kernel
theorem d_M_settles_161 : decode b_M_settles 161 = .ok (.iastore, 1) := by decide +kernel
theorem d_M_settles_162 : decode b_M_settles 162 = .ok (.iload 6, 2) := by decide +kernel
theorem d_M_settles_164 : decode b_M_settles 164 = .ok (.ireturn, 1) := by decide +kernel
theorem d_M_sizeOf_0 : decode b_M_sizeOf 0 = .ok (.iconst 0, 1) := by decide +kernel
theorem d_M_sizeOf_1 : decode b_M_sizeOf 1 = .ok (.istore_n 2, 1) := by decide +kernel
theorem d_M_sizeOf_2 : decode b_M_sizeOf 2 = .ok (.iconst 0, 1) := by decide +kernel
theorem d_M_sizeOf_3 : decode b_M_sizeOf 3 = .ok (.istore_n 3, 1) := by decide +kernel
theorem d_M_sizeOf_4 : decode b_M_sizeOf 4 = .ok (.iload_n 3, 1) := by decide +kernel
theorem d_M_sizeOf_5 : decode b_M_sizeOf 5 = .ok (.aload_n 0, 1) := by decide +kernel
theorem d_M_sizeOf_6 : decode b_M_sizeOf 6 = .ok (.getfield 76, 3) := by decide +kernel
theorem d_M_sizeOf_9 : decode b_M_sizeOf 9 = .ok (.if_icmp .ge 51, 3) := by decide +kernel
theorem d_M_sizeOf_12 : decode b_M_sizeOf 12 = .ok (.iconst 0, 1) := by decide +kernel
theorem d_M_sizeOf_13 : decode b_M_sizeOf 13 = .ok (.istore 4, 2) := by decide +kernel
theorem d_M_sizeOf_15 : decode b_M_sizeOf 15 = .ok (.iload 4, 2) := by decide +kernel
theorem d_M_sizeOf_17 : decode b_M_sizeOf 17 = .ok (.aload_n 0, 1) := by decide +kernel
theorem d_M_sizeOf_18 : decode b_M_sizeOf 18 = .ok (.getfield 73, 3) := by decide +kernel
theorem d_M_sizeOf_21 : decode b_M_sizeOf 21 = .ok (.if_icmp .ge 33, 3) := by decide +kernel
theorem d_M_sizeOf_24 : decode b_M_sizeOf 24 = .ok (.aload_n 0, 1) := by decide +kernel
theorem d_M_sizeOf_25 : decode b_M_sizeOf 25 = .ok (.getfield 29, 3) := by decide +kernel
theorem d_M_sizeOf_28 : decode b_M_sizeOf 28 = .ok (.bipush 24, 2) := by decide +kernel
theorem d_M_sizeOf_30 : decode b_M_sizeOf 30 = .ok (.iload_n 3, 1) := by decide +kernel
theorem d_M_sizeOf_31 : decode b_M_sizeOf 31 = .ok (.imul, 1) := by decide +kernel
theorem d_M_sizeOf_32 : decode b_M_sizeOf 32 = .ok (.iload 4, 2) := by decide +kernel
theorem d_M_sizeOf_34 : decode b_M_sizeOf 34 = .ok (.iadd, 1) := by decide +kernel
theorem d_M_sizeOf_35 : decode b_M_sizeOf 35 = .ok (.iaload, 1) := by decide +kernel
theorem d_M_sizeOf_36 : decode b_M_sizeOf 36 = .ok (.iload_n 1, 1) := by decide +kernel
theorem d_M_sizeOf_37 : decode b_M_sizeOf 37 = .ok (.if_icmp .ne 9, 3) := by decide +kernel
theorem d_M_sizeOf_40 : decode b_M_sizeOf 40 = .ok (.iload_n 2, 1) := by decide +kernel
theorem d_M_sizeOf_41 : decode b_M_sizeOf 41 = .ok (.iconst 1, 1) := by decide +kernel
theorem d_M_sizeOf_42 : decode b_M_sizeOf 42 = .ok (.iadd, 1) := by decide +kernel
theorem d_M_sizeOf_43 : decode b_M_sizeOf 43 = .ok (.goto 4, 3) := by decide +kernel
theorem d_M_sizeOf_46 : decode b_M_sizeOf 46 = .ok (.iload_n 2, 1) := by decide +kernel
theorem d_M_sizeOf_47 : decode b_M_sizeOf 47 = .ok (.istore_n 2, 1) := by decide +kernel
theorem d_M_sizeOf_48 : decode b_M_sizeOf 48 = .ok (.iinc 4 1, 3) := by decide +kernel
theorem d_M_sizeOf_51 : decode b_M_sizeOf 51 = .ok (.goto (-36), 3) := by decide +kernel
theorem d_M_sizeOf_54 : decode b_M_sizeOf 54 = .ok (.iinc 3 1, 3) := by decide +kernel
theorem d_M_sizeOf_57 : decode b_M_sizeOf 57 = .ok (.goto (-53), 3) := by decide +kernel
theorem d_M_sizeOf_60 : decode b_M_sizeOf 60 = .ok (.iload_n 2, 1) := by decide +kernel
theorem d_M_sizeOf_61 : decode b_M_sizeOf 61 = .ok (.ireturn, 1) := by decide +kernel
theorem d_M_inGap_0 : decode b_M_inGap 0 = .ok (.iload_n 1, 1) := by decide +kernel
theorem d_M_inGap_1 : decode b_M_inGap 1 = .ok (.istore 6, 2) := by decide +kernel
theorem d_M_inGap_3 : decode b_M_inGap 3 = .ok (.iload_n 2, 1) := by decide +kernel
theorem d_M_inGap_4 : decode b_M_inGap 4 = .ok (.istore 7, 2) := by decide +kernel
theorem d_M_inGap_6 : decode b_M_inGap 6 = .ok (.aload_n 0, 1) := by decide +kernel
theorem d_M_inGap_7 : decode b_M_inGap 7 = .ok (.iload 6, 2) := by decide +kernel
theorem d_M_inGap_9 : decode b_M_inGap 9 = .ok (.iload 7, 2) := by decide +kernel
theorem d_M_inGap_11 : decode b_M_inGap 11 = .ok (.invokevirtual 86, 3) := by decide +kernel
theorem d_M_inGap_14 : decode b_M_inGap 14 = .ok (.ifCond .eq 35, 3) := by decide +kernel
theorem d_M_inGap_17 : decode b_M_inGap 17 = .ok (.aload_n 0, 1) := by decide +kernel
theorem d_M_inGap_18 : decode b_M_inGap 18 = .ok (.getfield 20, 3) := by decide +kernel
theorem d_M_inGap_21 : decode b_M_inGap 21 = .ok (.bipush 24, 2) := by decide +kernel
theorem d_M_inGap_23 : decode b_M_inGap 23 = .ok (.iload 7, 2) := by decide +kernel
theorem d_M_inGap_25 : decode b_M_inGap 25 = .ok (.imul, 1) := by decide +kernel
theorem d_M_inGap_26 : decode b_M_inGap 26 = .ok (.iload 6, 2) := by decide +kernel
theorem d_M_inGap_28 : decode b_M_inGap 28 = .ok (.iadd, 1) := by decide +kernel
theorem d_M_inGap_29 : decode b_M_inGap 29 = .ok (.baload, 1) := by decide +kernel
theorem d_M_inGap_30 : decode b_M_inGap 30 = .ok (.ifCond .ne 19, 3) := by decide +kernel
theorem d_M_inGap_33 : decode b_M_inGap 33 = .ok (.iload 6, 2) := by decide +kernel
theorem d_M_inGap_35 : decode b_M_inGap 35 = .ok (.iload_n 3, 1) := by decide +kernel
theorem d_M_inGap_36 : decode b_M_inGap 36 = .ok (.isub, 1) := by decide +kernel
theorem d_M_inGap_37 : decode b_M_inGap 37 = .ok (.istore 6, 2) := by decide +kernel
theorem d_M_inGap_39 : decode b_M_inGap 39 = .ok (.iload 7, 2) := by decide +kernel
theorem d_M_inGap_41 : decode b_M_inGap 41 = .ok (.iload 4, 2) := by decide +kernel
theorem d_M_inGap_43 : decode b_M_inGap 43 = .ok (.isub, 1) := by decide +kernel
theorem d_M_inGap_44 : decode b_M_inGap 44 = .ok (.istore 7, 2) := by decide +kernel
theorem d_M_inGap_46 : decode b_M_inGap 46 = .ok (.goto (-40), 3) := by decide +kernel
theorem d_M_inGap_49 : decode b_M_inGap 49 = .ok (.aload_n 0, 1) := by decide +kernel
theorem d_M_inGap_50 : decode b_M_inGap 50 = .ok (.iload 6, 2) := by decide +kernel
theorem d_M_inGap_52 : decode b_M_inGap 52 = .ok (.iload 7, 2) := by decide +kernel
theorem d_M_inGap_54 : decode b_M_inGap 54 = .ok (.invokevirtual 86, 3) := by decide +kernel
theorem d_M_inGap_57 : decode b_M_inGap 57 = .ok (.ifCond .ne 5, 3) := by decide +kernel
theorem d_M_inGap_60 : decode b_M_inGap 60 = .ok (.iconst 0, 1) := by decide +kernel
theorem d_M_inGap_61 : decode b_M_inGap 61 = .ok (.ireturn, 1) := by decide +kernel
theorem d_M_inGap_62 : decode b_M_inGap 62 = .ok (.iconst 0, 1) := by decide +kernel
theorem d_M_inGap_63 : decode b_M_inGap 63 = .ok (.istore 8, 2) := by decide +kernel
theorem d_M_inGap_65 : decode b_M_inGap 65 = .ok (.iload 6, 2) := by decide +kernel
theorem d_M_inGap_67 : decode b_M_inGap 67 = .ok (.iload_n 3, 1) := by decide +kernel
theorem d_M_inGap_68 : decode b_M_inGap 68 = .ok (.iadd, 1) := by decide +kernel
theorem d_M_inGap_69 : decode b_M_inGap 69 = .ok (.istore 6, 2) := by decide +kernel
theorem d_M_inGap_71 : decode b_M_inGap 71 = .ok (.iload 7, 2) := by decide +kernel
theorem d_M_inGap_73 : decode b_M_inGap 73 = .ok (.iload 4, 2) := by decide +kernel
theorem d_M_inGap_75 : decode b_M_inGap 75 = .ok (.iadd, 1) := by decide +kernel
theorem d_M_inGap_76 : decode b_M_inGap 76 = .ok (.istore 7, 2) := by decide +kernel
theorem d_M_inGap_78 : decode b_M_inGap 78 = .ok (.aload_n 0, 1) := by decide +kernel
theorem d_M_inGap_79 : decode b_M_inGap 79 = .ok (.iload 6, 2) := by decide +kernel
theorem d_M_inGap_81 : decode b_M_inGap 81 = .ok (.iload 7, 2) := by decide +kernel
theorem d_M_inGap_83 : decode b_M_inGap 83 = .ok (.invokevirtual 86, 3) := by decide +kernel
theorem d_M_inGap_86 : decode b_M_inGap 86 = .ok (.ifCond .eq 38, 3) := by decide +kernel
theorem d_M_inGap_89 : decode b_M_inGap 89 = .ok (.aload_n 0, 1) := by decide +kernel
theorem d_M_inGap_90 : decode b_M_inGap 90 = .ok (.getfield 20, 3) := by decide +kernel
theorem d_M_inGap_93 : decode b_M_inGap 93 = .ok (.bipush 24, 2) := by decide +kernel
theorem d_M_inGap_95 : decode b_M_inGap 95 = .ok (.iload 7, 2) := by decide +kernel
theorem d_M_inGap_97 : decode b_M_inGap 97 = .ok (.imul, 1) := by decide +kernel
theorem d_M_inGap_98 : decode b_M_inGap 98 = .ok (.iload 6, 2) := by decide +kernel
theorem d_M_inGap_100 : decode b_M_inGap 100 = .ok (.iadd, 1) := by decide +kernel
theorem d_M_inGap_101 : decode b_M_inGap 101 = .ok (.baload, 1) := by decide +kernel
theorem d_M_inGap_102 : decode b_M_inGap 102 = .ok (.ifCond .ne 22, 3) := by decide +kernel
theorem d_M_inGap_105 : decode b_M_inGap 105 = .ok (.iinc 8 1, 3) := by decide +kernel
theorem d_M_inGap_108 : decode b_M_inGap 108 = .ok (.iload 6, 2) := by decide +kernel
theorem d_M_inGap_110 : decode b_M_inGap 110 = .ok (.iload_n 3, 1) := by decide +kernel
theorem d_M_inGap_111 : decode b_M_inGap 111 = .ok (.iadd, 1) := by decide +kernel
theorem d_M_inGap_112 : decode b_M_inGap 112 = .ok (.istore 6, 2) := by decide +kernel
theorem d_M_inGap_114 : decode b_M_inGap 114 = .ok (.iload 7, 2) := by decide +kernel
theorem d_M_inGap_116 : decode b_M_inGap 116 = .ok (.iload 4, 2) := by decide +kernel
theorem d_M_inGap_118 : decode b_M_inGap 118 = .ok (.iadd, 1) := by decide +kernel
theorem d_M_inGap_119 : decode b_M_inGap 119 = .ok (.istore 7, 2) := by decide +kernel
theorem d_M_inGap_121 : decode b_M_inGap 121 = .ok (.goto (-43), 3) := by decide +kernel
theorem d_M_inGap_124 : decode b_M_inGap 124 = .ok (.aload_n 0, 1) := by decide +kernel
theorem d_M_inGap_125 : decode b_M_inGap 125 = .ok (.iload 6, 2) := by decide +kernel
theorem d_M_inGap_127 : decode b_M_inGap 127 = .ok (.iload 7, 2) := by decide +kernel
theorem d_M_inGap_129 : decode b_M_inGap 129 = .ok (.invokevirtual 86, 3) := by decide +kernel
theorem d_M_inGap_132 : decode b_M_inGap 132 = .ok (.ifCond .eq 14, 3) := by decide +kernel
theorem d_M_inGap_135 : decode b_M_inGap 135 = .ok (.iload 8, 2) := by decide +kernel
theorem d_M_inGap_137 : decode b_M_inGap 137 = .ok (.iload 5, 2) := by decide +kernel
theorem d_M_inGap_139 : decode b_M_inGap 139 = .ok (.if_icmp .gt 7, 3) := by decide +kernel
theorem d_M_inGap_142 : decode b_M_inGap 142 = .ok (.iconst 1, 1) := by decide +kernel
theorem d_M_inGap_143 : decode b_M_inGap 143 = .ok (.goto 4, 3) := by decide +kernel
theorem d_M_inGap_146 : decode b_M_inGap 146 = .ok (.iconst 0, 1) := by decide +kernel
theorem d_M_inGap_147 : decode b_M_inGap 147 = .ok (.ireturn, 1) := by decide +kernel
theorem d_M_takeInk_0 : decode b_M_takeInk 0 = .ok (.aload_n 0, 1) := by decide +kernel
theorem d_M_takeInk_1 : decode b_M_takeInk 1 = .ok (.iconst 0, 1) := by decide +kernel
theorem d_M_takeInk_2 : decode b_M_takeInk 2 = .ok (.iconst 1, 1) := by decide +kernel
theorem d_M_takeInk_3 : decode b_M_takeInk 3 = .ok (.invokevirtual 105, 3) := by decide +kernel
theorem d_M_takeInk_6 : decode b_M_takeInk 6 = .ok (.iconst 0, 1) := by decide +kernel
theorem d_M_takeInk_7 : decode b_M_takeInk 7 = .ok (.istore_n 3, 1) := by decide +kernel
theorem d_M_takeInk_8 : decode b_M_takeInk 8 = .ok (.iload_n 3, 1) := by decide +kernel
theorem d_M_takeInk_9 : decode b_M_takeInk 9 = .ok (.aload_n 0, 1) := by decide +kernel
theorem d_M_takeInk_10 : decode b_M_takeInk 10 = .ok (.getfield 76, 3) := by decide +kernel
theorem d_M_takeInk_13 : decode b_M_takeInk 13 = .ok (.if_icmp .ge 108, 3) := by decide +kernel
theorem d_M_takeInk_16 : decode b_M_takeInk 16 = .ok (.iconst 0, 1) := by decide +kernel
theorem d_M_takeInk_17 : decode b_M_takeInk 17 = .ok (.istore 4, 2) := by decide +kernel
theorem d_M_takeInk_19 : decode b_M_takeInk 19 = .ok (.iload 4, 2) := by decide +kernel
theorem d_M_takeInk_21 : decode b_M_takeInk 21 = .ok (.aload_n 0, 1) := by decide +kernel
theorem d_M_takeInk_22 : decode b_M_takeInk 22 = .ok (.getfield 73, 3) := by decide +kernel
theorem d_M_takeInk_25 : decode b_M_takeInk 25 = .ok (.if_icmp .ge 90, 3) := by decide +kernel
theorem d_M_takeInk_28 : decode b_M_takeInk 28 = .ok (.bipush 24, 2) := by decide +kernel
theorem d_M_takeInk_30 : decode b_M_takeInk 30 = .ok (.iload_n 3, 1) := by decide +kernel
theorem d_M_takeInk_31 : decode b_M_takeInk 31 = .ok (.imul, 1) := by decide +kernel
theorem d_M_takeInk_32 : decode b_M_takeInk 32 = .ok (.iload 4, 2) := by decide +kernel
theorem d_M_takeInk_34 : decode b_M_takeInk 34 = .ok (.iadd, 1) := by decide +kernel
theorem d_M_takeInk_35 : decode b_M_takeInk 35 = .ok (.istore 5, 2) := by decide +kernel
theorem d_M_takeInk_37 : decode b_M_takeInk 37 = .ok (.aload_n 0, 1) := by decide +kernel
theorem d_M_takeInk_38 : decode b_M_takeInk 38 = .ok (.getfield 17, 3) := by decide +kernel
theorem d_M_takeInk_41 : decode b_M_takeInk 41 = .ok (.iload 5, 2) := by decide +kernel
theorem d_M_takeInk_43 : decode b_M_takeInk 43 = .ok (.aload_n 0, 1) := by decide +kernel
theorem d_M_takeInk_44 : decode b_M_takeInk 44 = .ok (.getfield 7, 3) := by decide +kernel
theorem d_M_takeInk_47 : decode b_M_takeInk 47 = .ok (.iload 5, 2) := by decide +kernel
theorem d_M_takeInk_49 : decode b_M_takeInk 49 = .ok (.baload, 1) := by decide +kernel
theorem d_M_takeInk_50 : decode b_M_takeInk 50 = .ok (.ifCond .eq 25, 3) := by decide +kernel
theorem d_M_takeInk_53 : decode b_M_takeInk 53 = .ok (.aload_n 0, 1) := by decide +kernel
theorem d_M_takeInk_54 : decode b_M_takeInk 54 = .ok (.aload_n 0, 1) := by decide +kernel
theorem d_M_takeInk_55 : decode b_M_takeInk 55 = .ok (.getfield 29, 3) := by decide +kernel
theorem d_M_takeInk_58 : decode b_M_takeInk 58 = .ok (.iload 5, 2) := by decide +kernel
theorem d_M_takeInk_60 : decode b_M_takeInk 60 = .ok (.iaload, 1) := by decide +kernel
theorem d_M_takeInk_61 : decode b_M_takeInk 61 = .ok (.invokevirtual 109, 3) := by decide +kernel
theorem d_M_takeInk_64 : decode b_M_takeInk 64 = .ok (.aload_n 0, 1) := by decide +kernel
theorem d_M_takeInk_65 : decode b_M_takeInk 65 = .ok (.getfield 13, 3) := by decide +kernel
theorem d_M_takeInk_68 : decode b_M_takeInk 68 = .ok (.if_icmp .ge 7, 3) := by decide +kernel
theorem d_M_takeInk_71 : decode b_M_takeInk 71 = .ok (.iconst 1, 1) := by decide +kernel
theorem d_M_takeInk_72 : decode b_M_takeInk 72 = .ok (.goto 4, 3) := by decide +kernel
theorem d_M_takeInk_75 : decode b_M_takeInk 75 = .ok (.iconst 0, 1) := by decide +kernel
theorem d_M_takeInk_76 : decode b_M_takeInk 76 = .ok (.bastore, 1) := by decide +kernel
theorem d_M_takeInk_77 : decode b_M_takeInk 77 = .ok (.aload_n 0, 1) := by decide +kernel
theorem d_M_takeInk_78 : decode b_M_takeInk 78 = .ok (.getfield 20, 3) := by decide +kernel
theorem d_M_takeInk_81 : decode b_M_takeInk 81 = .ok (.iload 5, 2) := by decide +kernel
theorem d_M_takeInk_83 : decode b_M_takeInk 83 = .ok (.aload_n 0, 1) := by decide +kernel
theorem d_M_takeInk_84 : decode b_M_takeInk 84 = .ok (.getfield 7, 3) := by decide +kernel
theorem d_M_takeInk_87 : decode b_M_takeInk 87 = .ok (.iload 5, 2) := by decide +kernel
theorem d_M_takeInk_89 : decode b_M_takeInk 89 = .ok (.baload, 1) := by decide +kernel
theorem d_M_takeInk_90 : decode b_M_takeInk 90 = .ok (.ifCond .eq 17, 3) := by decide +kernel
theorem d_M_takeInk_93 : decode b_M_takeInk 93 = .ok (.aload_n 0, 1) := by decide +kernel
theorem d_M_takeInk_94 : decode b_M_takeInk 94 = .ok (.getfield 17, 3) := by decide +kernel
theorem d_M_takeInk_97 : decode b_M_takeInk 97 = .ok (.iload 5, 2) := by decide +kernel
theorem d_M_takeInk_99 : decode b_M_takeInk 99 = .ok (.baload, 1) := by decide +kernel
theorem d_M_takeInk_100 : decode b_M_takeInk 100 = .ok (.ifCond .ne 7, 3) := by decide +kernel
theorem d_M_takeInk_103 : decode b_M_takeInk 103 = .ok (.iconst 1, 1) := by decide +kernel
theorem d_M_takeInk_104 : decode b_M_takeInk 104 = .ok (.goto 4, 3) := by decide +kernel
theorem d_M_takeInk_107 : decode b_M_takeInk 107 = .ok (.iconst 0, 1) := by decide +kernel
theorem d_M_takeInk_108 : decode b_M_takeInk 108 = .ok (.bastore, 1) := by decide +kernel
theorem d_M_takeInk_109 : decode b_M_takeInk 109 = .ok (.iinc 4 1, 3) := by decide +kernel
theorem d_M_takeInk_112 : decode b_M_takeInk 112 = .ok (.goto (-93), 3) := by decide +kernel
theorem d_M_takeInk_115 : decode b_M_takeInk 115 = .ok (.iinc 3 1, 3) := by decide +kernel
theorem d_M_takeInk_118 : decode b_M_takeInk 118 = .ok (.goto (-110), 3) := by decide +kernel
theorem d_M_takeInk_121 : decode b_M_takeInk 121 = .ok (.iconst 0, 1) := by decide +kernel
theorem d_M_takeInk_122 : decode b_M_takeInk 122 = .ok (.istore_n 3, 1) := by decide +kernel
theorem d_M_takeInk_123 : decode b_M_takeInk 123 = .ok (.iload_n 3, 1) := by decide +kernel
theorem d_M_takeInk_124 : decode b_M_takeInk 124 = .ok (.aload_n 0, 1) := by decide +kernel
theorem d_M_takeInk_125 : decode b_M_takeInk 125 = .ok (.getfield 76, 3) := by decide +kernel
theorem d_M_takeInk_128 : decode b_M_takeInk 128 = .ok (.if_icmp .ge 85, 3) := by decide +kernel
theorem d_M_takeInk_131 : decode b_M_takeInk 131 = .ok (.iconst 0, 1) := by decide +kernel
theorem d_M_takeInk_132 : decode b_M_takeInk 132 = .ok (.istore 4, 2) := by decide +kernel
theorem d_M_takeInk_134 : decode b_M_takeInk 134 = .ok (.iload 4, 2) := by decide +kernel
theorem d_M_takeInk_136 : decode b_M_takeInk 136 = .ok (.aload_n 0, 1) := by decide +kernel
theorem d_M_takeInk_137 : decode b_M_takeInk 137 = .ok (.getfield 73, 3) := by decide +kernel
theorem d_M_takeInk_140 : decode b_M_takeInk 140 = .ok (.if_icmp .ge 67, 3) := by decide +kernel
theorem d_M_takeInk_143 : decode b_M_takeInk 143 = .ok (.aload_n 0, 1) := by decide +kernel
theorem d_M_takeInk_144 : decode b_M_takeInk 144 = .ok (.getfield 23, 3) := by decide +kernel
theorem d_M_takeInk_147 : decode b_M_takeInk 147 = .ok (.bipush 24, 2) := by decide +kernel
theorem d_M_takeInk_149 : decode b_M_takeInk 149 = .ok (.iload_n 3, 1) := by decide +kernel
theorem d_M_takeInk_150 : decode b_M_takeInk 150 = .ok (.imul, 1) := by decide +kernel
theorem d_M_takeInk_151 : decode b_M_takeInk 151 = .ok (.iload 4, 2) := by decide +kernel
theorem d_M_takeInk_153 : decode b_M_takeInk 153 = .ok (.iadd, 1) := by decide +kernel
theorem d_M_takeInk_154 : decode b_M_takeInk 154 = .ok (.aload_n 0, 1) := by decide +kernel
theorem d_M_takeInk_155 : decode b_M_takeInk 155 = .ok (.getfield 20, 3) := by decide +kernel
theorem d_M_takeInk_158 : decode b_M_takeInk 158 = .ok (.bipush 24, 2) := by decide +kernel
theorem d_M_takeInk_160 : decode b_M_takeInk 160 = .ok (.iload_n 3, 1) := by decide +kernel
theorem d_M_takeInk_161 : decode b_M_takeInk 161 = .ok (.imul, 1) := by decide +kernel
theorem d_M_takeInk_162 : decode b_M_takeInk 162 = .ok (.iload 4, 2) := by decide +kernel
theorem d_M_takeInk_164 : decode b_M_takeInk 164 = .ok (.iadd, 1) := by decide +kernel
theorem d_M_takeInk_165 : decode b_M_takeInk 165 = .ok (.baload, 1) := by decide +kernel
theorem d_M_takeInk_166 : decode b_M_takeInk 166 = .ok (.ifCond .ne 29, 3) := by decide +kernel
theorem d_M_takeInk_169 : decode b_M_takeInk 169 = .ok (.aload_n 0, 1) := by decide +kernel
theorem d_M_takeInk_170 : decode b_M_takeInk 170 = .ok (.iload 4, 2) := by decide +kernel
theorem d_M_takeInk_172 : decode b_M_takeInk 172 = .ok (.iload_n 3, 1) := by decide +kernel
theorem d_M_takeInk_173 : decode b_M_takeInk 173 = .ok (.iconst 1, 1) := by decide +kernel
theorem d_M_takeInk_174 : decode b_M_takeInk 174 = .ok (.iconst 0, 1) := by decide +kernel
theorem d_M_takeInk_175 : decode b_M_takeInk 175 = .ok (.iload_n 1, 1) := by decide +kernel
theorem d_M_takeInk_176 : decode b_M_takeInk 176 = .ok (.invokevirtual 112, 3) := by decide +kernel
theorem d_M_takeInk_179 : decode b_M_takeInk 179 = .ok (.ifCond .ne 16, 3) := by decide +kernel
theorem d_M_takeInk_182 : decode b_M_takeInk 182 = .ok (.aload_n 0, 1) := by decide +kernel
theorem d_M_takeInk_183 : decode b_M_takeInk 183 = .ok (.iload 4, 2) := by decide +kernel
theorem d_M_takeInk_185 : decode b_M_takeInk 185 = .ok (.iload_n 3, 1) := by decide +kernel
theorem d_M_takeInk_186 : decode b_M_takeInk 186 = .ok (.iconst 0, 1) := by decide +kernel
theorem d_M_takeInk_187 : decode b_M_takeInk 187 = .ok (.iconst 1, 1) := by decide +kernel
theorem d_M_takeInk_188 : decode b_M_takeInk 188 = .ok (.iload_n 2, 1) := by decide +kernel
theorem d_M_takeInk_189 : decode b_M_takeInk 189 = .ok (.invokevirtual 112, 3) := by decide +kernel
theorem d_M_takeInk_192 : decode b_M_takeInk 192 = .ok (.ifCond .eq 7, 3) := by decide +kernel
theorem d_M_takeInk_195 : decode b_M_takeInk 195 = .ok (.iconst 1, 1) := by decide +kernel
theorem d_M_takeInk_196 : decode b_M_takeInk 196 = .ok (.goto 4, 3) := by decide +kernel
theorem d_M_takeInk_199 : decode b_M_takeInk 199 = .ok (.iconst 0, 1) := by decide +kernel
theorem d_M_takeInk_200 : decode b_M_takeInk 200 = .ok (.bastore, 1) := by decide +kernel
theorem d_M_takeInk_201 : decode b_M_takeInk 201 = .ok (.iinc 4 1, 3) := by decide +kernel
theorem d_M_takeInk_204 : decode b_M_takeInk 204 = .ok (.goto (-70), 3) := by decide +kernel
theorem d_M_takeInk_207 : decode b_M_takeInk 207 = .ok (.iinc 3 1, 3) := by decide +kernel
theorem d_M_takeInk_210 : decode b_M_takeInk 210 = .ok (.goto (-87), 3) := by decide +kernel
theorem d_M_takeInk_213 : decode b_M_takeInk 213 = .ok (.return_, 1) := by decide +kernel
