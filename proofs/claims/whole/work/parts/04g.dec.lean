theorem d_M_order_0 : decode b_M_order 0 = .ok (.aload_n 0, 1) := by decide +kernel
theorem d_M_order_1 : decode b_M_order 1 = .ok (.aload_n 0, 1) := by decide +kernel
theorem d_M_order_2 : decode b_M_order 2 = .ok (.getfield 94, 3) := by decide +kernel
theorem d_M_order_5 : decode b_M_order 5 = .ok (.iload_n 1, 1) := by decide +kernel
theorem d_M_order_6 : decode b_M_order 6 = .ok (.iconst 0, 1) := by decide +kernel
theorem d_M_order_7 : decode b_M_order 7 = .ok (.aload_n 0, 1) := by decide +kernel
theorem d_M_order_8 : decode b_M_order 8 = .ok (.getfield 116, 3) := by decide +kernel
theorem d_M_order_11 : decode b_M_order 11 = .ok (.iconst 1, 1) := by decide +kernel
theorem d_M_order_12 : decode b_M_order 12 = .ok (.isub, 1) := by decide +kernel
theorem d_M_order_13 : decode b_M_order 13 = .ok (.invokestatic 82, 3) := by decide +kernel
theorem d_M_order_16 : decode b_M_order 16 = .ok (.iconst 1, 1) := by decide +kernel
theorem d_M_order_17 : decode b_M_order 17 = .ok (.invokevirtual 90, 3) := by decide +kernel
theorem d_M_order_20 : decode b_M_order 20 = .ok (.ifCond .eq 12, 3) := by decide +kernel
theorem d_M_order_23 : decode b_M_order 23 = .ok (.aload_n 0, 1) := by decide +kernel
theorem d_M_order_24 : decode b_M_order 24 = .ok (.getfield 51, 3) := by decide +kernel
theorem d_M_order_27 : decode b_M_order 27 = .ok (.iload_n 1, 1) := by decide +kernel
theorem d_M_order_28 : decode b_M_order 28 = .ok (.iaload, 1) := by decide +kernel
theorem d_M_order_29 : decode b_M_order 29 = .ok (.goto 4, 3) := by decide +kernel
theorem d_M_order_32 : decode b_M_order 32 = .ok (.iconst 0, 1) := by decide +kernel
theorem d_M_order_33 : decode b_M_order 33 = .ok (.ireturn, 1) := by decide +kernel
theorem d_M_cover_0 : decode b_M_cover 0 = .ok (.aload_n 0, 1) := by decide +kernel
theorem d_M_cover_1 : decode b_M_cover 1 = .ok (.aload_n 0, 1) := by decide +kernel
theorem d_M_cover_2 : decode b_M_cover 2 = .ok (.getfield 94, 3) := by decide +kernel
theorem d_M_cover_5 : decode b_M_cover 5 = .ok (.iload_n 1, 1) := by decide +kernel
theorem d_M_cover_6 : decode b_M_cover 6 = .ok (.iconst 0, 1) := by decide +kernel
theorem d_M_cover_7 : decode b_M_cover 7 = .ok (.aload_n 0, 1) := by decide +kernel
theorem d_M_cover_8 : decode b_M_cover 8 = .ok (.getfield 127, 3) := by decide +kernel
theorem d_M_cover_11 : decode b_M_cover 11 = .ok (.iconst 1, 1) := by decide +kernel
theorem d_M_cover_12 : decode b_M_cover 12 = .ok (.isub, 1) := by decide +kernel
theorem d_M_cover_13 : decode b_M_cover 13 = .ok (.invokestatic 82, 3) := by decide +kernel
theorem d_M_cover_16 : decode b_M_cover 16 = .ok (.iload_n 2, 1) := by decide +kernel
theorem d_M_cover_17 : decode b_M_cover 17 = .ok (.iconst 0, 1) := by decide +kernel
theorem d_M_cover_18 : decode b_M_cover 18 = .ok (.iconst 3, 1) := by decide +kernel
theorem d_M_cover_19 : decode b_M_cover 19 = .ok (.invokestatic 82, 3) := by decide +kernel
theorem d_M_cover_22 : decode b_M_cover 22 = .ok (.invokevirtual 90, 3) := by decide +kernel
theorem d_M_cover_25 : decode b_M_cover 25 = .ok (.ifCond .eq 16, 3) := by decide +kernel
theorem d_M_cover_28 : decode b_M_cover 28 = .ok (.aload_n 0, 1) := by decide +kernel
theorem d_M_cover_29 : decode b_M_cover 29 = .ok (.getfield 54, 3) := by decide +kernel
theorem d_M_cover_32 : decode b_M_cover 32 = .ok (.iconst 4, 1) := by decide +kernel
theorem d_M_cover_33 : decode b_M_cover 33 = .ok (.iload_n 1, 1) := by decide +kernel
theorem d_M_cover_34 : decode b_M_cover 34 = .ok (.imul, 1) := by decide +kernel
theorem d_M_cover_35 : decode b_M_cover 35 = .ok (.iload_n 2, 1) := by decide +kernel
theorem d_M_cover_36 : decode b_M_cover 36 = .ok (.iadd, 1) := by decide +kernel
theorem d_M_cover_37 : decode b_M_cover 37 = .ok (.iaload, 1) := by decide +kernel
theorem d_M_cover_38 : decode b_M_cover 38 = .ok (.goto 4, 3) := by decide +kernel
theorem d_M_cover_41 : decode b_M_cover 41 = .ok (.iconst 0, 1) := by decide +kernel
theorem d_M_cover_42 : decode b_M_cover 42 = .ok (.ireturn, 1) := by decide +kernel
theorem d_M_strip_0 : decode b_M_strip 0 = .ok (.aload_n 0, 1) := by decide +kernel
theorem d_M_strip_1 : decode b_M_strip 1 = .ok (.aload_n 0, 1) := by decide +kernel
theorem d_M_strip_2 : decode b_M_strip 2 = .ok (.getfield 94, 3) := by decide +kernel
theorem d_M_strip_5 : decode b_M_strip 5 = .ok (.iload_n 1, 1) := by decide +kernel
theorem d_M_strip_6 : decode b_M_strip 6 = .ok (.iconst 0, 1) := by decide +kernel
theorem d_M_strip_7 : decode b_M_strip 7 = .ok (.aload_n 0, 1) := by decide +kernel
theorem d_M_strip_8 : decode b_M_strip 8 = .ok (.getfield 73, 3) := by decide +kernel
theorem d_M_strip_11 : decode b_M_strip 11 = .ok (.iconst 1, 1) := by decide +kernel
theorem d_M_strip_12 : decode b_M_strip 12 = .ok (.isub, 1) := by decide +kernel
theorem d_M_strip_13 : decode b_M_strip 13 = .ok (.invokestatic 82, 3) := by decide +kernel
theorem d_M_strip_16 : decode b_M_strip 16 = .ok (.iconst 1, 1) := by decide +kernel
theorem d_M_strip_17 : decode b_M_strip 17 = .ok (.invokevirtual 90, 3) := by decide +kernel
theorem d_M_strip_20 : decode b_M_strip 20 = .ok (.ifCond .eq 12, 3) := by decide +kernel
theorem d_M_strip_23 : decode b_M_strip 23 = .ok (.aload_n 0, 1) := by decide +kernel
theorem d_M_strip_24 : decode b_M_strip 24 = .ok (.getfield 57, 3) := by decide +kernel
theorem d_M_strip_27 : decode b_M_strip 27 = .ok (.iload_n 1, 1) := by decide +kernel
theorem d_M_strip_28 : decode b_M_strip 28 = .ok (.iaload, 1) := by decide +kernel
theorem d_M_strip_29 : decode b_M_strip 29 = .ok (.goto 4, 3) := by decide +kernel
theorem d_M_strip_32 : decode b_M_strip 32 = .ok (.iconst 0, 1) := by decide +kernel
theorem d_M_strip_33 : decode b_M_strip 33 = .ok (.ireturn, 1) := by decide +kernel
theorem d_M_cell_0 : decode b_M_cell 0 = .ok (.aload_n 0, 1) := by decide +kernel
theorem d_M_cell_1 : decode b_M_cell 1 = .ok (.aload_n 0, 1) := by decide +kernel
theorem d_M_cell_2 : decode b_M_cell 2 = .ok (.getfield 94, 3) := by decide +kernel
theorem d_M_cell_5 : decode b_M_cell 5 = .ok (.iload_n 1, 1) := by decide +kernel
theorem d_M_cell_6 : decode b_M_cell 6 = .ok (.iconst 0, 1) := by decide +kernel
theorem d_M_cell_7 : decode b_M_cell 7 = .ok (.aload_n 0, 1) := by decide +kernel
theorem d_M_cell_8 : decode b_M_cell 8 = .ok (.getfield 137, 3) := by decide +kernel
theorem d_M_cell_11 : decode b_M_cell 11 = .ok (.iconst 1, 1) := by decide +kernel
theorem d_M_cell_12 : decode b_M_cell 12 = .ok (.isub, 1) := by decide +kernel
theorem d_M_cell_13 : decode b_M_cell 13 = .ok (.invokestatic 82, 3) := by decide +kernel
theorem d_M_cell_16 : decode b_M_cell 16 = .ok (.iload_n 2, 1) := by decide +kernel
theorem d_M_cell_17 : decode b_M_cell 17 = .ok (.iconst 0, 1) := by decide +kernel
theorem d_M_cell_18 : decode b_M_cell 18 = .ok (.iconst 4, 1) := by decide +kernel
theorem d_M_cell_19 : decode b_M_cell 19 = .ok (.invokestatic 82, 3) := by decide +kernel
theorem d_M_cell_22 : decode b_M_cell 22 = .ok (.invokevirtual 90, 3) := by decide +kernel
theorem d_M_cell_25 : decode b_M_cell 25 = .ok (.ifCond .ne 5, 3) := by decide +kernel
theorem d_M_cell_28 : decode b_M_cell 28 = .ok (.iconst 0, 1) := by decide +kernel
theorem d_M_cell_29 : decode b_M_cell 29 = .ok (.ireturn, 1) := by decide +kernel
theorem d_M_cell_30 : decode b_M_cell 30 = .ok (.bipush 24, 2) := by decide +kernel
theorem d_M_cell_32 : decode b_M_cell 32 = .ok (.istore_n 3, 1) := by decide +kernel
theorem d_M_cell_33 : decode b_M_cell 33 = .ok (.iconst 0, 1) := by decide +kernel
theorem d_M_cell_34 : decode b_M_cell 34 = .ok (.istore 4, 2) := by decide +kernel
theorem d_M_cell_36 : decode b_M_cell 36 = .ok (.bipush 24, 2) := by decide +kernel
theorem d_M_cell_38 : decode b_M_cell 38 = .ok (.istore 5, 2) := by decide +kernel
theorem d_M_cell_40 : decode b_M_cell 40 = .ok (.iconst 0, 1) := by decide +kernel
theorem d_M_cell_41 : decode b_M_cell 41 = .ok (.istore 6, 2) := by decide +kernel
theorem d_M_cell_43 : decode b_M_cell 43 = .ok (.iconst 0, 1) := by decide +kernel
theorem d_M_cell_44 : decode b_M_cell 44 = .ok (.istore 7, 2) := by decide +kernel
theorem d_M_cell_46 : decode b_M_cell 46 = .ok (.iconst 0, 1) := by decide +kernel
theorem d_M_cell_47 : decode b_M_cell 47 = .ok (.istore 8, 2) := by decide +kernel
theorem d_M_cell_49 : decode b_M_cell 49 = .ok (.iload 8, 2) := by decide +kernel
theorem d_M_cell_51 : decode b_M_cell 51 = .ok (.aload_n 0, 1) := by decide +kernel
theorem d_M_cell_52 : decode b_M_cell 52 = .ok (.getfield 76, 3) := by decide +kernel
theorem d_M_cell_55 : decode b_M_cell 55 = .ok (.if_icmp .ge 96, 3) := by decide +kernel
theorem d_M_cell_58 : decode b_M_cell 58 = .ok (.iconst 0, 1) := by decide +kernel
theorem d_M_cell_59 : decode b_M_cell 59 = .ok (.istore 9, 2) := by decide +kernel
theorem d_M_cell_61 : decode b_M_cell 61 = .ok (.iload 9, 2) := by decide +kernel
theorem d_M_cell_63 : decode b_M_cell 63 = .ok (.aload_n 0, 1) := by decide +kernel
theorem d_M_cell_64 : decode b_M_cell 64 = .ok (.getfield 73, 3) := by decide +kernel
theorem d_M_cell_67 : decode b_M_cell 67 = .ok (.if_icmp .ge 78, 3) := by decide +kernel
theorem d_M_cell_70 : decode b_M_cell 70 = .ok (.aload_n 0, 1) := by decide +kernel
theorem d_M_cell_71 : decode b_M_cell 71 = .ok (.getfield 60, 3) := by decide +kernel
theorem d_M_cell_74 : decode b_M_cell 74 = .ok (.bipush 24, 2) := by decide +kernel
theorem d_M_cell_76 : decode b_M_cell 76 = .ok (.iload 8, 2) := by decide +kernel
theorem d_M_cell_78 : decode b_M_cell 78 = .ok (.imul, 1) := by decide +kernel
theorem d_M_cell_79 : decode b_M_cell 79 = .ok (.iload 9, 2) := by decide +kernel
theorem d_M_cell_81 : decode b_M_cell 81 = .ok (.iadd, 1) := by decide +kernel
theorem d_M_cell_82 : decode b_M_cell 82 = .ok (.iaload, 1) := by decide +kernel
theorem d_M_cell_83 : decode b_M_cell 83 = .ok (.iload_n 1, 1) := by decide +kernel
theorem d_M_cell_84 : decode b_M_cell 84 = .ok (.if_icmp .ne 55, 3) := by decide +kernel
theorem d_M_cell_87 : decode b_M_cell 87 = .ok (.iload 9, 2) := by decide +kernel
theorem d_M_cell_89 : decode b_M_cell 89 = .ok (.iload_n 3, 1) := by decide +kernel
theorem d_M_cell_90 : decode b_M_cell 90 = .ok (.if_icmp .ge 8, 3) := by decide +kernel
theorem d_M_cell_93 : decode b_M_cell 93 = .ok (.iload 9, 2) := by decide +kernel
theorem d_M_cell_95 : decode b_M_cell 95 = .ok (.goto 4, 3) := by decide +kernel
theorem d_M_cell_98 : decode b_M_cell 98 = .ok (.iload_n 3, 1) := by decide +kernel
theorem d_M_cell_99 : decode b_M_cell 99 = .ok (.istore_n 3, 1) := by decide +kernel
theorem d_M_cell_100 : decode b_M_cell 100 = .ok (.iload 9, 2) := by decide +kernel
theorem d_M_cell_102 : decode b_M_cell 102 = .ok (.iload 4, 2) := by decide +kernel
theorem d_M_cell_104 : decode b_M_cell 104 = .ok (.if_icmp .le 8, 3) := by decide +kernel
theorem d_M_cell_107 : decode b_M_cell 107 = .ok (.iload 9, 2) := by decide +kernel
theorem d_M_cell_109 : decode b_M_cell 109 = .ok (.goto 5, 3) := by decide +kernel
theorem d_M_cell_112 : decode b_M_cell 112 = .ok (.iload 4, 2) := by decide +kernel
theorem d_M_cell_114 : decode b_M_cell 114 = .ok (.istore 4, 2) := by decide +kernel
theorem d_M_cell_116 : decode b_M_cell 116 = .ok (.iload 8, 2) := by decide +kernel
theorem d_M_cell_118 : decode b_M_cell 118 = .ok (.iload 5, 2) := by decide +kernel
theorem d_M_cell_120 : decode b_M_cell 120 = .ok (.if_icmp .ge 8, 3) := by decide +kernel
theorem d_M_cell_123 : decode b_M_cell 123 = .ok (.iload 8, 2) := by decide +kernel
theorem d_M_cell_125 : decode b_M_cell 125 = .ok (.goto 5, 3) := by decide +kernel
theorem d_M_cell_128 : decode b_M_cell 128 = .ok (.iload 5, 2) := by decide +kernel
theorem d_M_cell_130 : decode b_M_cell 130 = .ok (.istore 5, 2) := by decide +kernel
theorem d_M_cell_132 : decode b_M_cell 132 = .ok (.iload 8, 2) := by decide +kernel
theorem d_M_cell_134 : decode b_M_cell 134 = .ok (.istore 6, 2) := by decide +kernel
theorem d_M_cell_136 : decode b_M_cell 136 = .ok (.iinc 7 1, 3) := by decide +kernel
theorem d_M_cell_139 : decode b_M_cell 139 = .ok (.iinc 9 1, 3) := by decide +kernel
theorem d_M_cell_142 : decode b_M_cell 142 = .ok (.goto (-81), 3) := by decide +kernel
theorem d_M_cell_145 : decode b_M_cell 145 = .ok (.iinc 8 1, 3) := by decide +kernel
theorem d_M_cell_148 : decode b_M_cell 148 = .ok (.goto (-99), 3) := by decide +kernel
theorem d_M_cell_151 : decode b_M_cell 151 = .ok (.iload_n 2, 1) := by decide +kernel
theorem d_M_cell_152 : decode b_M_cell 152 = .ok (.ifCond .ne 7, 3) := by decide +kernel
theorem d_M_cell_155 : decode b_M_cell 155 = .ok (.iload_n 3, 1) := by decide +kernel
theorem d_M_cell_156 : decode b_M_cell 156 = .ok (.goto 44, 3) := by decide +kernel
theorem d_M_cell_159 : decode b_M_cell 159 = .ok (.iload_n 2, 1) := by decide +kernel
theorem d_M_cell_160 : decode b_M_cell 160 = .ok (.iconst 1, 1) := by decide +kernel
theorem d_M_cell_161 : decode b_M_cell 161 = .ok (.if_icmp .ne 8, 3) := by decide +kernel
theorem d_M_cell_164 : decode b_M_cell 164 = .ok (.iload 5, 2) := by decide +kernel
theorem d_M_cell_166 : decode b_M_cell 166 = .ok (.goto 34, 3) := by decide +kernel
theorem d_M_cell_169 : decode b_M_cell 169 = .ok (.iload_n 2, 1) := by decide +kernel
theorem d_M_cell_170 : decode b_M_cell 170 = .ok (.iconst 2, 1) := by decide +kernel
theorem d_M_cell_171 : decode b_M_cell 171 = .ok (.if_icmp .ne 12, 3) := by decide +kernel
theorem d_M_cell_174 : decode b_M_cell 174 = .ok (.iload 4, 2) := by decide +kernel
theorem d_M_cell_176 : decode b_M_cell 176 = .ok (.iload_n 3, 1) := by decide +kernel
theorem d_M_cell_177 : decode b_M_cell 177 = .ok (.isub, 1) := by decide +kernel
theorem d_M_cell_178 : decode b_M_cell 178 = .ok (.iconst 1, 1) := by decide +kernel
theorem d_M_cell_179 : decode b_M_cell 179 = .ok (.iadd, 1) := by decide +kernel
theorem d_M_cell_180 : decode b_M_cell 180 = .ok (.goto 20, 3) := by decide +kernel
theorem d_M_cell_183 : decode b_M_cell 183 = .ok (.iload_n 2, 1) := by decide +kernel
theorem d_M_cell_184 : decode b_M_cell 184 = .ok (.iconst 3, 1) := by decide +kernel
theorem d_M_cell_185 : decode b_M_cell 185 = .ok (.if_icmp .ne 13, 3) := by decide +kernel
theorem d_M_cell_188 : decode b_M_cell 188 = .ok (.iload 6, 2) := by decide +kernel
theorem d_M_cell_190 : decode b_M_cell 190 = .ok (.iload 5, 2) := by decide +kernel
theorem d_M_cell_192 : decode b_M_cell 192 = .ok (.isub, 1) := by decide +kernel
theorem d_M_cell_193 : decode b_M_cell 193 = .ok (.iconst 1, 1) := by decide +kernel
theorem d_M_cell_194 : decode b_M_cell 194 = .ok (.iadd, 1) := by decide +kernel
theorem d_M_cell_195 : decode b_M_cell 195 = .ok (.goto 5, 3) := by decide +kernel
theorem d_M_cell_198 : decode b_M_cell 198 = .ok (.iload 7, 2) := by decide +kernel
theorem d_M_cell_200 : decode b_M_cell 200 = .ok (.ireturn, 1) := by decide +kernel
theorem d_M_isSpeck_0 : decode b_M_isSpeck 0 = .ok (.aload_n 0, 1) := by decide +kernel
theorem d_M_isSpeck_1 : decode b_M_isSpeck 1 = .ok (.aload_n 0, 1) := by decide +kernel
theorem d_M_isSpeck_2 : decode b_M_isSpeck 2 = .ok (.getfield 94, 3) := by decide +kernel
theorem d_M_isSpeck_5 : decode b_M_isSpeck 5 = .ok (.aload_n 0, 1) := by decide +kernel
theorem d_M_isSpeck_6 : decode b_M_isSpeck 6 = .ok (.iload_n 1, 1) := by decide +kernel
theorem d_M_isSpeck_7 : decode b_M_isSpeck 7 = .ok (.iload_n 2, 1) := by decide +kernel
theorem d_M_isSpeck_8 : decode b_M_isSpeck 8 = .ok (.invokevirtual 86, 3) := by decide +kernel
theorem d_M_isSpeck_11 : decode b_M_isSpeck 11 = .ok (.iconst 1, 1) := by decide +kernel
theorem d_M_isSpeck_12 : decode b_M_isSpeck 12 = .ok (.invokevirtual 90, 3) := by decide +kernel
theorem d_M_isSpeck_15 : decode b_M_isSpeck 15 = .ok (.ifCond .eq 21, 3) := by decide +kernel
theorem d_M_isSpeck_18 : decode b_M_isSpeck 18 = .ok (.aload_n 0, 1) := by decide +kernel
theorem d_M_isSpeck_19 : decode b_M_isSpeck 19 = .ok (.getfield 17, 3) := by decide +kernel
theorem d_M_isSpeck_22 : decode b_M_isSpeck 22 = .ok (.bipush 24, 2) := by decide +kernel
theorem d_M_isSpeck_24 : decode b_M_isSpeck 24 = .ok (.iload_n 2, 1) := by decide +kernel
theorem d_M_isSpeck_25 : decode b_M_isSpeck 25 = .ok (.imul, 1) := by decide +kernel
theorem d_M_isSpeck_26 : decode b_M_isSpeck 26 = .ok (.iload_n 1, 1) := by decide +kernel
theorem d_M_isSpeck_27 : decode b_M_isSpeck 27 = .ok (.iadd, 1) := by decide +kernel
theorem d_M_isSpeck_28 : decode b_M_isSpeck 28 = .ok (.baload, 1) := by decide +kernel
theorem d_M_isSpeck_29 : decode b_M_isSpeck 29 = .ok (.ifCond .eq 7, 3) := by decide +kernel
theorem d_M_isSpeck_32 : decode b_M_isSpeck 32 = .ok (.iconst 1, 1) := by decide +kernel
theorem d_M_isSpeck_33 : decode b_M_isSpeck 33 = .ok (.goto 4, 3) := by decide +kernel
theorem d_M_isSpeck_36 : decode b_M_isSpeck 36 = .ok (.iconst 0, 1) := by decide +kernel
theorem d_M_isSpeck_37 : decode b_M_isSpeck 37 = .ok (.ireturn, 1) := by decide +kernel
theorem d_M_told_0 : decode b_M_told 0 = .ok (.aload_n 0, 1) := by decide +kernel
theorem d_M_told_1 : decode b_M_told 1 = .ok (.iconst 0, 1) := by decide +kernel
theorem d_M_told_2 : decode b_M_told 2 = .ok (.putfield 79, 3) := by decide +kernel
theorem d_M_told_5 : decode b_M_told 5 = .ok (.iconst 0, 1) := by decide +kernel
theorem d_M_told_6 : decode b_M_told 6 = .ok (.istore_n 2, 1) := by decide +kernel
theorem d_M_told_7 : decode b_M_told 7 = .ok (.iconst 0, 1) := by decide +kernel
theorem d_M_told_8 : decode b_M_told 8 = .ok (.istore_n 3, 1) := by decide +kernel
theorem d_M_told_9 : decode b_M_told 9 = .ok (.iconst 0, 1) := by decide +kernel
theorem d_M_told_10 : decode b_M_told 10 = .ok (.istore 4, 2) := by decide +kernel
theorem d_M_told_12 : decode b_M_told 12 = .ok (.iload 4, 2) := by decide +kernel
theorem d_M_told_14 : decode b_M_told 14 = .ok (.aload_n 0, 1) := by decide +kernel
theorem d_M_told_15 : decode b_M_told 15 = .ok (.getfield 76, 3) := by decide +kernel
theorem d_M_told_18 : decode b_M_told 18 = .ok (.if_icmp .ge 82, 3) := by decide +kernel
theorem d_M_told_21 : decode b_M_told 21 = .ok (.iconst 0, 1) := by decide +kernel
theorem d_M_told_22 : decode b_M_told 22 = .ok (.istore 5, 2) := by decide +kernel
theorem d_M_told_24 : decode b_M_told 24 = .ok (.iload 5, 2) := by decide +kernel
theorem d_M_told_26 : decode b_M_told 26 = .ok (.aload_n 0, 1) := by decide +kernel
theorem d_M_told_27 : decode b_M_told 27 = .ok (.getfield 73, 3) := by decide +kernel
theorem d_M_told_30 : decode b_M_told 30 = .ok (.if_icmp .ge 64, 3) := by decide +kernel
theorem d_M_told_33 : decode b_M_told 33 = .ok (.aload_n 0, 1) := by decide +kernel
theorem d_M_told_34 : decode b_M_told 34 = .ok (.getfield 7, 3) := by decide +kernel
theorem d_M_told_37 : decode b_M_told 37 = .ok (.bipush 24, 2) := by decide +kernel
theorem d_M_told_39 : decode b_M_told 39 = .ok (.iload 4, 2) := by decide +kernel
theorem d_M_told_41 : decode b_M_told 41 = .ok (.imul, 1) := by decide +kernel
theorem d_M_told_42 : decode b_M_told 42 = .ok (.iload 5, 2) := by decide +kernel
theorem d_M_told_44 : decode b_M_told 44 = .ok (.iadd, 1) := by decide +kernel
theorem d_M_told_45 : decode b_M_told 45 = .ok (.baload, 1) := by decide +kernel
theorem d_M_told_46 : decode b_M_told 46 = .ok (.ifCond .eq 9, 3) := by decide +kernel
theorem d_M_told_49 : decode b_M_told 49 = .ok (.iload_n 2, 1) := by decide +kernel
theorem d_M_told_50 : decode b_M_told 50 = .ok (.iconst 1, 1) := by decide +kernel
theorem d_M_told_51 : decode b_M_told 51 = .ok (.iadd, 1) := by decide +kernel
theorem d_M_told_52 : decode b_M_told 52 = .ok (.goto 4, 3) := by decide +kernel
theorem d_M_told_55 : decode b_M_told 55 = .ok (.iload_n 2, 1) := by decide +kernel
theorem d_M_told_56 : decode b_M_told 56 = .ok (.istore_n 2, 1) := by decide +kernel
theorem d_M_told_57 : decode b_M_told 57 = .ok (.aload_n 0, 1) := by decide +kernel
theorem d_M_told_58 : decode b_M_told 58 = .ok (.getfield 94, 3) := by decide +kernel
theorem d_M_told_61 : decode b_M_told 61 = .ok (.ifCond .eq 25, 3) := by decide +kernel
theorem d_M_told_64 : decode b_M_told 64 = .ok (.aload_n 0, 1) := by decide +kernel
theorem d_M_told_65 : decode b_M_told 65 = .ok (.getfield 17, 3) := by decide +kernel
theorem d_M_told_68 : decode b_M_told 68 = .ok (.bipush 24, 2) := by decide +kernel
theorem d_M_told_70 : decode b_M_told 70 = .ok (.iload 4, 2) := by decide +kernel
theorem d_M_told_72 : decode b_M_told 72 = .ok (.imul, 1) := by decide +kernel
theorem d_M_told_73 : decode b_M_told 73 = .ok (.iload 5, 2) := by decide +kernel
theorem d_M_told_75 : decode b_M_told 75 = .ok (.iadd, 1) := by decide +kernel
theorem d_M_told_76 : decode b_M_told 76 = .ok (.baload, 1) := by decide +kernel
theorem d_M_told_77 : decode b_M_told 77 = .ok (.ifCond .eq 9, 3) := by decide +kernel
theorem d_M_told_80 : decode b_M_told 80 = .ok (.iload_n 3, 1) := by decide +kernel
theorem d_M_told_81 : decode b_M_told 81 = .ok (.iconst 1, 1) := by decide +kernel
theorem d_M_told_82 : decode b_M_told 82 = .ok (.iadd, 1) := by decide +kernel
theorem d_M_told_83 : decode b_M_told 83 = .ok (.goto 4, 3) := by decide +kernel
theorem d_M_told_86 : decode b_M_told 86 = .ok (.iload_n 3, 1) := by decide +kernel
theorem d_M_told_87 : decode b_M_told 87 = .ok (.istore_n 3, 1) := by decide +kernel
theorem d_M_told_88 : decode b_M_told 88 = .ok (.iinc 5 1, 3) := by decide +kernel
theorem d_M_told_91 : decode b_M_told 91 = .ok (.goto (-67), 3) := by decide +kernel
theorem d_M_told_94 : decode b_M_told 94 = .ok (.iinc 4 1, 3) := by decide +kernel
theorem d_M_told_97 : decode b_M_told 97 = .ok (.goto (-85), 3) := by decide +kernel
theorem d_M_told_100 : decode b_M_told 100 = .ok (.iload_n 1, 1) := by decide +kernel
theorem d_M_told_101 : decode b_M_told 101 = .ok (.iconst 3, 1) := by decide +kernel
theorem d_M_told_102 : decode b_M_told 102 = .ok (.if_icmp .ge 37, 3) := by decide +kernel
theorem d_M_told_105 : decode b_M_told 105 = .ok (.iload_n 1, 1) := by decide +kernel
theorem d_M_told_106 : decode b_M_told 106 = .ok (.ifCond .ne 10, 3) := by decide +kernel
theorem d_M_told_109 : decode b_M_told 109 = .ok (.aload_n 0, 1) := by decide +kernel
theorem d_M_told_110 : decode b_M_told 110 = .ok (.getfield 73, 3) := by decide +kernel
theorem d_M_told_113 : decode b_M_told 113 = .ok (.goto 25, 3) := by decide +kernel
theorem d_M_told_116 : decode b_M_told 116 = .ok (.iload_n 1, 1) := by decide +kernel
theorem d_M_told_117 : decode b_M_told 117 = .ok (.iconst 1, 1) := by decide +kernel
theorem d_M_told_118 : decode b_M_told 118 = .ok (.if_icmp .ne 10, 3) := by decide +kernel
theorem d_M_told_121 : decode b_M_told 121 = .ok (.aload_n 0, 1) := by decide +kernel
theorem d_M_told_122 : decode b_M_told 122 = .ok (.getfield 76, 3) := by decide +kernel
theorem d_M_told_125 : decode b_M_told 125 = .ok (.goto 13, 3) := by decide +kernel
theorem d_M_told_128 : decode b_M_told 128 = .ok (.iload_n 1, 1) := by decide +kernel
theorem d_M_told_129 : decode b_M_told 129 = .ok (.iconst 2, 1) := by decide +kernel
theorem d_M_told_130 : decode b_M_told 130 = .ok (.if_icmp .ne 7, 3) := by decide +kernel
theorem d_M_told_133 : decode b_M_told 133 = .ok (.iload_n 2, 1) := by decide +kernel
theorem d_M_told_134 : decode b_M_told 134 = .ok (.goto 4, 3) := by decide +kernel
theorem d_M_told_137 : decode b_M_told 137 = .ok (.iconst (-1), 1) := by decide +kernel
theorem d_M_told_138 : decode b_M_told 138 = .ok (.ireturn, 1) := by decide +kernel
theorem d_M_told_139 : decode b_M_told 139 = .ok (.aload_n 0, 1) := by decide +kernel
theorem d_M_told_140 : decode b_M_told 140 = .ok (.getfield 94, 3) := by decide +kernel
theorem d_M_told_143 : decode b_M_told 143 = .ok (.ifCond .ne 5, 3) := by decide +kernel
theorem d_M_told_146 : decode b_M_told 146 = .ok (.iconst (-1), 1) := by decide +kernel
theorem d_M_told_147 : decode b_M_told 147 = .ok (.ireturn, 1) := by decide +kernel
theorem d_M_told_148 : decode b_M_told 148 = .ok (.iload_n 1, 1) := by decide +kernel
theorem d_M_told_149 : decode b_M_told 149 = .ok (.iconst 3, 1) := by decide +kernel
theorem d_M_told_150 : decode b_M_told 150 = .ok (.if_icmp .ne 10, 3) := by decide +kernel
theorem d_M_told_153 : decode b_M_told 153 = .ok (.aload_n 0, 1) := by decide +kernel
theorem d_M_told_154 : decode b_M_told 154 = .ok (.getfield 116, 3) := by decide +kernel
theorem d_M_told_157 : decode b_M_told 157 = .ok (.goto 51, 3) := by decide +kernel
theorem d_M_told_160 : decode b_M_told 160 = .ok (.iload_n 1, 1) := by decide +kernel
theorem d_M_told_161 : decode b_M_told 161 = .ok (.iconst 4, 1) := by decide +kernel
theorem d_M_told_162 : decode b_M_told 162 = .ok (.if_icmp .ne 10, 3) := by decide +kernel
theorem d_M_told_165 : decode b_M_told 165 = .ok (.aload_n 0, 1) := by decide +kernel
theorem d_M_told_166 : decode b_M_told 166 = .ok (.getfield 127, 3) := by decide +kernel
theorem d_M_told_169 : decode b_M_told 169 = .ok (.goto 39, 3) := by decide +kernel
theorem d_M_told_172 : decode b_M_told 172 = .ok (.iload_n 1, 1) := by decide +kernel
theorem d_M_told_173 : decode b_M_told 173 = .ok (.iconst 5, 1) := by decide +kernel
theorem d_M_told_174 : decode b_M_told 174 = .ok (.if_icmp .ne 10, 3) := by decide +kernel
theorem d_M_told_177 : decode b_M_told 177 = .ok (.aload_n 0, 1) := by decide +kernel
theorem d_M_told_178 : decode b_M_told 178 = .ok (.getfield 134, 3) := by decide +kernel
theorem d_M_told_181 : decode b_M_told 181 = .ok (.goto 27, 3) := by decide +kernel
theorem d_M_told_184 : decode b_M_told 184 = .ok (.iload_n 1, 1) := by decide +kernel
theorem d_M_told_185 : decode b_M_told 185 = .ok (.bipush 6, 2) := by decide +kernel
theorem d_M_told_187 : decode b_M_told 187 = .ok (.if_icmp .ne 10, 3) := by decide +kernel
theorem d_M_told_190 : decode b_M_told 190 = .ok (.aload_n 0, 1) := by decide +kernel
theorem d_M_told_191 : decode b_M_told 191 = .ok (.getfield 137, 3) := by decide +kernel
theorem d_M_told_194 : decode b_M_told 194 = .ok (.goto 14, 3) := by decide +kernel
theorem d_M_told_197 : decode b_M_told 197 = .ok (.iload_n 1, 1) := by decide +kernel
theorem d_M_told_198 : decode b_M_told 198 = .ok (.bipush 7, 2) := by decide +kernel
theorem d_M_told_200 : decode b_M_told 200 = .ok (.if_icmp .ne 7, 3) := by decide +kernel
theorem d_M_told_203 : decode b_M_told 203 = .ok (.iload_n 3, 1) := by decide +kernel
theorem d_M_told_204 : decode b_M_told 204 = .ok (.goto 4, 3) := by decide +kernel
theorem d_M_told_207 : decode b_M_told 207 = .ok (.iconst (-1), 1) := by decide +kernel
theorem d_M_told_208 : decode b_M_told 208 = .ok (.ireturn, 1) := by decide +kernel
