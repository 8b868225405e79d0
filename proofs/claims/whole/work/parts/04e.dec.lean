theorem d_M_cleanIn_0 : decode b_M_cleanIn 0 = .ok (.iconst 0, 1) := by decide +kernel
theorem d_M_cleanIn_1 : decode b_M_cleanIn 1 = .ok (.istore 6, 2) := by decide +kernel
theorem d_M_cleanIn_3 : decode b_M_cleanIn 3 = .ok (.iload_n 2, 1) := by decide +kernel
theorem d_M_cleanIn_4 : decode b_M_cleanIn 4 = .ok (.istore 7, 2) := by decide +kernel
theorem d_M_cleanIn_6 : decode b_M_cleanIn 6 = .ok (.iload 7, 2) := by decide +kernel
theorem d_M_cleanIn_8 : decode b_M_cleanIn 8 = .ok (.iload 4, 2) := by decide +kernel
theorem d_M_cleanIn_10 : decode b_M_cleanIn 10 = .ok (.if_icmp .gt 73, 3) := by decide +kernel
theorem d_M_cleanIn_13 : decode b_M_cleanIn 13 = .ok (.iload_n 1, 1) := by decide +kernel
theorem d_M_cleanIn_14 : decode b_M_cleanIn 14 = .ok (.istore 8, 2) := by decide +kernel
theorem d_M_cleanIn_16 : decode b_M_cleanIn 16 = .ok (.iload 8, 2) := by decide +kernel
theorem d_M_cleanIn_18 : decode b_M_cleanIn 18 = .ok (.iload_n 3, 1) := by decide +kernel
theorem d_M_cleanIn_19 : decode b_M_cleanIn 19 = .ok (.if_icmp .gt 58, 3) := by decide +kernel
theorem d_M_cleanIn_22 : decode b_M_cleanIn 22 = .ok (.bipush 24, 2) := by decide +kernel
theorem d_M_cleanIn_24 : decode b_M_cleanIn 24 = .ok (.iload 7, 2) := by decide +kernel
theorem d_M_cleanIn_26 : decode b_M_cleanIn 26 = .ok (.imul, 1) := by decide +kernel
theorem d_M_cleanIn_27 : decode b_M_cleanIn 27 = .ok (.iload 8, 2) := by decide +kernel
theorem d_M_cleanIn_29 : decode b_M_cleanIn 29 = .ok (.iadd, 1) := by decide +kernel
theorem d_M_cleanIn_30 : decode b_M_cleanIn 30 = .ok (.istore 9, 2) := by decide +kernel
theorem d_M_cleanIn_32 : decode b_M_cleanIn 32 = .ok (.aload_n 0, 1) := by decide +kernel
theorem d_M_cleanIn_33 : decode b_M_cleanIn 33 = .ok (.getfield 20, 3) := by decide +kernel
theorem d_M_cleanIn_36 : decode b_M_cleanIn 36 = .ok (.iload 9, 2) := by decide +kernel
theorem d_M_cleanIn_38 : decode b_M_cleanIn 38 = .ok (.baload, 1) := by decide +kernel
theorem d_M_cleanIn_39 : decode b_M_cleanIn 39 = .ok (.ifCond .eq 28, 3) := by decide +kernel
theorem d_M_cleanIn_42 : decode b_M_cleanIn 42 = .ok (.iload 5, 2) := by decide +kernel
theorem d_M_cleanIn_44 : decode b_M_cleanIn 44 = .ok (.iconst (-1), 1) := by decide +kernel
theorem d_M_cleanIn_45 : decode b_M_cleanIn 45 = .ok (.if_icmp .eq 15, 3) := by decide +kernel
theorem d_M_cleanIn_48 : decode b_M_cleanIn 48 = .ok (.aload_n 0, 1) := by decide +kernel
theorem d_M_cleanIn_49 : decode b_M_cleanIn 49 = .ok (.getfield 33, 3) := by decide +kernel
theorem d_M_cleanIn_52 : decode b_M_cleanIn 52 = .ok (.iload 9, 2) := by decide +kernel
theorem d_M_cleanIn_54 : decode b_M_cleanIn 54 = .ok (.iaload, 1) := by decide +kernel
theorem d_M_cleanIn_55 : decode b_M_cleanIn 55 = .ok (.iload 5, 2) := by decide +kernel
theorem d_M_cleanIn_57 : decode b_M_cleanIn 57 = .ok (.if_icmp .ne 10, 3) := by decide +kernel
theorem d_M_cleanIn_60 : decode b_M_cleanIn 60 = .ok (.iload 6, 2) := by decide +kernel
theorem d_M_cleanIn_62 : decode b_M_cleanIn 62 = .ok (.iconst 1, 1) := by decide +kernel
theorem d_M_cleanIn_63 : decode b_M_cleanIn 63 = .ok (.iadd, 1) := by decide +kernel
theorem d_M_cleanIn_64 : decode b_M_cleanIn 64 = .ok (.goto 5, 3) := by decide +kernel
theorem d_M_cleanIn_67 : decode b_M_cleanIn 67 = .ok (.iload 6, 2) := by decide +kernel
theorem d_M_cleanIn_69 : decode b_M_cleanIn 69 = .ok (.istore 6, 2) := by decide +kernel
theorem d_M_cleanIn_71 : decode b_M_cleanIn 71 = .ok (.iinc 8 1, 3) := by decide +kernel
theorem d_M_cleanIn_74 : decode b_M_cleanIn 74 = .ok (.goto (-58), 3) := by decide +kernel
theorem d_M_cleanIn_77 : decode b_M_cleanIn 77 = .ok (.iinc 7 1, 3) := by decide +kernel
theorem d_M_cleanIn_80 : decode b_M_cleanIn 80 = .ok (.goto (-74), 3) := by decide +kernel
theorem d_M_cleanIn_83 : decode b_M_cleanIn 83 = .ok (.iload 6, 2) := by decide +kernel
theorem d_M_cleanIn_85 : decode b_M_cleanIn 85 = .ok (.ireturn, 1) := by decide +kernel
theorem d_M_takeParts_0 : decode b_M_takeParts 0 = .ok (.aload_n 0, 1) := by decide +kernel
theorem d_M_takeParts_1 : decode b_M_takeParts 1 = .ok (.iconst 1, 1) := by decide +kernel
theorem d_M_takeParts_2 : decode b_M_takeParts 2 = .ok (.iconst 0, 1) := by decide +kernel
theorem d_M_takeParts_3 : decode b_M_takeParts 3 = .ok (.invokevirtual 105, 3) := by decide +kernel
theorem d_M_takeParts_6 : decode b_M_takeParts 6 = .ok (.aload_n 0, 1) := by decide +kernel
theorem d_M_takeParts_7 : decode b_M_takeParts 7 = .ok (.iconst 0, 1) := by decide +kernel
theorem d_M_takeParts_8 : decode b_M_takeParts 8 = .ok (.putfield 116, 3) := by decide +kernel
theorem d_M_takeParts_11 : decode b_M_takeParts 11 = .ok (.iconst 0, 1) := by decide +kernel
theorem d_M_takeParts_12 : decode b_M_takeParts 12 = .ok (.istore_n 1, 1) := by decide +kernel
theorem d_M_takeParts_13 : decode b_M_takeParts 13 = .ok (.iload_n 1, 1) := by decide +kernel
theorem d_M_takeParts_14 : decode b_M_takeParts 14 = .ok (.aload_n 0, 1) := by decide +kernel
theorem d_M_takeParts_15 : decode b_M_takeParts 15 = .ok (.getfield 76, 3) := by decide +kernel
theorem d_M_takeParts_18 : decode b_M_takeParts 18 = .ok (.if_icmp .ge 209, 3) := by decide +kernel
theorem d_M_takeParts_21 : decode b_M_takeParts 21 = .ok (.iconst 0, 1) := by decide +kernel
theorem d_M_takeParts_22 : decode b_M_takeParts 22 = .ok (.istore_n 2, 1) := by decide +kernel
theorem d_M_takeParts_23 : decode b_M_takeParts 23 = .ok (.iload_n 2, 1) := by decide +kernel
theorem d_M_takeParts_24 : decode b_M_takeParts 24 = .ok (.aload_n 0, 1) := by decide +kernel
theorem d_M_takeParts_25 : decode b_M_takeParts 25 = .ok (.getfield 73, 3) := by decide +kernel
theorem d_M_takeParts_28 : decode b_M_takeParts 28 = .ok (.if_icmp .ge 193, 3) := by decide +kernel
theorem d_M_takeParts_31 : decode b_M_takeParts 31 = .ok (.bipush 24, 2) := by decide +kernel
theorem d_M_takeParts_33 : decode b_M_takeParts 33 = .ok (.iload_n 1, 1) := by decide +kernel
theorem d_M_takeParts_34 : decode b_M_takeParts 34 = .ok (.imul, 1) := by decide +kernel
theorem d_M_takeParts_35 : decode b_M_takeParts 35 = .ok (.iload_n 2, 1) := by decide +kernel
theorem d_M_takeParts_36 : decode b_M_takeParts 36 = .ok (.iadd, 1) := by decide +kernel
theorem d_M_takeParts_37 : decode b_M_takeParts 37 = .ok (.istore_n 3, 1) := by decide +kernel
theorem d_M_takeParts_38 : decode b_M_takeParts 38 = .ok (.aload_n 0, 1) := by decide +kernel
theorem d_M_takeParts_39 : decode b_M_takeParts 39 = .ok (.getfield 33, 3) := by decide +kernel
theorem d_M_takeParts_42 : decode b_M_takeParts 42 = .ok (.iload_n 3, 1) := by decide +kernel
theorem d_M_takeParts_43 : decode b_M_takeParts 43 = .ok (.iconst (-1), 1) := by decide +kernel
theorem d_M_takeParts_44 : decode b_M_takeParts 44 = .ok (.iastore, 1) := by decide +kernel
theorem d_M_takeParts_45 : decode b_M_takeParts 45 = .ok (.aload_n 0, 1) := by decide +kernel
theorem d_M_takeParts_46 : decode b_M_takeParts 46 = .ok (.getfield 29, 3) := by decide +kernel
theorem d_M_takeParts_49 : decode b_M_takeParts 49 = .ok (.iload_n 3, 1) := by decide +kernel
theorem d_M_takeParts_50 : decode b_M_takeParts 50 = .ok (.iaload, 1) := by decide +kernel
theorem d_M_takeParts_51 : decode b_M_takeParts 51 = .ok (.iload_n 3, 1) := by decide +kernel
theorem d_M_takeParts_52 : decode b_M_takeParts 52 = .ok (.if_icmp .ne 66, 3) := by decide +kernel
theorem d_M_takeParts_55 : decode b_M_takeParts 55 = .ok (.aload_n 0, 1) := by decide +kernel
theorem d_M_takeParts_56 : decode b_M_takeParts 56 = .ok (.getfield 33, 3) := by decide +kernel
theorem d_M_takeParts_59 : decode b_M_takeParts 59 = .ok (.iload_n 3, 1) := by decide +kernel
theorem d_M_takeParts_60 : decode b_M_takeParts 60 = .ok (.aload_n 0, 1) := by decide +kernel
theorem d_M_takeParts_61 : decode b_M_takeParts 61 = .ok (.getfield 116, 3) := by decide +kernel
theorem d_M_takeParts_64 : decode b_M_takeParts 64 = .ok (.iastore, 1) := by decide +kernel
theorem d_M_takeParts_65 : decode b_M_takeParts 65 = .ok (.aload_n 0, 1) := by decide +kernel
theorem d_M_takeParts_66 : decode b_M_takeParts 66 = .ok (.getfield 36, 3) := by decide +kernel
theorem d_M_takeParts_69 : decode b_M_takeParts 69 = .ok (.aload_n 0, 1) := by decide +kernel
theorem d_M_takeParts_70 : decode b_M_takeParts 70 = .ok (.getfield 116, 3) := by decide +kernel
theorem d_M_takeParts_73 : decode b_M_takeParts 73 = .ok (.iload_n 2, 1) := by decide +kernel
theorem d_M_takeParts_74 : decode b_M_takeParts 74 = .ok (.iastore, 1) := by decide +kernel
theorem d_M_takeParts_75 : decode b_M_takeParts 75 = .ok (.aload_n 0, 1) := by decide +kernel
theorem d_M_takeParts_76 : decode b_M_takeParts 76 = .ok (.getfield 42, 3) := by decide +kernel
theorem d_M_takeParts_79 : decode b_M_takeParts 79 = .ok (.aload_n 0, 1) := by decide +kernel
theorem d_M_takeParts_80 : decode b_M_takeParts 80 = .ok (.getfield 116, 3) := by decide +kernel
theorem d_M_takeParts_83 : decode b_M_takeParts 83 = .ok (.iload_n 2, 1) := by decide +kernel
theorem d_M_takeParts_84 : decode b_M_takeParts 84 = .ok (.iastore, 1) := by decide +kernel
theorem d_M_takeParts_85 : decode b_M_takeParts 85 = .ok (.aload_n 0, 1) := by decide +kernel
theorem d_M_takeParts_86 : decode b_M_takeParts 86 = .ok (.getfield 39, 3) := by decide +kernel
theorem d_M_takeParts_89 : decode b_M_takeParts 89 = .ok (.aload_n 0, 1) := by decide +kernel
theorem d_M_takeParts_90 : decode b_M_takeParts 90 = .ok (.getfield 116, 3) := by decide +kernel
theorem d_M_takeParts_93 : decode b_M_takeParts 93 = .ok (.iload_n 1, 1) := by decide +kernel
theorem d_M_takeParts_94 : decode b_M_takeParts 94 = .ok (.iastore, 1) := by decide +kernel
theorem d_M_takeParts_95 : decode b_M_takeParts 95 = .ok (.aload_n 0, 1) := by decide +kernel
theorem d_M_takeParts_96 : decode b_M_takeParts 96 = .ok (.getfield 45, 3) := by decide +kernel
theorem d_M_takeParts_99 : decode b_M_takeParts 99 = .ok (.aload_n 0, 1) := by decide +kernel
theorem d_M_takeParts_100 : decode b_M_takeParts 100 = .ok (.getfield 116, 3) := by decide +kernel
theorem d_M_takeParts_103 : decode b_M_takeParts 103 = .ok (.iload_n 1, 1) := by decide +kernel
theorem d_M_takeParts_104 : decode b_M_takeParts 104 = .ok (.iastore, 1) := by decide +kernel
theorem d_M_takeParts_105 : decode b_M_takeParts 105 = .ok (.aload_n 0, 1) := by decide +kernel
theorem d_M_takeParts_106 : decode b_M_takeParts 106 = .ok (.dup, 1) := by decide +kernel
theorem d_M_takeParts_107 : decode b_M_takeParts 107 = .ok (.getfield 116, 3) := by decide +kernel
theorem d_M_takeParts_110 : decode b_M_takeParts 110 = .ok (.iconst 1, 1) := by decide +kernel
theorem d_M_takeParts_111 : decode b_M_takeParts 111 = .ok (.iadd, 1) := by decide +kernel
theorem d_M_takeParts_112 : decode b_M_takeParts 112 = .ok (.putfield 116, 3) := by decide +kernel
theorem d_M_takeParts_115 : decode b_M_takeParts 115 = .ok (.goto 100, 3) := by decide +kernel
theorem d_M_takeParts_118 : decode b_M_takeParts 118 = .ok (.aload_n 0, 1) := by decide +kernel
theorem d_M_takeParts_119 : decode b_M_takeParts 119 = .ok (.getfield 29, 3) := by decide +kernel
theorem d_M_takeParts_122 : decode b_M_takeParts 122 = .ok (.iload_n 3, 1) := by decide +kernel
theorem d_M_takeParts_123 : decode b_M_takeParts 123 = .ok (.iaload, 1) := by decide +kernel
theorem d_M_takeParts_124 : decode b_M_takeParts 124 = .ok (.iconst (-1), 1) := by decide +kernel
theorem d_M_takeParts_125 : decode b_M_takeParts 125 = .ok (.if_icmp .eq 90, 3) := by decide +kernel
theorem d_M_takeParts_128 : decode b_M_takeParts 128 = .ok (.aload_n 0, 1) := by decide +kernel
theorem d_M_takeParts_129 : decode b_M_takeParts 129 = .ok (.getfield 33, 3) := by decide +kernel
theorem d_M_takeParts_132 : decode b_M_takeParts 132 = .ok (.aload_n 0, 1) := by decide +kernel
theorem d_M_takeParts_133 : decode b_M_takeParts 133 = .ok (.getfield 29, 3) := by decide +kernel
theorem d_M_takeParts_136 : decode b_M_takeParts 136 = .ok (.iload_n 3, 1) := by decide +kernel
theorem d_M_takeParts_137 : decode b_M_takeParts 137 = .ok (.iaload, 1) := by decide +kernel
theorem d_M_takeParts_138 : decode b_M_takeParts 138 = .ok (.iaload, 1) := by decide +kernel
theorem d_M_takeParts_139 : decode b_M_takeParts 139 = .ok (.istore 4, 2) := by decide +kernel
theorem d_M_takeParts_141 : decode b_M_takeParts 141 = .ok (.aload_n 0, 1) := by decide +kernel
theorem d_M_takeParts_142 : decode b_M_takeParts 142 = .ok (.getfield 33, 3) := by decide +kernel
theorem d_M_takeParts_145 : decode b_M_takeParts 145 = .ok (.iload_n 3, 1) := by decide +kernel
theorem d_M_takeParts_146 : decode b_M_takeParts 146 = .ok (.iload 4, 2) := by decide +kernel
theorem d_M_takeParts_148 : decode b_M_takeParts 148 = .ok (.iastore, 1) := by decide +kernel
theorem d_M_takeParts_149 : decode b_M_takeParts 149 = .ok (.aload_n 0, 1) := by decide +kernel
theorem d_M_takeParts_150 : decode b_M_takeParts 150 = .ok (.getfield 36, 3) := by decide +kernel
theorem d_M_takeParts_153 : decode b_M_takeParts 153 = .ok (.iload 4, 2) := by decide +kernel
theorem d_M_takeParts_155 : decode b_M_takeParts 155 = .ok (.iload_n 2, 1) := by decide +kernel
theorem d_M_takeParts_156 : decode b_M_takeParts 156 = .ok (.aload_n 0, 1) := by decide +kernel
theorem d_M_takeParts_157 : decode b_M_takeParts 157 = .ok (.getfield 36, 3) := by decide +kernel
theorem d_M_takeParts_160 : decode b_M_takeParts 160 = .ok (.iload 4, 2) := by decide +kernel
theorem d_M_takeParts_162 : decode b_M_takeParts 162 = .ok (.iaload, 1) := by decide +kernel
theorem d_M_takeParts_163 : decode b_M_takeParts 163 = .ok (.if_icmp .ge 7, 3) := by decide +kernel
theorem d_M_takeParts_166 : decode b_M_takeParts 166 = .ok (.iload_n 2, 1) := by decide +kernel
theorem d_M_takeParts_167 : decode b_M_takeParts 167 = .ok (.goto 10, 3) := by decide +kernel
theorem d_M_takeParts_170 : decode b_M_takeParts 170 = .ok (.aload_n 0, 1) := by decide +kernel
theorem d_M_takeParts_171 : decode b_M_takeParts 171 = .ok (.getfield 36, 3) := by decide +kernel
theorem d_M_takeParts_174 : decode b_M_takeParts 174 = .ok (.iload 4, 2) := by decide +kernel
theorem d_M_takeParts_176 : decode b_M_takeParts 176 = .ok (.iaload, 1) := by decide +kernel
theorem d_M_takeParts_177 : decode b_M_takeParts 177 = .ok (.iastore, 1) := by decide +kernel
theorem d_M_takeParts_178 : decode b_M_takeParts 178 = .ok (.aload_n 0, 1) := by decide +kernel
theorem d_M_takeParts_179 : decode b_M_takeParts 179 = .ok (.getfield 42, 3) := by decide +kernel
theorem d_M_takeParts_182 : decode b_M_takeParts 182 = .ok (.iload 4, 2) := by decide +kernel
theorem d_M_takeParts_184 : decode b_M_takeParts 184 = .ok (.iload_n 2, 1) := by decide +kernel
theorem d_M_takeParts_185 : decode b_M_takeParts 185 = .ok (.aload_n 0, 1) := by decide +kernel
theorem d_M_takeParts_186 : decode b_M_takeParts 186 = .ok (.getfield 42, 3) := by decide +kernel
theorem d_M_takeParts_189 : decode b_M_takeParts 189 = .ok (.iload 4, 2) := by decide +kernel
theorem d_M_takeParts_191 : decode b_M_takeParts 191 = .ok (.iaload, 1) := by decide +kernel
theorem d_M_takeParts_192 : decode b_M_takeParts 192 = .ok (.if_icmp .le 7, 3) := by decide +kernel
theorem d_M_takeParts_195 : decode b_M_takeParts 195 = .ok (.iload_n 2, 1) := by decide +kernel
theorem d_M_takeParts_196 : decode b_M_takeParts 196 = .ok (.goto 10, 3) := by decide +kernel
theorem d_M_takeParts_199 : decode b_M_takeParts 199 = .ok (.aload_n 0, 1) := by decide +kernel
theorem d_M_takeParts_200 : decode b_M_takeParts 200 = .ok (.getfield 42, 3) := by decide +kernel
theorem d_M_takeParts_203 : decode b_M_takeParts 203 = .ok (.iload 4, 2) := by decide +kernel
theorem d_M_takeParts_205 : decode b_M_takeParts 205 = .ok (.iaload, 1) := by decide +kernel
theorem d_M_takeParts_206 : decode b_M_takeParts 206 = .ok (.iastore, 1) := by decide +kernel
theorem d_M_takeParts_207 : decode b_M_takeParts 207 = .ok (.aload_n 0, 1) := by decide +kernel
theorem d_M_takeParts_208 : decode b_M_takeParts 208 = .ok (.getfield 45, 3) := by decide +kernel
theorem d_M_takeParts_211 : decode b_M_takeParts 211 = .ok (.iload 4, 2) := by decide +kernel
theorem d_M_takeParts_213 : decode b_M_takeParts 213 = .ok (.iload_n 1, 1) := by decide +kernel
theorem d_M_takeParts_214 : decode b_M_takeParts 214 = .ok (.iastore, 1) := by decide +kernel
theorem d_M_takeParts_215 : decode b_M_takeParts 215 = .ok (.iinc 2 1, 3) := by decide +kernel
theorem d_M_takeParts_218 : decode b_M_takeParts 218 = .ok (.goto (-195), 3) := by decide +kernel
theorem d_M_takeParts_221 : decode b_M_takeParts 221 = .ok (.iinc 1 1, 3) := by decide +kernel
theorem d_M_takeParts_224 : decode b_M_takeParts 224 = .ok (.goto (-211), 3) := by decide +kernel
theorem d_M_takeParts_227 : decode b_M_takeParts 227 = .ok (.iconst 0, 1) := by decide +kernel
theorem d_M_takeParts_228 : decode b_M_takeParts 228 = .ok (.istore_n 1, 1) := by decide +kernel
theorem d_M_takeParts_229 : decode b_M_takeParts 229 = .ok (.iload_n 1, 1) := by decide +kernel
theorem d_M_takeParts_230 : decode b_M_takeParts 230 = .ok (.aload_n 0, 1) := by decide +kernel
theorem d_M_takeParts_231 : decode b_M_takeParts 231 = .ok (.getfield 116, 3) := by decide +kernel
theorem d_M_takeParts_234 : decode b_M_takeParts 234 = .ok (.if_icmp .ge 43, 3) := by decide +kernel
theorem d_M_takeParts_237 : decode b_M_takeParts 237 = .ok (.aload_n 0, 1) := by decide +kernel
theorem d_M_takeParts_238 : decode b_M_takeParts 238 = .ok (.getfield 48, 3) := by decide +kernel
theorem d_M_takeParts_241 : decode b_M_takeParts 241 = .ok (.iload_n 1, 1) := by decide +kernel
theorem d_M_takeParts_242 : decode b_M_takeParts 242 = .ok (.aload_n 0, 1) := by decide +kernel
theorem d_M_takeParts_243 : decode b_M_takeParts 243 = .ok (.aload_n 0, 1) := by decide +kernel
theorem d_M_takeParts_244 : decode b_M_takeParts 244 = .ok (.getfield 36, 3) := by decide +kernel
theorem d_M_takeParts_247 : decode b_M_takeParts 247 = .ok (.iload_n 1, 1) := by decide +kernel
theorem d_M_takeParts_248 : decode b_M_takeParts 248 = .ok (.iaload, 1) := by decide +kernel
theorem d_M_takeParts_249 : decode b_M_takeParts 249 = .ok (.aload_n 0, 1) := by decide +kernel
theorem d_M_takeParts_250 : decode b_M_takeParts 250 = .ok (.getfield 39, 3) := by decide +kernel
theorem d_M_takeParts_253 : decode b_M_takeParts 253 = .ok (.iload_n 1, 1) := by decide +kernel
theorem d_M_takeParts_254 : decode b_M_takeParts 254 = .ok (.iaload, 1) := by decide +kernel
theorem d_M_takeParts_255 : decode b_M_takeParts 255 = .ok (.aload_n 0, 1) := by decide +kernel
theorem d_M_takeParts_256 : decode b_M_takeParts 256 = .ok (.getfield 42, 3) := by decide +kernel
theorem d_M_takeParts_259 : decode b_M_takeParts 259 = .ok (.iload_n 1, 1) := by decide +kernel
theorem d_M_takeParts_260 : decode b_M_takeParts 260 = .ok (.iaload, 1) := by decide +kernel
theorem d_M_takeParts_261 : decode b_M_takeParts 261 = .ok (.aload_n 0, 1) := by decide +kernel
theorem d_M_takeParts_262 : decode b_M_takeParts 262 = .ok (.getfield 45, 3) := by decide +kernel
theorem d_M_takeParts_265 : decode b_M_takeParts 265 = .ok (.iload_n 1, 1) := by decide +kernel
theorem d_M_takeParts_266 : decode b_M_takeParts 266 = .ok (.iaload, 1) := by decide +kernel
theorem d_M_takeParts_267 : decode b_M_takeParts 267 = .ok (.invokevirtual 119, 3) := by decide +kernel
theorem d_M_takeParts_270 : decode b_M_takeParts 270 = .ok (.iastore, 1) := by decide +kernel
theorem d_M_takeParts_271 : decode b_M_takeParts 271 = .ok (.iinc 1 1, 3) := by decide +kernel
theorem d_M_takeParts_274 : decode b_M_takeParts 274 = .ok (.goto (-45), 3) := by decide +kernel
theorem d_M_takeParts_277 : decode b_M_takeParts 277 = .ok (.return_, 1) := by decide +kernel
theorem d_M_kindOf_0 : decode b_M_kindOf 0 = .ok (.iload_n 3, 1) := by decide +kernel
theorem d_M_kindOf_1 : decode b_M_kindOf 1 = .ok (.iload_n 1, 1) := by decide +kernel
theorem d_M_kindOf_2 : decode b_M_kindOf 2 = .ok (.isub, 1) := by decide +kernel
theorem d_M_kindOf_3 : decode b_M_kindOf 3 = .ok (.iconst 1, 1) := by decide +kernel
theorem d_M_kindOf_4 : decode b_M_kindOf 4 = .ok (.iadd, 1) := by decide +kernel
theorem d_M_kindOf_5 : decode b_M_kindOf 5 = .ok (.istore 5, 2) := by decide +kernel
theorem d_M_kindOf_7 : decode b_M_kindOf 7 = .ok (.iload 4, 2) := by decide +kernel
theorem d_M_kindOf_9 : decode b_M_kindOf 9 = .ok (.iload_n 2, 1) := by decide +kernel
theorem d_M_kindOf_10 : decode b_M_kindOf 10 = .ok (.isub, 1) := by decide +kernel
theorem d_M_kindOf_11 : decode b_M_kindOf 11 = .ok (.iconst 1, 1) := by decide +kernel
theorem d_M_kindOf_12 : decode b_M_kindOf 12 = .ok (.iadd, 1) := by decide +kernel
theorem d_M_kindOf_13 : decode b_M_kindOf 13 = .ok (.istore 6, 2) := by decide +kernel
theorem d_M_kindOf_15 : decode b_M_kindOf 15 = .ok (.iload 6, 2) := by decide +kernel
theorem d_M_kindOf_17 : decode b_M_kindOf 17 = .ok (.iconst 2, 1) := by decide +kernel
theorem d_M_kindOf_18 : decode b_M_kindOf 18 = .ok (.if_icmp .gt 12, 3) := by decide +kernel
theorem d_M_kindOf_21 : decode b_M_kindOf 21 = .ok (.iload 5, 2) := by decide +kernel
theorem d_M_kindOf_23 : decode b_M_kindOf 23 = .ok (.iconst 5, 1) := by decide +kernel
theorem d_M_kindOf_24 : decode b_M_kindOf 24 = .ok (.iload 6, 2) := by decide +kernel
theorem d_M_kindOf_26 : decode b_M_kindOf 26 = .ok (.imul, 1) := by decide +kernel
theorem d_M_kindOf_27 : decode b_M_kindOf 27 = .ok (.if_icmp .ge 18, 3) := by decide +kernel
theorem d_M_kindOf_30 : decode b_M_kindOf 30 = .ok (.iload 5, 2) := by decide +kernel
theorem d_M_kindOf_32 : decode b_M_kindOf 32 = .ok (.iconst 2, 1) := by decide +kernel
theorem d_M_kindOf_33 : decode b_M_kindOf 33 = .ok (.if_icmp .gt 14, 3) := by decide +kernel
theorem d_M_kindOf_36 : decode b_M_kindOf 36 = .ok (.iload 6, 2) := by decide +kernel
theorem d_M_kindOf_38 : decode b_M_kindOf 38 = .ok (.iconst 5, 1) := by decide +kernel
theorem d_M_kindOf_39 : decode b_M_kindOf 39 = .ok (.iload 5, 2) := by decide +kernel
theorem d_M_kindOf_41 : decode b_M_kindOf 41 = .ok (.imul, 1) := by decide +kernel
theorem d_M_kindOf_42 : decode b_M_kindOf 42 = .ok (.if_icmp .lt 5, 3) := by decide +kernel
theorem d_M_kindOf_45 : decode b_M_kindOf 45 = .ok (.iconst 1, 1) := by decide +kernel
theorem d_M_kindOf_46 : decode b_M_kindOf 46 = .ok (.ireturn, 1) := by decide +kernel
theorem d_M_kindOf_47 : decode b_M_kindOf 47 = .ok (.iload 5, 2) := by decide +kernel
theorem d_M_kindOf_49 : decode b_M_kindOf 49 = .ok (.bipush 7, 2) := by decide +kernel
theorem d_M_kindOf_51 : decode b_M_kindOf 51 = .ok (.if_icmp .lt 10, 3) := by decide +kernel
theorem d_M_kindOf_54 : decode b_M_kindOf 54 = .ok (.iload 6, 2) := by decide +kernel
theorem d_M_kindOf_56 : decode b_M_kindOf 56 = .ok (.bipush 7, 2) := by decide +kernel
theorem d_M_kindOf_58 : decode b_M_kindOf 58 = .ok (.if_icmp .ge 5, 3) := by decide +kernel
theorem d_M_kindOf_61 : decode b_M_kindOf 61 = .ok (.iconst 0, 1) := by decide +kernel
theorem d_M_kindOf_62 : decode b_M_kindOf 62 = .ok (.ireturn, 1) := by decide +kernel
theorem d_M_kindOf_63 : decode b_M_kindOf 63 = .ok (.iconst 4, 1) := by decide +kernel
theorem d_M_kindOf_64 : decode b_M_kindOf 64 = .ok (.aload_n 0, 1) := by decide +kernel
theorem d_M_kindOf_65 : decode b_M_kindOf 65 = .ok (.iload_n 1, 1) := by decide +kernel
theorem d_M_kindOf_66 : decode b_M_kindOf 66 = .ok (.iload_n 2, 1) := by decide +kernel
theorem d_M_kindOf_67 : decode b_M_kindOf 67 = .ok (.iload_n 3, 1) := by decide +kernel
theorem d_M_kindOf_68 : decode b_M_kindOf 68 = .ok (.iload_n 2, 1) := by decide +kernel
theorem d_M_kindOf_69 : decode b_M_kindOf 69 = .ok (.iconst (-1), 1) := by decide +kernel
theorem d_M_kindOf_70 : decode b_M_kindOf 70 = .ok (.invokevirtual 123, 3) := by decide +kernel
theorem d_M_kindOf_73 : decode b_M_kindOf 73 = .ok (.imul, 1) := by decide +kernel
theorem d_M_kindOf_74 : decode b_M_kindOf 74 = .ok (.iconst 3, 1) := by decide +kernel
theorem d_M_kindOf_75 : decode b_M_kindOf 75 = .ok (.iload 5, 2) := by decide +kernel
theorem d_M_kindOf_77 : decode b_M_kindOf 77 = .ok (.imul, 1) := by decide +kernel
theorem d_M_kindOf_78 : decode b_M_kindOf 78 = .ok (.if_icmp .lt 27, 3) := by decide +kernel
theorem d_M_kindOf_81 : decode b_M_kindOf 81 = .ok (.iconst 4, 1) := by decide +kernel
theorem d_M_kindOf_82 : decode b_M_kindOf 82 = .ok (.aload_n 0, 1) := by decide +kernel
theorem d_M_kindOf_83 : decode b_M_kindOf 83 = .ok (.iload_n 1, 1) := by decide +kernel
theorem d_M_kindOf_84 : decode b_M_kindOf 84 = .ok (.iload 4, 2) := by decide +kernel
theorem d_M_kindOf_86 : decode b_M_kindOf 86 = .ok (.iload_n 3, 1) := by decide +kernel
theorem d_M_kindOf_87 : decode b_M_kindOf 87 = .ok (.iload 4, 2) := by decide +kernel
theorem d_M_kindOf_89 : decode b_M_kindOf 89 = .ok (.iconst (-1), 1) := by decide +kernel
theorem d_M_kindOf_90 : decode b_M_kindOf 90 = .ok (.invokevirtual 123, 3) := by decide +kernel
theorem d_M_kindOf_93 : decode b_M_kindOf 93 = .ok (.imul, 1) := by decide +kernel
theorem d_M_kindOf_94 : decode b_M_kindOf 94 = .ok (.iconst 3, 1) := by decide +kernel
theorem d_M_kindOf_95 : decode b_M_kindOf 95 = .ok (.iload 5, 2) := by decide +kernel
theorem d_M_kindOf_97 : decode b_M_kindOf 97 = .ok (.imul, 1) := by decide +kernel
theorem d_M_kindOf_98 : decode b_M_kindOf 98 = .ok (.if_icmp .lt 7, 3) := by decide +kernel
theorem d_M_kindOf_101 : decode b_M_kindOf 101 = .ok (.iconst 1, 1) := by decide +kernel
theorem d_M_kindOf_102 : decode b_M_kindOf 102 = .ok (.goto 4, 3) := by decide +kernel
theorem d_M_kindOf_105 : decode b_M_kindOf 105 = .ok (.iconst 0, 1) := by decide +kernel
theorem d_M_kindOf_106 : decode b_M_kindOf 106 = .ok (.istore 7, 2) := by decide +kernel
theorem d_M_kindOf_108 : decode b_M_kindOf 108 = .ok (.iconst 4, 1) := by decide +kernel
theorem d_M_kindOf_109 : decode b_M_kindOf 109 = .ok (.aload_n 0, 1) := by decide +kernel
theorem d_M_kindOf_110 : decode b_M_kindOf 110 = .ok (.iload_n 1, 1) := by decide +kernel
theorem d_M_kindOf_111 : decode b_M_kindOf 111 = .ok (.iload_n 2, 1) := by decide +kernel
theorem d_M_kindOf_112 : decode b_M_kindOf 112 = .ok (.iload_n 1, 1) := by decide +kernel
theorem d_M_kindOf_113 : decode b_M_kindOf 113 = .ok (.iload 4, 2) := by decide +kernel
theorem d_M_kindOf_115 : decode b_M_kindOf 115 = .ok (.iconst (-1), 1) := by decide +kernel
theorem d_M_kindOf_116 : decode b_M_kindOf 116 = .ok (.invokevirtual 123, 3) := by decide +kernel
theorem d_M_kindOf_119 : decode b_M_kindOf 119 = .ok (.imul, 1) := by decide +kernel
theorem d_M_kindOf_120 : decode b_M_kindOf 120 = .ok (.iconst 3, 1) := by decide +kernel
theorem d_M_kindOf_121 : decode b_M_kindOf 121 = .ok (.iload 6, 2) := by decide +kernel
theorem d_M_kindOf_123 : decode b_M_kindOf 123 = .ok (.imul, 1) := by decide +kernel
theorem d_M_kindOf_124 : decode b_M_kindOf 124 = .ok (.if_icmp .lt 26, 3) := by decide +kernel
theorem d_M_kindOf_127 : decode b_M_kindOf 127 = .ok (.iconst 4, 1) := by decide +kernel
theorem d_M_kindOf_128 : decode b_M_kindOf 128 = .ok (.aload_n 0, 1) := by decide +kernel
theorem d_M_kindOf_129 : decode b_M_kindOf 129 = .ok (.iload_n 3, 1) := by decide +kernel
theorem d_M_kindOf_130 : decode b_M_kindOf 130 = .ok (.iload_n 2, 1) := by decide +kernel
theorem d_M_kindOf_131 : decode b_M_kindOf 131 = .ok (.iload_n 3, 1) := by decide +kernel
theorem d_M_kindOf_132 : decode b_M_kindOf 132 = .ok (.iload 4, 2) := by decide +kernel
theorem d_M_kindOf_134 : decode b_M_kindOf 134 = .ok (.iconst (-1), 1) := by decide +kernel
theorem d_M_kindOf_135 : decode b_M_kindOf 135 = .ok (.invokevirtual 123, 3) := by decide +kernel
theorem d_M_kindOf_138 : decode b_M_kindOf 138 = .ok (.imul, 1) := by decide +kernel
theorem d_M_kindOf_139 : decode b_M_kindOf 139 = .ok (.iconst 3, 1) := by decide +kernel
theorem d_M_kindOf_140 : decode b_M_kindOf 140 = .ok (.iload 6, 2) := by decide +kernel
theorem d_M_kindOf_142 : decode b_M_kindOf 142 = .ok (.imul, 1) := by decide +kernel
theorem d_M_kindOf_143 : decode b_M_kindOf 143 = .ok (.if_icmp .lt 7, 3) := by decide +kernel
theorem d_M_kindOf_146 : decode b_M_kindOf 146 = .ok (.iconst 1, 1) := by decide +kernel
theorem d_M_kindOf_147 : decode b_M_kindOf 147 = .ok (.goto 4, 3) := by decide +kernel
theorem d_M_kindOf_150 : decode b_M_kindOf 150 = .ok (.iconst 0, 1) := by decide +kernel
theorem d_M_kindOf_151 : decode b_M_kindOf 151 = .ok (.istore 8, 2) := by decide +kernel
theorem d_M_kindOf_153 : decode b_M_kindOf 153 = .ok (.iload 7, 2) := by decide +kernel
theorem d_M_kindOf_155 : decode b_M_kindOf 155 = .ok (.ifCond .eq 42, 3) := by decide +kernel
theorem d_M_kindOf_158 : decode b_M_kindOf 158 = .ok (.iload 8, 2) := by decide +kernel
theorem d_M_kindOf_160 : decode b_M_kindOf 160 = .ok (.ifCond .eq 37, 3) := by decide +kernel
theorem d_M_kindOf_163 : decode b_M_kindOf 163 = .ok (.iconst 4, 1) := by decide +kernel
theorem d_M_kindOf_164 : decode b_M_kindOf 164 = .ok (.aload_n 0, 1) := by decide +kernel
theorem d_M_kindOf_165 : decode b_M_kindOf 165 = .ok (.iload_n 1, 1) := by decide +kernel
theorem d_M_kindOf_166 : decode b_M_kindOf 166 = .ok (.iconst 1, 1) := by decide +kernel
theorem d_M_kindOf_167 : decode b_M_kindOf 167 = .ok (.iadd, 1) := by decide +kernel
theorem d_M_kindOf_168 : decode b_M_kindOf 168 = .ok (.iload_n 2, 1) := by decide +kernel
theorem d_M_kindOf_169 : decode b_M_kindOf 169 = .ok (.iconst 1, 1) := by decide +kernel
theorem d_M_kindOf_170 : decode b_M_kindOf 170 = .ok (.iadd, 1) := by decide +kernel
theorem d_M_kindOf_171 : decode b_M_kindOf 171 = .ok (.iload_n 3, 1) := by decide +kernel
theorem d_M_kindOf_172 : decode b_M_kindOf 172 = .ok (.iconst 1, 1) := by decide +kernel
theorem d_M_kindOf_173 : decode b_M_kindOf 173 = .ok (.isub, 1) := by decide +kernel
theorem d_M_kindOf_174 : decode b_M_kindOf 174 = .ok (.iload 4, 2) := by decide +kernel
theorem d_M_kindOf_176 : decode b_M_kindOf 176 = .ok (.iconst 1, 1) := by decide +kernel
theorem d_M_kindOf_177 : decode b_M_kindOf 177 = .ok (.isub, 1) := by decide +kernel
theorem d_M_kindOf_178 : decode b_M_kindOf 178 = .ok (.iconst (-1), 1) := by decide +kernel
theorem d_M_kindOf_179 : decode b_M_kindOf 179 = .ok (.invokevirtual 123, 3) := by decide +kernel
theorem d_M_kindOf_182 : decode b_M_kindOf 182 = .ok (.imul, 1) := by decide +kernel
theorem d_M_kindOf_183 : decode b_M_kindOf 183 = .ok (.iload 5, 2) := by decide +kernel
theorem d_M_kindOf_185 : decode b_M_kindOf 185 = .ok (.iconst 2, 1) := by decide +kernel
theorem d_M_kindOf_186 : decode b_M_kindOf 186 = .ok (.isub, 1) := by decide +kernel
theorem d_M_kindOf_187 : decode b_M_kindOf 187 = .ok (.iload 6, 2) := by decide +kernel
theorem d_M_kindOf_189 : decode b_M_kindOf 189 = .ok (.iconst 2, 1) := by decide +kernel
theorem d_M_kindOf_190 : decode b_M_kindOf 190 = .ok (.isub, 1) := by decide +kernel
theorem d_M_kindOf_191 : decode b_M_kindOf 191 = .ok (.imul, 1) := by decide +kernel
theorem d_M_kindOf_192 : decode b_M_kindOf 192 = .ok (.if_icmp .gt 5, 3) := by decide +kernel
theorem d_M_kindOf_195 : decode b_M_kindOf 195 = .ok (.iconst 3, 1) := by decide +kernel
theorem d_M_kindOf_196 : decode b_M_kindOf 196 = .ok (.ireturn, 1) := by decide +kernel
theorem d_M_kindOf_197 : decode b_M_kindOf 197 = .ok (.iconst 2, 1) := by decide +kernel
theorem d_M_kindOf_198 : decode b_M_kindOf 198 = .ok (.aload_n 0, 1) := by decide +kernel
theorem d_M_kindOf_199 : decode b_M_kindOf 199 = .ok (.iload_n 1, 1) := by decide +kernel
theorem d_M_kindOf_200 : decode b_M_kindOf 200 = .ok (.iload_n 2, 1) := by decide +kernel
theorem d_M_kindOf_201 : decode b_M_kindOf 201 = .ok (.iload_n 3, 1) := by decide +kernel
theorem d_M_kindOf_202 : decode b_M_kindOf 202 = .ok (.iload 4, 2) := by decide +kernel
theorem d_M_kindOf_204 : decode b_M_kindOf 204 = .ok (.iconst (-1), 1) := by decide +kernel
theorem d_M_kindOf_205 : decode b_M_kindOf 205 = .ok (.invokevirtual 123, 3) := by decide +kernel
theorem d_M_kindOf_208 : decode b_M_kindOf 208 = .ok (.imul, 1) := by decide +kernel
theorem d_M_kindOf_209 : decode b_M_kindOf 209 = .ok (.iload 5, 2) := by decide +kernel
theorem d_M_kindOf_211 : decode b_M_kindOf 211 = .ok (.iload 6, 2) := by decide +kernel
theorem d_M_kindOf_213 : decode b_M_kindOf 213 = .ok (.imul, 1) := by decide +kernel
theorem d_M_kindOf_214 : decode b_M_kindOf 214 = .ok (.if_icmp .lt 7, 3) := by decide +kernel
theorem d_M_kindOf_217 : decode b_M_kindOf 217 = .ok (.iconst 2, 1) := by decide +kernel
theorem d_M_kindOf_218 : decode b_M_kindOf 218 = .ok (.goto 4, 3) := by decide +kernel
theorem d_M_kindOf_221 : decode b_M_kindOf 221 = .ok (.iconst 0, 1) := by decide +kernel
theorem d_M_kindOf_222 : decode b_M_kindOf 222 = .ok (.ireturn, 1) := by decide +kernel
theorem d_M_takeCover_0 : decode b_M_takeCover 0 = .ok (.iconst 3, 1) := by decide +kernel
theorem d_M_takeCover_1 : decode b_M_takeCover 1 = .ok (.istore_n 1, 1) := by decide +kernel
theorem d_M_takeCover_2 : decode b_M_takeCover 2 = .ok (.iconst (-1), 1) := by decide +kernel
theorem d_M_takeCover_3 : decode b_M_takeCover 3 = .ok (.istore_n 2, 1) := by decide +kernel
theorem d_M_takeCover_4 : decode b_M_takeCover 4 = .ok (.iconst 0, 1) := by decide +kernel
theorem d_M_takeCover_5 : decode b_M_takeCover 5 = .ok (.istore_n 3, 1) := by decide +kernel
theorem d_M_takeCover_6 : decode b_M_takeCover 6 = .ok (.iload_n 3, 1) := by decide +kernel
theorem d_M_takeCover_7 : decode b_M_takeCover 7 = .ok (.aload_n 0, 1) := by decide +kernel
theorem d_M_takeCover_8 : decode b_M_takeCover 8 = .ok (.getfield 76, 3) := by decide +kernel
theorem d_M_takeCover_11 : decode b_M_takeCover 11 = .ok (.if_icmp .ge 162, 3) := by decide +kernel
theorem d_M_takeCover_14 : decode b_M_takeCover 14 = .ok (.iconst 0, 1) := by decide +kernel
theorem d_M_takeCover_15 : decode b_M_takeCover 15 = .ok (.istore 4, 2) := by decide +kernel
theorem d_M_takeCover_17 : decode b_M_takeCover 17 = .ok (.iload 4, 2) := by decide +kernel
theorem d_M_takeCover_19 : decode b_M_takeCover 19 = .ok (.aload_n 0, 1) := by decide +kernel
theorem d_M_takeCover_20 : decode b_M_takeCover 20 = .ok (.getfield 73, 3) := by decide +kernel
theorem d_M_takeCover_23 : decode b_M_takeCover 23 = .ok (.if_icmp .ge 144, 3) := by decide +kernel
theorem d_M_takeCover_26 : decode b_M_takeCover 26 = .ok (.aload_n 0, 1) := by decide +kernel
theorem d_M_takeCover_27 : decode b_M_takeCover 27 = .ok (.getfield 73, 3) := by decide +kernel
theorem d_M_takeCover_30 : decode b_M_takeCover 30 = .ok (.iload 4, 2) := by decide +kernel
theorem d_M_takeCover_32 : decode b_M_takeCover 32 = .ok (.isub, 1) := by decide +kernel
theorem d_M_takeCover_33 : decode b_M_takeCover 33 = .ok (.istore 5, 2) := by decide +kernel
theorem d_M_takeCover_35 : decode b_M_takeCover 35 = .ok (.iconst 1, 1) := by decide +kernel
theorem d_M_takeCover_36 : decode b_M_takeCover 36 = .ok (.istore 6, 2) := by decide +kernel
theorem d_M_takeCover_38 : decode b_M_takeCover 38 = .ok (.iload_n 3, 1) := by decide +kernel
theorem d_M_takeCover_39 : decode b_M_takeCover 39 = .ok (.iload 6, 2) := by decide +kernel
theorem d_M_takeCover_41 : decode b_M_takeCover 41 = .ok (.iadd, 1) := by decide +kernel
theorem d_M_takeCover_42 : decode b_M_takeCover 42 = .ok (.aload_n 0, 1) := by decide +kernel
theorem d_M_takeCover_43 : decode b_M_takeCover 43 = .ok (.getfield 76, 3) := by decide +kernel
theorem d_M_takeCover_46 : decode b_M_takeCover 46 = .ok (.if_icmp .gt 115, 3) := by decide +kernel
theorem d_M_takeCover_49 : decode b_M_takeCover 49 = .ok (.iload 5, 2) := by decide +kernel
theorem d_M_takeCover_51 : decode b_M_takeCover 51 = .ok (.ifCond .le 110, 3) := by decide +kernel
theorem d_M_takeCover_54 : decode b_M_takeCover 54 = .ok (.iconst 0, 1) := by decide +kernel
theorem d_M_takeCover_55 : decode b_M_takeCover 55 = .ok (.istore 7, 2) := by decide +kernel
theorem d_M_takeCover_57 : decode b_M_takeCover 57 = .ok (.iload 7, 2) := by decide +kernel
theorem d_M_takeCover_59 : decode b_M_takeCover 59 = .ok (.iload 5, 2) := by decide +kernel
theorem d_M_takeCover_61 : decode b_M_takeCover 61 = .ok (.if_icmp .ge 55, 3) := by decide +kernel
theorem d_M_takeCover_64 : decode b_M_takeCover 64 = .ok (.aload_n 0, 1) := by decide +kernel
theorem d_M_takeCover_65 : decode b_M_takeCover 65 = .ok (.getfield 23, 3) := by decide +kernel
theorem d_M_takeCover_68 : decode b_M_takeCover 68 = .ok (.bipush 24, 2) := by decide +kernel
theorem d_M_takeCover_70 : decode b_M_takeCover 70 = .ok (.iload_n 3, 1) := by decide +kernel
theorem d_M_takeCover_71 : decode b_M_takeCover 71 = .ok (.iload 6, 2) := by decide +kernel
theorem d_M_takeCover_73 : decode b_M_takeCover 73 = .ok (.iadd, 1) := by decide +kernel
theorem d_M_takeCover_74 : decode b_M_takeCover 74 = .ok (.iconst 1, 1) := by decide +kernel
theorem d_M_takeCover_75 : decode b_M_takeCover 75 = .ok (.isub, 1) := by decide +kernel
theorem d_M_takeCover_76 : decode b_M_takeCover 76 = .ok (.imul, 1) := by decide +kernel
theorem d_M_takeCover_77 : decode b_M_takeCover 77 = .ok (.iload 4, 2) := by decide +kernel
theorem d_M_takeCover_79 : decode b_M_takeCover 79 = .ok (.iadd, 1) := by decide +kernel
theorem d_M_takeCover_80 : decode b_M_takeCover 80 = .ok (.iload 7, 2) := by decide +kernel
theorem d_M_takeCover_82 : decode b_M_takeCover 82 = .ok (.iadd, 1) := by decide +kernel
theorem d_M_takeCover_83 : decode b_M_takeCover 83 = .ok (.baload, 1) := by decide +kernel
theorem d_M_takeCover_84 : decode b_M_takeCover 84 = .ok (.ifCond .ne 32, 3) := by decide +kernel
theorem d_M_takeCover_87 : decode b_M_takeCover 87 = .ok (.aload_n 0, 1) := by decide +kernel
theorem d_M_takeCover_88 : decode b_M_takeCover 88 = .ok (.getfield 26, 3) := by decide +kernel
theorem d_M_takeCover_91 : decode b_M_takeCover 91 = .ok (.bipush 24, 2) := by decide +kernel
theorem d_M_takeCover_93 : decode b_M_takeCover 93 = .ok (.iload_n 3, 1) := by decide +kernel
theorem d_M_takeCover_94 : decode b_M_takeCover 94 = .ok (.iload 6, 2) := by decide +kernel
theorem d_M_takeCover_96 : decode b_M_takeCover 96 = .ok (.iadd, 1) := by decide +kernel
theorem d_M_takeCover_97 : decode b_M_takeCover 97 = .ok (.iconst 1, 1) := by decide +kernel
theorem d_M_takeCover_98 : decode b_M_takeCover 98 = .ok (.isub, 1) := by decide +kernel
theorem d_M_takeCover_99 : decode b_M_takeCover 99 = .ok (.imul, 1) := by decide +kernel
theorem d_M_takeCover_100 : decode b_M_takeCover 100 = .ok (.iload 4, 2) := by decide +kernel
theorem d_M_takeCover_102 : decode b_M_takeCover 102 = .ok (.iadd, 1) := by decide +kernel
theorem d_M_takeCover_103 : decode b_M_takeCover 103 = .ok (.iload 7, 2) := by decide +kernel
theorem d_M_takeCover_105 : decode b_M_takeCover 105 = .ok (.iadd, 1) := by decide +kernel
theorem d_M_takeCover_106 : decode b_M_takeCover 106 = .ok (.baload, 1) := by decide +kernel
theorem d_M_takeCover_107 : decode b_M_takeCover 107 = .ok (.ifCond .ne 9, 3) := by decide +kernel
theorem d_M_takeCover_110 : decode b_M_takeCover 110 = .ok (.iinc 7 1, 3) := by decide +kernel
theorem d_M_takeCover_113 : decode b_M_takeCover 113 = .ok (.goto (-56), 3) := by decide +kernel
theorem d_M_takeCover_116 : decode b_M_takeCover 116 = .ok (.iload 7, 2) := by decide +kernel
theorem d_M_takeCover_118 : decode b_M_takeCover 118 = .ok (.istore 5, 2) := by decide +kernel
theorem d_M_takeCover_120 : decode b_M_takeCover 120 = .ok (.iload 5, 2) := by decide +kernel
theorem d_M_takeCover_122 : decode b_M_takeCover 122 = .ok (.iload 6, 2) := by decide +kernel
theorem d_M_takeCover_124 : decode b_M_takeCover 124 = .ok (.imul, 1) := by decide +kernel
theorem d_M_takeCover_125 : decode b_M_takeCover 125 = .ok (.iload_n 1, 1) := by decide +kernel
theorem d_M_takeCover_126 : decode b_M_takeCover 126 = .ok (.if_icmp .le 29, 3) := by decide +kernel
theorem d_M_takeCover_129 : decode b_M_takeCover 129 = .ok (.iload 5, 2) := by decide +kernel
theorem d_M_takeCover_131 : decode b_M_takeCover 131 = .ok (.iload 6, 2) := by decide +kernel
theorem d_M_takeCover_133 : decode b_M_takeCover 133 = .ok (.imul, 1) := by decide +kernel
theorem d_M_takeCover_134 : decode b_M_takeCover 134 = .ok (.istore_n 1, 1) := by decide +kernel
theorem d_M_takeCover_135 : decode b_M_takeCover 135 = .ok (.bipush 24, 2) := by decide +kernel
theorem d_M_takeCover_137 : decode b_M_takeCover 137 = .ok (.iload_n 3, 1) := by decide +kernel
theorem d_M_takeCover_138 : decode b_M_takeCover 138 = .ok (.imul, 1) := by decide +kernel
theorem d_M_takeCover_139 : decode b_M_takeCover 139 = .ok (.iload 4, 2) := by decide +kernel
theorem d_M_takeCover_141 : decode b_M_takeCover 141 = .ok (.iadd, 1) := by decide +kernel
theorem d_M_takeCover_142 : decode b_M_takeCover 142 = .ok (.bipush 32, 2) := by decide +kernel
theorem d_M_takeCover_144 : decode b_M_takeCover 144 = .ok (.imul, 1) := by decide +kernel
theorem d_M_takeCover_145 : decode b_M_takeCover 145 = .ok (.iload 5, 2) := by decide +kernel
theorem d_M_takeCover_147 : decode b_M_takeCover 147 = .ok (.iadd, 1) := by decide +kernel
theorem d_M_takeCover_148 : decode b_M_takeCover 148 = .ok (.bipush 32, 2) := by decide +kernel
theorem d_M_takeCover_150 : decode b_M_takeCover 150 = .ok (.imul, 1) := by decide +kernel
theorem d_M_takeCover_151 : decode b_M_takeCover 151 = .ok (.iload 6, 2) := by decide +kernel
theorem d_M_takeCover_153 : decode b_M_takeCover 153 = .ok (.iadd, 1) := by decide +kernel
theorem d_M_takeCover_154 : decode b_M_takeCover 154 = .ok (.istore_n 2, 1) := by decide +kernel
theorem d_M_takeCover_155 : decode b_M_takeCover 155 = .ok (.iinc 6 1, 3) := by decide +kernel
theorem d_M_takeCover_158 : decode b_M_takeCover 158 = .ok (.goto (-120), 3) := by decide +kernel
theorem d_M_takeCover_161 : decode b_M_takeCover 161 = .ok (.iinc 4 1, 3) := by decide +kernel
theorem d_M_takeCover_164 : decode b_M_takeCover 164 = .ok (.goto (-147), 3) := by decide +kernel
theorem d_M_takeCover_167 : decode b_M_takeCover 167 = .ok (.iinc 3 1, 3) := by decide +kernel
theorem d_M_takeCover_170 : decode b_M_takeCover 170 = .ok (.goto (-164), 3) := by decide +kernel
theorem d_M_takeCover_173 : decode b_M_takeCover 173 = .ok (.iload_n 2, 1) := by decide +kernel
theorem d_M_takeCover_174 : decode b_M_takeCover 174 = .ok (.iconst (-1), 1) := by decide +kernel
theorem d_M_takeCover_175 : decode b_M_takeCover 175 = .ok (.if_icmp .ne 5, 3) := by decide +kernel
theorem d_M_takeCover_178 : decode b_M_takeCover 178 = .ok (.iconst 0, 1) := by decide +kernel
theorem d_M_takeCover_179 : decode b_M_takeCover 179 = .ok (.ireturn, 1) := by decide +kernel
theorem d_M_takeCover_180 : decode b_M_takeCover 180 = .ok (.iload_n 2, 1) := by decide +kernel
theorem d_M_takeCover_181 : decode b_M_takeCover 181 = .ok (.sipush 1024, 3) := by decide +kernel
theorem d_M_takeCover_184 : decode b_M_takeCover 184 = .ok (.idiv, 1) := by decide +kernel
theorem d_M_takeCover_185 : decode b_M_takeCover 185 = .ok (.bipush 24, 2) := by decide +kernel
theorem d_M_takeCover_187 : decode b_M_takeCover 187 = .ok (.irem, 1) := by decide +kernel
theorem d_M_takeCover_188 : decode b_M_takeCover 188 = .ok (.istore_n 3, 1) := by decide +kernel
theorem d_M_takeCover_189 : decode b_M_takeCover 189 = .ok (.iload_n 2, 1) := by decide +kernel
theorem d_M_takeCover_190 : decode b_M_takeCover 190 = .ok (.sipush 1024, 3) := by decide +kernel
theorem d_M_takeCover_193 : decode b_M_takeCover 193 = .ok (.idiv, 1) := by decide +kernel
theorem d_M_takeCover_194 : decode b_M_takeCover 194 = .ok (.bipush 24, 2) := by decide +kernel
theorem d_M_takeCover_196 : decode b_M_takeCover 196 = .ok (.idiv, 1) := by decide +kernel
theorem d_M_takeCover_197 : decode b_M_takeCover 197 = .ok (.istore 4, 2) := by decide +kernel
theorem d_M_takeCover_199 : decode b_M_takeCover 199 = .ok (.iconst 4, 1) := by decide +kernel
theorem d_M_takeCover_200 : decode b_M_takeCover 200 = .ok (.aload_n 0, 1) := by decide +kernel
theorem d_M_takeCover_201 : decode b_M_takeCover 201 = .ok (.getfield 127, 3) := by decide +kernel
theorem d_M_takeCover_204 : decode b_M_takeCover 204 = .ok (.imul, 1) := by decide +kernel
theorem d_M_takeCover_205 : decode b_M_takeCover 205 = .ok (.istore 5, 2) := by decide +kernel
theorem d_M_takeCover_207 : decode b_M_takeCover 207 = .ok (.aload_n 0, 1) := by decide +kernel
theorem d_M_takeCover_208 : decode b_M_takeCover 208 = .ok (.getfield 54, 3) := by decide +kernel
theorem d_M_takeCover_211 : decode b_M_takeCover 211 = .ok (.iload 5, 2) := by decide +kernel
theorem d_M_takeCover_213 : decode b_M_takeCover 213 = .ok (.iload_n 3, 1) := by decide +kernel
theorem d_M_takeCover_214 : decode b_M_takeCover 214 = .ok (.iastore, 1) := by decide +kernel
theorem d_M_takeCover_215 : decode b_M_takeCover 215 = .ok (.aload_n 0, 1) := by decide +kernel
theorem d_M_takeCover_216 : decode b_M_takeCover 216 = .ok (.getfield 54, 3) := by decide +kernel
theorem d_M_takeCover_219 : decode b_M_takeCover 219 = .ok (.iload 5, 2) := by decide +kernel
theorem d_M_takeCover_221 : decode b_M_takeCover 221 = .ok (.iconst 1, 1) := by decide +kernel
theorem d_M_takeCover_222 : decode b_M_takeCover 222 = .ok (.iadd, 1) := by decide +kernel
theorem d_M_takeCover_223 : decode b_M_takeCover 223 = .ok (.iload 4, 2) := by decide +kernel
theorem d_M_takeCover_225 : decode b_M_takeCover 225 = .ok (.iastore, 1) := by decide +kernel
theorem d_M_takeCover_226 : decode b_M_takeCover 226 = .ok (.aload_n 0, 1) := by decide +kernel
theorem d_M_takeCover_227 : decode b_M_takeCover 227 = .ok (.getfield 54, 3) := by decide +kernel
theorem d_M_takeCover_230 : decode b_M_takeCover 230 = .ok (.iload 5, 2) := by decide +kernel
theorem d_M_takeCover_232 : decode b_M_takeCover 232 = .ok (.iconst 2, 1) := by decide +kernel
theorem d_M_takeCover_233 : decode b_M_takeCover 233 = .ok (.iadd, 1) := by decide +kernel
theorem d_M_takeCover_234 : decode b_M_takeCover 234 = .ok (.iload_n 2, 1) := by decide +kernel
theorem d_M_takeCover_235 : decode b_M_takeCover 235 = .ok (.bipush 32, 2) := by decide +kernel
theorem d_M_takeCover_237 : decode b_M_takeCover 237 = .ok (.idiv, 1) := by decide +kernel
theorem d_M_takeCover_238 : decode b_M_takeCover 238 = .ok (.bipush 32, 2) := by decide +kernel
theorem d_M_takeCover_240 : decode b_M_takeCover 240 = .ok (.irem, 1) := by decide +kernel
theorem d_M_takeCover_241 : decode b_M_takeCover 241 = .ok (.iastore, 1) := by decide +kernel
theorem d_M_takeCover_242 : decode b_M_takeCover 242 = .ok (.aload_n 0, 1) := by decide +kernel
theorem d_M_takeCover_243 : decode b_M_takeCover 243 = .ok (.getfield 54, 3) := by decide +kernel
theorem d_M_takeCover_246 : decode b_M_takeCover 246 = .ok (.iload 5, 2) := by decide +kernel
theorem d_M_takeCover_248 : decode b_M_takeCover 248 = .ok (.iconst 3, 1) := by decide +kernel
theorem d_M_takeCover_249 : decode b_M_takeCover 249 = .ok (.iadd, 1) := by decide +kernel
theorem d_M_takeCover_250 : decode b_M_takeCover 250 = .ok (.iload_n 2, 1) := by decide +kernel
theorem d_M_takeCover_251 : decode b_M_takeCover 251 = .ok (.bipush 32, 2) := by decide +kernel
theorem d_M_takeCover_253 : decode b_M_takeCover 253 = .ok (.irem, 1) := by decide +kernel
theorem d_M_takeCover_254 : decode b_M_takeCover 254 = .ok (.iastore, 1) := by decide +kernel
theorem d_M_takeCover_255 : decode b_M_takeCover 255 = .ok (.iload 4, 2) := by decide +kernel
theorem d_M_takeCover_257 : decode b_M_takeCover 257 = .ok (.istore 6, 2) := by decide +kernel
theorem d_M_takeCover_259 : decode b_M_takeCover 259 = .ok (.iload 6, 2) := by decide +kernel
theorem d_M_takeCover_261 : decode b_M_takeCover 261 = .ok (.iload 4, 2) := by decide +kernel
theorem d_M_takeCover_263 : decode b_M_takeCover 263 = .ok (.aload_n 0, 1) := by decide +kernel
theorem d_M_takeCover_264 : decode b_M_takeCover 264 = .ok (.getfield 54, 3) := by decide +kernel
theorem d_M_takeCover_267 : decode b_M_takeCover 267 = .ok (.iload 5, 2) := by decide +kernel
theorem d_M_takeCover_269 : decode b_M_takeCover 269 = .ok (.iconst 3, 1) := by decide +kernel
theorem d_M_takeCover_270 : decode b_M_takeCover 270 = .ok (.iadd, 1) := by decide +kernel
theorem d_M_takeCover_271 : decode b_M_takeCover 271 = .ok (.iaload, 1) := by decide +kernel
theorem d_M_takeCover_272 : decode b_M_takeCover 272 = .ok (.iadd, 1) := by decide +kernel
theorem d_M_takeCover_273 : decode b_M_takeCover 273 = .ok (.if_icmp .ge 48, 3) := by decide +kernel
theorem d_M_takeCover_276 : decode b_M_takeCover 276 = .ok (.iload_n 3, 1) := by decide +kernel
theorem d_M_takeCover_277 : decode b_M_takeCover 277 = .ok (.istore 7, 2) := by decide +kernel
theorem d_M_takeCover_279 : decode b_M_takeCover 279 = .ok (.iload 7, 2) := by decide +kernel
theorem d_M_takeCover_281 : decode b_M_takeCover 281 = .ok (.iload_n 3, 1) := by decide +kernel
theorem d_M_takeCover_282 : decode b_M_takeCover 282 = .ok (.aload_n 0, 1) := by decide +kernel
theorem d_M_takeCover_283 : decode b_M_takeCover 283 = .ok (.getfield 54, 3) := by decide +kernel
theorem d_M_takeCover_286 : decode b_M_takeCover 286 = .ok (.iload 5, 2) := by decide +kernel
theorem d_M_takeCover_288 : decode b_M_takeCover 288 = .ok (.iconst 2, 1) := by decide +kernel
theorem d_M_takeCover_289 : decode b_M_takeCover 289 = .ok (.iadd, 1) := by decide +kernel
theorem d_M_takeCover_290 : decode b_M_takeCover 290 = .ok (.iaload, 1) := by decide +kernel
theorem d_M_takeCover_291 : decode b_M_takeCover 291 = .ok (.iadd, 1) := by decide +kernel
theorem d_M_takeCover_292 : decode b_M_takeCover 292 = .ok (.if_icmp .ge 23, 3) := by decide +kernel
theorem d_M_takeCover_295 : decode b_M_takeCover 295 = .ok (.aload_n 0, 1) := by decide +kernel
theorem d_M_takeCover_296 : decode b_M_takeCover 296 = .ok (.getfield 26, 3) := by decide +kernel
theorem d_M_takeCover_299 : decode b_M_takeCover 299 = .ok (.bipush 24, 2) := by decide +kernel
theorem d_M_takeCover_301 : decode b_M_takeCover 301 = .ok (.iload 6, 2) := by decide +kernel
theorem d_M_takeCover_303 : decode b_M_takeCover 303 = .ok (.imul, 1) := by decide +kernel
theorem d_M_takeCover_304 : decode b_M_takeCover 304 = .ok (.iload 7, 2) := by decide +kernel
theorem d_M_takeCover_306 : decode b_M_takeCover 306 = .ok (.iadd, 1) := by decide +kernel
theorem d_M_takeCover_307 : decode b_M_takeCover 307 = .ok (.iconst 1, 1) := by decide +kernel
theorem d_M_takeCover_308 : decode b_M_takeCover 308 = .ok (.bastore, 1) := by decide +kernel
theorem d_M_takeCover_309 : decode b_M_takeCover 309 = .ok (.iinc 7 1, 3) := by decide +kernel
theorem d_M_takeCover_312 : decode b_M_takeCover 312 = .ok (.goto (-33), 3) := by decide +kernel
theorem d_M_takeCover_315 : decode b_M_takeCover 315 = .ok (.iinc 6 1, 3) := by decide +kernel
theorem d_M_takeCover_318 : decode b_M_takeCover 318 = .ok (.goto (-59), 3) := by decide +kernel
theorem d_M_takeCover_321 : decode b_M_takeCover 321 = .ok (.aload_n 0, 1) := by decide +kernel
theorem d_M_takeCover_322 : decode b_M_takeCover 322 = .ok (.dup, 1) := by decide +kernel
theorem d_M_takeCover_323 : decode b_M_takeCover 323 = .ok (.getfield 127, 3) := by decide +kernel
theorem d_M_takeCover_326 : decode b_M_takeCover 326 = .ok (.iconst 1, 1) := by decide +kernel
theorem d_M_takeCover_327 : decode b_M_takeCover 327 = .ok (.iadd, 1) := by decide +kernel
theorem d_M_takeCover_328 : decode b_M_takeCover 328 = .ok (.putfield 127, 3) := by decide +kernel
theorem d_M_takeCover_331 : decode b_M_takeCover 331 = .ok (.iconst 1, 1) := by decide +kernel
theorem d_M_takeCover_332 : decode b_M_takeCover 332 = .ok (.ireturn, 1) := by decide +kernel
theorem d_M_takeCovers_0 : decode b_M_takeCovers 0 = .ok (.iconst 0, 1) := by decide +kernel
theorem d_M_takeCovers_1 : decode b_M_takeCovers 1 = .ok (.istore_n 1, 1) := by decide +kernel
theorem d_M_takeCovers_2 : decode b_M_takeCovers 2 = .ok (.iload_n 1, 1) := by decide +kernel
theorem d_M_takeCovers_3 : decode b_M_takeCovers 3 = .ok (.sipush 576, 3) := by decide +kernel
theorem d_M_takeCovers_6 : decode b_M_takeCovers 6 = .ok (.if_icmp .ge 16, 3) := by decide +kernel
theorem d_M_takeCovers_9 : decode b_M_takeCovers 9 = .ok (.aload_n 0, 1) := by decide +kernel
theorem d_M_takeCovers_10 : decode b_M_takeCovers 10 = .ok (.getfield 26, 3) := by decide +kernel
theorem d_M_takeCovers_13 : decode b_M_takeCovers 13 = .ok (.iload_n 1, 1) := by decide +kernel
theorem d_M_takeCovers_14 : decode b_M_takeCovers 14 = .ok (.iconst 0, 1) := by decide +kernel
theorem d_M_takeCovers_15 : decode b_M_takeCovers 15 = .ok (.bastore, 1) := by decide +kernel
theorem d_M_takeCovers_16 : decode b_M_takeCovers 16 = .ok (.iinc 1 1, 3) := by decide +kernel
theorem d_M_takeCovers_19 : decode b_M_takeCovers 19 = .ok (.goto (-17), 3) := by decide +kernel
theorem d_M_takeCovers_22 : decode b_M_takeCovers 22 = .ok (.aload_n 0, 1) := by decide +kernel
theorem d_M_takeCovers_23 : decode b_M_takeCovers 23 = .ok (.iconst 0, 1) := by decide +kernel
theorem d_M_takeCovers_24 : decode b_M_takeCovers 24 = .ok (.putfield 127, 3) := by decide +kernel
theorem d_M_takeCovers_27 : decode b_M_takeCovers 27 = .ok (.iconst 1, 1) := by decide +kernel
theorem d_M_takeCovers_28 : decode b_M_takeCovers 28 = .ok (.istore_n 1, 1) := by decide +kernel
theorem d_M_takeCovers_29 : decode b_M_takeCovers 29 = .ok (.iload_n 1, 1) := by decide +kernel
theorem d_M_takeCovers_30 : decode b_M_takeCovers 30 = .ok (.ifCond .eq 20, 3) := by decide +kernel
theorem d_M_takeCovers_33 : decode b_M_takeCovers 33 = .ok (.aload_n 0, 1) := by decide +kernel
theorem d_M_takeCovers_34 : decode b_M_takeCovers 34 = .ok (.getfield 127, 3) := by decide +kernel
theorem d_M_takeCovers_37 : decode b_M_takeCovers 37 = .ok (.bipush 6, 2) := by decide +kernel
theorem d_M_takeCovers_39 : decode b_M_takeCovers 39 = .ok (.if_icmp .ge 11, 3) := by decide +kernel
theorem d_M_takeCovers_42 : decode b_M_takeCovers 42 = .ok (.aload_n 0, 1) := by decide +kernel
theorem d_M_takeCovers_43 : decode b_M_takeCovers 43 = .ok (.invokevirtual 130, 3) := by decide +kernel
theorem d_M_takeCovers_46 : decode b_M_takeCovers 46 = .ok (.istore_n 1, 1) := by decide +kernel
theorem d_M_takeCovers_47 : decode b_M_takeCovers 47 = .ok (.goto (-18), 3) := by decide +kernel
theorem d_M_takeCovers_50 : decode b_M_takeCovers 50 = .ok (.return_, 1) := by decide +kernel
theorem d_M_takeStrips_0 : decode b_M_takeStrips 0 = .ok (.aload_n 0, 1) := by decide +kernel
theorem d_M_takeStrips_1 : decode b_M_takeStrips 1 = .ok (.iconst 0, 1) := by decide +kernel
theorem d_M_takeStrips_2 : decode b_M_takeStrips 2 = .ok (.putfield 134, 3) := by decide +kernel
theorem d_M_takeStrips_5 : decode b_M_takeStrips 5 = .ok (.iconst 0, 1) := by decide +kernel
theorem d_M_takeStrips_6 : decode b_M_takeStrips 6 = .ok (.istore_n 1, 1) := by decide +kernel
theorem d_M_takeStrips_7 : decode b_M_takeStrips 7 = .ok (.iload_n 1, 1) := by decide +kernel
theorem d_M_takeStrips_8 : decode b_M_takeStrips 8 = .ok (.aload_n 0, 1) := by decide +kernel
theorem d_M_takeStrips_9 : decode b_M_takeStrips 9 = .ok (.getfield 73, 3) := by decide +kernel
theorem d_M_takeStrips_12 : decode b_M_takeStrips 12 = .ok (.if_icmp .ge 118, 3) := by decide +kernel
theorem d_M_takeStrips_15 : decode b_M_takeStrips 15 = .ok (.iconst 0, 1) := by decide +kernel
theorem d_M_takeStrips_16 : decode b_M_takeStrips 16 = .ok (.istore_n 2, 1) := by decide +kernel
theorem d_M_takeStrips_17 : decode b_M_takeStrips 17 = .ok (.iconst 0, 1) := by decide +kernel
theorem d_M_takeStrips_18 : decode b_M_takeStrips 18 = .ok (.istore_n 3, 1) := by decide +kernel
theorem d_M_takeStrips_19 : decode b_M_takeStrips 19 = .ok (.iload_n 3, 1) := by decide +kernel
theorem d_M_takeStrips_20 : decode b_M_takeStrips 20 = .ok (.aload_n 0, 1) := by decide +kernel
theorem d_M_takeStrips_21 : decode b_M_takeStrips 21 = .ok (.getfield 76, 3) := by decide +kernel
theorem d_M_takeStrips_24 : decode b_M_takeStrips 24 = .ok (.if_icmp .ge 33, 3) := by decide +kernel
theorem d_M_takeStrips_27 : decode b_M_takeStrips 27 = .ok (.iload_n 2, 1) := by decide +kernel
theorem d_M_takeStrips_28 : decode b_M_takeStrips 28 = .ok (.ifCond .ne 17, 3) := by decide +kernel
theorem d_M_takeStrips_31 : decode b_M_takeStrips 31 = .ok (.aload_n 0, 1) := by decide +kernel
theorem d_M_takeStrips_32 : decode b_M_takeStrips 32 = .ok (.getfield 23, 3) := by decide +kernel
theorem d_M_takeStrips_35 : decode b_M_takeStrips 35 = .ok (.bipush 24, 2) := by decide +kernel
theorem d_M_takeStrips_37 : decode b_M_takeStrips 37 = .ok (.iload_n 3, 1) := by decide +kernel
theorem d_M_takeStrips_38 : decode b_M_takeStrips 38 = .ok (.imul, 1) := by decide +kernel
theorem d_M_takeStrips_39 : decode b_M_takeStrips 39 = .ok (.iload_n 1, 1) := by decide +kernel
theorem d_M_takeStrips_40 : decode b_M_takeStrips 40 = .ok (.iadd, 1) := by decide +kernel
theorem d_M_takeStrips_41 : decode b_M_takeStrips 41 = .ok (.baload, 1) := by decide +kernel
theorem d_M_takeStrips_42 : decode b_M_takeStrips 42 = .ok (.ifCond .eq 7, 3) := by decide +kernel
theorem d_M_takeStrips_45 : decode b_M_takeStrips 45 = .ok (.iconst 1, 1) := by decide +kernel
theorem d_M_takeStrips_46 : decode b_M_takeStrips 46 = .ok (.goto 4, 3) := by decide +kernel
theorem d_M_takeStrips_49 : decode b_M_takeStrips 49 = .ok (.iconst 0, 1) := by decide +kernel
theorem d_M_takeStrips_50 : decode b_M_takeStrips 50 = .ok (.istore_n 2, 1) := by decide +kernel
theorem d_M_takeStrips_51 : decode b_M_takeStrips 51 = .ok (.iinc 3 1, 3) := by decide +kernel
theorem d_M_takeStrips_54 : decode b_M_takeStrips 54 = .ok (.goto (-35), 3) := by decide +kernel
theorem d_M_takeStrips_57 : decode b_M_takeStrips 57 = .ok (.iload_n 1, 1) := by decide +kernel
theorem d_M_takeStrips_58 : decode b_M_takeStrips 58 = .ok (.ifCond .le 19, 3) := by decide +kernel
theorem d_M_takeStrips_61 : decode b_M_takeStrips 61 = .ok (.aload_n 0, 1) := by decide +kernel
theorem d_M_takeStrips_62 : decode b_M_takeStrips 62 = .ok (.getfield 57, 3) := by decide +kernel
theorem d_M_takeStrips_65 : decode b_M_takeStrips 65 = .ok (.iload_n 1, 1) := by decide +kernel
theorem d_M_takeStrips_66 : decode b_M_takeStrips 66 = .ok (.iconst 1, 1) := by decide +kernel
theorem d_M_takeStrips_67 : decode b_M_takeStrips 67 = .ok (.isub, 1) := by decide +kernel
theorem d_M_takeStrips_68 : decode b_M_takeStrips 68 = .ok (.iaload, 1) := by decide +kernel
theorem d_M_takeStrips_69 : decode b_M_takeStrips 69 = .ok (.iconst (-1), 1) := by decide +kernel
theorem d_M_takeStrips_70 : decode b_M_takeStrips 70 = .ok (.if_icmp .eq 7, 3) := by decide +kernel
theorem d_M_takeStrips_73 : decode b_M_takeStrips 73 = .ok (.iconst 1, 1) := by decide +kernel
theorem d_M_takeStrips_74 : decode b_M_takeStrips 74 = .ok (.goto 4, 3) := by decide +kernel
theorem d_M_takeStrips_77 : decode b_M_takeStrips 77 = .ok (.iconst 0, 1) := by decide +kernel
theorem d_M_takeStrips_78 : decode b_M_takeStrips 78 = .ok (.istore_n 3, 1) := by decide +kernel
theorem d_M_takeStrips_79 : decode b_M_takeStrips 79 = .ok (.aload_n 0, 1) := by decide +kernel
theorem d_M_takeStrips_80 : decode b_M_takeStrips 80 = .ok (.iload_n 2, 1) := by decide +kernel
theorem d_M_takeStrips_81 : decode b_M_takeStrips 81 = .ok (.ifCond .eq 16, 3) := by decide +kernel
theorem d_M_takeStrips_84 : decode b_M_takeStrips 84 = .ok (.iload_n 3, 1) := by decide +kernel
theorem d_M_takeStrips_85 : decode b_M_takeStrips 85 = .ok (.ifCond .ne 12, 3) := by decide +kernel
theorem d_M_takeStrips_88 : decode b_M_takeStrips 88 = .ok (.aload_n 0, 1) := by decide +kernel
theorem d_M_takeStrips_89 : decode b_M_takeStrips 89 = .ok (.getfield 134, 3) := by decide +kernel
theorem d_M_takeStrips_92 : decode b_M_takeStrips 92 = .ok (.iconst 1, 1) := by decide +kernel
theorem d_M_takeStrips_93 : decode b_M_takeStrips 93 = .ok (.iadd, 1) := by decide +kernel
theorem d_M_takeStrips_94 : decode b_M_takeStrips 94 = .ok (.goto 7, 3) := by decide +kernel
theorem d_M_takeStrips_97 : decode b_M_takeStrips 97 = .ok (.aload_n 0, 1) := by decide +kernel
theorem d_M_takeStrips_98 : decode b_M_takeStrips 98 = .ok (.getfield 134, 3) := by decide +kernel
theorem d_M_takeStrips_101 : decode b_M_takeStrips 101 = .ok (.putfield 134, 3) := by decide +kernel
theorem d_M_takeStrips_104 : decode b_M_takeStrips 104 = .ok (.aload_n 0, 1) := by decide +kernel
theorem d_M_takeStrips_105 : decode b_M_takeStrips 105 = .ok (.getfield 57, 3) := by decide +kernel
theorem d_M_takeStrips_108 : decode b_M_takeStrips 108 = .ok (.iload_n 1, 1) := by decide +kernel
theorem d_M_takeStrips_109 : decode b_M_takeStrips 109 = .ok (.iload_n 2, 1) := by decide +kernel
theorem d_M_takeStrips_110 : decode b_M_takeStrips 110 = .ok (.ifCond .eq 12, 3) := by decide +kernel
theorem d_M_takeStrips_113 : decode b_M_takeStrips 113 = .ok (.aload_n 0, 1) := by decide +kernel
theorem d_M_takeStrips_114 : decode b_M_takeStrips 114 = .ok (.getfield 134, 3) := by decide +kernel
theorem d_M_takeStrips_117 : decode b_M_takeStrips 117 = .ok (.iconst 1, 1) := by decide +kernel
theorem d_M_takeStrips_118 : decode b_M_takeStrips 118 = .ok (.isub, 1) := by decide +kernel
theorem d_M_takeStrips_119 : decode b_M_takeStrips 119 = .ok (.goto 4, 3) := by decide +kernel
theorem d_M_takeStrips_122 : decode b_M_takeStrips 122 = .ok (.iconst (-1), 1) := by decide +kernel
theorem d_M_takeStrips_123 : decode b_M_takeStrips 123 = .ok (.iastore, 1) := by decide +kernel
theorem d_M_takeStrips_124 : decode b_M_takeStrips 124 = .ok (.iinc 1 1, 3) := by decide +kernel
theorem d_M_takeStrips_127 : decode b_M_takeStrips 127 = .ok (.goto (-120), 3) := by decide +kernel
theorem d_M_takeStrips_130 : decode b_M_takeStrips 130 = .ok (.return_, 1) := by decide +kernel
theorem d_M_takeCells_0 : decode b_M_takeCells 0 = .ok (.aload_n 0, 1) := by decide +kernel
theorem d_M_takeCells_1 : decode b_M_takeCells 1 = .ok (.iconst 2, 1) := by decide +kernel
theorem d_M_takeCells_2 : decode b_M_takeCells 2 = .ok (.iconst 0, 1) := by decide +kernel
theorem d_M_takeCells_3 : decode b_M_takeCells 3 = .ok (.invokevirtual 105, 3) := by decide +kernel
theorem d_M_takeCells_6 : decode b_M_takeCells 6 = .ok (.aload_n 0, 1) := by decide +kernel
theorem d_M_takeCells_7 : decode b_M_takeCells 7 = .ok (.iconst 0, 1) := by decide +kernel
theorem d_M_takeCells_8 : decode b_M_takeCells 8 = .ok (.putfield 137, 3) := by decide +kernel
theorem d_M_takeCells_11 : decode b_M_takeCells 11 = .ok (.iconst 0, 1) := by decide +kernel
theorem d_M_takeCells_12 : decode b_M_takeCells 12 = .ok (.istore_n 1, 1) := by decide +kernel
theorem d_M_takeCells_13 : decode b_M_takeCells 13 = .ok (.iload_n 1, 1) := by decide +kernel
theorem d_M_takeCells_14 : decode b_M_takeCells 14 = .ok (.aload_n 0, 1) := by decide +kernel
theorem d_M_takeCells_15 : decode b_M_takeCells 15 = .ok (.getfield 76, 3) := by decide +kernel
theorem d_M_takeCells_18 : decode b_M_takeCells 18 = .ok (.if_icmp .ge 132, 3) := by decide +kernel
theorem d_M_takeCells_21 : decode b_M_takeCells 21 = .ok (.iconst 0, 1) := by decide +kernel
theorem d_M_takeCells_22 : decode b_M_takeCells 22 = .ok (.istore_n 2, 1) := by decide +kernel
theorem d_M_takeCells_23 : decode b_M_takeCells 23 = .ok (.iload_n 2, 1) := by decide +kernel
theorem d_M_takeCells_24 : decode b_M_takeCells 24 = .ok (.aload_n 0, 1) := by decide +kernel
theorem d_M_takeCells_25 : decode b_M_takeCells 25 = .ok (.getfield 73, 3) := by decide +kernel
theorem d_M_takeCells_28 : decode b_M_takeCells 28 = .ok (.if_icmp .ge 116, 3) := by decide +kernel
theorem d_M_takeCells_31 : decode b_M_takeCells 31 = .ok (.bipush 24, 2) := by decide +kernel
theorem d_M_takeCells_33 : decode b_M_takeCells 33 = .ok (.iload_n 1, 1) := by decide +kernel
theorem d_M_takeCells_34 : decode b_M_takeCells 34 = .ok (.imul, 1) := by decide +kernel
theorem d_M_takeCells_35 : decode b_M_takeCells 35 = .ok (.iload_n 2, 1) := by decide +kernel
theorem d_M_takeCells_36 : decode b_M_takeCells 36 = .ok (.iadd, 1) := by decide +kernel
theorem d_M_takeCells_37 : decode b_M_takeCells 37 = .ok (.istore_n 3, 1) := by decide +kernel
theorem d_M_takeCells_38 : decode b_M_takeCells 38 = .ok (.aload_n 0, 1) := by decide +kernel
theorem d_M_takeCells_39 : decode b_M_takeCells 39 = .ok (.getfield 60, 3) := by decide +kernel
theorem d_M_takeCells_42 : decode b_M_takeCells 42 = .ok (.iload_n 3, 1) := by decide +kernel
theorem d_M_takeCells_43 : decode b_M_takeCells 43 = .ok (.aload_n 0, 1) := by decide +kernel
theorem d_M_takeCells_44 : decode b_M_takeCells 44 = .ok (.getfield 29, 3) := by decide +kernel
theorem d_M_takeCells_47 : decode b_M_takeCells 47 = .ok (.iload_n 3, 1) := by decide +kernel
theorem d_M_takeCells_48 : decode b_M_takeCells 48 = .ok (.iaload, 1) := by decide +kernel
theorem d_M_takeCells_49 : decode b_M_takeCells 49 = .ok (.iload_n 3, 1) := by decide +kernel
theorem d_M_takeCells_50 : decode b_M_takeCells 50 = .ok (.if_icmp .ne 22, 3) := by decide +kernel
theorem d_M_takeCells_53 : decode b_M_takeCells 53 = .ok (.aload_n 0, 1) := by decide +kernel
theorem d_M_takeCells_54 : decode b_M_takeCells 54 = .ok (.iload_n 3, 1) := by decide +kernel
theorem d_M_takeCells_55 : decode b_M_takeCells 55 = .ok (.invokevirtual 140, 3) := by decide +kernel
theorem d_M_takeCells_58 : decode b_M_takeCells 58 = .ok (.ifCond .eq 10, 3) := by decide +kernel
theorem d_M_takeCells_61 : decode b_M_takeCells 61 = .ok (.aload_n 0, 1) := by decide +kernel
theorem d_M_takeCells_62 : decode b_M_takeCells 62 = .ok (.getfield 137, 3) := by decide +kernel
theorem d_M_takeCells_65 : decode b_M_takeCells 65 = .ok (.goto 32, 3) := by decide +kernel
theorem d_M_takeCells_68 : decode b_M_takeCells 68 = .ok (.iconst (-1), 1) := by decide +kernel
theorem d_M_takeCells_69 : decode b_M_takeCells 69 = .ok (.goto 28, 3) := by decide +kernel
theorem d_M_takeCells_72 : decode b_M_takeCells 72 = .ok (.aload_n 0, 1) := by decide +kernel
theorem d_M_takeCells_73 : decode b_M_takeCells 73 = .ok (.getfield 29, 3) := by decide +kernel
theorem d_M_takeCells_76 : decode b_M_takeCells 76 = .ok (.iload_n 3, 1) := by decide +kernel
theorem d_M_takeCells_77 : decode b_M_takeCells 77 = .ok (.iaload, 1) := by decide +kernel
theorem d_M_takeCells_78 : decode b_M_takeCells 78 = .ok (.iconst (-1), 1) := by decide +kernel
theorem d_M_takeCells_79 : decode b_M_takeCells 79 = .ok (.if_icmp .ne 7, 3) := by decide +kernel
theorem d_M_takeCells_82 : decode b_M_takeCells 82 = .ok (.iconst (-1), 1) := by decide +kernel
theorem d_M_takeCells_83 : decode b_M_takeCells 83 = .ok (.goto 14, 3) := by decide +kernel
theorem d_M_takeCells_86 : decode b_M_takeCells 86 = .ok (.aload_n 0, 1) := by decide +kernel
theorem d_M_takeCells_87 : decode b_M_takeCells 87 = .ok (.getfield 60, 3) := by decide +kernel
theorem d_M_takeCells_90 : decode b_M_takeCells 90 = .ok (.aload_n 0, 1) := by decide +kernel
theorem d_M_takeCells_91 : decode b_M_takeCells 91 = .ok (.getfield 29, 3) := by decide +kernel
theorem d_M_takeCells_94 : decode b_M_takeCells 94 = .ok (.iload_n 3, 1) := by decide +kernel
theorem d_M_takeCells_95 : decode b_M_takeCells 95 = .ok (.iaload, 1) := by decide +kernel
theorem d_M_takeCells_96 : decode b_M_takeCells 96 = .ok (.iaload, 1) := by decide +kernel
theorem d_M_takeCells_97 : decode b_M_takeCells 97 = .ok (.iastore, 1) := by decide +kernel
theorem d_M_takeCells_98 : decode b_M_takeCells 98 = .ok (.aload_n 0, 1) := by decide +kernel
theorem d_M_takeCells_99 : decode b_M_takeCells 99 = .ok (.aload_n 0, 1) := by decide +kernel
theorem d_M_takeCells_100 : decode b_M_takeCells 100 = .ok (.getfield 29, 3) := by decide +kernel
theorem d_M_takeCells_103 : decode b_M_takeCells 103 = .ok (.iload_n 3, 1) := by decide +kernel
theorem d_M_takeCells_104 : decode b_M_takeCells 104 = .ok (.iaload, 1) := by decide +kernel
theorem d_M_takeCells_105 : decode b_M_takeCells 105 = .ok (.iload_n 3, 1) := by decide +kernel
theorem d_M_takeCells_106 : decode b_M_takeCells 106 = .ok (.if_icmp .ne 25, 3) := by decide +kernel
theorem d_M_takeCells_109 : decode b_M_takeCells 109 = .ok (.aload_n 0, 1) := by decide +kernel
theorem d_M_takeCells_110 : decode b_M_takeCells 110 = .ok (.getfield 60, 3) := by decide +kernel
theorem d_M_takeCells_113 : decode b_M_takeCells 113 = .ok (.iload_n 3, 1) := by decide +kernel
theorem d_M_takeCells_114 : decode b_M_takeCells 114 = .ok (.iaload, 1) := by decide +kernel
theorem d_M_takeCells_115 : decode b_M_takeCells 115 = .ok (.aload_n 0, 1) := by decide +kernel
theorem d_M_takeCells_116 : decode b_M_takeCells 116 = .ok (.getfield 137, 3) := by decide +kernel
theorem d_M_takeCells_119 : decode b_M_takeCells 119 = .ok (.if_icmp .ne 12, 3) := by decide +kernel
theorem d_M_takeCells_122 : decode b_M_takeCells 122 = .ok (.aload_n 0, 1) := by decide +kernel
theorem d_M_takeCells_123 : decode b_M_takeCells 123 = .ok (.getfield 137, 3) := by decide +kernel
theorem d_M_takeCells_126 : decode b_M_takeCells 126 = .ok (.iconst 1, 1) := by decide +kernel
theorem d_M_takeCells_127 : decode b_M_takeCells 127 = .ok (.iadd, 1) := by decide +kernel
theorem d_M_takeCells_128 : decode b_M_takeCells 128 = .ok (.goto 7, 3) := by decide +kernel
theorem d_M_takeCells_131 : decode b_M_takeCells 131 = .ok (.aload_n 0, 1) := by decide +kernel
theorem d_M_takeCells_132 : decode b_M_takeCells 132 = .ok (.getfield 137, 3) := by decide +kernel
theorem d_M_takeCells_135 : decode b_M_takeCells 135 = .ok (.putfield 137, 3) := by decide +kernel
theorem d_M_takeCells_138 : decode b_M_takeCells 138 = .ok (.iinc 2 1, 3) := by decide +kernel
theorem d_M_takeCells_141 : decode b_M_takeCells 141 = .ok (.goto (-118), 3) := by decide +kernel
theorem d_M_takeCells_144 : decode b_M_takeCells 144 = .ok (.iinc 1 1, 3) := by decide +kernel
theorem d_M_takeCells_147 : decode b_M_takeCells 147 = .ok (.goto (-134), 3) := by decide +kernel
theorem d_M_takeCells_150 : decode b_M_takeCells 150 = .ok (.return_, 1) := by decide +kernel
