theorem d_L_law_0 : decode b_L_law 0 = .ok (.new 8, 3) := by decide +kernel
theorem d_L_law_3 : decode b_L_law 3 = .ok (.dup, 1) := by decide +kernel
theorem d_L_law_4 : decode b_L_law 4 = .ok (.aload_n 0, 1) := by decide +kernel
theorem d_L_law_5 : decode b_L_law 5 = .ok (.iconst 0, 1) := by decide +kernel
theorem d_L_law_6 : decode b_L_law 6 = .ok (.invokestatic 57, 3) := by decide +kernel
theorem d_L_law_9 : decode b_L_law 9 = .ok (.aload_n 0, 1) := by decide +kernel
theorem d_L_law_10 : decode b_L_law 10 = .ok (.iconst 1, 1) := by decide +kernel
theorem d_L_law_11 : decode b_L_law 11 = .ok (.invokestatic 57, 3) := by decide +kernel
theorem d_L_law_14 : decode b_L_law 14 = .ok (.invokespecial 62, 3) := by decide +kernel
theorem d_L_law_17 : decode b_L_law 17 = .ok (.astore_n 1, 1) := by decide +kernel
theorem d_L_law_18 : decode b_L_law 18 = .ok (.new 65, 3) := by decide +kernel
theorem d_L_law_21 : decode b_L_law 21 = .ok (.dup, 1) := by decide +kernel
theorem d_L_law_22 : decode b_L_law 22 = .ok (.aload_n 0, 1) := by decide +kernel
theorem d_L_law_23 : decode b_L_law 23 = .ok (.iconst 0, 1) := by decide +kernel
theorem d_L_law_24 : decode b_L_law 24 = .ok (.invokestatic 57, 3) := by decide +kernel
theorem d_L_law_27 : decode b_L_law 27 = .ok (.aload_n 0, 1) := by decide +kernel
theorem d_L_law_28 : decode b_L_law 28 = .ok (.iconst 1, 1) := by decide +kernel
theorem d_L_law_29 : decode b_L_law 29 = .ok (.invokestatic 57, 3) := by decide +kernel
theorem d_L_law_32 : decode b_L_law 32 = .ok (.invokespecial 67, 3) := by decide +kernel
theorem d_L_law_35 : decode b_L_law 35 = .ok (.astore_n 2, 1) := by decide +kernel
theorem d_L_law_36 : decode b_L_law 36 = .ok (.iconst 1, 1) := by decide +kernel
theorem d_L_law_37 : decode b_L_law 37 = .ok (.newarray .long, 2) := by decide +kernel
theorem d_L_law_39 : decode b_L_law 39 = .ok (.astore_n 3, 1) := by decide +kernel
theorem d_L_law_40 : decode b_L_law 40 = .ok (.iconst 2, 1) := by decide +kernel
theorem d_L_law_41 : decode b_L_law 41 = .ok (.istore 4, 2) := by decide +kernel
theorem d_L_law_43 : decode b_L_law 43 = .ok (.iload 4, 2) := by decide +kernel
theorem d_L_law_45 : decode b_L_law 45 = .ok (.aload_n 0, 1) := by decide +kernel
theorem d_L_law_46 : decode b_L_law 46 = .ok (.arraylength, 1) := by decide +kernel
theorem d_L_law_47 : decode b_L_law 47 = .ok (.bipush 6, 2) := by decide +kernel
theorem d_L_law_49 : decode b_L_law 49 = .ok (.isub, 1) := by decide +kernel
theorem d_L_law_50 : decode b_L_law 50 = .ok (.if_icmp .gt 1010, 3) := by decide +kernel
theorem d_L_law_53 : decode b_L_law 53 = .ok (.aload_n 0, 1) := by decide +kernel
theorem d_L_law_54 : decode b_L_law 54 = .ok (.iload 4, 2) := by decide +kernel
theorem d_L_law_56 : decode b_L_law 56 = .ok (.iaload, 1) := by decide +kernel
theorem d_L_law_57 : decode b_L_law 57 = .ok (.bipush 15, 2) := by decide +kernel
theorem d_L_law_59 : decode b_L_law 59 = .ok (.iand, 1) := by decide +kernel
theorem d_L_law_60 : decode b_L_law 60 = .ok (.tableswitch 994 0 13 #[72, 175, 295, 351, 419, 487, 555, 635, 691, 759, 815, 883, 958, 983], 72) := by decide +kernel
theorem d_L_law_132 : decode b_L_law 132 = .ok (.aload_n 1, 1) := by decide +kernel
theorem d_L_law_133 : decode b_L_law 133 = .ok (.aload_n 0, 1) := by decide +kernel
theorem d_L_law_134 : decode b_L_law 134 = .ok (.iload 4, 2) := by decide +kernel
theorem d_L_law_136 : decode b_L_law 136 = .ok (.iconst 1, 1) := by decide +kernel
theorem d_L_law_137 : decode b_L_law 137 = .ok (.iadd, 1) := by decide +kernel
theorem d_L_law_138 : decode b_L_law 138 = .ok (.iaload, 1) := by decide +kernel
theorem d_L_law_139 : decode b_L_law 139 = .ok (.aload_n 0, 1) := by decide +kernel
theorem d_L_law_140 : decode b_L_law 140 = .ok (.iload 4, 2) := by decide +kernel
theorem d_L_law_142 : decode b_L_law 142 = .ok (.iconst 2, 1) := by decide +kernel
theorem d_L_law_143 : decode b_L_law 143 = .ok (.iadd, 1) := by decide +kernel
theorem d_L_law_144 : decode b_L_law 144 = .ok (.iaload, 1) := by decide +kernel
theorem d_L_law_145 : decode b_L_law 145 = .ok (.aload_n 0, 1) := by decide +kernel
theorem d_L_law_146 : decode b_L_law 146 = .ok (.iload 4, 2) := by decide +kernel
theorem d_L_law_148 : decode b_L_law 148 = .ok (.iconst 3, 1) := by decide +kernel
theorem d_L_law_149 : decode b_L_law 149 = .ok (.iadd, 1) := by decide +kernel
theorem d_L_law_150 : decode b_L_law 150 = .ok (.iaload, 1) := by decide +kernel
theorem d_L_law_151 : decode b_L_law 151 = .ok (.ifCond .eq 7, 3) := by decide +kernel
theorem d_L_law_154 : decode b_L_law 154 = .ok (.iconst 1, 1) := by decide +kernel
theorem d_L_law_155 : decode b_L_law 155 = .ok (.goto 4, 3) := by decide +kernel
theorem d_L_law_158 : decode b_L_law 158 = .ok (.iconst 0, 1) := by decide +kernel
theorem d_L_law_159 : decode b_L_law 159 = .ok (.aload_n 3, 1) := by decide +kernel
theorem d_L_law_160 : decode b_L_law 160 = .ok (.invokestatic 68, 3) := by decide +kernel
theorem d_L_law_163 : decode b_L_law 163 = .ok (.istore 5, 2) := by decide +kernel
theorem d_L_law_165 : decode b_L_law 165 = .ok (.aload_n 2, 1) := by decide +kernel
theorem d_L_law_166 : decode b_L_law 166 = .ok (.aload_n 0, 1) := by decide +kernel
theorem d_L_law_167 : decode b_L_law 167 = .ok (.iload 4, 2) := by decide +kernel
theorem d_L_law_169 : decode b_L_law 169 = .ok (.iconst 1, 1) := by decide +kernel
theorem d_L_law_170 : decode b_L_law 170 = .ok (.iadd, 1) := by decide +kernel
theorem d_L_law_171 : decode b_L_law 171 = .ok (.iaload, 1) := by decide +kernel
theorem d_L_law_172 : decode b_L_law 172 = .ok (.aload_n 0, 1) := by decide +kernel
theorem d_L_law_173 : decode b_L_law 173 = .ok (.iload 4, 2) := by decide +kernel
theorem d_L_law_175 : decode b_L_law 175 = .ok (.iconst 2, 1) := by decide +kernel
theorem d_L_law_176 : decode b_L_law 176 = .ok (.iadd, 1) := by decide +kernel
theorem d_L_law_177 : decode b_L_law 177 = .ok (.iaload, 1) := by decide +kernel
theorem d_L_law_178 : decode b_L_law 178 = .ok (.aload_n 0, 1) := by decide +kernel
theorem d_L_law_179 : decode b_L_law 179 = .ok (.iload 4, 2) := by decide +kernel
theorem d_L_law_181 : decode b_L_law 181 = .ok (.iconst 3, 1) := by decide +kernel
theorem d_L_law_182 : decode b_L_law 182 = .ok (.iadd, 1) := by decide +kernel
theorem d_L_law_183 : decode b_L_law 183 = .ok (.iaload, 1) := by decide +kernel
theorem d_L_law_184 : decode b_L_law 184 = .ok (.ifCond .eq 7, 3) := by decide +kernel
theorem d_L_law_187 : decode b_L_law 187 = .ok (.iconst 1, 1) := by decide +kernel
theorem d_L_law_188 : decode b_L_law 188 = .ok (.goto 4, 3) := by decide +kernel
theorem d_L_law_191 : decode b_L_law 191 = .ok (.iconst 0, 1) := by decide +kernel
theorem d_L_law_192 : decode b_L_law 192 = .ok (.invokevirtual 71, 3) := by decide +kernel
theorem d_L_law_195 : decode b_L_law 195 = .ok (.istore 6, 2) := by decide +kernel
theorem d_L_law_197 : decode b_L_law 197 = .ok (.aload_n 2, 1) := by decide +kernel
theorem d_L_law_198 : decode b_L_law 198 = .ok (.invokevirtual 72, 3) := by decide +kernel
theorem d_L_law_201 : decode b_L_law 201 = .ok (.iload 5, 2) := by decide +kernel
theorem d_L_law_203 : decode b_L_law 203 = .ok (.if_icmp .eq 5, 3) := by decide +kernel
theorem d_L_law_206 : decode b_L_law 206 = .ok (.iconst 0, 1) := by decide +kernel
theorem d_L_law_207 : decode b_L_law 207 = .ok (.ireturn, 1) := by decide +kernel
theorem d_L_law_208 : decode b_L_law 208 = .ok (.iload 5, 2) := by decide +kernel
theorem d_L_law_210 : decode b_L_law 210 = .ok (.ifCond .ne 22, 3) := by decide +kernel
theorem d_L_law_213 : decode b_L_law 213 = .ok (.aload_n 3, 1) := by decide +kernel
theorem d_L_law_214 : decode b_L_law 214 = .ok (.iconst 0, 1) := by decide +kernel
theorem d_L_law_215 : decode b_L_law 215 = .ok (.laload, 1) := by decide +kernel
theorem d_L_law_216 : decode b_L_law 216 = .ok (.iload 6, 2) := by decide +kernel
theorem d_L_law_218 : decode b_L_law 218 = .ok (.ifCond .eq 7, 3) := by decide +kernel
theorem d_L_law_221 : decode b_L_law 221 = .ok (.lconst 1, 1) := by decide +kernel
theorem d_L_law_222 : decode b_L_law 222 = .ok (.goto 4, 3) := by decide +kernel
theorem d_L_law_225 : decode b_L_law 225 = .ok (.lconst 0, 1) := by decide +kernel
theorem d_L_law_226 : decode b_L_law 226 = .ok (.lcmp, 1) := by decide +kernel
theorem d_L_law_227 : decode b_L_law 227 = .ok (.ifCond .eq 5, 3) := by decide +kernel
theorem d_L_law_230 : decode b_L_law 230 = .ok (.iconst 0, 1) := by decide +kernel
theorem d_L_law_231 : decode b_L_law 231 = .ok (.ireturn, 1) := by decide +kernel
theorem d_L_law_232 : decode b_L_law 232 = .ok (.goto 822, 3) := by decide +kernel
theorem d_L_law_235 : decode b_L_law 235 = .ok (.aload_n 1, 1) := by decide +kernel
theorem d_L_law_236 : decode b_L_law 236 = .ok (.aload_n 0, 1) := by decide +kernel
theorem d_L_law_237 : decode b_L_law 237 = .ok (.iload 4, 2) := by decide +kernel
theorem d_L_law_239 : decode b_L_law 239 = .ok (.iconst 1, 1) := by decide +kernel
theorem d_L_law_240 : decode b_L_law 240 = .ok (.iadd, 1) := by decide +kernel
theorem d_L_law_241 : decode b_L_law 241 = .ok (.iaload, 1) := by decide +kernel
theorem d_L_law_242 : decode b_L_law 242 = .ok (.aload_n 0, 1) := by decide +kernel
theorem d_L_law_243 : decode b_L_law 243 = .ok (.iload 4, 2) := by decide +kernel
theorem d_L_law_245 : decode b_L_law 245 = .ok (.iconst 2, 1) := by decide +kernel
theorem d_L_law_246 : decode b_L_law 246 = .ok (.iadd, 1) := by decide +kernel
theorem d_L_law_247 : decode b_L_law 247 = .ok (.iaload, 1) := by decide +kernel
theorem d_L_law_248 : decode b_L_law 248 = .ok (.aload_n 0, 1) := by decide +kernel
theorem d_L_law_249 : decode b_L_law 249 = .ok (.iload 4, 2) := by decide +kernel
theorem d_L_law_251 : decode b_L_law 251 = .ok (.iconst 3, 1) := by decide +kernel
theorem d_L_law_252 : decode b_L_law 252 = .ok (.iadd, 1) := by decide +kernel
theorem d_L_law_253 : decode b_L_law 253 = .ok (.iaload, 1) := by decide +kernel
theorem d_L_law_254 : decode b_L_law 254 = .ok (.aload_n 0, 1) := by decide +kernel
theorem d_L_law_255 : decode b_L_law 255 = .ok (.iload 4, 2) := by decide +kernel
theorem d_L_law_257 : decode b_L_law 257 = .ok (.iconst 4, 1) := by decide +kernel
theorem d_L_law_258 : decode b_L_law 258 = .ok (.iadd, 1) := by decide +kernel
theorem d_L_law_259 : decode b_L_law 259 = .ok (.iaload, 1) := by decide +kernel
theorem d_L_law_260 : decode b_L_law 260 = .ok (.aload_n 0, 1) := by decide +kernel
theorem d_L_law_261 : decode b_L_law 261 = .ok (.iload 4, 2) := by decide +kernel
theorem d_L_law_263 : decode b_L_law 263 = .ok (.iconst 5, 1) := by decide +kernel
theorem d_L_law_264 : decode b_L_law 264 = .ok (.iadd, 1) := by decide +kernel
theorem d_L_law_265 : decode b_L_law 265 = .ok (.iaload, 1) := by decide +kernel
theorem d_L_law_266 : decode b_L_law 266 = .ok (.ifCond .eq 7, 3) := by decide +kernel
theorem d_L_law_269 : decode b_L_law 269 = .ok (.iconst 1, 1) := by decide +kernel
theorem d_L_law_270 : decode b_L_law 270 = .ok (.goto 4, 3) := by decide +kernel
theorem d_L_law_273 : decode b_L_law 273 = .ok (.iconst 0, 1) := by decide +kernel
theorem d_L_law_274 : decode b_L_law 274 = .ok (.aload_n 3, 1) := by decide +kernel
theorem d_L_law_275 : decode b_L_law 275 = .ok (.invokestatic 76, 3) := by decide +kernel
theorem d_L_law_278 : decode b_L_law 278 = .ok (.istore 5, 2) := by decide +kernel
theorem d_L_law_280 : decode b_L_law 280 = .ok (.aload_n 2, 1) := by decide +kernel
theorem d_L_law_281 : decode b_L_law 281 = .ok (.aload_n 0, 1) := by decide +kernel
theorem d_L_law_282 : decode b_L_law 282 = .ok (.iload 4, 2) := by decide +kernel
theorem d_L_law_284 : decode b_L_law 284 = .ok (.iconst 1, 1) := by decide +kernel
theorem d_L_law_285 : decode b_L_law 285 = .ok (.iadd, 1) := by decide +kernel
theorem d_L_law_286 : decode b_L_law 286 = .ok (.iaload, 1) := by decide +kernel
theorem d_L_law_287 : decode b_L_law 287 = .ok (.aload_n 0, 1) := by decide +kernel
theorem d_L_law_288 : decode b_L_law 288 = .ok (.iload 4, 2) := by decide +kernel
theorem d_L_law_290 : decode b_L_law 290 = .ok (.iconst 2, 1) := by decide +kernel
theorem d_L_law_291 : decode b_L_law 291 = .ok (.iadd, 1) := by decide +kernel
theorem d_L_law_292 : decode b_L_law 292 = .ok (.iaload, 1) := by decide +kernel
theorem d_L_law_293 : decode b_L_law 293 = .ok (.aload_n 0, 1) := by decide +kernel
theorem d_L_law_294 : decode b_L_law 294 = .ok (.iload 4, 2) := by decide +kernel
theorem d_L_law_296 : decode b_L_law 296 = .ok (.iconst 3, 1) := by decide +kernel
theorem d_L_law_297 : decode b_L_law 297 = .ok (.iadd, 1) := by decide +kernel
theorem d_L_law_298 : decode b_L_law 298 = .ok (.iaload, 1) := by decide +kernel
theorem d_L_law_299 : decode b_L_law 299 = .ok (.aload_n 0, 1) := by decide +kernel
theorem d_L_law_300 : decode b_L_law 300 = .ok (.iload 4, 2) := by decide +kernel
theorem d_L_law_302 : decode b_L_law 302 = .ok (.iconst 4, 1) := by decide +kernel
theorem d_L_law_303 : decode b_L_law 303 = .ok (.iadd, 1) := by decide +kernel
theorem d_L_law_304 : decode b_L_law 304 = .ok (.iaload, 1) := by decide +kernel
theorem d_L_law_305 : decode b_L_law 305 = .ok (.aload_n 0, 1) := by decide +kernel
theorem d_L_law_306 : decode b_L_law 306 = .ok (.iload 4, 2) := by decide +kernel
theorem d_L_law_308 : decode b_L_law 308 = .ok (.iconst 5, 1) := by decide +kernel
theorem d_L_law_309 : decode b_L_law 309 = .ok (.iadd, 1) := by decide +kernel
theorem d_L_law_310 : decode b_L_law 310 = .ok (.iaload, 1) := by decide +kernel
theorem d_L_law_311 : decode b_L_law 311 = .ok (.ifCond .eq 7, 3) := by decide +kernel
theorem d_L_law_314 : decode b_L_law 314 = .ok (.iconst 1, 1) := by decide +kernel
theorem d_L_law_315 : decode b_L_law 315 = .ok (.goto 4, 3) := by decide +kernel
theorem d_L_law_318 : decode b_L_law 318 = .ok (.iconst 0, 1) := by decide +kernel
theorem d_L_law_319 : decode b_L_law 319 = .ok (.invokevirtual 79, 3) := by decide +kernel
theorem d_L_law_322 : decode b_L_law 322 = .ok (.istore 6, 2) := by decide +kernel
theorem d_L_law_324 : decode b_L_law 324 = .ok (.aload_n 2, 1) := by decide +kernel
theorem d_L_law_325 : decode b_L_law 325 = .ok (.invokevirtual 72, 3) := by decide +kernel
theorem d_L_law_328 : decode b_L_law 328 = .ok (.iload 5, 2) := by decide +kernel
theorem d_L_law_330 : decode b_L_law 330 = .ok (.if_icmp .eq 5, 3) := by decide +kernel
theorem d_L_law_333 : decode b_L_law 333 = .ok (.iconst 0, 1) := by decide +kernel
theorem d_L_law_334 : decode b_L_law 334 = .ok (.ireturn, 1) := by decide +kernel
theorem d_L_law_335 : decode b_L_law 335 = .ok (.iload 5, 2) := by decide +kernel
theorem d_L_law_337 : decode b_L_law 337 = .ok (.ifCond .ne 15, 3) := by decide +kernel
theorem d_L_law_340 : decode b_L_law 340 = .ok (.aload_n 3, 1) := by decide +kernel
theorem d_L_law_341 : decode b_L_law 341 = .ok (.iconst 0, 1) := by decide +kernel
theorem d_L_law_342 : decode b_L_law 342 = .ok (.laload, 1) := by decide +kernel
theorem d_L_law_343 : decode b_L_law 343 = .ok (.iload 6, 2) := by decide +kernel
theorem d_L_law_345 : decode b_L_law 345 = .ok (.i2l, 1) := by decide +kernel
theorem d_L_law_346 : decode b_L_law 346 = .ok (.lcmp, 1) := by decide +kernel
theorem d_L_law_347 : decode b_L_law 347 = .ok (.ifCond .eq 5, 3) := by decide +kernel
theorem d_L_law_350 : decode b_L_law 350 = .ok (.iconst 0, 1) := by decide +kernel
theorem d_L_law_351 : decode b_L_law 351 = .ok (.ireturn, 1) := by decide +kernel
theorem d_L_law_352 : decode b_L_law 352 = .ok (.goto 702, 3) := by decide +kernel
theorem d_L_law_355 : decode b_L_law 355 = .ok (.aload_n 1, 1) := by decide +kernel
theorem d_L_law_356 : decode b_L_law 356 = .ok (.aload_n 0, 1) := by decide +kernel
theorem d_L_law_357 : decode b_L_law 357 = .ok (.iload 4, 2) := by decide +kernel
theorem d_L_law_359 : decode b_L_law 359 = .ok (.iconst 1, 1) := by decide +kernel
theorem d_L_law_360 : decode b_L_law 360 = .ok (.iadd, 1) := by decide +kernel
theorem d_L_law_361 : decode b_L_law 361 = .ok (.iaload, 1) := by decide +kernel
theorem d_L_law_362 : decode b_L_law 362 = .ok (.aload_n 3, 1) := by decide +kernel
theorem d_L_law_363 : decode b_L_law 363 = .ok (.invokestatic 80, 3) := by decide +kernel
theorem d_L_law_366 : decode b_L_law 366 = .ok (.istore 5, 2) := by decide +kernel
theorem d_L_law_368 : decode b_L_law 368 = .ok (.aload_n 2, 1) := by decide +kernel
theorem d_L_law_369 : decode b_L_law 369 = .ok (.aload_n 0, 1) := by decide +kernel
theorem d_L_law_370 : decode b_L_law 370 = .ok (.iload 4, 2) := by decide +kernel
theorem d_L_law_372 : decode b_L_law 372 = .ok (.iconst 1, 1) := by decide +kernel
theorem d_L_law_373 : decode b_L_law 373 = .ok (.iadd, 1) := by decide +kernel
theorem d_L_law_374 : decode b_L_law 374 = .ok (.iaload, 1) := by decide +kernel
theorem d_L_law_375 : decode b_L_law 375 = .ok (.invokevirtual 83, 3) := by decide +kernel
theorem d_L_law_378 : decode b_L_law 378 = .ok (.istore 6, 2) := by decide +kernel
theorem d_L_law_380 : decode b_L_law 380 = .ok (.aload_n 2, 1) := by decide +kernel
theorem d_L_law_381 : decode b_L_law 381 = .ok (.invokevirtual 72, 3) := by decide +kernel
theorem d_L_law_384 : decode b_L_law 384 = .ok (.iload 5, 2) := by decide +kernel
theorem d_L_law_386 : decode b_L_law 386 = .ok (.if_icmp .eq 5, 3) := by decide +kernel
theorem d_L_law_389 : decode b_L_law 389 = .ok (.iconst 0, 1) := by decide +kernel
theorem d_L_law_390 : decode b_L_law 390 = .ok (.ireturn, 1) := by decide +kernel
theorem d_L_law_391 : decode b_L_law 391 = .ok (.iload 5, 2) := by decide +kernel
theorem d_L_law_393 : decode b_L_law 393 = .ok (.ifCond .ne 15, 3) := by decide +kernel
theorem d_L_law_396 : decode b_L_law 396 = .ok (.aload_n 3, 1) := by decide +kernel
theorem d_L_law_397 : decode b_L_law 397 = .ok (.iconst 0, 1) := by decide +kernel
theorem d_L_law_398 : decode b_L_law 398 = .ok (.laload, 1) := by decide +kernel
theorem d_L_law_399 : decode b_L_law 399 = .ok (.iload 6, 2) := by decide +kernel
theorem d_L_law_401 : decode b_L_law 401 = .ok (.i2l, 1) := by decide +kernel
theorem d_L_law_402 : decode b_L_law 402 = .ok (.lcmp, 1) := by decide +kernel
theorem d_L_law_403 : decode b_L_law 403 = .ok (.ifCond .eq 5, 3) := by decide +kernel
theorem d_L_law_406 : decode b_L_law 406 = .ok (.iconst 0, 1) := by decide +kernel
theorem d_L_law_407 : decode b_L_law 407 = .ok (.ireturn, 1) := by decide +kernel
theorem d_L_law_408 : decode b_L_law 408 = .ok (.goto 646, 3) := by decide +kernel
theorem d_L_law_411 : decode b_L_law 411 = .ok (.aload_n 1, 1) := by decide +kernel
theorem d_L_law_412 : decode b_L_law 412 = .ok (.aload_n 0, 1) := by decide +kernel
theorem d_L_law_413 : decode b_L_law 413 = .ok (.iload 4, 2) := by decide +kernel
theorem d_L_law_415 : decode b_L_law 415 = .ok (.iconst 1, 1) := by decide +kernel
theorem d_L_law_416 : decode b_L_law 416 = .ok (.iadd, 1) := by decide +kernel
theorem d_L_law_417 : decode b_L_law 417 = .ok (.iaload, 1) := by decide +kernel
theorem d_L_law_418 : decode b_L_law 418 = .ok (.aload_n 0, 1) := by decide +kernel
theorem d_L_law_419 : decode b_L_law 419 = .ok (.iload 4, 2) := by decide +kernel
theorem d_L_law_421 : decode b_L_law 421 = .ok (.iconst 2, 1) := by decide +kernel
theorem d_L_law_422 : decode b_L_law 422 = .ok (.iadd, 1) := by decide +kernel
theorem d_L_law_423 : decode b_L_law 423 = .ok (.iaload, 1) := by decide +kernel
theorem d_L_law_424 : decode b_L_law 424 = .ok (.aload_n 3, 1) := by decide +kernel
theorem d_L_law_425 : decode b_L_law 425 = .ok (.invokestatic 84, 3) := by decide +kernel
theorem d_L_law_428 : decode b_L_law 428 = .ok (.istore 5, 2) := by decide +kernel
theorem d_L_law_430 : decode b_L_law 430 = .ok (.aload_n 2, 1) := by decide +kernel
theorem d_L_law_431 : decode b_L_law 431 = .ok (.aload_n 0, 1) := by decide +kernel
theorem d_L_law_432 : decode b_L_law 432 = .ok (.iload 4, 2) := by decide +kernel
theorem d_L_law_434 : decode b_L_law 434 = .ok (.iconst 1, 1) := by decide +kernel
theorem d_L_law_435 : decode b_L_law 435 = .ok (.iadd, 1) := by decide +kernel
theorem d_L_law_436 : decode b_L_law 436 = .ok (.iaload, 1) := by decide +kernel
theorem d_L_law_437 : decode b_L_law 437 = .ok (.aload_n 0, 1) := by decide +kernel
theorem d_L_law_438 : decode b_L_law 438 = .ok (.iload 4, 2) := by decide +kernel
theorem d_L_law_440 : decode b_L_law 440 = .ok (.iconst 2, 1) := by decide +kernel
theorem d_L_law_441 : decode b_L_law 441 = .ok (.iadd, 1) := by decide +kernel
theorem d_L_law_442 : decode b_L_law 442 = .ok (.iaload, 1) := by decide +kernel
theorem d_L_law_443 : decode b_L_law 443 = .ok (.invokevirtual 87, 3) := by decide +kernel
theorem d_L_law_446 : decode b_L_law 446 = .ok (.istore 6, 2) := by decide +kernel
theorem d_L_law_448 : decode b_L_law 448 = .ok (.aload_n 2, 1) := by decide +kernel
theorem d_L_law_449 : decode b_L_law 449 = .ok (.invokevirtual 72, 3) := by decide +kernel
theorem d_L_law_452 : decode b_L_law 452 = .ok (.iload 5, 2) := by decide +kernel
theorem d_L_law_454 : decode b_L_law 454 = .ok (.if_icmp .eq 5, 3) := by decide +kernel
theorem d_L_law_457 : decode b_L_law 457 = .ok (.iconst 0, 1) := by decide +kernel
theorem d_L_law_458 : decode b_L_law 458 = .ok (.ireturn, 1) := by decide +kernel
theorem d_L_law_459 : decode b_L_law 459 = .ok (.iload 5, 2) := by decide +kernel
theorem d_L_law_461 : decode b_L_law 461 = .ok (.ifCond .ne 15, 3) := by decide +kernel
theorem d_L_law_464 : decode b_L_law 464 = .ok (.aload_n 3, 1) := by decide +kernel
theorem d_L_law_465 : decode b_L_law 465 = .ok (.iconst 0, 1) := by decide +kernel
theorem d_L_law_466 : decode b_L_law 466 = .ok (.laload, 1) := by decide +kernel
theorem d_L_law_467 : decode b_L_law 467 = .ok (.iload 6, 2) := by decide +kernel
theorem d_L_law_469 : decode b_L_law 469 = .ok (.i2l, 1) := by decide +kernel
theorem d_L_law_470 : decode b_L_law 470 = .ok (.lcmp, 1) := by decide +kernel
theorem d_L_law_471 : decode b_L_law 471 = .ok (.ifCond .eq 5, 3) := by decide +kernel
theorem d_L_law_474 : decode b_L_law 474 = .ok (.iconst 0, 1) := by decide +kernel
theorem d_L_law_475 : decode b_L_law 475 = .ok (.ireturn, 1) := by decide +kernel
theorem d_L_law_476 : decode b_L_law 476 = .ok (.goto 578, 3) := by decide +kernel
theorem d_L_law_479 : decode b_L_law 479 = .ok (.aload_n 1, 1) := by decide +kernel
theorem d_L_law_480 : decode b_L_law 480 = .ok (.aload_n 0, 1) := by decide +kernel
theorem d_L_law_481 : decode b_L_law 481 = .ok (.iload 4, 2) := by decide +kernel
theorem d_L_law_483 : decode b_L_law 483 = .ok (.iconst 1, 1) := by decide +kernel
theorem d_L_law_484 : decode b_L_law 484 = .ok (.iadd, 1) := by decide +kernel
theorem d_L_law_485 : decode b_L_law 485 = .ok (.iaload, 1) := by decide +kernel
theorem d_L_law_486 : decode b_L_law 486 = .ok (.aload_n 0, 1) := by decide +kernel
theorem d_L_law_487 : decode b_L_law 487 = .ok (.iload 4, 2) := by decide +kernel
theorem d_L_law_489 : decode b_L_law 489 = .ok (.iconst 2, 1) := by decide +kernel
theorem d_L_law_490 : decode b_L_law 490 = .ok (.iadd, 1) := by decide +kernel
theorem d_L_law_491 : decode b_L_law 491 = .ok (.iaload, 1) := by decide +kernel
theorem d_L_law_492 : decode b_L_law 492 = .ok (.aload_n 3, 1) := by decide +kernel
theorem d_L_law_493 : decode b_L_law 493 = .ok (.invokestatic 88, 3) := by decide +kernel
theorem d_L_law_496 : decode b_L_law 496 = .ok (.istore 5, 2) := by decide +kernel
theorem d_L_law_498 : decode b_L_law 498 = .ok (.aload_n 2, 1) := by decide +kernel
theorem d_L_law_499 : decode b_L_law 499 = .ok (.aload_n 0, 1) := by decide +kernel
theorem d_L_law_500 : decode b_L_law 500 = .ok (.iload 4, 2) := by decide +kernel
theorem d_L_law_502 : decode b_L_law 502 = .ok (.iconst 1, 1) := by decide +kernel
theorem d_L_law_503 : decode b_L_law 503 = .ok (.iadd, 1) := by decide +kernel
theorem d_L_law_504 : decode b_L_law 504 = .ok (.iaload, 1) := by decide +kernel
theorem d_L_law_505 : decode b_L_law 505 = .ok (.aload_n 0, 1) := by decide +kernel
theorem d_L_law_506 : decode b_L_law 506 = .ok (.iload 4, 2) := by decide +kernel
theorem d_L_law_508 : decode b_L_law 508 = .ok (.iconst 2, 1) := by decide +kernel
theorem d_L_law_509 : decode b_L_law 509 = .ok (.iadd, 1) := by decide +kernel
theorem d_L_law_510 : decode b_L_law 510 = .ok (.iaload, 1) := by decide +kernel
theorem d_L_law_511 : decode b_L_law 511 = .ok (.invokevirtual 90, 3) := by decide +kernel
theorem d_L_law_514 : decode b_L_law 514 = .ok (.istore 6, 2) := by decide +kernel
theorem d_L_law_516 : decode b_L_law 516 = .ok (.aload_n 2, 1) := by decide +kernel
theorem d_L_law_517 : decode b_L_law 517 = .ok (.invokevirtual 72, 3) := by decide +kernel
theorem d_L_law_520 : decode b_L_law 520 = .ok (.iload 5, 2) := by decide +kernel
theorem d_L_law_522 : decode b_L_law 522 = .ok (.if_icmp .eq 5, 3) := by decide +kernel
theorem d_L_law_525 : decode b_L_law 525 = .ok (.iconst 0, 1) := by decide +kernel
theorem d_L_law_526 : decode b_L_law 526 = .ok (.ireturn, 1) := by decide +kernel
theorem d_L_law_527 : decode b_L_law 527 = .ok (.iload 5, 2) := by decide +kernel
theorem d_L_law_529 : decode b_L_law 529 = .ok (.ifCond .ne 15, 3) := by decide +kernel
theorem d_L_law_532 : decode b_L_law 532 = .ok (.aload_n 3, 1) := by decide +kernel
theorem d_L_law_533 : decode b_L_law 533 = .ok (.iconst 0, 1) := by decide +kernel
theorem d_L_law_534 : decode b_L_law 534 = .ok (.laload, 1) := by decide +kernel
theorem d_L_law_535 : decode b_L_law 535 = .ok (.iload 6, 2) := by decide +kernel
theorem d_L_law_537 : decode b_L_law 537 = .ok (.i2l, 1) := by decide +kernel
theorem d_L_law_538 : decode b_L_law 538 = .ok (.lcmp, 1) := by decide +kernel
theorem d_L_law_539 : decode b_L_law 539 = .ok (.ifCond .eq 5, 3) := by decide +kernel
theorem d_L_law_542 : decode b_L_law 542 = .ok (.iconst 0, 1) := by decide +kernel
theorem d_L_law_543 : decode b_L_law 543 = .ok (.ireturn, 1) := by decide +kernel
theorem d_L_law_544 : decode b_L_law 544 = .ok (.goto 510, 3) := by decide +kernel
theorem d_L_law_547 : decode b_L_law 547 = .ok (.aload_n 1, 1) := by decide +kernel
theorem d_L_law_548 : decode b_L_law 548 = .ok (.aload_n 0, 1) := by decide +kernel
theorem d_L_law_549 : decode b_L_law 549 = .ok (.iload 4, 2) := by decide +kernel
theorem d_L_law_551 : decode b_L_law 551 = .ok (.iconst 1, 1) := by decide +kernel
theorem d_L_law_552 : decode b_L_law 552 = .ok (.iadd, 1) := by decide +kernel
theorem d_L_law_553 : decode b_L_law 553 = .ok (.iaload, 1) := by decide +kernel
theorem d_L_law_554 : decode b_L_law 554 = .ok (.aload_n 0, 1) := by decide +kernel
theorem d_L_law_555 : decode b_L_law 555 = .ok (.iload 4, 2) := by decide +kernel
theorem d_L_law_557 : decode b_L_law 557 = .ok (.iconst 2, 1) := by decide +kernel
theorem d_L_law_558 : decode b_L_law 558 = .ok (.iadd, 1) := by decide +kernel
theorem d_L_law_559 : decode b_L_law 559 = .ok (.iaload, 1) := by decide +kernel
theorem d_L_law_560 : decode b_L_law 560 = .ok (.aload_n 3, 1) := by decide +kernel
theorem d_L_law_561 : decode b_L_law 561 = .ok (.invokestatic 91, 3) := by decide +kernel
theorem d_L_law_564 : decode b_L_law 564 = .ok (.istore 5, 2) := by decide +kernel
theorem d_L_law_566 : decode b_L_law 566 = .ok (.aload_n 2, 1) := by decide +kernel
theorem d_L_law_567 : decode b_L_law 567 = .ok (.aload_n 0, 1) := by decide +kernel
theorem d_L_law_568 : decode b_L_law 568 = .ok (.iload 4, 2) := by decide +kernel
theorem d_L_law_570 : decode b_L_law 570 = .ok (.iconst 1, 1) := by decide +kernel
theorem d_L_law_571 : decode b_L_law 571 = .ok (.iadd, 1) := by decide +kernel
theorem d_L_law_572 : decode b_L_law 572 = .ok (.iaload, 1) := by decide +kernel
theorem d_L_law_573 : decode b_L_law 573 = .ok (.aload_n 0, 1) := by decide +kernel
theorem d_L_law_574 : decode b_L_law 574 = .ok (.iload 4, 2) := by decide +kernel
theorem d_L_law_576 : decode b_L_law 576 = .ok (.iconst 2, 1) := by decide +kernel
theorem d_L_law_577 : decode b_L_law 577 = .ok (.iadd, 1) := by decide +kernel
theorem d_L_law_578 : decode b_L_law 578 = .ok (.iaload, 1) := by decide +kernel
theorem d_L_law_579 : decode b_L_law 579 = .ok (.invokevirtual 93, 3) := by decide +kernel
theorem d_L_law_582 : decode b_L_law 582 = .ok (.istore 6, 2) := by decide +kernel
theorem d_L_law_584 : decode b_L_law 584 = .ok (.aload_n 2, 1) := by decide +kernel
theorem d_L_law_585 : decode b_L_law 585 = .ok (.invokevirtual 72, 3) := by decide +kernel
theorem d_L_law_588 : decode b_L_law 588 = .ok (.iload 5, 2) := by decide +kernel
theorem d_L_law_590 : decode b_L_law 590 = .ok (.if_icmp .eq 5, 3) := by decide +kernel
theorem d_L_law_593 : decode b_L_law 593 = .ok (.iconst 0, 1) := by decide +kernel
theorem d_L_law_594 : decode b_L_law 594 = .ok (.ireturn, 1) := by decide +kernel
theorem d_L_law_595 : decode b_L_law 595 = .ok (.iload 5, 2) := by decide +kernel
theorem d_L_law_597 : decode b_L_law 597 = .ok (.ifCond .ne 15, 3) := by decide +kernel
theorem d_L_law_600 : decode b_L_law 600 = .ok (.aload_n 3, 1) := by decide +kernel
theorem d_L_law_601 : decode b_L_law 601 = .ok (.iconst 0, 1) := by decide +kernel
theorem d_L_law_602 : decode b_L_law 602 = .ok (.laload, 1) := by decide +kernel
theorem d_L_law_603 : decode b_L_law 603 = .ok (.iload 6, 2) := by decide +kernel
theorem d_L_law_605 : decode b_L_law 605 = .ok (.i2l, 1) := by decide +kernel
theorem d_L_law_606 : decode b_L_law 606 = .ok (.lcmp, 1) := by decide +kernel
theorem d_L_law_607 : decode b_L_law 607 = .ok (.ifCond .eq 5, 3) := by decide +kernel
theorem d_L_law_610 : decode b_L_law 610 = .ok (.iconst 0, 1) := by decide +kernel
theorem d_L_law_611 : decode b_L_law 611 = .ok (.ireturn, 1) := by decide +kernel
theorem d_L_law_612 : decode b_L_law 612 = .ok (.goto 442, 3) := by decide +kernel
theorem d_L_law_615 : decode b_L_law 615 = .ok (.aload_n 1, 1) := by decide +kernel
theorem d_L_law_616 : decode b_L_law 616 = .ok (.aload_n 0, 1) := by decide +kernel
theorem d_L_law_617 : decode b_L_law 617 = .ok (.iload 4, 2) := by decide +kernel
theorem d_L_law_619 : decode b_L_law 619 = .ok (.iconst 1, 1) := by decide +kernel
theorem d_L_law_620 : decode b_L_law 620 = .ok (.iadd, 1) := by decide +kernel
theorem d_L_law_621 : decode b_L_law 621 = .ok (.iaload, 1) := by decide +kernel
theorem d_L_law_622 : decode b_L_law 622 = .ok (.aload_n 0, 1) := by decide +kernel
theorem d_L_law_623 : decode b_L_law 623 = .ok (.iload 4, 2) := by decide +kernel
theorem d_L_law_625 : decode b_L_law 625 = .ok (.iconst 2, 1) := by decide +kernel
theorem d_L_law_626 : decode b_L_law 626 = .ok (.iadd, 1) := by decide +kernel
theorem d_L_law_627 : decode b_L_law 627 = .ok (.iaload, 1) := by decide +kernel
theorem d_L_law_628 : decode b_L_law 628 = .ok (.aload_n 0, 1) := by decide +kernel
theorem d_L_law_629 : decode b_L_law 629 = .ok (.iload 4, 2) := by decide +kernel
theorem d_L_law_631 : decode b_L_law 631 = .ok (.iconst 3, 1) := by decide +kernel
theorem d_L_law_632 : decode b_L_law 632 = .ok (.iadd, 1) := by decide +kernel
theorem d_L_law_633 : decode b_L_law 633 = .ok (.iaload, 1) := by decide +kernel
theorem d_L_law_634 : decode b_L_law 634 = .ok (.aload_n 3, 1) := by decide +kernel
theorem d_L_law_635 : decode b_L_law 635 = .ok (.invokestatic 94, 3) := by decide +kernel
theorem d_L_law_638 : decode b_L_law 638 = .ok (.istore 5, 2) := by decide +kernel
theorem d_L_law_640 : decode b_L_law 640 = .ok (.aload_n 2, 1) := by decide +kernel
theorem d_L_law_641 : decode b_L_law 641 = .ok (.aload_n 0, 1) := by decide +kernel
theorem d_L_law_642 : decode b_L_law 642 = .ok (.iload 4, 2) := by decide +kernel
theorem d_L_law_644 : decode b_L_law 644 = .ok (.iconst 1, 1) := by decide +kernel
theorem d_L_law_645 : decode b_L_law 645 = .ok (.iadd, 1) := by decide +kernel
theorem d_L_law_646 : decode b_L_law 646 = .ok (.iaload, 1) := by decide +kernel
theorem d_L_law_647 : decode b_L_law 647 = .ok (.aload_n 0, 1) := by decide +kernel
theorem d_L_law_648 : decode b_L_law 648 = .ok (.iload 4, 2) := by decide +kernel
theorem d_L_law_650 : decode b_L_law 650 = .ok (.iconst 2, 1) := by decide +kernel
theorem d_L_law_651 : decode b_L_law 651 = .ok (.iadd, 1) := by decide +kernel
theorem d_L_law_652 : decode b_L_law 652 = .ok (.iaload, 1) := by decide +kernel
theorem d_L_law_653 : decode b_L_law 653 = .ok (.aload_n 0, 1) := by decide +kernel
theorem d_L_law_654 : decode b_L_law 654 = .ok (.iload 4, 2) := by decide +kernel
theorem d_L_law_656 : decode b_L_law 656 = .ok (.iconst 3, 1) := by decide +kernel
theorem d_L_law_657 : decode b_L_law 657 = .ok (.iadd, 1) := by decide +kernel
theorem d_L_law_658 : decode b_L_law 658 = .ok (.iaload, 1) := by decide +kernel
theorem d_L_law_659 : decode b_L_law 659 = .ok (.invokevirtual 97, 3) := by decide +kernel
theorem d_L_law_662 : decode b_L_law 662 = .ok (.istore 6, 2) := by decide +kernel
theorem d_L_law_664 : decode b_L_law 664 = .ok (.aload_n 2, 1) := by decide +kernel
theorem d_L_law_665 : decode b_L_law 665 = .ok (.invokevirtual 72, 3) := by decide +kernel
theorem d_L_law_668 : decode b_L_law 668 = .ok (.iload 5, 2) := by decide +kernel
theorem d_L_law_670 : decode b_L_law 670 = .ok (.if_icmp .eq 5, 3) := by decide +kernel
theorem d_L_law_673 : decode b_L_law 673 = .ok (.iconst 0, 1) := by decide +kernel
theorem d_L_law_674 : decode b_L_law 674 = .ok (.ireturn, 1) := by decide +kernel
theorem d_L_law_675 : decode b_L_law 675 = .ok (.iload 5, 2) := by decide +kernel
theorem d_L_law_677 : decode b_L_law 677 = .ok (.ifCond .ne 15, 3) := by decide +kernel
theorem d_L_law_680 : decode b_L_law 680 = .ok (.aload_n 3, 1) := by decide +kernel
theorem d_L_law_681 : decode b_L_law 681 = .ok (.iconst 0, 1) := by decide +kernel
theorem d_L_law_682 : decode b_L_law 682 = .ok (.laload, 1) := by decide +kernel
theorem d_L_law_683 : decode b_L_law 683 = .ok (.iload 6, 2) := by decide +kernel
theorem d_L_law_685 : decode b_L_law 685 = .ok (.i2l, 1) := by decide +kernel
theorem d_L_law_686 : decode b_L_law 686 = .ok (.lcmp, 1) := by decide +kernel
theorem d_L_law_687 : decode b_L_law 687 = .ok (.ifCond .eq 5, 3) := by decide +kernel
theorem d_L_law_690 : decode b_L_law 690 = .ok (.iconst 0, 1) := by decide +kernel
theorem d_L_law_691 : decode b_L_law 691 = .ok (.ireturn, 1) := by decide +kernel
theorem d_L_law_692 : decode b_L_law 692 = .ok (.goto 362, 3) := by decide +kernel
theorem d_L_law_695 : decode b_L_law 695 = .ok (.aload_n 1, 1) := by decide +kernel
theorem d_L_law_696 : decode b_L_law 696 = .ok (.aload_n 0, 1) := by decide +kernel
theorem d_L_law_697 : decode b_L_law 697 = .ok (.iload 4, 2) := by decide +kernel
theorem d_L_law_699 : decode b_L_law 699 = .ok (.iconst 1, 1) := by decide +kernel
theorem d_L_law_700 : decode b_L_law 700 = .ok (.iadd, 1) := by decide +kernel
theorem d_L_law_701 : decode b_L_law 701 = .ok (.iaload, 1) := by decide +kernel
theorem d_L_law_702 : decode b_L_law 702 = .ok (.aload_n 3, 1) := by decide +kernel
theorem d_L_law_703 : decode b_L_law 703 = .ok (.invokestatic 98, 3) := by decide +kernel
theorem d_L_law_706 : decode b_L_law 706 = .ok (.istore 5, 2) := by decide +kernel
theorem d_L_law_708 : decode b_L_law 708 = .ok (.aload_n 2, 1) := by decide +kernel
theorem d_L_law_709 : decode b_L_law 709 = .ok (.aload_n 0, 1) := by decide +kernel
theorem d_L_law_710 : decode b_L_law 710 = .ok (.iload 4, 2) := by decide +kernel
theorem d_L_law_712 : decode b_L_law 712 = .ok (.iconst 1, 1) := by decide +kernel
theorem d_L_law_713 : decode b_L_law 713 = .ok (.iadd, 1) := by decide +kernel
theorem d_L_law_714 : decode b_L_law 714 = .ok (.iaload, 1) := by decide +kernel
theorem d_L_law_715 : decode b_L_law 715 = .ok (.invokevirtual 100, 3) := by decide +kernel
theorem d_L_law_718 : decode b_L_law 718 = .ok (.istore 6, 2) := by decide +kernel
theorem d_L_law_720 : decode b_L_law 720 = .ok (.aload_n 2, 1) := by decide +kernel
theorem d_L_law_721 : decode b_L_law 721 = .ok (.invokevirtual 72, 3) := by decide +kernel
theorem d_L_law_724 : decode b_L_law 724 = .ok (.iload 5, 2) := by decide +kernel
theorem d_L_law_726 : decode b_L_law 726 = .ok (.if_icmp .eq 5, 3) := by decide +kernel
theorem d_L_law_729 : decode b_L_law 729 = .ok (.iconst 0, 1) := by decide +kernel
theorem d_L_law_730 : decode b_L_law 730 = .ok (.ireturn, 1) := by decide +kernel
theorem d_L_law_731 : decode b_L_law 731 = .ok (.iload 5, 2) := by decide +kernel
theorem d_L_law_733 : decode b_L_law 733 = .ok (.ifCond .ne 15, 3) := by decide +kernel
theorem d_L_law_736 : decode b_L_law 736 = .ok (.aload_n 3, 1) := by decide +kernel
theorem d_L_law_737 : decode b_L_law 737 = .ok (.iconst 0, 1) := by decide +kernel
theorem d_L_law_738 : decode b_L_law 738 = .ok (.laload, 1) := by decide +kernel
theorem d_L_law_739 : decode b_L_law 739 = .ok (.iload 6, 2) := by decide +kernel
theorem d_L_law_741 : decode b_L_law 741 = .ok (.i2l, 1) := by decide +kernel
theorem d_L_law_742 : decode b_L_law 742 = .ok (.lcmp, 1) := by decide +kernel
theorem d_L_law_743 : decode b_L_law 743 = .ok (.ifCond .eq 5, 3) := by decide +kernel
theorem d_L_law_746 : decode b_L_law 746 = .ok (.iconst 0, 1) := by decide +kernel
theorem d_L_law_747 : decode b_L_law 747 = .ok (.ireturn, 1) := by decide +kernel
theorem d_L_law_748 : decode b_L_law 748 = .ok (.goto 306, 3) := by decide +kernel
theorem d_L_law_751 : decode b_L_law 751 = .ok (.aload_n 1, 1) := by decide +kernel
theorem d_L_law_752 : decode b_L_law 752 = .ok (.aload_n 0, 1) := by decide +kernel
theorem d_L_law_753 : decode b_L_law 753 = .ok (.iload 4, 2) := by decide +kernel
theorem d_L_law_755 : decode b_L_law 755 = .ok (.iconst 1, 1) := by decide +kernel
theorem d_L_law_756 : decode b_L_law 756 = .ok (.iadd, 1) := by decide +kernel
theorem d_L_law_757 : decode b_L_law 757 = .ok (.iaload, 1) := by decide +kernel
theorem d_L_law_758 : decode b_L_law 758 = .ok (.aload_n 0, 1) := by decide +kernel
theorem d_L_law_759 : decode b_L_law 759 = .ok (.iload 4, 2) := by decide +kernel
theorem d_L_law_761 : decode b_L_law 761 = .ok (.iconst 2, 1) := by decide +kernel
theorem d_L_law_762 : decode b_L_law 762 = .ok (.iadd, 1) := by decide +kernel
theorem d_L_law_763 : decode b_L_law 763 = .ok (.iaload, 1) := by decide +kernel
theorem d_L_law_764 : decode b_L_law 764 = .ok (.aload_n 3, 1) := by decide +kernel
theorem d_L_law_765 : decode b_L_law 765 = .ok (.invokestatic 101, 3) := by decide +kernel
theorem d_L_law_768 : decode b_L_law 768 = .ok (.istore 5, 2) := by decide +kernel
theorem d_L_law_770 : decode b_L_law 770 = .ok (.aload_n 2, 1) := by decide +kernel
theorem d_L_law_771 : decode b_L_law 771 = .ok (.aload_n 0, 1) := by decide +kernel
theorem d_L_law_772 : decode b_L_law 772 = .ok (.iload 4, 2) := by decide +kernel
theorem d_L_law_774 : decode b_L_law 774 = .ok (.iconst 1, 1) := by decide +kernel
theorem d_L_law_775 : decode b_L_law 775 = .ok (.iadd, 1) := by decide +kernel
theorem d_L_law_776 : decode b_L_law 776 = .ok (.iaload, 1) := by decide +kernel
theorem d_L_law_777 : decode b_L_law 777 = .ok (.aload_n 0, 1) := by decide +kernel
theorem d_L_law_778 : decode b_L_law 778 = .ok (.iload 4, 2) := by decide +kernel
theorem d_L_law_780 : decode b_L_law 780 = .ok (.iconst 2, 1) := by decide +kernel
theorem d_L_law_781 : decode b_L_law 781 = .ok (.iadd, 1) := by decide +kernel
theorem d_L_law_782 : decode b_L_law 782 = .ok (.iaload, 1) := by decide +kernel
theorem d_L_law_783 : decode b_L_law 783 = .ok (.invokevirtual 103, 3) := by decide +kernel
theorem d_L_law_786 : decode b_L_law 786 = .ok (.istore 6, 2) := by decide +kernel
theorem d_L_law_788 : decode b_L_law 788 = .ok (.aload_n 2, 1) := by decide +kernel
theorem d_L_law_789 : decode b_L_law 789 = .ok (.invokevirtual 72, 3) := by decide +kernel
theorem d_L_law_792 : decode b_L_law 792 = .ok (.iload 5, 2) := by decide +kernel
theorem d_L_law_794 : decode b_L_law 794 = .ok (.if_icmp .eq 5, 3) := by decide +kernel
theorem d_L_law_797 : decode b_L_law 797 = .ok (.iconst 0, 1) := by decide +kernel
theorem d_L_law_798 : decode b_L_law 798 = .ok (.ireturn, 1) := by decide +kernel
theorem d_L_law_799 : decode b_L_law 799 = .ok (.iload 5, 2) := by decide +kernel
theorem d_L_law_801 : decode b_L_law 801 = .ok (.ifCond .ne 15, 3) := by decide +kernel
theorem d_L_law_804 : decode b_L_law 804 = .ok (.aload_n 3, 1) := by decide +kernel
theorem d_L_law_805 : decode b_L_law 805 = .ok (.iconst 0, 1) := by decide +kernel
theorem d_L_law_806 : decode b_L_law 806 = .ok (.laload, 1) := by decide +kernel
theorem d_L_law_807 : decode b_L_law 807 = .ok (.iload 6, 2) := by decide +kernel
theorem d_L_law_809 : decode b_L_law 809 = .ok (.i2l, 1) := by decide +kernel
theorem d_L_law_810 : decode b_L_law 810 = .ok (.lcmp, 1) := by decide +kernel
theorem d_L_law_811 : decode b_L_law 811 = .ok (.ifCond .eq 5, 3) := by decide +kernel
theorem d_L_law_814 : decode b_L_law 814 = .ok (.iconst 0, 1) := by decide +kernel
theorem d_L_law_815 : decode b_L_law 815 = .ok (.ireturn, 1) := by decide +kernel
theorem d_L_law_816 : decode b_L_law 816 = .ok (.goto 238, 3) := by decide +kernel
theorem d_L_law_819 : decode b_L_law 819 = .ok (.aload_n 1, 1) := by decide +kernel
theorem d_L_law_820 : decode b_L_law 820 = .ok (.aload_n 0, 1) := by decide +kernel
theorem d_L_law_821 : decode b_L_law 821 = .ok (.iload 4, 2) := by decide +kernel
theorem d_L_law_823 : decode b_L_law 823 = .ok (.iconst 1, 1) := by decide +kernel
theorem d_L_law_824 : decode b_L_law 824 = .ok (.iadd, 1) := by decide +kernel
theorem d_L_law_825 : decode b_L_law 825 = .ok (.iaload, 1) := by decide +kernel
theorem d_L_law_826 : decode b_L_law 826 = .ok (.aload_n 3, 1) := by decide +kernel
theorem d_L_law_827 : decode b_L_law 827 = .ok (.invokestatic 104, 3) := by decide +kernel
theorem d_L_law_830 : decode b_L_law 830 = .ok (.istore 5, 2) := by decide +kernel
theorem d_L_law_832 : decode b_L_law 832 = .ok (.aload_n 2, 1) := by decide +kernel
theorem d_L_law_833 : decode b_L_law 833 = .ok (.aload_n 0, 1) := by decide +kernel
theorem d_L_law_834 : decode b_L_law 834 = .ok (.iload 4, 2) := by decide +kernel
theorem d_L_law_836 : decode b_L_law 836 = .ok (.iconst 1, 1) := by decide +kernel
theorem d_L_law_837 : decode b_L_law 837 = .ok (.iadd, 1) := by decide +kernel
theorem d_L_law_838 : decode b_L_law 838 = .ok (.iaload, 1) := by decide +kernel
theorem d_L_law_839 : decode b_L_law 839 = .ok (.invokevirtual 106, 3) := by decide +kernel
theorem d_L_law_842 : decode b_L_law 842 = .ok (.istore 6, 2) := by decide +kernel
theorem d_L_law_844 : decode b_L_law 844 = .ok (.aload_n 2, 1) := by decide +kernel
theorem d_L_law_845 : decode b_L_law 845 = .ok (.invokevirtual 72, 3) := by decide +kernel
theorem d_L_law_848 : decode b_L_law 848 = .ok (.iload 5, 2) := by decide +kernel
theorem d_L_law_850 : decode b_L_law 850 = .ok (.if_icmp .eq 5, 3) := by decide +kernel
theorem d_L_law_853 : decode b_L_law 853 = .ok (.iconst 0, 1) := by decide +kernel
theorem d_L_law_854 : decode b_L_law 854 = .ok (.ireturn, 1) := by decide +kernel
theorem d_L_law_855 : decode b_L_law 855 = .ok (.iload 5, 2) := by decide +kernel
theorem d_L_law_857 : decode b_L_law 857 = .ok (.ifCond .ne 15, 3) := by decide +kernel
theorem d_L_law_860 : decode b_L_law 860 = .ok (.aload_n 3, 1) := by decide +kernel
theorem d_L_law_861 : decode b_L_law 861 = .ok (.iconst 0, 1) := by decide +kernel
theorem d_L_law_862 : decode b_L_law 862 = .ok (.laload, 1) := by decide +kernel
theorem d_L_law_863 : decode b_L_law 863 = .ok (.iload 6, 2) := by decide +kernel
theorem d_L_law_865 : decode b_L_law 865 = .ok (.i2l, 1) := by decide +kernel
theorem d_L_law_866 : decode b_L_law 866 = .ok (.lcmp, 1) := by decide +kernel
theorem d_L_law_867 : decode b_L_law 867 = .ok (.ifCond .eq 5, 3) := by decide +kernel
theorem d_L_law_870 : decode b_L_law 870 = .ok (.iconst 0, 1) := by decide +kernel
theorem d_L_law_871 : decode b_L_law 871 = .ok (.ireturn, 1) := by decide +kernel
theorem d_L_law_872 : decode b_L_law 872 = .ok (.goto 182, 3) := by decide +kernel
theorem d_L_law_875 : decode b_L_law 875 = .ok (.aload_n 1, 1) := by decide +kernel
theorem d_L_law_876 : decode b_L_law 876 = .ok (.aload_n 0, 1) := by decide +kernel
theorem d_L_law_877 : decode b_L_law 877 = .ok (.iload 4, 2) := by decide +kernel
theorem d_L_law_879 : decode b_L_law 879 = .ok (.iconst 1, 1) := by decide +kernel
theorem d_L_law_880 : decode b_L_law 880 = .ok (.iadd, 1) := by decide +kernel
theorem d_L_law_881 : decode b_L_law 881 = .ok (.iaload, 1) := by decide +kernel
theorem d_L_law_882 : decode b_L_law 882 = .ok (.aload_n 0, 1) := by decide +kernel
theorem d_L_law_883 : decode b_L_law 883 = .ok (.iload 4, 2) := by decide +kernel
theorem d_L_law_885 : decode b_L_law 885 = .ok (.iconst 2, 1) := by decide +kernel
theorem d_L_law_886 : decode b_L_law 886 = .ok (.iadd, 1) := by decide +kernel
theorem d_L_law_887 : decode b_L_law 887 = .ok (.iaload, 1) := by decide +kernel
theorem d_L_law_888 : decode b_L_law 888 = .ok (.aload_n 3, 1) := by decide +kernel
theorem d_L_law_889 : decode b_L_law 889 = .ok (.invokestatic 107, 3) := by decide +kernel
theorem d_L_law_892 : decode b_L_law 892 = .ok (.istore 5, 2) := by decide +kernel
theorem d_L_law_894 : decode b_L_law 894 = .ok (.aload_n 2, 1) := by decide +kernel
theorem d_L_law_895 : decode b_L_law 895 = .ok (.aload_n 0, 1) := by decide +kernel
theorem d_L_law_896 : decode b_L_law 896 = .ok (.iload 4, 2) := by decide +kernel
theorem d_L_law_898 : decode b_L_law 898 = .ok (.iconst 1, 1) := by decide +kernel
theorem d_L_law_899 : decode b_L_law 899 = .ok (.iadd, 1) := by decide +kernel
theorem d_L_law_900 : decode b_L_law 900 = .ok (.iaload, 1) := by decide +kernel
theorem d_L_law_901 : decode b_L_law 901 = .ok (.aload_n 0, 1) := by decide +kernel
theorem d_L_law_902 : decode b_L_law 902 = .ok (.iload 4, 2) := by decide +kernel
theorem d_L_law_904 : decode b_L_law 904 = .ok (.iconst 2, 1) := by decide +kernel
theorem d_L_law_905 : decode b_L_law 905 = .ok (.iadd, 1) := by decide +kernel
theorem d_L_law_906 : decode b_L_law 906 = .ok (.iaload, 1) := by decide +kernel
theorem d_L_law_907 : decode b_L_law 907 = .ok (.invokevirtual 109, 3) := by decide +kernel
theorem d_L_law_910 : decode b_L_law 910 = .ok (.istore 6, 2) := by decide +kernel
theorem d_L_law_912 : decode b_L_law 912 = .ok (.aload_n 2, 1) := by decide +kernel
theorem d_L_law_913 : decode b_L_law 913 = .ok (.invokevirtual 72, 3) := by decide +kernel
theorem d_L_law_916 : decode b_L_law 916 = .ok (.iload 5, 2) := by decide +kernel
theorem d_L_law_918 : decode b_L_law 918 = .ok (.if_icmp .eq 5, 3) := by decide +kernel
theorem d_L_law_921 : decode b_L_law 921 = .ok (.iconst 0, 1) := by decide +kernel
theorem d_L_law_922 : decode b_L_law 922 = .ok (.ireturn, 1) := by decide +kernel
theorem d_L_law_923 : decode b_L_law 923 = .ok (.iload 5, 2) := by decide +kernel
theorem d_L_law_925 : decode b_L_law 925 = .ok (.ifCond .ne 15, 3) := by decide +kernel
theorem d_L_law_928 : decode b_L_law 928 = .ok (.aload_n 3, 1) := by decide +kernel
theorem d_L_law_929 : decode b_L_law 929 = .ok (.iconst 0, 1) := by decide +kernel
theorem d_L_law_930 : decode b_L_law 930 = .ok (.laload, 1) := by decide +kernel
theorem d_L_law_931 : decode b_L_law 931 = .ok (.iload 6, 2) := by decide +kernel
theorem d_L_law_933 : decode b_L_law 933 = .ok (.i2l, 1) := by decide +kernel
theorem d_L_law_934 : decode b_L_law 934 = .ok (.lcmp, 1) := by decide +kernel
theorem d_L_law_935 : decode b_L_law 935 = .ok (.ifCond .eq 5, 3) := by decide +kernel
theorem d_L_law_938 : decode b_L_law 938 = .ok (.iconst 0, 1) := by decide +kernel
theorem d_L_law_939 : decode b_L_law 939 = .ok (.ireturn, 1) := by decide +kernel
theorem d_L_law_940 : decode b_L_law 940 = .ok (.goto 114, 3) := by decide +kernel
theorem d_L_law_943 : decode b_L_law 943 = .ok (.aload_n 1, 1) := by decide +kernel
theorem d_L_law_944 : decode b_L_law 944 = .ok (.aload_n 0, 1) := by decide +kernel
theorem d_L_law_945 : decode b_L_law 945 = .ok (.iload 4, 2) := by decide +kernel
theorem d_L_law_947 : decode b_L_law 947 = .ok (.iconst 1, 1) := by decide +kernel
theorem d_L_law_948 : decode b_L_law 948 = .ok (.iadd, 1) := by decide +kernel
theorem d_L_law_949 : decode b_L_law 949 = .ok (.iaload, 1) := by decide +kernel
theorem d_L_law_950 : decode b_L_law 950 = .ok (.aload_n 0, 1) := by decide +kernel
theorem d_L_law_951 : decode b_L_law 951 = .ok (.iload 4, 2) := by decide +kernel
theorem d_L_law_953 : decode b_L_law 953 = .ok (.iconst 2, 1) := by decide +kernel
theorem d_L_law_954 : decode b_L_law 954 = .ok (.iadd, 1) := by decide +kernel
theorem d_L_law_955 : decode b_L_law 955 = .ok (.iaload, 1) := by decide +kernel
theorem d_L_law_956 : decode b_L_law 956 = .ok (.aload_n 3, 1) := by decide +kernel
theorem d_L_law_957 : decode b_L_law 957 = .ok (.invokestatic 110, 3) := by decide +kernel
theorem d_L_law_960 : decode b_L_law 960 = .ok (.istore 5, 2) := by decide +kernel
theorem d_L_law_962 : decode b_L_law 962 = .ok (.aload_n 2, 1) := by decide +kernel
theorem d_L_law_963 : decode b_L_law 963 = .ok (.aload_n 0, 1) := by decide +kernel
theorem d_L_law_964 : decode b_L_law 964 = .ok (.iload 4, 2) := by decide +kernel
theorem d_L_law_966 : decode b_L_law 966 = .ok (.iconst 1, 1) := by decide +kernel
theorem d_L_law_967 : decode b_L_law 967 = .ok (.iadd, 1) := by decide +kernel
theorem d_L_law_968 : decode b_L_law 968 = .ok (.iaload, 1) := by decide +kernel
theorem d_L_law_969 : decode b_L_law 969 = .ok (.aload_n 0, 1) := by decide +kernel
theorem d_L_law_970 : decode b_L_law 970 = .ok (.iload 4, 2) := by decide +kernel
theorem d_L_law_972 : decode b_L_law 972 = .ok (.iconst 2, 1) := by decide +kernel
theorem d_L_law_973 : decode b_L_law 973 = .ok (.iadd, 1) := by decide +kernel
theorem d_L_law_974 : decode b_L_law 974 = .ok (.iaload, 1) := by decide +kernel
theorem d_L_law_975 : decode b_L_law 975 = .ok (.invokevirtual 112, 3) := by decide +kernel
theorem d_L_law_978 : decode b_L_law 978 = .ok (.istore 6, 2) := by decide +kernel
theorem d_L_law_980 : decode b_L_law 980 = .ok (.aload_n 2, 1) := by decide +kernel
theorem d_L_law_981 : decode b_L_law 981 = .ok (.invokevirtual 72, 3) := by decide +kernel
theorem d_L_law_984 : decode b_L_law 984 = .ok (.iload 5, 2) := by decide +kernel
theorem d_L_law_986 : decode b_L_law 986 = .ok (.if_icmp .eq 5, 3) := by decide +kernel
theorem d_L_law_989 : decode b_L_law 989 = .ok (.iconst 0, 1) := by decide +kernel
theorem d_L_law_990 : decode b_L_law 990 = .ok (.ireturn, 1) := by decide +kernel
theorem d_L_law_991 : decode b_L_law 991 = .ok (.iload 5, 2) := by decide +kernel
theorem d_L_law_993 : decode b_L_law 993 = .ok (.ifCond .ne 22, 3) := by decide +kernel
theorem d_L_law_996 : decode b_L_law 996 = .ok (.aload_n 3, 1) := by decide +kernel
theorem d_L_law_997 : decode b_L_law 997 = .ok (.iconst 0, 1) := by decide +kernel
theorem d_L_law_998 : decode b_L_law 998 = .ok (.laload, 1) := by decide +kernel
theorem d_L_law_999 : decode b_L_law 999 = .ok (.iload 6, 2) := by decide +kernel
theorem d_L_law_1001 : decode b_L_law 1001 = .ok (.ifCond .eq 7, 3) := by decide +kernel
theorem d_L_law_1004 : decode b_L_law 1004 = .ok (.lconst 1, 1) := by decide +kernel
theorem d_L_law_1005 : decode b_L_law 1005 = .ok (.goto 4, 3) := by decide +kernel
theorem d_L_law_1008 : decode b_L_law 1008 = .ok (.lconst 0, 1) := by decide +kernel
theorem d_L_law_1009 : decode b_L_law 1009 = .ok (.lcmp, 1) := by decide +kernel
theorem d_L_law_1010 : decode b_L_law 1010 = .ok (.ifCond .eq 5, 3) := by decide +kernel
theorem d_L_law_1013 : decode b_L_law 1013 = .ok (.iconst 0, 1) := by decide +kernel
theorem d_L_law_1014 : decode b_L_law 1014 = .ok (.ireturn, 1) := by decide +kernel
theorem d_L_law_1015 : decode b_L_law 1015 = .ok (.goto 39, 3) := by decide +kernel
theorem d_L_law_1018 : decode b_L_law 1018 = .ok (.aload_n 1, 1) := by decide +kernel
theorem d_L_law_1019 : decode b_L_law 1019 = .ok (.aload_n 0, 1) := by decide +kernel
theorem d_L_law_1020 : decode b_L_law 1020 = .ok (.iload 4, 2) := by decide +kernel
theorem d_L_law_1022 : decode b_L_law 1022 = .ok (.iconst 1, 1) := by decide +kernel
theorem d_L_law_1023 : decode b_L_law 1023 = .ok (.iadd, 1) := by decide +kernel
theorem d_L_law_1024 : decode b_L_law 1024 = .ok (.iaload, 1) := by decide +kernel
theorem d_L_law_1025 : decode b_L_law 1025 = .ok (.invokevirtual 113, 3) := by decide +kernel
theorem d_L_law_1028 : decode b_L_law 1028 = .ok (.aload_n 2, 1) := by decide +kernel
theorem d_L_law_1029 : decode b_L_law 1029 = .ok (.aload_n 0, 1) := by decide +kernel
theorem d_L_law_1030 : decode b_L_law 1030 = .ok (.iload 4, 2) := by decide +kernel
theorem d_L_law_1032 : decode b_L_law 1032 = .ok (.iconst 1, 1) := by decide +kernel
theorem d_L_law_1033 : decode b_L_law 1033 = .ok (.iadd, 1) := by decide +kernel
theorem d_L_law_1034 : decode b_L_law 1034 = .ok (.iaload, 1) := by decide +kernel
theorem d_L_law_1035 : decode b_L_law 1035 = .ok (.invokevirtual 116, 3) := by decide +kernel
theorem d_L_law_1038 : decode b_L_law 1038 = .ok (.if_icmp .eq 16, 3) := by decide +kernel
theorem d_L_law_1041 : decode b_L_law 1041 = .ok (.iconst 0, 1) := by decide +kernel
theorem d_L_law_1042 : decode b_L_law 1042 = .ok (.ireturn, 1) := by decide +kernel
theorem d_L_law_1043 : decode b_L_law 1043 = .ok (.aload_n 1, 1) := by decide +kernel
theorem d_L_law_1044 : decode b_L_law 1044 = .ok (.invokevirtual 117, 3) := by decide +kernel
theorem d_L_law_1047 : decode b_L_law 1047 = .ok (.aload_n 2, 1) := by decide +kernel
theorem d_L_law_1048 : decode b_L_law 1048 = .ok (.invokevirtual 120, 3) := by decide +kernel
theorem d_L_law_1051 : decode b_L_law 1051 = .ok (.goto 3, 3) := by decide +kernel
theorem d_L_law_1054 : decode b_L_law 1054 = .ok (.iinc 4 6, 3) := by decide +kernel
theorem d_L_law_1057 : decode b_L_law 1057 = .ok (.goto (-1014), 3) := by decide +kernel
theorem d_L_law_1060 : decode b_L_law 1060 = .ok (.iconst 1, 1) := by decide +kernel
theorem d_L_law_1061 : decode b_L_law 1061 = .ok (.ireturn, 1) := by decide +kernel
