theorem d_Mo_isWrong_3 : decode b_Mo_isWrong 3 = .ok (.lushr, 1) := by decide +kernel
theorem d_Mo_isWrong_4 : decode b_Mo_isWrong 4 = .ok (.lconst 1, 1) := by decide +kernel
theorem d_Mo_isWrong_5 : decode b_Mo_isWrong 5 = .ok (.land, 1) := by decide +kernel
theorem d_Mo_isWrong_6 : decode b_Mo_isWrong 6 = .ok (.lconst 1, 1) := by decide +kernel
theorem d_Mo_isWrong_7 : decode b_Mo_isWrong 7 = .ok (.lcmp, 1) := by decide +kernel
theorem d_Mo_isWrong_8 : decode b_Mo_isWrong 8 = .ok (.ifCond .ne 7, 3) := by decide +kernel
theorem d_Mo_isWrong_15 : decode b_Mo_isWrong 15 = .ok (.iconst 0, 1) := by decide +kernel
theorem d_Mo_isWrong_16 : decode b_Mo_isWrong 16 = .ok (.istore_n 2, 1) := by decide +kernel
theorem d_Mo_isWrong_17 : decode b_Mo_isWrong 17 = .ok (.iconst 0, 1) := by decide +kernel
theorem d_Mo_isWrong_18 : decode b_Mo_isWrong 18 = .ok (.istore_n 3, 1) := by decide +kernel
theorem d_Mo_isWrong_19 : decode b_Mo_isWrong 19 = .ok (.bipush 48, 2) := by decide +kernel
theorem d_Mo_isWrong_21 : decode b_Mo_isWrong 21 = .ok (.istore 4, 2) := by decide +kernel
theorem d_Mo_isWrong_23 : decode b_Mo_isWrong 23 = .ok (.iload 4, 2) := by decide +kernel
theorem d_Mo_isWrong_25 : decode b_Mo_isWrong 25 = .ok (.bipush 64, 2) := by decide +kernel
theorem d_Mo_isWrong_27 : decode b_Mo_isWrong 27 = .ok (.if_icmp .ge 39, 3) := by decide +kernel
theorem d_Mo_isWrong_66 : decode b_Mo_isWrong 66 = .ok (.iload_n 3, 1) := by decide +kernel
theorem d_Mo_isWrong_67 : decode b_Mo_isWrong 67 = .ok (.ireturn, 1) := by decide +kernel
theorem d_Mo_isWrong_30 : decode b_Mo_isWrong 30 = .ok (.iload_n 3, 1) := by decide +kernel
theorem d_Mo_isWrong_31 : decode b_Mo_isWrong 31 = .ok (.ifCond .ne 23, 3) := by decide +kernel
theorem d_Mo_isWrong_54 : decode b_Mo_isWrong 54 = .ok (.iconst 1, 1) := by decide +kernel
theorem d_Mo_isWrong_55 : decode b_Mo_isWrong 55 = .ok (.goto 4, 3) := by decide +kernel
theorem d_Mo_isWrong_59 : decode b_Mo_isWrong 59 = .ok (.istore_n 3, 1) := by decide +kernel
theorem d_Mo_isWrong_60 : decode b_Mo_isWrong 60 = .ok (.iinc 4 1, 3) := by decide +kernel
theorem d_Mo_isWrong_63 : decode b_Mo_isWrong 63 = .ok (.goto (-40), 3) := by decide +kernel
theorem d_Mo_isWrong_34 : decode b_Mo_isWrong 34 = .ok (.lload_n 0, 1) := by decide +kernel
theorem d_Mo_isWrong_35 : decode b_Mo_isWrong 35 = .ok (.iload 4, 2) := by decide +kernel
theorem d_Mo_isWrong_37 : decode b_Mo_isWrong 37 = .ok (.lushr, 1) := by decide +kernel
theorem d_Mo_isWrong_38 : decode b_Mo_isWrong 38 = .ok (.lconst 1, 1) := by decide +kernel
theorem d_Mo_isWrong_39 : decode b_Mo_isWrong 39 = .ok (.land, 1) := by decide +kernel
theorem d_Mo_isWrong_40 : decode b_Mo_isWrong 40 = .ok (.lconst 1, 1) := by decide +kernel
theorem d_Mo_isWrong_41 : decode b_Mo_isWrong 41 = .ok (.lcmp, 1) := by decide +kernel
theorem d_Mo_isWrong_42 : decode b_Mo_isWrong 42 = .ok (.ifCond .ne 7, 3) := by decide +kernel
theorem d_Mo_isWrong_49 : decode b_Mo_isWrong 49 = .ok (.iconst 0, 1) := by decide +kernel
theorem d_Mo_isWrong_50 : decode b_Mo_isWrong 50 = .ok (.iload_n 2, 1) := by decide +kernel
theorem d_Mo_isWrong_51 : decode b_Mo_isWrong 51 = .ok (.if_icmp .eq 7, 3) := by decide +kernel
theorem d_Mo_isWrong_58 : decode b_Mo_isWrong 58 = .ok (.iconst 0, 1) := by decide +kernel
theorem d_Mo_isWrong_45 : decode b_Mo_isWrong 45 = .ok (.iconst 1, 1) := by decide +kernel
theorem d_Mo_isWrong_46 : decode b_Mo_isWrong 46 = .ok (.goto 4, 3) := by decide +kernel
theorem d_Mo_isWrong_11 : decode b_Mo_isWrong 11 = .ok (.iconst 1, 1) := by decide +kernel
theorem d_Mo_isWrong_12 : decode b_Mo_isWrong 12 = .ok (.goto 4, 3) := by decide +kernel
theorem d_Mo_lookUp_22 : decode b_Mo_lookUp 22 = .ok (.invokestatic 77, 3) := by decide +kernel
theorem d_Mo_lookUp_25 : decode b_Mo_lookUp 25 = .ok (.ifCond .eq 20, 3) := by decide +kernel
theorem d_Mo_lookUp_45 : decode b_Mo_lookUp 45 = .ok (.aload_n 0, 1) := by decide +kernel
theorem d_Mo_lookUp_46 : decode b_Mo_lookUp 46 = .ok (.getfield 39, 3) := by decide +kernel
theorem d_Mo_lookUp_49 : decode b_Mo_lookUp 49 = .ok (.iload 6, 2) := by decide +kernel
theorem d_Mo_lookUp_51 : decode b_Mo_lookUp 51 = .ok (.aload_n 0, 1) := by decide +kernel
theorem d_Mo_lookUp_52 : decode b_Mo_lookUp 52 = .ok (.lload_n 1, 1) := by decide +kernel
theorem d_Mo_lookUp_53 : decode b_Mo_lookUp 53 = .ok (.iload 6, 2) := by decide +kernel
theorem d_Mo_lookUp_55 : decode b_Mo_lookUp 55 = .ok (.i2l, 1) := by decide +kernel
theorem d_Mo_lookUp_56 : decode b_Mo_lookUp 56 = .ok (.ladd, 1) := by decide +kernel
theorem d_Mo_lookUp_57 : decode b_Mo_lookUp 57 = .ok (.iload 4, 2) := by decide +kernel
theorem d_Mo_find_0 : decode b_Mo_find 0 = .ok (.iload_n 3, 1) := by decide +kernel
theorem d_Mo_find_1 : decode b_Mo_find 1 = .ok (.iconst 1, 1) := by decide +kernel
theorem d_Mo_find_2 : decode b_Mo_find 2 = .ok (.if_icmp .ne 7, 3) := by decide +kernel
theorem d_Mo_find_9 : decode b_Mo_find 9 = .ok (.iconst 0, 1) := by decide +kernel
theorem d_Mo_find_10 : decode b_Mo_find 10 = .ok (.aload_n 0, 1) := by decide +kernel
theorem d_Mo_find_11 : decode b_Mo_find 11 = .ok (.getfield 48, 3) := by decide +kernel
theorem d_Mo_find_14 : decode b_Mo_find 14 = .ok (.ifCond .eq 7, 3) := by decide +kernel
theorem d_Mo_find_21 : decode b_Mo_find 21 = .ok (.iconst 0, 1) := by decide +kernel
theorem d_Mo_find_22 : decode b_Mo_find 22 = .ok (.iadd, 1) := by decide +kernel
theorem d_Mo_find_23 : decode b_Mo_find 23 = .ok (.iload_n 3, 1) := by decide +kernel
theorem d_Mo_find_24 : decode b_Mo_find 24 = .ok (.iconst 2, 1) := by decide +kernel
theorem d_Mo_find_25 : decode b_Mo_find 25 = .ok (.if_icmp .ne 8, 3) := by decide +kernel
theorem d_Mo_find_33 : decode b_Mo_find 33 = .ok (.iconst 0, 1) := by decide +kernel
theorem d_Mo_find_34 : decode b_Mo_find 34 = .ok (.iadd, 1) := by decide +kernel
theorem d_Mo_find_35 : decode b_Mo_find 35 = .ok (.istore 4, 2) := by decide +kernel
theorem d_Mo_find_37 : decode b_Mo_find 37 = .ok (.aload_n 0, 1) := by decide +kernel
theorem d_Mo_find_38 : decode b_Mo_find 38 = .ok (.getfield 52, 3) := by decide +kernel
theorem d_Mo_find_41 : decode b_Mo_find 41 = .ok (.bipush 12, 2) := by decide +kernel
theorem d_Mo_find_43 : decode b_Mo_find 43 = .ok (.bipush 51, 2) := by decide +kernel
theorem d_Mo_bits_0 : decode b_Mo_bits 0 = .ok (.lload_n 0, 1) := by decide +kernel
theorem d_Mo_bits_1 : decode b_Mo_bits 1 = .ok (.iload_n 2, 1) := by decide +kernel
theorem d_Mo_bits_2 : decode b_Mo_bits 2 = .ok (.lushr, 1) := by decide +kernel
theorem d_Mo_bits_3 : decode b_Mo_bits 3 = .ok (.lconst 1, 1) := by decide +kernel
theorem d_Mo_bits_4 : decode b_Mo_bits 4 = .ok (.iload_n 3, 1) := by decide +kernel
theorem d_Mo_bits_5 : decode b_Mo_bits 5 = .ok (.iload_n 2, 1) := by decide +kernel
theorem d_Mo_bits_6 : decode b_Mo_bits 6 = .ok (.isub, 1) := by decide +kernel
theorem d_Mo_bits_7 : decode b_Mo_bits 7 = .ok (.iconst 1, 1) := by decide +kernel
theorem d_Mo_bits_8 : decode b_Mo_bits 8 = .ok (.iadd, 1) := by decide +kernel
theorem d_Mo_bits_9 : decode b_Mo_bits 9 = .ok (.lshl, 1) := by decide +kernel
theorem d_Mo_bits_10 : decode b_Mo_bits 10 = .ok (.lconst 1, 1) := by decide +kernel
theorem d_Mo_bits_11 : decode b_Mo_bits 11 = .ok (.lsub, 1) := by decide +kernel
theorem d_Mo_bits_12 : decode b_Mo_bits 12 = .ok (.land, 1) := by decide +kernel
theorem d_Mo_bits_13 : decode b_Mo_bits 13 = .ok (.lreturn, 1) := by decide +kernel
theorem d_Mo_find_45 : decode b_Mo_find 45 = .ok (.invokestatic 56, 3) := by decide +kernel
theorem d_Mo_find_48 : decode b_Mo_find 48 = .ok (.bipush 12, 2) := by decide +kernel
theorem d_Mo_find_50 : decode b_Mo_find 50 = .ok (.lshl, 1) := by decide +kernel
theorem d_Mo_find_51 : decode b_Mo_find 51 = .ok (.lstore 5, 2) := by decide +kernel
theorem d_Mo_find_53 : decode b_Mo_find 53 = .ok (.iconst 1, 1) := by decide +kernel
theorem d_Mo_find_54 : decode b_Mo_find 54 = .ok (.istore 7, 2) := by decide +kernel
theorem d_Mo_find_56 : decode b_Mo_find 56 = .ok (.iconst 1, 1) := by decide +kernel
theorem d_Mo_find_57 : decode b_Mo_find 57 = .ok (.istore 8, 2) := by decide +kernel
theorem d_Mo_find_59 : decode b_Mo_find 59 = .ok (.iconst 1, 1) := by decide +kernel
theorem d_Mo_find_60 : decode b_Mo_find 60 = .ok (.istore 9, 2) := by decide +kernel
theorem d_Mo_find_62 : decode b_Mo_find 62 = .ok (.iconst 3, 1) := by decide +kernel
theorem d_Mo_find_63 : decode b_Mo_find 63 = .ok (.istore 10, 2) := by decide +kernel
theorem d_Mo_find_65 : decode b_Mo_find 65 = .ok (.lconst 0, 1) := by decide +kernel
theorem d_Mo_find_66 : decode b_Mo_find 66 = .ok (.lstore 11, 2) := by decide +kernel
theorem d_Mo_find_68 : decode b_Mo_find 68 = .ok (.iconst 0, 1) := by decide +kernel
theorem d_Mo_find_69 : decode b_Mo_find 69 = .ok (.istore 13, 2) := by decide +kernel
theorem d_Mo_find_71 : decode b_Mo_find 71 = .ok (.iload 13, 2) := by decide +kernel
theorem d_Mo_find_73 : decode b_Mo_find 73 = .ok (.ifCond .ne 223, 3) := by decide +kernel
theorem d_Mo_find_296 : decode b_Mo_find 296 = .ok (.aload_n 0, 1) := by decide +kernel
theorem d_Mo_find_297 : decode b_Mo_find 297 = .ok (.iload 4, 2) := by decide +kernel
theorem d_Mo_find_299 : decode b_Mo_find 299 = .ok (.iconst 1, 1) := by decide +kernel
theorem d_Mo_find_300 : decode b_Mo_find 300 = .ok (.iadd, 1) := by decide +kernel
theorem d_Mo_find_301 : decode b_Mo_find 301 = .ok (.putfield 68, 3) := by decide +kernel
theorem d_Mo_find_304 : decode b_Mo_find 304 = .ok (.iload_n 3, 1) := by decide +kernel
theorem d_Mo_find_305 : decode b_Mo_find 305 = .ok (.iconst 1, 1) := by decide +kernel
theorem d_Mo_find_306 : decode b_Mo_find 306 = .ok (.if_icmp .ne 8, 3) := by decide +kernel
theorem d_Mo_find_314 : decode b_Mo_find 314 = .ok (.aload_n 0, 1) := by decide +kernel
theorem d_Mo_find_315 : decode b_Mo_find 315 = .ok (.getfield 48, 3) := by decide +kernel
theorem d_Mo_find_318 : decode b_Mo_find 318 = .ok (.ifCond .eq 8, 3) := by decide +kernel
theorem d_Mo_find_326 : decode b_Mo_find 326 = .ok (.iload_n 3, 1) := by decide +kernel
theorem d_Mo_find_327 : decode b_Mo_find 327 = .ok (.iconst 2, 1) := by decide +kernel
theorem d_Mo_find_328 : decode b_Mo_find 328 = .ok (.if_icmp .ne 12, 3) := by decide +kernel
theorem d_Mo_find_340 : decode b_Mo_find 340 = .ok (.iload 10, 2) := by decide +kernel
theorem d_Mo_find_342 : decode b_Mo_find 342 = .ok (.iconst 1, 1) := by decide +kernel
theorem d_Mo_find_343 : decode b_Mo_find 343 = .ok (.if_icmp .ne 26, 3) := by decide +kernel
theorem d_Mo_find_369 : decode b_Mo_find 369 = .ok (.lload 5, 2) := by decide +kernel
theorem d_Mo_find_371 : decode b_Mo_find 371 = .ok (.lload_n 1, 1) := by decide +kernel
theorem d_Mo_find_372 : decode b_Mo_find 372 = .ok (.iconst 0, 1) := by decide +kernel
theorem d_Mo_find_373 : decode b_Mo_find 373 = .ok (.bipush 11, 2) := by decide +kernel
theorem d_Mo_find_375 : decode b_Mo_find 375 = .ok (.invokestatic 56, 3) := by decide +kernel
theorem d_Mo_find_378 : decode b_Mo_find 378 = .ok (.ladd, 1) := by decide +kernel
theorem d_Mo_find_379 : decode b_Mo_find 379 = .ok (.lreturn, 1) := by decide +kernel
theorem d_Mo_find_346 : decode b_Mo_find 346 = .ok (.lload 11, 2) := by decide +kernel
theorem d_Mo_find_348 : decode b_Mo_find 348 = .ok (.bipush 21, 2) := by decide +kernel
theorem d_Mo_find_350 : decode b_Mo_find 350 = .ok (.bipush 51, 2) := by decide +kernel
theorem d_Mo_find_352 : decode b_Mo_find 352 = .ok (.invokestatic 56, 3) := by decide +kernel
theorem d_Mo_find_355 : decode b_Mo_find 355 = .ok (.bipush 21, 2) := by decide +kernel
theorem d_Mo_find_357 : decode b_Mo_find 357 = .ok (.lshl, 1) := by decide +kernel
theorem d_Mo_find_358 : decode b_Mo_find 358 = .ok (.lload_n 1, 1) := by decide +kernel
theorem d_Mo_find_359 : decode b_Mo_find 359 = .ok (.iconst 0, 1) := by decide +kernel
theorem d_Mo_find_360 : decode b_Mo_find 360 = .ok (.bipush 20, 2) := by decide +kernel
theorem d_Mo_find_362 : decode b_Mo_find 362 = .ok (.invokestatic 56, 3) := by decide +kernel
theorem d_Mo_find_365 : decode b_Mo_find 365 = .ok (.ladd, 1) := by decide +kernel
theorem d_Mo_find_366 : decode b_Mo_find 366 = .ok (.goto 13, 3) := by decide +kernel
theorem d_Mo_find_331 : decode b_Mo_find 331 = .ok (.iload 9, 2) := by decide +kernel
theorem d_Mo_find_333 : decode b_Mo_find 333 = .ok (.ifCond .ne 7, 3) := by decide +kernel
theorem d_Mo_find_336 : decode b_Mo_find 336 = .ok (.ldc2_w 71, 3) := by decide +kernel
theorem d_Mo_find_339 : decode b_Mo_find 339 = .ok (.lreturn, 1) := by decide +kernel
theorem d_Mo_find_321 : decode b_Mo_find 321 = .ok (.iload 8, 2) := by decide +kernel
theorem d_Mo_find_323 : decode b_Mo_find 323 = .ok (.ifCond .eq 13, 3) := by decide +kernel
theorem d_Mo_find_309 : decode b_Mo_find 309 = .ok (.iload 7, 2) := by decide +kernel
theorem d_Mo_find_311 : decode b_Mo_find 311 = .ok (.ifCond .eq 25, 3) := by decide +kernel
theorem d_Mo_find_76 : decode b_Mo_find 76 = .ok (.aload_n 0, 1) := by decide +kernel
theorem d_Mo_find_77 : decode b_Mo_find 77 = .ok (.lload 5, 2) := by decide +kernel
theorem d_Mo_find_79 : decode b_Mo_find 79 = .ok (.ldc2_w 60, 3) := by decide +kernel
theorem d_Mo_find_82 : decode b_Mo_find 82 = .ok (.lload_n 1, 1) := by decide +kernel
theorem d_Mo_find_83 : decode b_Mo_find 83 = .ok (.bipush 12, 2) := by decide +kernel
theorem d_Mo_find_85 : decode b_Mo_find 85 = .ok (.bipush 9, 2) := by decide +kernel
theorem d_Mo_find_87 : decode b_Mo_find 87 = .ok (.iload 10, 2) := by decide +kernel
theorem d_Mo_find_89 : decode b_Mo_find 89 = .ok (.imul, 1) := by decide +kernel
theorem d_Mo_find_90 : decode b_Mo_find 90 = .ok (.iadd, 1) := by decide +kernel
theorem d_Mo_find_91 : decode b_Mo_find 91 = .ok (.bipush 20, 2) := by decide +kernel
theorem d_Mo_find_93 : decode b_Mo_find 93 = .ok (.bipush 9, 2) := by decide +kernel
theorem d_Mo_find_95 : decode b_Mo_find 95 = .ok (.iload 10, 2) := by decide +kernel
theorem d_Mo_find_97 : decode b_Mo_find 97 = .ok (.imul, 1) := by decide +kernel
theorem d_Mo_find_98 : decode b_Mo_find 98 = .ok (.iadd, 1) := by decide +kernel
theorem d_Mo_find_99 : decode b_Mo_find 99 = .ok (.invokestatic 56, 3) := by decide +kernel
theorem d_Mo_find_102 : decode b_Mo_find 102 = .ok (.lmul, 1) := by decide +kernel
theorem d_Mo_find_103 : decode b_Mo_find 103 = .ok (.ladd, 1) := by decide +kernel
theorem d_Mo_find_104 : decode b_Mo_find 104 = .ok (.invokevirtual 62, 3) := by decide +kernel
theorem d_Mo_find_107 : decode b_Mo_find 107 = .ok (.lstore 11, 2) := by decide +kernel
theorem d_Mo_find_109 : decode b_Mo_find 109 = .ok (.iload 10, 2) := by decide +kernel
theorem d_Mo_find_111 : decode b_Mo_find 111 = .ok (.ifCond .le 18, 3) := by decide +kernel
theorem d_Mo_find_129 : decode b_Mo_find 129 = .ok (.iconst 0, 1) := by decide +kernel
theorem d_Mo_find_130 : decode b_Mo_find 130 = .ok (.istore 14, 2) := by decide +kernel
theorem d_Mo_find_132 : decode b_Mo_find 132 = .ok (.aload_n 0, 1) := by decide +kernel
theorem d_Mo_find_133 : decode b_Mo_find 133 = .ok (.iload 4, 2) := by decide +kernel
theorem d_Mo_find_135 : decode b_Mo_find 135 = .ok (.putfield 68, 3) := by decide +kernel
theorem d_Mo_find_138 : decode b_Mo_find 138 = .ok (.lload 11, 2) := by decide +kernel
theorem d_Mo_find_140 : decode b_Mo_find 140 = .ok (.lconst 1, 1) := by decide +kernel
theorem d_Mo_find_141 : decode b_Mo_find 141 = .ok (.land, 1) := by decide +kernel
theorem d_Mo_find_142 : decode b_Mo_find 142 = .ok (.lconst 0, 1) := by decide +kernel
theorem d_Mo_find_143 : decode b_Mo_find 143 = .ok (.lcmp, 1) := by decide +kernel
theorem d_Mo_find_144 : decode b_Mo_find 144 = .ok (.ifCond .ne 7, 3) := by decide +kernel
theorem d_Mo_find_151 : decode b_Mo_find 151 = .ok (.aload_n 0, 1) := by decide +kernel
theorem d_Mo_find_152 : decode b_Mo_find 152 = .ok (.iload 4, 2) := by decide +kernel
theorem d_Mo_find_154 : decode b_Mo_find 154 = .ok (.bipush 9, 2) := by decide +kernel
theorem d_Mo_find_156 : decode b_Mo_find 156 = .ok (.iadd, 1) := by decide +kernel
theorem d_Mo_find_157 : decode b_Mo_find 157 = .ok (.putfield 68, 3) := by decide +kernel
theorem d_Mo_find_160 : decode b_Mo_find 160 = .ok (.iload 14, 2) := by decide +kernel
theorem d_Mo_find_162 : decode b_Mo_find 162 = .ok (.ifCond .eq 27, 3) := by decide +kernel
theorem d_Mo_find_189 : decode b_Mo_find 189 = .ok (.iload 7, 2) := by decide +kernel
theorem d_Mo_find_191 : decode b_Mo_find 191 = .ok (.ifCond .eq 18, 3) := by decide +kernel
theorem d_Mo_find_209 : decode b_Mo_find 209 = .ok (.iconst 0, 1) := by decide +kernel
theorem d_Mo_find_210 : decode b_Mo_find 210 = .ok (.istore 7, 2) := by decide +kernel
theorem d_Mo_find_212 : decode b_Mo_find 212 = .ok (.iload 8, 2) := by decide +kernel
theorem d_Mo_find_214 : decode b_Mo_find 214 = .ok (.ifCond .eq 18, 3) := by decide +kernel
theorem d_Mo_find_232 : decode b_Mo_find 232 = .ok (.iconst 0, 1) := by decide +kernel
theorem d_Mo_find_233 : decode b_Mo_find 233 = .ok (.istore 8, 2) := by decide +kernel
theorem d_Mo_find_235 : decode b_Mo_find 235 = .ok (.iload 9, 2) := by decide +kernel
theorem d_Mo_find_237 : decode b_Mo_find 237 = .ok (.ifCond .eq 14, 3) := by decide +kernel
theorem d_Mo_find_251 : decode b_Mo_find 251 = .ok (.iconst 0, 1) := by decide +kernel
theorem d_Mo_find_252 : decode b_Mo_find 252 = .ok (.istore 9, 2) := by decide +kernel
theorem d_Mo_find_254 : decode b_Mo_find 254 = .ok (.lload 11, 2) := by decide +kernel
theorem d_Mo_find_256 : decode b_Mo_find 256 = .ok (.bipush 12, 2) := by decide +kernel
theorem d_Mo_find_258 : decode b_Mo_find 258 = .ok (.bipush 51, 2) := by decide +kernel
theorem d_Mo_find_260 : decode b_Mo_find 260 = .ok (.invokestatic 56, 3) := by decide +kernel
theorem d_Mo_find_263 : decode b_Mo_find 263 = .ok (.bipush 12, 2) := by decide +kernel
theorem d_Mo_find_265 : decode b_Mo_find 265 = .ok (.lshl, 1) := by decide +kernel
theorem d_Mo_find_266 : decode b_Mo_find 266 = .ok (.lstore 5, 2) := by decide +kernel
theorem d_Mo_find_268 : decode b_Mo_find 268 = .ok (.iload 14, 2) := by decide +kernel
theorem d_Mo_find_270 : decode b_Mo_find 270 = .ok (.ifCond .ne 8, 3) := by decide +kernel
theorem d_Mo_find_278 : decode b_Mo_find 278 = .ok (.iconst 1, 1) := by decide +kernel
theorem d_Mo_find_279 : decode b_Mo_find 279 = .ok (.goto 4, 3) := by decide +kernel
theorem d_Mo_find_283 : decode b_Mo_find 283 = .ok (.istore 13, 2) := by decide +kernel
theorem d_Mo_find_285 : decode b_Mo_find 285 = .ok (.iload 13, 2) := by decide +kernel
theorem d_Mo_find_287 : decode b_Mo_find 287 = .ok (.ifCond .ne 6, 3) := by decide +kernel
theorem d_Mo_find_293 : decode b_Mo_find 293 = .ok (.goto (-222), 3) := by decide +kernel
theorem d_Mo_find_290 : decode b_Mo_find 290 = .ok (.iinc 10 (-1), 3) := by decide +kernel
theorem d_Mo_find_273 : decode b_Mo_find 273 = .ok (.iload 10, 2) := by decide +kernel
theorem d_Mo_find_275 : decode b_Mo_find 275 = .ok (.ifCond .ne 7, 3) := by decide +kernel
theorem d_Mo_find_282 : decode b_Mo_find 282 = .ok (.iconst 0, 1) := by decide +kernel
theorem d_Mo_find_240 : decode b_Mo_find 240 = .ok (.lload 11, 2) := by decide +kernel
theorem d_Mo_find_242 : decode b_Mo_find 242 = .ok (.lconst 0, 1) := by decide +kernel
theorem d_Mo_find_243 : decode b_Mo_find 243 = .ok (.lcmp, 1) := by decide +kernel
theorem d_Mo_find_244 : decode b_Mo_find 244 = .ok (.ifCond .lt 7, 3) := by decide +kernel
theorem d_Mo_find_247 : decode b_Mo_find 247 = .ok (.iconst 1, 1) := by decide +kernel
theorem d_Mo_find_248 : decode b_Mo_find 248 = .ok (.goto 4, 3) := by decide +kernel
theorem d_Mo_find_217 : decode b_Mo_find 217 = .ok (.lload 11, 2) := by decide +kernel
theorem d_Mo_find_219 : decode b_Mo_find 219 = .ok (.ldc2_w 75, 3) := by decide +kernel
theorem d_Mo_find_222 : decode b_Mo_find 222 = .ok (.land, 1) := by decide +kernel
theorem d_Mo_find_223 : decode b_Mo_find 223 = .ok (.lconst 0, 1) := by decide +kernel
theorem d_Mo_find_224 : decode b_Mo_find 224 = .ok (.lcmp, 1) := by decide +kernel
theorem d_Mo_find_225 : decode b_Mo_find 225 = .ok (.ifCond .eq 7, 3) := by decide +kernel
theorem d_Mo_find_228 : decode b_Mo_find 228 = .ok (.iconst 1, 1) := by decide +kernel
theorem d_Mo_find_229 : decode b_Mo_find 229 = .ok (.goto 4, 3) := by decide +kernel
theorem d_Mo_find_194 : decode b_Mo_find 194 = .ok (.lload 11, 2) := by decide +kernel
theorem d_Mo_find_196 : decode b_Mo_find 196 = .ok (.ldc2_w 73, 3) := by decide +kernel
theorem d_Mo_find_199 : decode b_Mo_find 199 = .ok (.land, 1) := by decide +kernel
theorem d_Mo_find_200 : decode b_Mo_find 200 = .ok (.lconst 0, 1) := by decide +kernel
theorem d_Mo_find_201 : decode b_Mo_find 201 = .ok (.lcmp, 1) := by decide +kernel
theorem d_Mo_find_202 : decode b_Mo_find 202 = .ok (.ifCond .eq 7, 3) := by decide +kernel
theorem d_Mo_find_205 : decode b_Mo_find 205 = .ok (.iconst 1, 1) := by decide +kernel
theorem d_Mo_find_206 : decode b_Mo_find 206 = .ok (.goto 4, 3) := by decide +kernel
theorem d_Mo_find_165 : decode b_Mo_find 165 = .ok (.iload 10, 2) := by decide +kernel
theorem d_Mo_find_167 : decode b_Mo_find 167 = .ok (.iconst 1, 1) := by decide +kernel
theorem d_Mo_find_168 : decode b_Mo_find 168 = .ok (.if_icmp .gt 17, 3) := by decide +kernel
theorem d_Mo_find_185 : decode b_Mo_find 185 = .ok (.ldc2_w 71, 3) := by decide +kernel
theorem d_Mo_find_188 : decode b_Mo_find 188 = .ok (.lreturn, 1) := by decide +kernel
theorem d_Mo_find_171 : decode b_Mo_find 171 = .ok (.lload 11, 2) := by decide +kernel
theorem d_Mo_find_173 : decode b_Mo_find 173 = .ok (.bipush 13, 2) := by decide +kernel
theorem d_Mo_find_175 : decode b_Mo_find 175 = .ok (.bipush 20, 2) := by decide +kernel
theorem d_Mo_find_177 : decode b_Mo_find 177 = .ok (.invokestatic 56, 3) := by decide +kernel
theorem d_Mo_find_180 : decode b_Mo_find 180 = .ok (.lconst 0, 1) := by decide +kernel
theorem d_Mo_find_181 : decode b_Mo_find 181 = .ok (.lcmp, 1) := by decide +kernel
theorem d_Mo_find_182 : decode b_Mo_find 182 = .ok (.ifCond .eq 7, 3) := by decide +kernel
theorem d_Mo_find_147 : decode b_Mo_find 147 = .ok (.ldc2_w 71, 3) := by decide +kernel
theorem d_Mo_find_150 : decode b_Mo_find 150 = .ok (.lreturn, 1) := by decide +kernel
theorem d_Mo_find_114 : decode b_Mo_find 114 = .ok (.lload 11, 2) := by decide +kernel
theorem d_Mo_find_116 : decode b_Mo_find 116 = .ok (.ldc2_w 66, 3) := by decide +kernel
theorem d_Mo_find_119 : decode b_Mo_find 119 = .ok (.land, 1) := by decide +kernel
theorem d_Mo_find_120 : decode b_Mo_find 120 = .ok (.lconst 0, 1) := by decide +kernel
theorem d_Mo_find_121 : decode b_Mo_find 121 = .ok (.lcmp, 1) := by decide +kernel
theorem d_Mo_find_122 : decode b_Mo_find 122 = .ok (.ifCond .eq 7, 3) := by decide +kernel
theorem d_Mo_find_125 : decode b_Mo_find 125 = .ok (.iconst 1, 1) := by decide +kernel
theorem d_Mo_find_126 : decode b_Mo_find 126 = .ok (.goto 4, 3) := by decide +kernel
theorem d_Mo_find_28 : decode b_Mo_find 28 = .ok (.bipush 16, 2) := by decide +kernel
theorem d_Mo_find_30 : decode b_Mo_find 30 = .ok (.goto 4, 3) := by decide +kernel
theorem d_Mo_find_17 : decode b_Mo_find 17 = .ok (.iconst 4, 1) := by decide +kernel
theorem d_Mo_find_18 : decode b_Mo_find 18 = .ok (.goto 4, 3) := by decide +kernel
theorem d_Mo_find_5 : decode b_Mo_find 5 = .ok (.iconst 2, 1) := by decide +kernel
theorem d_Mo_find_6 : decode b_Mo_find 6 = .ok (.goto 4, 3) := by decide +kernel
theorem d_Mo_lookUp_59 : decode b_Mo_lookUp 59 = .ok (.invokevirtual 85, 3) := by decide +kernel
theorem d_Mo_lookUp_62 : decode b_Mo_lookUp 62 = .ok (.lastore, 1) := by decide +kernel
theorem d_Mo_lookUp_63 : decode b_Mo_lookUp 63 = .ok (.aload_n 0, 1) := by decide +kernel
theorem d_Mo_lookUp_64 : decode b_Mo_lookUp 64 = .ok (.getfield 39, 3) := by decide +kernel
theorem d_Mo_lookUp_67 : decode b_Mo_lookUp 67 = .ok (.iload 6, 2) := by decide +kernel
theorem d_Mo_lookUp_69 : decode b_Mo_lookUp 69 = .ok (.laload, 1) := by decide +kernel
theorem d_Mo_lookUp_70 : decode b_Mo_lookUp 70 = .ok (.lconst 0, 1) := by decide +kernel
theorem d_Mo_lookUp_71 : decode b_Mo_lookUp 71 = .ok (.lcmp, 1) := by decide +kernel
theorem d_Mo_lookUp_72 : decode b_Mo_lookUp 72 = .ok (.ifCond .lt 6, 3) := by decide +kernel
theorem d_Mo_lookUp_78 : decode b_Mo_lookUp 78 = .ok (.aload_n 0, 1) := by decide +kernel
theorem d_Mo_lookUp_79 : decode b_Mo_lookUp 79 = .ok (.bipush 14, 2) := by decide +kernel
theorem d_Mo_refuse_0 : decode b_Mo_refuse 0 = .ok (.aload_n 0, 1) := by decide +kernel
theorem d_Mo_refuse_1 : decode b_Mo_refuse 1 = .ok (.getfield 28, 3) := by decide +kernel
theorem d_Mo_refuse_4 : decode b_Mo_refuse 4 = .ok (.iconst (-1), 1) := by decide +kernel
theorem d_Mo_refuse_5 : decode b_Mo_refuse 5 = .ok (.if_icmp .ne 8, 3) := by decide +kernel
theorem d_Mo_refuse_13 : decode b_Mo_refuse 13 = .ok (.return_, 1) := by decide +kernel
theorem d_Mo_refuse_8 : decode b_Mo_refuse 8 = .ok (.aload_n 0, 1) := by decide +kernel
theorem d_Mo_refuse_9 : decode b_Mo_refuse 9 = .ok (.iload_n 1, 1) := by decide +kernel
theorem d_Mo_refuse_10 : decode b_Mo_refuse 10 = .ok (.putfield 28, 3) := by decide +kernel
theorem d_Mo_lookUp_81 : decode b_Mo_lookUp 81 = .ok (.invokevirtual 81, 3) := by decide +kernel
theorem d_Mo_lookUp_84 : decode b_Mo_lookUp 84 = .ok (.aload_n 0, 1) := by decide +kernel
theorem d_Mo_lookUp_85 : decode b_Mo_lookUp 85 = .ok (.lload_n 1, 1) := by decide +kernel
theorem d_Mo_lookUp_86 : decode b_Mo_lookUp 86 = .ok (.iload 6, 2) := by decide +kernel
theorem d_Mo_lookUp_88 : decode b_Mo_lookUp 88 = .ok (.i2l, 1) := by decide +kernel
theorem d_Mo_lookUp_89 : decode b_Mo_lookUp 89 = .ok (.ladd, 1) := by decide +kernel
theorem d_Mo_lookUp_90 : decode b_Mo_lookUp 90 = .ok (.putfield 89, 3) := by decide +kernel
theorem d_Mo_lookUp_93 : decode b_Mo_lookUp 93 = .ok (.aload_n 0, 1) := by decide +kernel
theorem d_Mo_lookUp_94 : decode b_Mo_lookUp 94 = .ok (.aload_n 0, 1) := by decide +kernel
theorem d_Mo_lookUp_95 : decode b_Mo_lookUp 95 = .ok (.getfield 68, 3) := by decide +kernel
theorem d_Mo_lookUp_98 : decode b_Mo_lookUp 98 = .ok (.putfield 92, 3) := by decide +kernel
theorem d_Mo_lookUp_101 : decode b_Mo_lookUp 101 = .ok (.iinc 6 1, 3) := by decide +kernel
theorem d_Mo_lookUp_104 : decode b_Mo_lookUp 104 = .ok (.goto (-101), 3) := by decide +kernel
theorem d_Mo_lookUp_75 : decode b_Mo_lookUp 75 = .ok (.goto 26, 3) := by decide +kernel
theorem d_Mo_lookUp_28 : decode b_Mo_lookUp 28 = .ok (.aload_n 0, 1) := by decide +kernel
theorem d_Mo_lookUp_29 : decode b_Mo_lookUp 29 = .ok (.iload 5, 2) := by decide +kernel
theorem d_Mo_lookUp_31 : decode b_Mo_lookUp 31 = .ok (.ifCond .eq 8, 3) := by decide +kernel
theorem d_Mo_lookUp_39 : decode b_Mo_lookUp 39 = .ok (.bipush 13, 2) := by decide +kernel
theorem d_Mo_lookUp_41 : decode b_Mo_lookUp 41 = .ok (.invokevirtual 81, 3) := by decide +kernel
theorem d_Mo_lookUp_44 : decode b_Mo_lookUp 44 = .ok (.return_, 1) := by decide +kernel
theorem d_Mo_lookUp_34 : decode b_Mo_lookUp 34 = .ok (.bipush 12, 2) := by decide +kernel
theorem d_Mo_lookUp_36 : decode b_Mo_lookUp 36 = .ok (.goto 5, 3) := by decide +kernel
theorem d_Mo_fetch_37 : decode b_Mo_fetch 37 = .ok (.invokevirtual 95, 3) := by decide +kernel
theorem d_Mo_fetch_40 : decode b_Mo_fetch 40 = .ok (.aload_n 0, 1) := by decide +kernel
theorem d_Mo_fetch_41 : decode b_Mo_fetch 41 = .ok (.getfield 28, 3) := by decide +kernel
theorem d_Mo_fetch_44 : decode b_Mo_fetch 44 = .ok (.iconst (-1), 1) := by decide +kernel
theorem d_Mo_fetch_45 : decode b_Mo_fetch 45 = .ok (.if_icmp .eq 5, 3) := by decide +kernel
theorem d_Mo_fetch_50 : decode b_Mo_fetch 50 = .ok (.aload_n 0, 1) := by decide +kernel
theorem d_Mo_fetch_51 : decode b_Mo_fetch 51 = .ok (.dup, 1) := by decide +kernel
theorem d_Mo_fetch_52 : decode b_Mo_fetch 52 = .ok (.getfield 108, 3) := by decide +kernel
theorem d_Mo_fetch_55 : decode b_Mo_fetch 55 = .ok (.iconst 1, 1) := by decide +kernel
theorem d_Mo_fetch_56 : decode b_Mo_fetch 56 = .ok (.iadd, 1) := by decide +kernel
theorem d_Mo_fetch_57 : decode b_Mo_fetch 57 = .ok (.putfield 108, 3) := by decide +kernel
theorem d_Mo_fetch_60 : decode b_Mo_fetch 60 = .ok (.aload_n 0, 1) := by decide +kernel
theorem d_Mo_fetch_61 : decode b_Mo_fetch 61 = .ok (.aload_n 0, 1) := by decide +kernel
theorem d_Mo_fetch_62 : decode b_Mo_fetch 62 = .ok (.getfield 39, 3) := by decide +kernel
theorem d_Mo_fetch_65 : decode b_Mo_fetch 65 = .ok (.iconst 0, 1) := by decide +kernel
theorem d_Mo_fetch_66 : decode b_Mo_fetch 66 = .ok (.laload, 1) := by decide +kernel
theorem d_Mo_fetch_67 : decode b_Mo_fetch 67 = .ok (.invokevirtual 44, 3) := by decide +kernel
theorem d_Mo_fetch_70 : decode b_Mo_fetch 70 = .ok (.ireturn, 1) := by decide +kernel
theorem d_Mo_fetch_48 : decode b_Mo_fetch 48 = .ok (.iconst 0, 1) := by decide +kernel
theorem d_Mo_fetch_49 : decode b_Mo_fetch 49 = .ok (.ireturn, 1) := by decide +kernel
theorem d_Mo_fetch_8 : decode b_Mo_fetch 8 = .ok (.aload_n 0, 1) := by decide +kernel
theorem d_Mo_fetch_9 : decode b_Mo_fetch 9 = .ok (.getfield 108, 3) := by decide +kernel
theorem d_Mo_fetch_12 : decode b_Mo_fetch 12 = .ok (.bipush 15, 2) := by decide +kernel
theorem d_Mo_fetch_14 : decode b_Mo_fetch 14 = .ok (.if_icmp .ne 9, 3) := by decide +kernel
theorem d_Mo_fetch_17 : decode b_Mo_fetch 17 = .ok (.aload_n 0, 1) := by decide +kernel
theorem d_Mo_fetch_18 : decode b_Mo_fetch 18 = .ok (.bipush 13, 2) := by decide +kernel
theorem d_Mo_fetch_20 : decode b_Mo_fetch 20 = .ok (.invokevirtual 81, 3) := by decide +kernel
theorem d_Mo_open_21 : decode b_Mo_open 21 = .ok (.invokevirtual 114, 3) := by decide +kernel
theorem d_Mo_open_24 : decode b_Mo_open 24 = .ok (.istore_n 1, 1) := by decide +kernel
theorem d_Mo_open_25 : decode b_Mo_open 25 = .ok (.aload_n 0, 1) := by decide +kernel
theorem d_Mo_open_26 : decode b_Mo_open 26 = .ok (.getfield 28, 3) := by decide +kernel
theorem d_Mo_open_29 : decode b_Mo_open 29 = .ok (.iconst (-1), 1) := by decide +kernel
theorem d_Mo_open_30 : decode b_Mo_open 30 = .ok (.if_icmp .ne 98, 3) := by decide +kernel
theorem d_Mo_open_128 : decode b_Mo_open 128 = .ok (.aload_n 0, 1) := by decide +kernel
theorem d_Mo_open_129 : decode b_Mo_open 129 = .ok (.iload_n 1, 1) := by decide +kernel
theorem d_Mo_open_130 : decode b_Mo_open 130 = .ok (.bipush 15, 2) := by decide +kernel
theorem d_Mo_open_132 : decode b_Mo_open 132 = .ok (.if_icmp .ne 15, 3) := by decide +kernel
theorem d_Mo_open_147 : decode b_Mo_open 147 = .ok (.iconst 0, 1) := by decide +kernel
theorem d_Mo_open_148 : decode b_Mo_open 148 = .ok (.putfield 130, 3) := by decide +kernel
theorem d_Mo_open_151 : decode b_Mo_open 151 = .ok (.aload_n 0, 1) := by decide +kernel
theorem d_Mo_open_152 : decode b_Mo_open 152 = .ok (.aload_n 0, 1) := by decide +kernel
theorem d_Mo_open_153 : decode b_Mo_open 153 = .ok (.getfield 130, 3) := by decide +kernel
theorem d_Mo_open_156 : decode b_Mo_open 156 = .ok (.ifCond .eq 10, 3) := by decide +kernel
theorem d_Mo_open_166 : decode b_Mo_open 166 = .ok (.iload_n 1, 1) := by decide +kernel
theorem d_Mo_open_167 : decode b_Mo_open 167 = .ok (.putfield 133, 3) := by decide +kernel
theorem d_Mo_open_170 : decode b_Mo_open 170 = .ok (.return_, 1) := by decide +kernel
theorem d_Mo_open_159 : decode b_Mo_open 159 = .ok (.aload_n 0, 1) := by decide +kernel
theorem d_Mo_open_160 : decode b_Mo_open 160 = .ok (.invokevirtual 114, 3) := by decide +kernel
theorem d_Mo_open_163 : decode b_Mo_open 163 = .ok (.goto 4, 3) := by decide +kernel
theorem d_Mo_open_135 : decode b_Mo_open 135 = .ok (.aload_n 0, 1) := by decide +kernel
theorem d_Mo_open_136 : decode b_Mo_open 136 = .ok (.getfield 28, 3) := by decide +kernel
theorem d_Mo_open_139 : decode b_Mo_open 139 = .ok (.iconst (-1), 1) := by decide +kernel
theorem d_Mo_open_140 : decode b_Mo_open 140 = .ok (.if_icmp .ne 7, 3) := by decide +kernel
theorem d_Mo_open_143 : decode b_Mo_open 143 = .ok (.iconst 1, 1) := by decide +kernel
theorem d_Mo_open_144 : decode b_Mo_open 144 = .ok (.goto 4, 3) := by decide +kernel
theorem d_Mo_open_33 : decode b_Mo_open 33 = .ok (.iload_n 1, 1) := by decide +kernel
theorem d_Mo_open_34 : decode b_Mo_open 34 = .ok (.bipush 102, 2) := by decide +kernel
theorem d_Mo_open_36 : decode b_Mo_open 36 = .ok (.if_icmp .eq 29, 3) := by decide +kernel
theorem d_Mo_open_65 : decode b_Mo_open 65 = .ok (.aload_n 0, 1) := by decide +kernel
theorem d_Mo_open_66 : decode b_Mo_open 66 = .ok (.iload_n 1, 1) := by decide +kernel
theorem d_Mo_open_67 : decode b_Mo_open 67 = .ok (.bipush 64, 2) := by decide +kernel
theorem d_Mo_open_69 : decode b_Mo_open 69 = .ok (.if_icmp .lt 13, 3) := by decide +kernel
theorem d_Mo_open_82 : decode b_Mo_open 82 = .ok (.iconst 0, 1) := by decide +kernel
theorem d_Mo_open_83 : decode b_Mo_open 83 = .ok (.putfield 121, 3) := by decide +kernel
theorem d_Mo_open_86 : decode b_Mo_open 86 = .ok (.aload_n 0, 1) := by decide +kernel
theorem d_Mo_open_87 : decode b_Mo_open 87 = .ok (.aload_n 0, 1) := by decide +kernel
theorem d_Mo_open_88 : decode b_Mo_open 88 = .ok (.getfield 127, 3) := by decide +kernel
theorem d_Mo_open_91 : decode b_Mo_open 91 = .ok (.ifCond .ne 9, 3) := by decide +kernel
theorem d_Mo_open_100 : decode b_Mo_open 100 = .ok (.iconst 1, 1) := by decide +kernel
theorem d_Mo_open_101 : decode b_Mo_open 101 = .ok (.goto 4, 3) := by decide +kernel
theorem d_Mo_open_105 : decode b_Mo_open 105 = .ok (.putfield 127, 3) := by decide +kernel
theorem d_Mo_open_108 : decode b_Mo_open 108 = .ok (.iload_n 1, 1) := by decide +kernel
theorem d_Mo_open_109 : decode b_Mo_open 109 = .ok (.sipush 240, 3) := by decide +kernel
theorem d_Mo_open_112 : decode b_Mo_open 112 = .ok (.if_icmp .le 8, 3) := by decide +kernel
theorem d_Mo_open_120 : decode b_Mo_open 120 = .ok (.aload_n 0, 1) := by decide +kernel
theorem d_Mo_open_121 : decode b_Mo_open 121 = .ok (.invokevirtual 114, 3) := by decide +kernel
theorem d_Mo_open_124 : decode b_Mo_open 124 = .ok (.istore_n 1, 1) := by decide +kernel
theorem d_Mo_open_125 : decode b_Mo_open 125 = .ok (.goto (-100), 3) := by decide +kernel
theorem d_Mo_open_115 : decode b_Mo_open 115 = .ok (.aload_n 0, 1) := by decide +kernel
theorem d_Mo_open_116 : decode b_Mo_open 116 = .ok (.iload_n 1, 1) := by decide +kernel
theorem d_Mo_open_117 : decode b_Mo_open 117 = .ok (.putfield 124, 3) := by decide +kernel
theorem d_Mo_open_94 : decode b_Mo_open 94 = .ok (.iload_n 1, 1) := by decide +kernel
theorem d_Mo_open_95 : decode b_Mo_open 95 = .ok (.bipush 102, 2) := by decide +kernel
theorem d_Mo_open_97 : decode b_Mo_open 97 = .ok (.if_icmp .ne 7, 3) := by decide +kernel
theorem d_Mo_open_104 : decode b_Mo_open 104 = .ok (.iconst 0, 1) := by decide +kernel
theorem d_Mo_open_72 : decode b_Mo_open 72 = .ok (.iload_n 1, 1) := by decide +kernel
theorem d_Mo_open_73 : decode b_Mo_open 73 = .ok (.bipush 79, 2) := by decide +kernel
theorem d_Mo_open_75 : decode b_Mo_open 75 = .ok (.if_icmp .gt 7, 3) := by decide +kernel
theorem d_Mo_open_78 : decode b_Mo_open 78 = .ok (.iload_n 1, 1) := by decide +kernel
theorem d_Mo_open_79 : decode b_Mo_open 79 = .ok (.goto 4, 3) := by decide +kernel
theorem d_Mo_open_39 : decode b_Mo_open 39 = .ok (.iload_n 1, 1) := by decide +kernel
theorem d_Mo_open_40 : decode b_Mo_open 40 = .ok (.sipush 242, 3) := by decide +kernel
theorem d_Mo_open_43 : decode b_Mo_open 43 = .ok (.if_icmp .eq 22, 3) := by decide +kernel
theorem d_Mo_open_46 : decode b_Mo_open 46 = .ok (.iload_n 1, 1) := by decide +kernel
theorem d_Mo_open_47 : decode b_Mo_open 47 = .ok (.sipush 243, 3) := by decide +kernel
theorem d_Mo_open_50 : decode b_Mo_open 50 = .ok (.if_icmp .eq 15, 3) := by decide +kernel
theorem d_Mo_open_53 : decode b_Mo_open 53 = .ok (.iload_n 1, 1) := by decide +kernel
theorem d_Mo_open_54 : decode b_Mo_open 54 = .ok (.bipush 64, 2) := by decide +kernel
theorem d_Mo_open_56 : decode b_Mo_open 56 = .ok (.if_icmp .lt 72, 3) := by decide +kernel
theorem d_Mo_open_59 : decode b_Mo_open 59 = .ok (.iload_n 1, 1) := by decide +kernel
theorem d_Mo_open_60 : decode b_Mo_open 60 = .ok (.bipush 79, 2) := by decide +kernel
theorem d_Mo_open_62 : decode b_Mo_open 62 = .ok (.if_icmp .gt 66, 3) := by decide +kernel
theorem d_Mo_step_71 : decode b_Mo_step 71 = .ok (.invokevirtual 232, 3) := by decide +kernel
theorem d_Mo_step_74 : decode b_Mo_step 74 = .ok (.aload_n 0, 1) := by decide +kernel
theorem d_Mo_step_75 : decode b_Mo_step 75 = .ok (.aload_n 0, 1) := by decide +kernel
theorem d_Mo_step_76 : decode b_Mo_step 76 = .ok (.getfield 111, 3) := by decide +kernel
theorem d_Mo_step_79 : decode b_Mo_step 79 = .ok (.aload_n 0, 1) := by decide +kernel
theorem d_Mo_step_80 : decode b_Mo_step 80 = .ok (.getfield 108, 3) := by decide +kernel
theorem d_Mo_step_83 : decode b_Mo_step 83 = .ok (.i2l, 1) := by decide +kernel
theorem d_Mo_step_84 : decode b_Mo_step 84 = .ok (.ladd, 1) := by decide +kernel
theorem d_Mo_step_85 : decode b_Mo_step 85 = .ok (.putfield 173, 3) := by decide +kernel
theorem d_Mo_step_88 : decode b_Mo_step 88 = .ok (.aload_n 0, 1) := by decide +kernel
theorem d_Mo_step_89 : decode b_Mo_step 89 = .ok (.getfield 28, 3) := by decide +kernel
theorem d_Mo_step_92 : decode b_Mo_step 92 = .ok (.iconst (-1), 1) := by decide +kernel
theorem d_Mo_step_93 : decode b_Mo_step 93 = .ok (.if_icmp .ne 63, 3) := by decide +kernel
theorem d_Mo_step_156 : decode b_Mo_step 156 = .ok (.aload_n 0, 1) := by decide +kernel
theorem d_Mo_step_157 : decode b_Mo_step 157 = .ok (.getfield 28, 3) := by decide +kernel
theorem d_Mo_step_160 : decode b_Mo_step 160 = .ok (.iconst (-1), 1) := by decide +kernel
theorem d_Mo_step_161 : decode b_Mo_step 161 = .ok (.if_icmp .ne 61, 3) := by decide +kernel
theorem d_Mo_step_222 : decode b_Mo_step 222 = .ok (.aload_n 0, 1) := by decide +kernel
theorem d_Mo_step_223 : decode b_Mo_step 223 = .ok (.aload_n 0, 1) := by decide +kernel
theorem d_Mo_step_224 : decode b_Mo_step 224 = .ok (.getfield 229, 3) := by decide +kernel
theorem d_Mo_step_227 : decode b_Mo_step 227 = .ok (.putfield 48, 3) := by decide +kernel
theorem d_Mo_step_230 : decode b_Mo_step 230 = .ok (.iconst 0, 1) := by decide +kernel
theorem d_Mo_step_231 : decode b_Mo_step 231 = .ok (.istore_n 1, 1) := by decide +kernel
theorem d_Mo_step_232 : decode b_Mo_step 232 = .ok (.iload_n 1, 1) := by decide +kernel
theorem d_Mo_step_233 : decode b_Mo_step 233 = .ok (.bipush 16, 2) := by decide +kernel
theorem d_Mo_step_235 : decode b_Mo_step 235 = .ok (.if_icmp .ge 21, 3) := by decide +kernel
theorem d_Mo_step_256 : decode b_Mo_step 256 = .ok (.iconst 0, 1) := by decide +kernel
theorem d_Mo_step_257 : decode b_Mo_step 257 = .ok (.istore_n 1, 1) := by decide +kernel
theorem d_Mo_step_258 : decode b_Mo_step 258 = .ok (.iload_n 1, 1) := by decide +kernel
theorem d_Mo_step_259 : decode b_Mo_step 259 = .ok (.bipush 7, 2) := by decide +kernel
theorem d_Mo_step_261 : decode b_Mo_step 261 = .ok (.if_icmp .ge 21, 3) := by decide +kernel
theorem d_Mo_step_282 : decode b_Mo_step 282 = .ok (.aload_n 0, 1) := by decide +kernel
theorem d_Mo_step_283 : decode b_Mo_step 283 = .ok (.getfield 28, 3) := by decide +kernel
theorem d_Mo_step_286 : decode b_Mo_step 286 = .ok (.ireturn, 1) := by decide +kernel
theorem d_Mo_step_264 : decode b_Mo_step 264 = .ok (.aload_n 0, 1) := by decide +kernel
theorem d_Mo_step_265 : decode b_Mo_step 265 = .ok (.getfield 21, 3) := by decide +kernel
theorem d_Mo_step_268 : decode b_Mo_step 268 = .ok (.iload_n 1, 1) := by decide +kernel
theorem d_Mo_step_269 : decode b_Mo_step 269 = .ok (.aload_n 0, 1) := by decide +kernel
theorem d_Mo_step_270 : decode b_Mo_step 270 = .ok (.getfield 25, 3) := by decide +kernel
theorem d_Mo_step_273 : decode b_Mo_step 273 = .ok (.iload_n 1, 1) := by decide +kernel
theorem d_Mo_step_274 : decode b_Mo_step 274 = .ok (.baload, 1) := by decide +kernel
theorem d_Mo_step_275 : decode b_Mo_step 275 = .ok (.bastore, 1) := by decide +kernel
theorem d_Mo_step_276 : decode b_Mo_step 276 = .ok (.iinc 1 1, 3) := by decide +kernel
theorem d_Mo_step_279 : decode b_Mo_step 279 = .ok (.goto (-21), 3) := by decide +kernel
theorem d_Mo_step_238 : decode b_Mo_step 238 = .ok (.aload_n 0, 1) := by decide +kernel
theorem d_Mo_step_239 : decode b_Mo_step 239 = .ok (.getfield 14, 3) := by decide +kernel
theorem d_Mo_step_242 : decode b_Mo_step 242 = .ok (.iload_n 1, 1) := by decide +kernel
theorem d_Mo_step_243 : decode b_Mo_step 243 = .ok (.aload_n 0, 1) := by decide +kernel
theorem d_Mo_step_244 : decode b_Mo_step 244 = .ok (.getfield 18, 3) := by decide +kernel
theorem d_Mo_step_247 : decode b_Mo_step 247 = .ok (.iload_n 1, 1) := by decide +kernel
theorem d_Mo_step_248 : decode b_Mo_step 248 = .ok (.laload, 1) := by decide +kernel
theorem d_Mo_step_249 : decode b_Mo_step 249 = .ok (.lastore, 1) := by decide +kernel
theorem d_Mo_step_250 : decode b_Mo_step 250 = .ok (.iinc 1 1, 3) := by decide +kernel
theorem d_Mo_step_253 : decode b_Mo_step 253 = .ok (.goto (-21), 3) := by decide +kernel
theorem d_Mo_step_164 : decode b_Mo_step 164 = .ok (.aload_n 0, 1) := by decide +kernel
theorem d_Mo_step_165 : decode b_Mo_step 165 = .ok (.aload_n 0, 1) := by decide +kernel
theorem d_Mo_step_166 : decode b_Mo_step 166 = .ok (.getfield 173, 3) := by decide +kernel
theorem d_Mo_step_169 : decode b_Mo_step 169 = .ok (.putfield 111, 3) := by decide +kernel
theorem d_Mo_step_172 : decode b_Mo_step 172 = .ok (.iconst 0, 1) := by decide +kernel
theorem d_Mo_step_173 : decode b_Mo_step 173 = .ok (.istore_n 1, 1) := by decide +kernel
theorem d_Mo_step_174 : decode b_Mo_step 174 = .ok (.iload_n 1, 1) := by decide +kernel
theorem d_Mo_step_175 : decode b_Mo_step 175 = .ok (.aload_n 0, 1) := by decide +kernel
theorem d_Mo_step_176 : decode b_Mo_step 176 = .ok (.getfield 103, 3) := by decide +kernel
theorem d_Mo_step_179 : decode b_Mo_step 179 = .ok (.if_icmp .ge 41, 3) := by decide +kernel
theorem d_Mo_step_220 : decode b_Mo_step 220 = .ok (.iconst (-1), 1) := by decide +kernel
theorem d_Mo_step_221 : decode b_Mo_step 221 = .ok (.ireturn, 1) := by decide +kernel
theorem d_Mo_step_182 : decode b_Mo_step 182 = .ok (.aload_n 0, 1) := by decide +kernel
theorem d_Mo_step_183 : decode b_Mo_step 183 = .ok (.getfield 32, 3) := by decide +kernel
theorem d_Mo_step_186 : decode b_Mo_step 186 = .ok (.iload_n 1, 1) := by decide +kernel
theorem d_Mo_step_187 : decode b_Mo_step 187 = .ok (.laload, 1) := by decide +kernel
theorem d_Mo_step_188 : decode b_Mo_step 188 = .ok (.ldc2_w 42, 3) := by decide +kernel
theorem d_Mo_step_191 : decode b_Mo_step 191 = .ok (.lcmp, 1) := by decide +kernel
theorem d_Mo_step_192 : decode b_Mo_step 192 = .ok (.ifCond .ge 22, 3) := by decide +kernel
theorem d_Mo_step_214 : decode b_Mo_step 214 = .ok (.iinc 1 1, 3) := by decide +kernel
theorem d_Mo_step_217 : decode b_Mo_step 217 = .ok (.goto (-43), 3) := by decide +kernel
theorem d_Mo_step_195 : decode b_Mo_step 195 = .ok (.aload_n 0, 1) := by decide +kernel
theorem d_Mo_step_196 : decode b_Mo_step 196 = .ok (.getfield 8, 3) := by decide +kernel
theorem d_Mo_step_199 : decode b_Mo_step 199 = .ok (.aload_n 0, 1) := by decide +kernel
theorem d_Mo_step_200 : decode b_Mo_step 200 = .ok (.getfield 32, 3) := by decide +kernel
theorem d_Mo_step_203 : decode b_Mo_step 203 = .ok (.iload_n 1, 1) := by decide +kernel
theorem d_Mo_step_204 : decode b_Mo_step 204 = .ok (.laload, 1) := by decide +kernel
theorem d_Mo_step_205 : decode b_Mo_step 205 = .ok (.l2i, 1) := by decide +kernel
theorem d_Mo_step_206 : decode b_Mo_step 206 = .ok (.aload_n 0, 1) := by decide +kernel
theorem d_Mo_step_207 : decode b_Mo_step 207 = .ok (.getfield 35, 3) := by decide +kernel
theorem d_Mo_step_210 : decode b_Mo_step 210 = .ok (.iload_n 1, 1) := by decide +kernel
theorem d_Mo_step_211 : decode b_Mo_step 211 = .ok (.iaload, 1) := by decide +kernel
theorem d_Mo_step_212 : decode b_Mo_step 212 = .ok (.i2b, 1) := by decide +kernel
theorem d_Mo_step_213 : decode b_Mo_step 213 = .ok (.bastore, 1) := by decide +kernel
theorem d_Mo_step_96 : decode b_Mo_step 96 = .ok (.aload_n 0, 1) := by decide +kernel
theorem d_Mo_step_97 : decode b_Mo_step 97 = .ok (.getfield 130, 3) := by decide +kernel
theorem d_Mo_step_100 : decode b_Mo_step 100 = .ok (.ifCond .eq 31, 3) := by decide +kernel
theorem d_Mo_step_131 : decode b_Mo_step 131 = .ok (.aload_n 0, 1) := by decide +kernel
theorem d_Mo_step_132 : decode b_Mo_step 132 = .ok (.aload_n 0, 1) := by decide +kernel
theorem d_Mo_step_133 : decode b_Mo_step 133 = .ok (.getfield 133, 3) := by decide +kernel
theorem d_Mo_step_136 : decode b_Mo_step 136 = .ok (.aload_n 0, 1) := by decide +kernel
theorem d_Mo_step_137 : decode b_Mo_step 137 = .ok (.getfield 133, 3) := by decide +kernel
theorem d_Mo_step_140 : decode b_Mo_step 140 = .ok (.iconst 1, 1) := by decide +kernel
theorem d_Mo_step_141 : decode b_Mo_step 141 = .ok (.iand, 1) := by decide +kernel
theorem d_Mo_step_142 : decode b_Mo_step 142 = .ok (.ifCond .ne 7, 3) := by decide +kernel
theorem d_Mo_step_149 : decode b_Mo_step 149 = .ok (.aload_n 0, 1) := by decide +kernel
theorem d_Mo_wide_0 : decode b_Mo_wide 0 = .ok (.aload_n 0, 1) := by decide +kernel
theorem d_Mo_wide_1 : decode b_Mo_wide 1 = .ok (.getfield 121, 3) := by decide +kernel
theorem d_Mo_wide_4 : decode b_Mo_wide 4 = .ok (.bipush 8, 2) := by decide +kernel
theorem d_Mo_wide_6 : decode b_Mo_wide 6 = .ok (.iand, 1) := by decide +kernel
theorem d_Mo_wide_7 : decode b_Mo_wide 7 = .ok (.ifCond .eq 8, 3) := by decide +kernel
theorem d_Mo_wide_15 : decode b_Mo_wide 15 = .ok (.aload_n 0, 1) := by decide +kernel
theorem d_Mo_wide_16 : decode b_Mo_wide 16 = .ok (.getfield 127, 3) := by decide +kernel
theorem d_Mo_wide_19 : decode b_Mo_wide 19 = .ok (.ifCond .eq 7, 3) := by decide +kernel
theorem d_Mo_wide_26 : decode b_Mo_wide 26 = .ok (.iconst 4, 1) := by decide +kernel
theorem d_Mo_wide_27 : decode b_Mo_wide 27 = .ok (.ireturn, 1) := by decide +kernel
theorem d_Mo_wide_22 : decode b_Mo_wide 22 = .ok (.iconst 2, 1) := by decide +kernel
theorem d_Mo_wide_23 : decode b_Mo_wide 23 = .ok (.goto 4, 3) := by decide +kernel
theorem d_Mo_wide_10 : decode b_Mo_wide 10 = .ok (.bipush 8, 2) := by decide +kernel
theorem d_Mo_wide_12 : decode b_Mo_wide 12 = .ok (.goto 15, 3) := by decide +kernel
theorem d_Mo_step_150 : decode b_Mo_step 150 = .ok (.invokevirtual 235, 3) := by decide +kernel
theorem d_Mo_first_0 : decode b_Mo_first 0 = .ok (.iload_n 1, 1) := by decide +kernel
theorem d_Mo_first_1 : decode b_Mo_first 1 = .ok (.bipush 64, 2) := by decide +kernel
theorem d_Mo_first_3 : decode b_Mo_first 3 = .ok (.if_icmp .ge 19, 3) := by decide +kernel
theorem d_Mo_first_22 : decode b_Mo_first 22 = .ok (.iload_n 1, 1) := by decide +kernel
theorem d_Mo_first_23 : decode b_Mo_first 23 = .ok (.bipush 80, 2) := by decide +kernel
theorem d_Mo_first_25 : decode b_Mo_first 25 = .ok (.if_icmp .lt 17, 3) := by decide +kernel
theorem d_Mo_first_42 : decode b_Mo_first 42 = .ok (.iload_n 1, 1) := by decide +kernel
theorem d_Mo_first_43 : decode b_Mo_first 43 = .ok (.bipush 112, 2) := by decide +kernel
theorem d_Mo_first_45 : decode b_Mo_first 45 = .ok (.if_icmp .lt 22, 3) := by decide +kernel
theorem d_Mo_first_67 : decode b_Mo_first 67 = .ok (.iload_n 1, 1) := by decide +kernel
theorem d_Mo_first_68 : decode b_Mo_first 68 = .ok (.sipush 128, 3) := by decide +kernel
theorem d_Mo_first_71 : decode b_Mo_first 71 = .ok (.if_icmp .eq 17, 3) := by decide +kernel
theorem d_Mo_first_88 : decode b_Mo_first 88 = .ok (.aload_n 0, 1) := by decide +kernel
theorem d_Mo_first_89 : decode b_Mo_first 89 = .ok (.iload_n 1, 1) := by decide +kernel
theorem d_Mo_first_90 : decode b_Mo_first 90 = .ok (.iload_n 2, 1) := by decide +kernel
theorem d_Mo_group_0 : decode b_Mo_group 0 = .ok (.aload_n 0, 1) := by decide +kernel
theorem d_Mo_takeOperand_0 : decode b_Mo_takeOperand 0 = .ok (.aload_n 0, 1) := by decide +kernel
theorem d_Mo_takeMod_0 : decode b_Mo_takeMod 0 = .ok (.aload_n 0, 1) := by decide +kernel
theorem d_Mo_takeMod_1 : decode b_Mo_takeMod 1 = .ok (.invokevirtual 114, 3) := by decide +kernel
theorem d_Mo_takeMod_4 : decode b_Mo_takeMod 4 = .ok (.istore_n 1, 1) := by decide +kernel
theorem d_Mo_takeMod_5 : decode b_Mo_takeMod 5 = .ok (.aload_n 0, 1) := by decide +kernel
theorem d_Mo_takeMod_6 : decode b_Mo_takeMod 6 = .ok (.iload_n 1, 1) := by decide +kernel
theorem d_Mo_takeMod_7 : decode b_Mo_takeMod 7 = .ok (.bipush 64, 2) := by decide +kernel
theorem d_Mo_takeMod_9 : decode b_Mo_takeMod 9 = .ok (.idiv, 1) := by decide +kernel
theorem d_Mo_takeMod_10 : decode b_Mo_takeMod 10 = .ok (.putfield 136, 3) := by decide +kernel
theorem d_Mo_takeMod_13 : decode b_Mo_takeMod 13 = .ok (.aload_n 0, 1) := by decide +kernel
theorem d_Mo_takeMod_14 : decode b_Mo_takeMod 14 = .ok (.iload_n 1, 1) := by decide +kernel
theorem d_Mo_takeMod_15 : decode b_Mo_takeMod 15 = .ok (.bipush 8, 2) := by decide +kernel
theorem d_Mo_takeMod_17 : decode b_Mo_takeMod 17 = .ok (.idiv, 1) := by decide +kernel
theorem d_Mo_takeMod_18 : decode b_Mo_takeMod 18 = .ok (.bipush 8, 2) := by decide +kernel
theorem d_Mo_takeMod_20 : decode b_Mo_takeMod 20 = .ok (.irem, 1) := by decide +kernel
theorem d_Mo_takeMod_21 : decode b_Mo_takeMod 21 = .ok (.putfield 139, 3) := by decide +kernel
theorem d_Mo_takeMod_24 : decode b_Mo_takeMod 24 = .ok (.aload_n 0, 1) := by decide +kernel
theorem d_Mo_takeMod_25 : decode b_Mo_takeMod 25 = .ok (.iload_n 1, 1) := by decide +kernel
theorem d_Mo_takeMod_26 : decode b_Mo_takeMod 26 = .ok (.bipush 8, 2) := by decide +kernel
theorem d_Mo_takeMod_28 : decode b_Mo_takeMod 28 = .ok (.irem, 1) := by decide +kernel
theorem d_Mo_takeMod_29 : decode b_Mo_takeMod 29 = .ok (.putfield 142, 3) := by decide +kernel
theorem d_Mo_takeMod_32 : decode b_Mo_takeMod 32 = .ok (.return_, 1) := by decide +kernel
theorem d_Mo_takeOperand_1 : decode b_Mo_takeOperand 1 = .ok (.invokevirtual 167, 3) := by decide +kernel
theorem d_Mo_takeOperand_4 : decode b_Mo_takeOperand 4 = .ok (.aload_n 0, 1) := by decide +kernel
theorem d_Mo_takePlace_0 : decode b_Mo_takePlace 0 = .ok (.aload_n 0, 1) := by decide +kernel
theorem d_Mo_takePlace_1 : decode b_Mo_takePlace 1 = .ok (.iconst (-1), 1) := by decide +kernel
theorem d_Mo_takePlace_2 : decode b_Mo_takePlace 2 = .ok (.putfield 145, 3) := by decide +kernel
theorem d_Mo_takePlace_5 : decode b_Mo_takePlace 5 = .ok (.aload_n 0, 1) := by decide +kernel
theorem d_Mo_takePlace_6 : decode b_Mo_takePlace 6 = .ok (.iconst (-1), 1) := by decide +kernel
theorem d_Mo_takePlace_7 : decode b_Mo_takePlace 7 = .ok (.putfield 148, 3) := by decide +kernel
theorem d_Mo_takePlace_10 : decode b_Mo_takePlace 10 = .ok (.aload_n 0, 1) := by decide +kernel
theorem d_Mo_takePlace_11 : decode b_Mo_takePlace 11 = .ok (.iconst 0, 1) := by decide +kernel
theorem d_Mo_takePlace_12 : decode b_Mo_takePlace 12 = .ok (.putfield 151, 3) := by decide +kernel
theorem d_Mo_takePlace_15 : decode b_Mo_takePlace 15 = .ok (.aload_n 0, 1) := by decide +kernel
theorem d_Mo_takePlace_16 : decode b_Mo_takePlace 16 = .ok (.lconst 0, 1) := by decide +kernel
theorem d_Mo_takePlace_17 : decode b_Mo_takePlace 17 = .ok (.putfield 154, 3) := by decide +kernel
theorem d_Mo_takePlace_20 : decode b_Mo_takePlace 20 = .ok (.aload_n 0, 1) := by decide +kernel
theorem d_Mo_takePlace_21 : decode b_Mo_takePlace 21 = .ok (.getfield 136, 3) := by decide +kernel
theorem d_Mo_takePlace_24 : decode b_Mo_takePlace 24 = .ok (.iconst 3, 1) := by decide +kernel
theorem d_Mo_takePlace_25 : decode b_Mo_takePlace 25 = .ok (.if_icmp .eq 11, 3) := by decide +kernel
theorem d_Mo_takePlace_36 : decode b_Mo_takePlace 36 = .ok (.return_, 1) := by decide +kernel
theorem d_Mo_takePlace_28 : decode b_Mo_takePlace 28 = .ok (.aload_n 0, 1) := by decide +kernel
theorem d_Mo_takePlace_29 : decode b_Mo_takePlace 29 = .ok (.getfield 28, 3) := by decide +kernel
theorem d_Mo_takePlace_32 : decode b_Mo_takePlace 32 = .ok (.iconst (-1), 1) := by decide +kernel
theorem d_Mo_takePlace_33 : decode b_Mo_takePlace 33 = .ok (.if_icmp .eq 4, 3) := by decide +kernel
theorem d_Mo_takePlace_37 : decode b_Mo_takePlace 37 = .ok (.aload_n 0, 1) := by decide +kernel
theorem d_Mo_takePlace_38 : decode b_Mo_takePlace 38 = .ok (.getfield 136, 3) := by decide +kernel
theorem d_Mo_takePlace_41 : decode b_Mo_takePlace 41 = .ok (.iconst 1, 1) := by decide +kernel
theorem d_Mo_takePlace_42 : decode b_Mo_takePlace 42 = .ok (.if_icmp .ne 7, 3) := by decide +kernel
theorem d_Mo_takePlace_49 : decode b_Mo_takePlace 49 = .ok (.aload_n 0, 1) := by decide +kernel
theorem d_Mo_takePlace_50 : decode b_Mo_takePlace 50 = .ok (.getfield 136, 3) := by decide +kernel
theorem d_Mo_takePlace_53 : decode b_Mo_takePlace 53 = .ok (.iconst 2, 1) := by decide +kernel
theorem d_Mo_takePlace_54 : decode b_Mo_takePlace 54 = .ok (.if_icmp .ne 7, 3) := by decide +kernel
theorem d_Mo_takePlace_61 : decode b_Mo_takePlace 61 = .ok (.iconst 0, 1) := by decide +kernel
theorem d_Mo_takePlace_62 : decode b_Mo_takePlace 62 = .ok (.istore_n 1, 1) := by decide +kernel
theorem d_Mo_takePlace_63 : decode b_Mo_takePlace 63 = .ok (.aload_n 0, 1) := by decide +kernel
theorem d_Mo_takePlace_64 : decode b_Mo_takePlace 64 = .ok (.getfield 142, 3) := by decide +kernel
theorem d_Mo_takePlace_67 : decode b_Mo_takePlace 67 = .ok (.iconst 4, 1) := by decide +kernel
theorem d_Mo_takePlace_68 : decode b_Mo_takePlace 68 = .ok (.if_icmp .eq 56, 3) := by decide +kernel
theorem d_Mo_takePlace_124 : decode b_Mo_takePlace 124 = .ok (.aload_n 0, 1) := by decide +kernel
theorem d_Mo_takePlace_125 : decode b_Mo_takePlace 125 = .ok (.invokevirtual 114, 3) := by decide +kernel
theorem d_Mo_takePlace_128 : decode b_Mo_takePlace 128 = .ok (.istore_n 2, 1) := by decide +kernel
theorem d_Mo_takePlace_129 : decode b_Mo_takePlace 129 = .ok (.aload_n 0, 1) := by decide +kernel
theorem d_Mo_takePlace_130 : decode b_Mo_takePlace 130 = .ok (.iload_n 2, 1) := by decide +kernel
theorem d_Mo_takePlace_131 : decode b_Mo_takePlace 131 = .ok (.bipush 64, 2) := by decide +kernel
theorem d_Mo_takePlace_133 : decode b_Mo_takePlace 133 = .ok (.idiv, 1) := by decide +kernel
theorem d_Mo_takePlace_134 : decode b_Mo_takePlace 134 = .ok (.putfield 161, 3) := by decide +kernel
theorem d_Mo_takePlace_137 : decode b_Mo_takePlace 137 = .ok (.aload_n 0, 1) := by decide +kernel
theorem d_Mo_takePlace_138 : decode b_Mo_takePlace 138 = .ok (.iload_n 2, 1) := by decide +kernel
theorem d_Mo_takePlace_139 : decode b_Mo_takePlace 139 = .ok (.bipush 8, 2) := by decide +kernel
theorem d_Mo_takePlace_141 : decode b_Mo_takePlace 141 = .ok (.idiv, 1) := by decide +kernel
theorem d_Mo_takePlace_142 : decode b_Mo_takePlace 142 = .ok (.bipush 8, 2) := by decide +kernel
theorem d_Mo_takePlace_144 : decode b_Mo_takePlace 144 = .ok (.irem, 1) := by decide +kernel
theorem d_Mo_takePlace_145 : decode b_Mo_takePlace 145 = .ok (.aload_n 0, 1) := by decide +kernel
theorem d_Mo_takePlace_146 : decode b_Mo_takePlace 146 = .ok (.iconst 2, 1) := by decide +kernel
theorem d_Mo_plus_0 : decode b_Mo_plus 0 = .ok (.aload_n 0, 1) := by decide +kernel
theorem d_Mo_plus_1 : decode b_Mo_plus 1 = .ok (.getfield 121, 3) := by decide +kernel
theorem d_Mo_plus_4 : decode b_Mo_plus 4 = .ok (.iload_n 1, 1) := by decide +kernel
theorem d_Mo_plus_5 : decode b_Mo_plus 5 = .ok (.iand, 1) := by decide +kernel
theorem d_Mo_plus_6 : decode b_Mo_plus 6 = .ok (.ifCond .eq 8, 3) := by decide +kernel
theorem d_Mo_plus_14 : decode b_Mo_plus 14 = .ok (.iconst 0, 1) := by decide +kernel
theorem d_Mo_plus_15 : decode b_Mo_plus 15 = .ok (.ireturn, 1) := by decide +kernel
theorem d_Mo_plus_9 : decode b_Mo_plus 9 = .ok (.bipush 8, 2) := by decide +kernel
theorem d_Mo_plus_11 : decode b_Mo_plus 11 = .ok (.goto 4, 3) := by decide +kernel
theorem d_Mo_takePlace_147 : decode b_Mo_takePlace 147 = .ok (.invokevirtual 157, 3) := by decide +kernel
theorem d_Mo_takePlace_150 : decode b_Mo_takePlace 150 = .ok (.iadd, 1) := by decide +kernel
theorem d_Mo_takePlace_151 : decode b_Mo_takePlace 151 = .ok (.putfield 148, 3) := by decide +kernel
theorem d_Mo_takePlace_154 : decode b_Mo_takePlace 154 = .ok (.aload_n 0, 1) := by decide +kernel
theorem d_Mo_takePlace_155 : decode b_Mo_takePlace 155 = .ok (.getfield 148, 3) := by decide +kernel
theorem d_Mo_takePlace_158 : decode b_Mo_takePlace 158 = .ok (.iconst 4, 1) := by decide +kernel
theorem d_Mo_takePlace_159 : decode b_Mo_takePlace 159 = .ok (.if_icmp .ne 8, 3) := by decide +kernel
theorem d_Mo_takePlace_167 : decode b_Mo_takePlace 167 = .ok (.iload_n 2, 1) := by decide +kernel
theorem d_Mo_takePlace_168 : decode b_Mo_takePlace 168 = .ok (.bipush 8, 2) := by decide +kernel
theorem d_Mo_takePlace_170 : decode b_Mo_takePlace 170 = .ok (.irem, 1) := by decide +kernel
theorem d_Mo_takePlace_171 : decode b_Mo_takePlace 171 = .ok (.iconst 5, 1) := by decide +kernel
theorem d_Mo_takePlace_172 : decode b_Mo_takePlace 172 = .ok (.if_icmp .ne 15, 3) := by decide +kernel
theorem d_Mo_takePlace_187 : decode b_Mo_takePlace 187 = .ok (.aload_n 0, 1) := by decide +kernel
theorem d_Mo_takePlace_188 : decode b_Mo_takePlace 188 = .ok (.iload_n 2, 1) := by decide +kernel
theorem d_Mo_takePlace_189 : decode b_Mo_takePlace 189 = .ok (.bipush 8, 2) := by decide +kernel
theorem d_Mo_takePlace_191 : decode b_Mo_takePlace 191 = .ok (.irem, 1) := by decide +kernel
theorem d_Mo_takePlace_192 : decode b_Mo_takePlace 192 = .ok (.aload_n 0, 1) := by decide +kernel
theorem d_Mo_takePlace_193 : decode b_Mo_takePlace 193 = .ok (.iconst 1, 1) := by decide +kernel
theorem d_Mo_takePlace_194 : decode b_Mo_takePlace 194 = .ok (.invokevirtual 157, 3) := by decide +kernel
theorem d_Mo_takePlace_197 : decode b_Mo_takePlace 197 = .ok (.iadd, 1) := by decide +kernel
theorem d_Mo_takePlace_198 : decode b_Mo_takePlace 198 = .ok (.putfield 145, 3) := by decide +kernel
theorem d_Mo_takePlace_201 : decode b_Mo_takePlace 201 = .ok (.iload_n 1, 1) := by decide +kernel
theorem d_Mo_takePlace_202 : decode b_Mo_takePlace 202 = .ok (.ifCond .le 12, 3) := by decide +kernel
theorem d_Mo_takePlace_214 : decode b_Mo_takePlace 214 = .ok (.return_, 1) := by decide +kernel
theorem d_Mo_takePlace_205 : decode b_Mo_takePlace 205 = .ok (.aload_n 0, 1) := by decide +kernel
theorem d_Mo_takePlace_206 : decode b_Mo_takePlace 206 = .ok (.aload_n 0, 1) := by decide +kernel
theorem d_Mo_takePlace_207 : decode b_Mo_takePlace 207 = .ok (.iload_n 1, 1) := by decide +kernel
theorem d_Mo_fetchNumber_0 : decode b_Mo_fetchNumber 0 = .ok (.lconst 0, 1) := by decide +kernel
theorem d_Mo_fetchNumber_1 : decode b_Mo_fetchNumber 1 = .ok (.lstore_n 2, 1) := by decide +kernel
theorem d_Mo_fetchNumber_2 : decode b_Mo_fetchNumber 2 = .ok (.iconst 0, 1) := by decide +kernel
theorem d_Mo_fetchNumber_3 : decode b_Mo_fetchNumber 3 = .ok (.istore 4, 2) := by decide +kernel
theorem d_Mo_fetchNumber_5 : decode b_Mo_fetchNumber 5 = .ok (.iload 4, 2) := by decide +kernel
theorem d_Mo_fetchNumber_7 : decode b_Mo_fetchNumber 7 = .ok (.iload_n 1, 1) := by decide +kernel
theorem d_Mo_fetchNumber_8 : decode b_Mo_fetchNumber 8 = .ok (.if_icmp .ge 23, 3) := by decide +kernel
theorem d_Mo_fetchNumber_31 : decode b_Mo_fetchNumber 31 = .ok (.lload_n 2, 1) := by decide +kernel
theorem d_Mo_fetchNumber_32 : decode b_Mo_fetchNumber 32 = .ok (.iload_n 1, 1) := by decide +kernel
theorem d_Mo_extended_0 : decode b_Mo_extended 0 = .ok (.lload_n 0, 1) := by decide +kernel
theorem d_Mo_extended_1 : decode b_Mo_extended 1 = .ok (.bipush 8, 2) := by decide +kernel
theorem d_Mo_extended_3 : decode b_Mo_extended 3 = .ok (.iload_n 2, 1) := by decide +kernel
theorem d_Mo_extended_4 : decode b_Mo_extended 4 = .ok (.imul, 1) := by decide +kernel
theorem d_Mo_extended_5 : decode b_Mo_extended 5 = .ok (.iconst 1, 1) := by decide +kernel
theorem d_Mo_extended_6 : decode b_Mo_extended 6 = .ok (.isub, 1) := by decide +kernel
theorem d_Mo_extended_7 : decode b_Mo_extended 7 = .ok (.lushr, 1) := by decide +kernel
theorem d_Mo_extended_8 : decode b_Mo_extended 8 = .ok (.lconst 1, 1) := by decide +kernel
theorem d_Mo_extended_9 : decode b_Mo_extended 9 = .ok (.land, 1) := by decide +kernel
theorem d_Mo_extended_10 : decode b_Mo_extended 10 = .ok (.lconst 1, 1) := by decide +kernel
theorem d_Mo_extended_11 : decode b_Mo_extended 11 = .ok (.lcmp, 1) := by decide +kernel
theorem d_Mo_extended_12 : decode b_Mo_extended 12 = .ok (.ifCond .ne 7, 3) := by decide +kernel
theorem d_Mo_extended_19 : decode b_Mo_extended 19 = .ok (.iconst 0, 1) := by decide +kernel
theorem d_Mo_extended_20 : decode b_Mo_extended 20 = .ok (.istore_n 3, 1) := by decide +kernel
theorem d_Mo_extended_21 : decode b_Mo_extended 21 = .ok (.lload_n 0, 1) := by decide +kernel
theorem d_Mo_extended_22 : decode b_Mo_extended 22 = .ok (.lstore 4, 2) := by decide +kernel
theorem d_Mo_extended_24 : decode b_Mo_extended 24 = .ok (.bipush 8, 2) := by decide +kernel
theorem d_Mo_extended_26 : decode b_Mo_extended 26 = .ok (.iload_n 2, 1) := by decide +kernel
theorem d_Mo_extended_27 : decode b_Mo_extended 27 = .ok (.imul, 1) := by decide +kernel
theorem d_Mo_extended_28 : decode b_Mo_extended 28 = .ok (.istore 6, 2) := by decide +kernel
theorem d_Mo_extended_30 : decode b_Mo_extended 30 = .ok (.iload 6, 2) := by decide +kernel
theorem d_Mo_extended_32 : decode b_Mo_extended 32 = .ok (.bipush 64, 2) := by decide +kernel
theorem d_Mo_extended_34 : decode b_Mo_extended 34 = .ok (.if_icmp .ge 36, 3) := by decide +kernel
theorem d_Mo_extended_70 : decode b_Mo_extended 70 = .ok (.lload 4, 2) := by decide +kernel
theorem d_Mo_extended_72 : decode b_Mo_extended 72 = .ok (.lreturn, 1) := by decide +kernel
theorem d_Mo_extended_37 : decode b_Mo_extended 37 = .ok (.iload_n 3, 1) := by decide +kernel
theorem d_Mo_extended_38 : decode b_Mo_extended 38 = .ok (.ifCond .eq 13, 3) := by decide +kernel
theorem d_Mo_extended_51 : decode b_Mo_extended 51 = .ok (.lload 4, 2) := by decide +kernel
theorem d_Mo_extended_53 : decode b_Mo_extended 53 = .ok (.lconst 1, 1) := by decide +kernel
theorem d_Mo_extended_54 : decode b_Mo_extended 54 = .ok (.iload 6, 2) := by decide +kernel
theorem d_Mo_extended_56 : decode b_Mo_extended 56 = .ok (.lshl, 1) := by decide +kernel
theorem d_Mo_extended_57 : decode b_Mo_extended 57 = .ok (.ldc2_w 71, 3) := by decide +kernel
theorem d_Mo_extended_60 : decode b_Mo_extended 60 = .ok (.lxor, 1) := by decide +kernel
theorem d_Mo_extended_61 : decode b_Mo_extended 61 = .ok (.land, 1) := by decide +kernel
theorem d_Mo_extended_62 : decode b_Mo_extended 62 = .ok (.lstore 4, 2) := by decide +kernel
theorem d_Mo_extended_64 : decode b_Mo_extended 64 = .ok (.iinc 6 1, 3) := by decide +kernel
theorem d_Mo_extended_67 : decode b_Mo_extended 67 = .ok (.goto (-37), 3) := by decide +kernel
theorem d_Mo_extended_41 : decode b_Mo_extended 41 = .ok (.lload 4, 2) := by decide +kernel
theorem d_Mo_extended_43 : decode b_Mo_extended 43 = .ok (.lconst 1, 1) := by decide +kernel
theorem d_Mo_extended_44 : decode b_Mo_extended 44 = .ok (.iload 6, 2) := by decide +kernel
theorem d_Mo_extended_46 : decode b_Mo_extended 46 = .ok (.lshl, 1) := by decide +kernel
theorem d_Mo_extended_47 : decode b_Mo_extended 47 = .ok (.lor, 1) := by decide +kernel
theorem d_Mo_extended_48 : decode b_Mo_extended 48 = .ok (.goto 14, 3) := by decide +kernel
theorem d_Mo_extended_15 : decode b_Mo_extended 15 = .ok (.iconst 1, 1) := by decide +kernel
theorem d_Mo_extended_16 : decode b_Mo_extended 16 = .ok (.goto 4, 3) := by decide +kernel
theorem d_Mo_fetchNumber_33 : decode b_Mo_fetchNumber 33 = .ok (.invokestatic 118, 3) := by decide +kernel
theorem d_Mo_fetchNumber_36 : decode b_Mo_fetchNumber 36 = .ok (.lreturn, 1) := by decide +kernel
theorem d_Mo_fetchNumber_11 : decode b_Mo_fetchNumber 11 = .ok (.lload_n 2, 1) := by decide +kernel
theorem d_Mo_fetchNumber_12 : decode b_Mo_fetchNumber 12 = .ok (.aload_n 0, 1) := by decide +kernel
theorem d_Mo_fetchNumber_13 : decode b_Mo_fetchNumber 13 = .ok (.invokevirtual 114, 3) := by decide +kernel
theorem d_Mo_fetchNumber_16 : decode b_Mo_fetchNumber 16 = .ok (.i2l, 1) := by decide +kernel
theorem d_Mo_fetchNumber_17 : decode b_Mo_fetchNumber 17 = .ok (.bipush 8, 2) := by decide +kernel
theorem d_Mo_fetchNumber_19 : decode b_Mo_fetchNumber 19 = .ok (.iload 4, 2) := by decide +kernel
theorem d_Mo_fetchNumber_21 : decode b_Mo_fetchNumber 21 = .ok (.imul, 1) := by decide +kernel
theorem d_Mo_fetchNumber_22 : decode b_Mo_fetchNumber 22 = .ok (.lshl, 1) := by decide +kernel
theorem d_Mo_fetchNumber_23 : decode b_Mo_fetchNumber 23 = .ok (.lor, 1) := by decide +kernel
theorem d_Mo_fetchNumber_24 : decode b_Mo_fetchNumber 24 = .ok (.lstore_n 2, 1) := by decide +kernel
theorem d_Mo_fetchNumber_25 : decode b_Mo_fetchNumber 25 = .ok (.iinc 4 1, 3) := by decide +kernel
theorem d_Mo_fetchNumber_28 : decode b_Mo_fetchNumber 28 = .ok (.goto (-23), 3) := by decide +kernel
theorem d_Mo_takePlace_208 : decode b_Mo_takePlace 208 = .ok (.invokevirtual 164, 3) := by decide +kernel
theorem d_Mo_takePlace_211 : decode b_Mo_takePlace 211 = .ok (.putfield 154, 3) := by decide +kernel
theorem d_Mo_takePlace_175 : decode b_Mo_takePlace 175 = .ok (.aload_n 0, 1) := by decide +kernel
theorem d_Mo_takePlace_176 : decode b_Mo_takePlace 176 = .ok (.getfield 136, 3) := by decide +kernel
theorem d_Mo_takePlace_179 : decode b_Mo_takePlace 179 = .ok (.ifCond .ne 8, 3) := by decide +kernel
theorem d_Mo_takePlace_182 : decode b_Mo_takePlace 182 = .ok (.iconst 4, 1) := by decide +kernel
theorem d_Mo_takePlace_183 : decode b_Mo_takePlace 183 = .ok (.istore_n 1, 1) := by decide +kernel
theorem d_Mo_takePlace_184 : decode b_Mo_takePlace 184 = .ok (.goto 17, 3) := by decide +kernel
theorem d_Mo_takePlace_162 : decode b_Mo_takePlace 162 = .ok (.aload_n 0, 1) := by decide +kernel
theorem d_Mo_takePlace_163 : decode b_Mo_takePlace 163 = .ok (.iconst (-1), 1) := by decide +kernel
theorem d_Mo_takePlace_164 : decode b_Mo_takePlace 164 = .ok (.putfield 148, 3) := by decide +kernel
theorem d_Mo_takePlace_71 : decode b_Mo_takePlace 71 = .ok (.aload_n 0, 1) := by decide +kernel
theorem d_Mo_takePlace_72 : decode b_Mo_takePlace 72 = .ok (.aload_n 0, 1) := by decide +kernel
theorem d_Mo_takePlace_73 : decode b_Mo_takePlace 73 = .ok (.getfield 142, 3) := by decide +kernel
theorem d_Mo_takePlace_76 : decode b_Mo_takePlace 76 = .ok (.iconst 5, 1) := by decide +kernel
theorem d_Mo_takePlace_77 : decode b_Mo_takePlace 77 = .ok (.if_icmp .ne 14, 3) := by decide +kernel
theorem d_Mo_takePlace_91 : decode b_Mo_takePlace 91 = .ok (.iconst 0, 1) := by decide +kernel
theorem d_Mo_takePlace_92 : decode b_Mo_takePlace 92 = .ok (.putfield 151, 3) := by decide +kernel
theorem d_Mo_takePlace_95 : decode b_Mo_takePlace 95 = .ok (.aload_n 0, 1) := by decide +kernel
theorem d_Mo_takePlace_96 : decode b_Mo_takePlace 96 = .ok (.getfield 151, 3) := by decide +kernel
theorem d_Mo_takePlace_99 : decode b_Mo_takePlace 99 = .ok (.ifCond .eq 8, 3) := by decide +kernel
theorem d_Mo_takePlace_107 : decode b_Mo_takePlace 107 = .ok (.aload_n 0, 1) := by decide +kernel
theorem d_Mo_takePlace_108 : decode b_Mo_takePlace 108 = .ok (.aload_n 0, 1) := by decide +kernel
theorem d_Mo_takePlace_109 : decode b_Mo_takePlace 109 = .ok (.getfield 142, 3) := by decide +kernel
theorem d_Mo_takePlace_112 : decode b_Mo_takePlace 112 = .ok (.aload_n 0, 1) := by decide +kernel
theorem d_Mo_takePlace_113 : decode b_Mo_takePlace 113 = .ok (.iconst 1, 1) := by decide +kernel
theorem d_Mo_takePlace_114 : decode b_Mo_takePlace 114 = .ok (.invokevirtual 157, 3) := by decide +kernel
theorem d_Mo_takePlace_117 : decode b_Mo_takePlace 117 = .ok (.iadd, 1) := by decide +kernel
theorem d_Mo_takePlace_118 : decode b_Mo_takePlace 118 = .ok (.putfield 145, 3) := by decide +kernel
theorem d_Mo_takePlace_121 : decode b_Mo_takePlace 121 = .ok (.goto 80, 3) := by decide +kernel
theorem d_Mo_takePlace_102 : decode b_Mo_takePlace 102 = .ok (.iconst 4, 1) := by decide +kernel
theorem d_Mo_takePlace_103 : decode b_Mo_takePlace 103 = .ok (.istore_n 1, 1) := by decide +kernel
theorem d_Mo_takePlace_104 : decode b_Mo_takePlace 104 = .ok (.goto 97, 3) := by decide +kernel
theorem d_Mo_takePlace_80 : decode b_Mo_takePlace 80 = .ok (.aload_n 0, 1) := by decide +kernel
theorem d_Mo_takePlace_81 : decode b_Mo_takePlace 81 = .ok (.getfield 136, 3) := by decide +kernel
theorem d_Mo_takePlace_84 : decode b_Mo_takePlace 84 = .ok (.ifCond .ne 7, 3) := by decide +kernel
theorem d_Mo_takePlace_87 : decode b_Mo_takePlace 87 = .ok (.iconst 1, 1) := by decide +kernel
theorem d_Mo_takePlace_88 : decode b_Mo_takePlace 88 = .ok (.goto 4, 3) := by decide +kernel
theorem d_Mo_takePlace_57 : decode b_Mo_takePlace 57 = .ok (.iconst 4, 1) := by decide +kernel
theorem d_Mo_takePlace_58 : decode b_Mo_takePlace 58 = .ok (.goto 4, 3) := by decide +kernel
theorem d_Mo_takePlace_45 : decode b_Mo_takePlace 45 = .ok (.iconst 1, 1) := by decide +kernel
theorem d_Mo_takePlace_46 : decode b_Mo_takePlace 46 = .ok (.goto 16, 3) := by decide +kernel
theorem d_Mo_takeOperand_5 : decode b_Mo_takeOperand 5 = .ok (.invokevirtual 170, 3) := by decide +kernel
theorem d_Mo_takeOperand_8 : decode b_Mo_takeOperand 8 = .ok (.aload_n 0, 1) := by decide +kernel
theorem d_Mo_takeOperand_9 : decode b_Mo_takeOperand 9 = .ok (.aload_n 0, 1) := by decide +kernel
theorem d_Mo_takeOperand_10 : decode b_Mo_takeOperand 10 = .ok (.getfield 111, 3) := by decide +kernel
theorem d_Mo_takeOperand_13 : decode b_Mo_takeOperand 13 = .ok (.aload_n 0, 1) := by decide +kernel
theorem d_Mo_takeOperand_14 : decode b_Mo_takeOperand 14 = .ok (.getfield 108, 3) := by decide +kernel
theorem d_Mo_takeOperand_17 : decode b_Mo_takeOperand 17 = .ok (.i2l, 1) := by decide +kernel
theorem d_Mo_takeOperand_18 : decode b_Mo_takeOperand 18 = .ok (.ladd, 1) := by decide +kernel
theorem d_Mo_takeOperand_19 : decode b_Mo_takeOperand 19 = .ok (.putfield 173, 3) := by decide +kernel
theorem d_Mo_takeOperand_22 : decode b_Mo_takeOperand 22 = .ok (.return_, 1) := by decide +kernel
theorem d_Mo_group_1 : decode b_Mo_group 1 = .ok (.invokevirtual 335, 3) := by decide +kernel
theorem d_Mo_group_4 : decode b_Mo_group 4 = .ok (.aload_n 0, 1) := by decide +kernel
theorem d_Mo_group_5 : decode b_Mo_group 5 = .ok (.iload_n 1, 1) := by decide +kernel
theorem d_Mo_group_6 : decode b_Mo_group 6 = .ok (.sipush 131, 3) := by decide +kernel
theorem d_Mo_group_9 : decode b_Mo_group 9 = .ok (.if_icmp .ne 7, 3) := by decide +kernel
theorem d_Mo_group_16 : decode b_Mo_group 16 = .ok (.iload_n 2, 1) := by decide +kernel
theorem d_Mo_four_0 : decode b_Mo_four 0 = .ok (.iload_n 0, 1) := by decide +kernel
theorem d_Mo_four_1 : decode b_Mo_four 1 = .ok (.iconst 4, 1) := by decide +kernel
theorem d_Mo_four_2 : decode b_Mo_four 2 = .ok (.if_icmp .ge 7, 3) := by decide +kernel
theorem d_Mo_four_9 : decode b_Mo_four 9 = .ok (.iconst 4, 1) := by decide +kernel
theorem d_Mo_four_10 : decode b_Mo_four 10 = .ok (.ireturn, 1) := by decide +kernel
theorem d_Mo_four_5 : decode b_Mo_four 5 = .ok (.iload_n 0, 1) := by decide +kernel
theorem d_Mo_four_6 : decode b_Mo_four 6 = .ok (.goto 4, 3) := by decide +kernel
theorem d_Mo_group_17 : decode b_Mo_group 17 = .ok (.invokestatic 370, 3) := by decide +kernel
theorem d_Mo_number_0 : decode b_Mo_number 0 = .ok (.aload_n 0, 1) := by decide +kernel
theorem d_Mo_number_1 : decode b_Mo_number 1 = .ok (.iload_n 1, 1) := by decide +kernel
theorem d_Mo_number_2 : decode b_Mo_number 2 = .ok (.invokevirtual 164, 3) := by decide +kernel
theorem d_Mo_number_5 : decode b_Mo_number 5 = .ok (.lstore_n 2, 1) := by decide +kernel
theorem d_Mo_number_6 : decode b_Mo_number 6 = .ok (.aload_n 0, 1) := by decide +kernel
theorem d_Mo_number_7 : decode b_Mo_number 7 = .ok (.aload_n 0, 1) := by decide +kernel
theorem d_Mo_number_8 : decode b_Mo_number 8 = .ok (.getfield 111, 3) := by decide +kernel
theorem d_Mo_number_11 : decode b_Mo_number 11 = .ok (.aload_n 0, 1) := by decide +kernel
theorem d_Mo_number_12 : decode b_Mo_number 12 = .ok (.getfield 108, 3) := by decide +kernel
theorem d_Mo_number_15 : decode b_Mo_number 15 = .ok (.i2l, 1) := by decide +kernel
theorem d_Mo_number_16 : decode b_Mo_number 16 = .ok (.ladd, 1) := by decide +kernel
theorem d_Mo_number_17 : decode b_Mo_number 17 = .ok (.putfield 173, 3) := by decide +kernel
theorem d_Mo_number_20 : decode b_Mo_number 20 = .ok (.lload_n 2, 1) := by decide +kernel
theorem d_Mo_number_21 : decode b_Mo_number 21 = .ok (.lreturn, 1) := by decide +kernel
theorem d_Mo_group_20 : decode b_Mo_group 20 = .ok (.invokevirtual 373, 3) := by decide +kernel
theorem d_Mo_group_23 : decode b_Mo_group 23 = .ok (.iload_n 2, 1) := by decide +kernel
theorem d_Mo_lowest_0 : decode b_Mo_lowest 0 = .ok (.lconst 0, 1) := by decide +kernel
theorem d_Mo_lowest_1 : decode b_Mo_lowest 1 = .ok (.lstore_n 3, 1) := by decide +kernel
theorem d_Mo_lowest_2 : decode b_Mo_lowest 2 = .ok (.iconst 0, 1) := by decide +kernel
theorem d_Mo_lowest_3 : decode b_Mo_lowest 3 = .ok (.istore 5, 2) := by decide +kernel
theorem d_Mo_lowest_5 : decode b_Mo_lowest 5 = .ok (.iload 5, 2) := by decide +kernel
theorem d_Mo_lowest_7 : decode b_Mo_lowest 7 = .ok (.iload_n 2, 1) := by decide +kernel
theorem d_Mo_lowest_8 : decode b_Mo_lowest 8 = .ok (.if_icmp .ge 23, 3) := by decide +kernel
theorem d_Mo_lowest_31 : decode b_Mo_lowest 31 = .ok (.lload_n 3, 1) := by decide +kernel
theorem d_Mo_lowest_32 : decode b_Mo_lowest 32 = .ok (.lreturn, 1) := by decide +kernel
theorem d_Mo_lowest_11 : decode b_Mo_lowest 11 = .ok (.lload_n 3, 1) := by decide +kernel
theorem d_Mo_lowest_12 : decode b_Mo_lowest 12 = .ok (.lload_n 0, 1) := by decide +kernel
theorem d_Mo_lowest_13 : decode b_Mo_lowest 13 = .ok (.ldc2_w 106, 3) := by decide +kernel
theorem d_Mo_lowest_16 : decode b_Mo_lowest 16 = .ok (.bipush 8, 2) := by decide +kernel
theorem d_Mo_lowest_18 : decode b_Mo_lowest 18 = .ok (.iload 5, 2) := by decide +kernel
theorem d_Mo_lowest_20 : decode b_Mo_lowest 20 = .ok (.imul, 1) := by decide +kernel
theorem d_Mo_lowest_21 : decode b_Mo_lowest 21 = .ok (.lshl, 1) := by decide +kernel
theorem d_Mo_lowest_22 : decode b_Mo_lowest 22 = .ok (.land, 1) := by decide +kernel
theorem d_Mo_lowest_23 : decode b_Mo_lowest 23 = .ok (.lor, 1) := by decide +kernel
theorem d_Mo_lowest_24 : decode b_Mo_lowest 24 = .ok (.lstore_n 3, 1) := by decide +kernel
theorem d_Mo_lowest_25 : decode b_Mo_lowest 25 = .ok (.iinc 5 1, 3) := by decide +kernel
theorem d_Mo_lowest_28 : decode b_Mo_lowest 28 = .ok (.goto (-23), 3) := by decide +kernel
theorem d_Mo_group_24 : decode b_Mo_group 24 = .ok (.invokestatic 180, 3) := by decide +kernel
theorem d_Mo_group_27 : decode b_Mo_group 27 = .ok (.lstore_n 3, 1) := by decide +kernel
theorem d_Mo_group_28 : decode b_Mo_group 28 = .ok (.aload_n 0, 1) := by decide +kernel
theorem d_Mo_group_29 : decode b_Mo_group 29 = .ok (.aload_n 0, 1) := by decide +kernel
theorem d_Mo_group_30 : decode b_Mo_group 30 = .ok (.getfield 139, 3) := by decide +kernel
theorem d_Mo_group_33 : decode b_Mo_group 33 = .ok (.aload_n 0, 1) := by decide +kernel
theorem d_Mo_group_34 : decode b_Mo_group 34 = .ok (.iload_n 2, 1) := by decide +kernel
theorem d_Mo_group_35 : decode b_Mo_group 35 = .ok (.aload_n 0, 1) := by decide +kernel
theorem d_Mo_group_36 : decode b_Mo_group 36 = .ok (.getfield 139, 3) := by decide +kernel
theorem d_Mo_group_39 : decode b_Mo_group 39 = .ok (.bipush 7, 2) := by decide +kernel
theorem d_Mo_group_41 : decode b_Mo_group 41 = .ok (.if_icmp .ne 7, 3) := by decide +kernel
theorem d_Mo_group_48 : decode b_Mo_group 48 = .ok (.iconst 1, 1) := by decide +kernel
theorem d_Mo_e_0 : decode b_Mo_e 0 = .ok (.aload_n 0, 1) := by decide +kernel
theorem d_Mo_e_1 : decode b_Mo_e 1 = .ok (.getfield 136, 3) := by decide +kernel
theorem d_Mo_e_4 : decode b_Mo_e 4 = .ok (.iconst 3, 1) := by decide +kernel
theorem d_Mo_e_5 : decode b_Mo_e 5 = .ok (.if_icmp .ne 19, 3) := by decide +kernel
theorem d_Mo_e_24 : decode b_Mo_e 24 = .ok (.aload_n 0, 1) := by decide +kernel
theorem d_Mo_e_25 : decode b_Mo_e 25 = .ok (.aload_n 0, 1) := by decide +kernel
theorem d_Mo_place_0 : decode b_Mo_place 0 = .ok (.aload_n 0, 1) := by decide +kernel
theorem d_Mo_place_1 : decode b_Mo_place 1 = .ok (.getfield 154, 3) := by decide +kernel
theorem d_Mo_place_4 : decode b_Mo_place 4 = .ok (.aload_n 0, 1) := by decide +kernel
theorem d_Mo_place_5 : decode b_Mo_place 5 = .ok (.getfield 151, 3) := by decide +kernel
theorem d_Mo_place_8 : decode b_Mo_place 8 = .ok (.ifCond .eq 16, 3) := by decide +kernel
theorem d_Mo_place_24 : decode b_Mo_place 24 = .ok (.lconst 0, 1) := by decide +kernel
theorem d_Mo_place_25 : decode b_Mo_place 25 = .ok (.ladd, 1) := by decide +kernel
theorem d_Mo_place_26 : decode b_Mo_place 26 = .ok (.aload_n 0, 1) := by decide +kernel
theorem d_Mo_place_27 : decode b_Mo_place 27 = .ok (.getfield 145, 3) := by decide +kernel
theorem d_Mo_place_30 : decode b_Mo_place 30 = .ok (.iconst (-1), 1) := by decide +kernel
theorem d_Mo_place_31 : decode b_Mo_place 31 = .ok (.if_icmp .ne 7, 3) := by decide +kernel
theorem d_Mo_place_38 : decode b_Mo_place 38 = .ok (.aload_n 0, 1) := by decide +kernel
theorem d_Mo_place_39 : decode b_Mo_place 39 = .ok (.getfield 14, 3) := by decide +kernel
theorem d_Mo_place_42 : decode b_Mo_place 42 = .ok (.aload_n 0, 1) := by decide +kernel
theorem d_Mo_place_43 : decode b_Mo_place 43 = .ok (.getfield 145, 3) := by decide +kernel
theorem d_Mo_place_46 : decode b_Mo_place 46 = .ok (.laload, 1) := by decide +kernel
theorem d_Mo_place_47 : decode b_Mo_place 47 = .ok (.ladd, 1) := by decide +kernel
theorem d_Mo_place_48 : decode b_Mo_place 48 = .ok (.lstore_n 1, 1) := by decide +kernel
theorem d_Mo_place_49 : decode b_Mo_place 49 = .ok (.aload_n 0, 1) := by decide +kernel
theorem d_Mo_place_50 : decode b_Mo_place 50 = .ok (.getfield 148, 3) := by decide +kernel
theorem d_Mo_place_53 : decode b_Mo_place 53 = .ok (.iconst (-1), 1) := by decide +kernel
theorem d_Mo_place_54 : decode b_Mo_place 54 = .ok (.if_icmp .ne 7, 3) := by decide +kernel
theorem d_Mo_place_61 : decode b_Mo_place 61 = .ok (.aload_n 0, 1) := by decide +kernel
theorem d_Mo_place_62 : decode b_Mo_place 62 = .ok (.getfield 14, 3) := by decide +kernel
theorem d_Mo_place_65 : decode b_Mo_place 65 = .ok (.aload_n 0, 1) := by decide +kernel
theorem d_Mo_place_66 : decode b_Mo_place 66 = .ok (.getfield 148, 3) := by decide +kernel
theorem d_Mo_place_69 : decode b_Mo_place 69 = .ok (.laload, 1) := by decide +kernel
theorem d_Mo_place_70 : decode b_Mo_place 70 = .ok (.lstore_n 3, 1) := by decide +kernel
theorem d_Mo_place_71 : decode b_Mo_place 71 = .ok (.iconst 0, 1) := by decide +kernel
theorem d_Mo_place_72 : decode b_Mo_place 72 = .ok (.istore 5, 2) := by decide +kernel
theorem d_Mo_place_74 : decode b_Mo_place 74 = .ok (.iload 5, 2) := by decide +kernel
theorem d_Mo_place_76 : decode b_Mo_place 76 = .ok (.aload_n 0, 1) := by decide +kernel
theorem d_Mo_place_77 : decode b_Mo_place 77 = .ok (.getfield 161, 3) := by decide +kernel
theorem d_Mo_place_80 : decode b_Mo_place 80 = .ok (.if_icmp .ge 21, 3) := by decide +kernel
theorem d_Mo_place_101 : decode b_Mo_place 101 = .ok (.lload_n 1, 1) := by decide +kernel
theorem d_Mo_place_102 : decode b_Mo_place 102 = .ok (.lload_n 3, 1) := by decide +kernel
theorem d_Mo_place_103 : decode b_Mo_place 103 = .ok (.ladd, 1) := by decide +kernel
theorem d_Mo_place_104 : decode b_Mo_place 104 = .ok (.lreturn, 1) := by decide +kernel
theorem d_Mo_place_83 : decode b_Mo_place 83 = .ok (.aload_n 0, 1) := by decide +kernel
theorem d_Mo_place_84 : decode b_Mo_place 84 = .ok (.getfield 148, 3) := by decide +kernel
theorem d_Mo_place_87 : decode b_Mo_place 87 = .ok (.iconst (-1), 1) := by decide +kernel
theorem d_Mo_place_88 : decode b_Mo_place 88 = .ok (.if_icmp .eq 13, 3) := by decide +kernel
theorem d_Mo_place_91 : decode b_Mo_place 91 = .ok (.lload_n 3, 1) := by decide +kernel
theorem d_Mo_place_92 : decode b_Mo_place 92 = .ok (.lload_n 3, 1) := by decide +kernel
theorem d_Mo_place_93 : decode b_Mo_place 93 = .ok (.ladd, 1) := by decide +kernel
theorem d_Mo_place_94 : decode b_Mo_place 94 = .ok (.lstore_n 3, 1) := by decide +kernel
theorem d_Mo_place_95 : decode b_Mo_place 95 = .ok (.iinc 5 1, 3) := by decide +kernel
theorem d_Mo_place_98 : decode b_Mo_place 98 = .ok (.goto (-24), 3) := by decide +kernel
theorem d_Mo_place_57 : decode b_Mo_place 57 = .ok (.lconst 0, 1) := by decide +kernel
theorem d_Mo_place_58 : decode b_Mo_place 58 = .ok (.goto 12, 3) := by decide +kernel
theorem d_Mo_place_34 : decode b_Mo_place 34 = .ok (.lconst 0, 1) := by decide +kernel
theorem d_Mo_place_35 : decode b_Mo_place 35 = .ok (.goto 12, 3) := by decide +kernel
theorem d_Mo_place_11 : decode b_Mo_place 11 = .ok (.aload_n 0, 1) := by decide +kernel
theorem d_Mo_place_12 : decode b_Mo_place 12 = .ok (.getfield 111, 3) := by decide +kernel
theorem d_Mo_place_15 : decode b_Mo_place 15 = .ok (.aload_n 0, 1) := by decide +kernel
theorem d_Mo_place_16 : decode b_Mo_place 16 = .ok (.getfield 108, 3) := by decide +kernel
theorem d_Mo_place_19 : decode b_Mo_place 19 = .ok (.i2l, 1) := by decide +kernel
theorem d_Mo_place_20 : decode b_Mo_place 20 = .ok (.ladd, 1) := by decide +kernel
theorem d_Mo_place_21 : decode b_Mo_place 21 = .ok (.goto 4, 3) := by decide +kernel
theorem d_Mo_e_26 : decode b_Mo_e 26 = .ok (.invokevirtual 193, 3) := by decide +kernel
