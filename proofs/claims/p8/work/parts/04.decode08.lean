theorem d_Mo_rotated_90 : decode b_Mo_rotated 90 = .ok (.lload 7, 2) := by decide +kernel
theorem d_Mo_rotated_92 : decode b_Mo_rotated 92 = .ok (.lconst 1, 1) := by decide +kernel
theorem d_Mo_rotated_93 : decode b_Mo_rotated 93 = .ok (.land, 1) := by decide +kernel
theorem d_Mo_rotated_94 : decode b_Mo_rotated 94 = .ok (.lconst 1, 1) := by decide +kernel
theorem d_Mo_rotated_95 : decode b_Mo_rotated 95 = .ok (.lcmp, 1) := by decide +kernel
theorem d_Mo_rotated_96 : decode b_Mo_rotated 96 = .ok (.ifCond .ne 7, 3) := by decide +kernel
theorem d_Mo_rotated_103 : decode b_Mo_rotated 103 = .ok (.iconst 0, 1) := by decide +kernel
theorem d_Mo_rotated_104 : decode b_Mo_rotated 104 = .ok (.istore 10, 2) := by decide +kernel
theorem d_Mo_rotated_106 : decode b_Mo_rotated 106 = .ok (.iload 5, 2) := by decide +kernel
theorem d_Mo_rotated_108 : decode b_Mo_rotated 108 = .ok (.ifCond .eq 16, 3) := by decide +kernel
theorem d_Mo_rotated_124 : decode b_Mo_rotated 124 = .ok (.aload_n 0, 1) := by decide +kernel
theorem d_Mo_rotated_125 : decode b_Mo_rotated 125 = .ok (.lload 7, 2) := by decide +kernel
theorem d_Mo_rotated_127 : decode b_Mo_rotated 127 = .ok (.iload 10, 2) := by decide +kernel
theorem d_Mo_rotated_129 : decode b_Mo_rotated 129 = .ok (.iload 4, 2) := by decide +kernel
theorem d_Mo_rotated_131 : decode b_Mo_rotated 131 = .ok (.invokevirtual 419, 3) := by decide +kernel
theorem d_Mo_rotated_134 : decode b_Mo_rotated 134 = .ok (.lstore 7, 2) := by decide +kernel
theorem d_Mo_rotated_136 : decode b_Mo_rotated 136 = .ok (.aload_n 0, 1) := by decide +kernel
theorem d_Mo_rotated_137 : decode b_Mo_rotated 137 = .ok (.getfield 139, 3) := by decide +kernel
theorem d_Mo_rotated_140 : decode b_Mo_rotated 140 = .ok (.iconst 1, 1) := by decide +kernel
theorem d_Mo_rotated_141 : decode b_Mo_rotated 141 = .ok (.if_icmp .le 13, 3) := by decide +kernel
theorem d_Mo_rotated_154 : decode b_Mo_rotated 154 = .ok (.iinc 9 1, 3) := by decide +kernel
theorem d_Mo_rotated_157 : decode b_Mo_rotated 157 = .ok (.goto (-106), 3) := by decide +kernel
theorem d_Mo_rotated_144 : decode b_Mo_rotated 144 = .ok (.aload_n 0, 1) := by decide +kernel
theorem d_Mo_rotated_145 : decode b_Mo_rotated 145 = .ok (.getfield 21, 3) := by decide +kernel
theorem d_Mo_rotated_148 : decode b_Mo_rotated 148 = .ok (.iconst 0, 1) := by decide +kernel
theorem d_Mo_rotated_149 : decode b_Mo_rotated 149 = .ok (.aload_n 0, 1) := by decide +kernel
theorem d_Mo_rotated_150 : decode b_Mo_rotated 150 = .ok (.getfield 412, 3) := by decide +kernel
theorem d_Mo_rotated_153 : decode b_Mo_rotated 153 = .ok (.bastore, 1) := by decide +kernel
theorem d_Mo_rotated_111 : decode b_Mo_rotated 111 = .ok (.aload_n 0, 1) := by decide +kernel
theorem d_Mo_rotated_112 : decode b_Mo_rotated 112 = .ok (.lload 7, 2) := by decide +kernel
theorem d_Mo_rotated_114 : decode b_Mo_rotated 114 = .ok (.iload 10, 2) := by decide +kernel
theorem d_Mo_rotated_116 : decode b_Mo_rotated 116 = .ok (.iload 4, 2) := by decide +kernel
theorem d_Mo_rotated_118 : decode b_Mo_rotated 118 = .ok (.invokevirtual 415, 3) := by decide +kernel
theorem d_Mo_rotated_121 : decode b_Mo_rotated 121 = .ok (.goto 13, 3) := by decide +kernel
theorem d_Mo_rotated_99 : decode b_Mo_rotated 99 = .ok (.iconst 1, 1) := by decide +kernel
theorem d_Mo_rotated_100 : decode b_Mo_rotated 100 = .ok (.goto 4, 3) := by decide +kernel
theorem d_Mo_rotated_80 : decode b_Mo_rotated 80 = .ok (.lload 7, 2) := by decide +kernel
theorem d_Mo_rotated_82 : decode b_Mo_rotated 82 = .ok (.iload 4, 2) := by decide +kernel
theorem d_Mo_rotated_84 : decode b_Mo_rotated 84 = .ok (.invokestatic 212, 3) := by decide +kernel
theorem d_Mo_rotated_87 : decode b_Mo_rotated 87 = .ok (.goto 17, 3) := by decide +kernel
theorem d_Mo_rotated_66 : decode b_Mo_rotated 66 = .ok (.aload_n 0, 1) := by decide +kernel
theorem d_Mo_rotated_67 : decode b_Mo_rotated 67 = .ok (.getfield 21, 3) := by decide +kernel
theorem d_Mo_rotated_70 : decode b_Mo_rotated 70 = .ok (.iconst 0, 1) := by decide +kernel
theorem d_Mo_rotated_71 : decode b_Mo_rotated 71 = .ok (.baload, 1) := by decide +kernel
theorem d_Mo_rotated_72 : decode b_Mo_rotated 72 = .ok (.goto 32, 3) := by decide +kernel
theorem d_Mo_rotated_24 : decode b_Mo_rotated 24 = .ok (.iload 4, 2) := by decide +kernel
theorem d_Mo_rotated_26 : decode b_Mo_rotated 26 = .ok (.iconst 4, 1) := by decide +kernel
theorem d_Mo_rotated_27 : decode b_Mo_rotated 27 = .ok (.if_icmp .ge 15, 3) := by decide +kernel
theorem d_Mo_rotated_30 : decode b_Mo_rotated 30 = .ok (.iload_n 3, 1) := by decide +kernel
theorem d_Mo_rotated_31 : decode b_Mo_rotated 31 = .ok (.bipush 8, 2) := by decide +kernel
theorem d_Mo_rotated_33 : decode b_Mo_rotated 33 = .ok (.iload 4, 2) := by decide +kernel
theorem d_Mo_rotated_35 : decode b_Mo_rotated 35 = .ok (.imul, 1) := by decide +kernel
theorem d_Mo_rotated_36 : decode b_Mo_rotated 36 = .ok (.iconst 1, 1) := by decide +kernel
theorem d_Mo_rotated_37 : decode b_Mo_rotated 37 = .ok (.iadd, 1) := by decide +kernel
theorem d_Mo_rotated_38 : decode b_Mo_rotated 38 = .ok (.irem, 1) := by decide +kernel
theorem d_Mo_rotated_39 : decode b_Mo_rotated 39 = .ok (.goto 4, 3) := by decide +kernel
theorem d_Mo_rotated_9 : decode b_Mo_rotated 9 = .ok (.iconst 1, 1) := by decide +kernel
theorem d_Mo_rotated_10 : decode b_Mo_rotated 10 = .ok (.goto 4, 3) := by decide +kernel
theorem d_Mo_shift_131 : decode b_Mo_shift 131 = .ok (.invokevirtual 406, 3) := by decide +kernel
theorem d_Mo_shift_134 : decode b_Mo_shift 134 = .ok (.goto 12, 3) := by decide +kernel
theorem d_Mo_shift_107 : decode b_Mo_shift 107 = .ok (.return_, 1) := by decide +kernel
theorem d_Mo_shift_81 : decode b_Mo_shift 81 = .ok (.bipush 64, 2) := by decide +kernel
theorem d_Mo_shift_83 : decode b_Mo_shift 83 = .ok (.goto 5, 3) := by decide +kernel
theorem d_Mo_shift_44 : decode b_Mo_shift 44 = .ok (.iconst 1, 1) := by decide +kernel
theorem d_Mo_shift_45 : decode b_Mo_shift 45 = .ok (.goto 14, 3) := by decide +kernel
theorem d_Mo_shift_30 : decode b_Mo_shift 30 = .ok (.aload_n 0, 1) := by decide +kernel
theorem d_Mo_shift_31 : decode b_Mo_shift 31 = .ok (.invokevirtual 114, 3) := by decide +kernel
theorem d_Mo_shift_34 : decode b_Mo_shift 34 = .ok (.goto 25, 3) := by decide +kernel
theorem d_Mo_shift_13 : decode b_Mo_shift 13 = .ok (.aload_n 0, 1) := by decide +kernel
theorem d_Mo_shift_14 : decode b_Mo_shift 14 = .ok (.bipush 6, 2) := by decide +kernel
theorem d_Mo_shift_16 : decode b_Mo_shift 16 = .ok (.invokevirtual 81, 3) := by decide +kernel
theorem d_Mo_first_236 : decode b_Mo_first 236 = .ok (.invokevirtual 274, 3) := by decide +kernel
theorem d_Mo_first_239 : decode b_Mo_first 239 = .ok (.goto 176, 3) := by decide +kernel
theorem d_Mo_first_212 : decode b_Mo_first 212 = .ok (.iload_n 1, 1) := by decide +kernel
theorem d_Mo_first_213 : decode b_Mo_first 213 = .ok (.sipush 193, 3) := by decide +kernel
theorem d_Mo_first_216 : decode b_Mo_first 216 = .ok (.if_icmp .eq 17, 3) := by decide +kernel
theorem d_Mo_first_219 : decode b_Mo_first 219 = .ok (.iload_n 1, 1) := by decide +kernel
theorem d_Mo_first_220 : decode b_Mo_first 220 = .ok (.sipush 208, 3) := by decide +kernel
theorem d_Mo_first_223 : decode b_Mo_first 223 = .ok (.if_icmp .lt 19, 3) := by decide +kernel
theorem d_Mo_first_242 : decode b_Mo_first 242 = .ok (.iload_n 1, 1) := by decide +kernel
theorem d_Mo_first_243 : decode b_Mo_first 243 = .ok (.sipush 224, 3) := by decide +kernel
theorem d_Mo_first_246 : decode b_Mo_first 246 = .ok (.if_icmp .lt 18, 3) := by decide +kernel
theorem d_Mo_first_264 : decode b_Mo_first 264 = .ok (.iload_n 1, 1) := by decide +kernel
theorem d_Mo_first_265 : decode b_Mo_first 265 = .ok (.sipush 245, 3) := by decide +kernel
theorem d_Mo_first_268 : decode b_Mo_first 268 = .ok (.if_icmp .eq 17, 3) := by decide +kernel
theorem d_Mo_first_285 : decode b_Mo_first 285 = .ok (.aload_n 0, 1) := by decide +kernel
theorem d_Mo_first_286 : decode b_Mo_first 286 = .ok (.getfield 21, 3) := by decide +kernel
theorem d_Mo_first_289 : decode b_Mo_first 289 = .ok (.iconst 0, 1) := by decide +kernel
theorem d_Mo_first_290 : decode b_Mo_first 290 = .ok (.iload_n 1, 1) := by decide +kernel
theorem d_Mo_first_291 : decode b_Mo_first 291 = .ok (.sipush 245, 3) := by decide +kernel
theorem d_Mo_first_294 : decode b_Mo_first 294 = .ok (.if_icmp .ne 20, 3) := by decide +kernel
theorem d_Mo_first_314 : decode b_Mo_first 314 = .ok (.iload_n 1, 1) := by decide +kernel
theorem d_Mo_first_315 : decode b_Mo_first 315 = .ok (.sipush 249, 3) := by decide +kernel
theorem d_Mo_first_318 : decode b_Mo_first 318 = .ok (.if_icmp .ne 7, 3) := by decide +kernel
theorem d_Mo_first_325 : decode b_Mo_first 325 = .ok (.iconst 0, 1) := by decide +kernel
theorem d_Mo_first_326 : decode b_Mo_first 326 = .ok (.bastore, 1) := by decide +kernel
theorem d_Mo_first_327 : decode b_Mo_first 327 = .ok (.goto 88, 3) := by decide +kernel
theorem d_Mo_first_321 : decode b_Mo_first 321 = .ok (.iconst 1, 1) := by decide +kernel
theorem d_Mo_first_322 : decode b_Mo_first 322 = .ok (.goto 4, 3) := by decide +kernel
theorem d_Mo_first_297 : decode b_Mo_first 297 = .ok (.aload_n 0, 1) := by decide +kernel
theorem d_Mo_first_298 : decode b_Mo_first 298 = .ok (.getfield 21, 3) := by decide +kernel
theorem d_Mo_first_301 : decode b_Mo_first 301 = .ok (.iconst 0, 1) := by decide +kernel
theorem d_Mo_first_302 : decode b_Mo_first 302 = .ok (.baload, 1) := by decide +kernel
theorem d_Mo_first_303 : decode b_Mo_first 303 = .ok (.ifCond .ne 7, 3) := by decide +kernel
theorem d_Mo_first_310 : decode b_Mo_first 310 = .ok (.iconst 0, 1) := by decide +kernel
theorem d_Mo_first_311 : decode b_Mo_first 311 = .ok (.goto 15, 3) := by decide +kernel
theorem d_Mo_first_306 : decode b_Mo_first 306 = .ok (.iconst 1, 1) := by decide +kernel
theorem d_Mo_first_307 : decode b_Mo_first 307 = .ok (.goto 19, 3) := by decide +kernel
theorem d_Mo_first_271 : decode b_Mo_first 271 = .ok (.iload_n 1, 1) := by decide +kernel
theorem d_Mo_first_272 : decode b_Mo_first 272 = .ok (.sipush 248, 3) := by decide +kernel
theorem d_Mo_first_275 : decode b_Mo_first 275 = .ok (.if_icmp .eq 10, 3) := by decide +kernel
theorem d_Mo_first_278 : decode b_Mo_first 278 = .ok (.iload_n 1, 1) := by decide +kernel
theorem d_Mo_first_279 : decode b_Mo_first 279 = .ok (.sipush 249, 3) := by decide +kernel
theorem d_Mo_first_282 : decode b_Mo_first 282 = .ok (.if_icmp .ne 48, 3) := by decide +kernel
theorem d_Mo_first_330 : decode b_Mo_first 330 = .ok (.iload_n 1, 1) := by decide +kernel
theorem d_Mo_first_331 : decode b_Mo_first 331 = .ok (.sipush 252, 3) := by decide +kernel
theorem d_Mo_first_334 : decode b_Mo_first 334 = .ok (.if_icmp .eq 10, 3) := by decide +kernel
theorem d_Mo_first_344 : decode b_Mo_first 344 = .ok (.aload_n 0, 1) := by decide +kernel
theorem d_Mo_first_345 : decode b_Mo_first 345 = .ok (.getfield 21, 3) := by decide +kernel
theorem d_Mo_first_348 : decode b_Mo_first 348 = .ok (.iconst 5, 1) := by decide +kernel
theorem d_Mo_first_349 : decode b_Mo_first 349 = .ok (.iload_n 1, 1) := by decide +kernel
theorem d_Mo_first_350 : decode b_Mo_first 350 = .ok (.sipush 253, 3) := by decide +kernel
theorem d_Mo_first_353 : decode b_Mo_first 353 = .ok (.if_icmp .ne 7, 3) := by decide +kernel
theorem d_Mo_first_360 : decode b_Mo_first 360 = .ok (.iconst 0, 1) := by decide +kernel
theorem d_Mo_first_361 : decode b_Mo_first 361 = .ok (.bastore, 1) := by decide +kernel
theorem d_Mo_first_362 : decode b_Mo_first 362 = .ok (.goto 53, 3) := by decide +kernel
theorem d_Mo_first_356 : decode b_Mo_first 356 = .ok (.iconst 1, 1) := by decide +kernel
theorem d_Mo_first_357 : decode b_Mo_first 357 = .ok (.goto 4, 3) := by decide +kernel
theorem d_Mo_first_337 : decode b_Mo_first 337 = .ok (.iload_n 1, 1) := by decide +kernel
theorem d_Mo_first_338 : decode b_Mo_first 338 = .ok (.sipush 253, 3) := by decide +kernel
theorem d_Mo_first_341 : decode b_Mo_first 341 = .ok (.if_icmp .ne 24, 3) := by decide +kernel
theorem d_Mo_first_365 : decode b_Mo_first 365 = .ok (.iload_n 1, 1) := by decide +kernel
theorem d_Mo_first_366 : decode b_Mo_first 366 = .ok (.sipush 246, 3) := by decide +kernel
theorem d_Mo_first_369 : decode b_Mo_first 369 = .ok (.if_icmp .eq 10, 3) := by decide +kernel
theorem d_Mo_first_379 : decode b_Mo_first 379 = .ok (.aload_n 0, 1) := by decide +kernel
theorem d_Mo_first_380 : decode b_Mo_first 380 = .ok (.iload_n 2, 1) := by decide +kernel
theorem d_Mo_unary_0 : decode b_Mo_unary 0 = .ok (.aload_n 0, 1) := by decide +kernel
theorem d_Mo_unary_1 : decode b_Mo_unary 1 = .ok (.invokevirtual 167, 3) := by decide +kernel
theorem d_Mo_unary_4 : decode b_Mo_unary 4 = .ok (.aload_n 0, 1) := by decide +kernel
theorem d_Mo_unary_5 : decode b_Mo_unary 5 = .ok (.getfield 139, 3) := by decide +kernel
theorem d_Mo_unary_8 : decode b_Mo_unary 8 = .ok (.iconst 1, 1) := by decide +kernel
theorem d_Mo_unary_9 : decode b_Mo_unary 9 = .ok (.if_icmp .ne 9, 3) := by decide +kernel
theorem d_Mo_unary_18 : decode b_Mo_unary 18 = .ok (.aload_n 0, 1) := by decide +kernel
theorem d_Mo_unary_19 : decode b_Mo_unary 19 = .ok (.invokevirtual 170, 3) := by decide +kernel
theorem d_Mo_unary_22 : decode b_Mo_unary 22 = .ok (.aload_n 0, 1) := by decide +kernel
theorem d_Mo_unary_23 : decode b_Mo_unary 23 = .ok (.aload_n 0, 1) := by decide +kernel
theorem d_Mo_unary_24 : decode b_Mo_unary 24 = .ok (.getfield 111, 3) := by decide +kernel
theorem d_Mo_unary_27 : decode b_Mo_unary 27 = .ok (.aload_n 0, 1) := by decide +kernel
theorem d_Mo_unary_28 : decode b_Mo_unary 28 = .ok (.getfield 108, 3) := by decide +kernel
theorem d_Mo_unary_31 : decode b_Mo_unary 31 = .ok (.i2l, 1) := by decide +kernel
theorem d_Mo_unary_32 : decode b_Mo_unary 32 = .ok (.ladd, 1) := by decide +kernel
theorem d_Mo_unary_33 : decode b_Mo_unary 33 = .ok (.putfield 173, 3) := by decide +kernel
theorem d_Mo_unary_36 : decode b_Mo_unary 36 = .ok (.aload_n 0, 1) := by decide +kernel
theorem d_Mo_unary_37 : decode b_Mo_unary 37 = .ok (.getfield 139, 3) := by decide +kernel
theorem d_Mo_unary_40 : decode b_Mo_unary 40 = .ok (.ifCond .ne 33, 3) := by decide +kernel
theorem d_Mo_unary_73 : decode b_Mo_unary 73 = .ok (.aload_n 0, 1) := by decide +kernel
theorem d_Mo_unary_74 : decode b_Mo_unary 74 = .ok (.getfield 139, 3) := by decide +kernel
theorem d_Mo_unary_77 : decode b_Mo_unary 77 = .ok (.iconst 2, 1) := by decide +kernel
theorem d_Mo_unary_78 : decode b_Mo_unary 78 = .ok (.if_icmp .ne 21, 3) := by decide +kernel
theorem d_Mo_unary_99 : decode b_Mo_unary 99 = .ok (.aload_n 0, 1) := by decide +kernel
theorem d_Mo_unary_100 : decode b_Mo_unary 100 = .ok (.getfield 139, 3) := by decide +kernel
theorem d_Mo_unary_103 : decode b_Mo_unary 103 = .ok (.iconst 3, 1) := by decide +kernel
theorem d_Mo_unary_104 : decode b_Mo_unary 104 = .ok (.if_icmp .ne 25, 3) := by decide +kernel
theorem d_Mo_unary_129 : decode b_Mo_unary 129 = .ok (.aload_n 0, 1) := by decide +kernel
theorem d_Mo_unary_130 : decode b_Mo_unary 130 = .ok (.getfield 139, 3) := by decide +kernel
theorem d_Mo_unary_133 : decode b_Mo_unary 133 = .ok (.bipush 6, 2) := by decide +kernel
theorem d_Mo_unary_135 : decode b_Mo_unary 135 = .ok (.if_icmp .ge 30, 3) := by decide +kernel
theorem d_Mo_unary_165 : decode b_Mo_unary 165 = .ok (.aload_n 0, 1) := by decide +kernel
theorem d_Mo_unary_166 : decode b_Mo_unary 166 = .ok (.aload_n 0, 1) := by decide +kernel
theorem d_Mo_unary_167 : decode b_Mo_unary 167 = .ok (.iload_n 1, 1) := by decide +kernel
theorem d_Mo_unary_168 : decode b_Mo_unary 168 = .ok (.iconst 0, 1) := by decide +kernel
theorem d_Mo_unary_169 : decode b_Mo_unary 169 = .ok (.invokevirtual 338, 3) := by decide +kernel
theorem d_Mo_unary_172 : decode b_Mo_unary 172 = .ok (.iload_n 1, 1) := by decide +kernel
theorem d_Mo_unary_173 : decode b_Mo_unary 173 = .ok (.aload_n 0, 1) := by decide +kernel
theorem d_Mo_unary_174 : decode b_Mo_unary 174 = .ok (.getfield 139, 3) := by decide +kernel
theorem d_Mo_unary_177 : decode b_Mo_unary 177 = .ok (.bipush 7, 2) := by decide +kernel
theorem d_Mo_unary_179 : decode b_Mo_unary 179 = .ok (.if_icmp .ne 7, 3) := by decide +kernel
theorem d_Mo_unary_186 : decode b_Mo_unary 186 = .ok (.iconst 0, 1) := by decide +kernel
theorem d_Mo_divide_0 : decode b_Mo_divide 0 = .ok (.aload_n 0, 1) := by decide +kernel
theorem d_Mo_divide_1 : decode b_Mo_divide 1 = .ok (.getfield 28, 3) := by decide +kernel
theorem d_Mo_divide_4 : decode b_Mo_divide 4 = .ok (.iconst (-1), 1) := by decide +kernel
theorem d_Mo_divide_5 : decode b_Mo_divide 5 = .ok (.if_icmp .eq 4, 3) := by decide +kernel
theorem d_Mo_divide_9 : decode b_Mo_divide 9 = .ok (.lload_n 1, 1) := by decide +kernel
theorem d_Mo_divide_10 : decode b_Mo_divide 10 = .ok (.lconst 0, 1) := by decide +kernel
theorem d_Mo_divide_11 : decode b_Mo_divide 11 = .ok (.lcmp, 1) := by decide +kernel
theorem d_Mo_divide_12 : decode b_Mo_divide 12 = .ok (.ifCond .ne 9, 3) := by decide +kernel
theorem d_Mo_divide_21 : decode b_Mo_divide 21 = .ok (.bipush 8, 2) := by decide +kernel
theorem d_Mo_divide_23 : decode b_Mo_divide 23 = .ok (.iload_n 3, 1) := by decide +kernel
theorem d_Mo_divide_24 : decode b_Mo_divide 24 = .ok (.imul, 1) := by decide +kernel
theorem d_Mo_divide_25 : decode b_Mo_divide 25 = .ok (.istore 5, 2) := by decide +kernel
theorem d_Mo_divide_27 : decode b_Mo_divide 27 = .ok (.aload_n 0, 1) := by decide +kernel
theorem d_Mo_divide_28 : decode b_Mo_divide 28 = .ok (.iconst 0, 1) := by decide +kernel
theorem d_Mo_divide_29 : decode b_Mo_divide 29 = .ok (.iload_n 3, 1) := by decide +kernel
theorem d_Mo_divide_30 : decode b_Mo_divide 30 = .ok (.iconst 1, 1) := by decide +kernel
theorem d_Mo_divide_31 : decode b_Mo_divide 31 = .ok (.if_icmp .ne 7, 3) := by decide +kernel
theorem d_Mo_divide_38 : decode b_Mo_divide 38 = .ok (.iload_n 3, 1) := by decide +kernel
theorem d_Mo_divide_39 : decode b_Mo_divide 39 = .ok (.invokevirtual 185, 3) := by decide +kernel
theorem d_Mo_divide_42 : decode b_Mo_divide 42 = .ok (.lstore 6, 2) := by decide +kernel
theorem d_Mo_divide_44 : decode b_Mo_divide 44 = .ok (.aload_n 0, 1) := by decide +kernel
theorem d_Mo_divide_45 : decode b_Mo_divide 45 = .ok (.iload_n 3, 1) := by decide +kernel
theorem d_Mo_divide_46 : decode b_Mo_divide 46 = .ok (.bipush 8, 2) := by decide +kernel
theorem d_Mo_divide_48 : decode b_Mo_divide 48 = .ok (.if_icmp .ne 12, 3) := by decide +kernel
theorem d_Mo_divide_60 : decode b_Mo_divide 60 = .ok (.lconst 0, 1) := by decide +kernel
theorem d_Mo_divide_61 : decode b_Mo_divide 61 = .ok (.putfield 383, 3) := by decide +kernel
theorem d_Mo_divide_64 : decode b_Mo_divide 64 = .ok (.aload_n 0, 1) := by decide +kernel
theorem d_Mo_divide_65 : decode b_Mo_divide 65 = .ok (.iload_n 3, 1) := by decide +kernel
theorem d_Mo_divide_66 : decode b_Mo_divide 66 = .ok (.iconst 1, 1) := by decide +kernel
theorem d_Mo_divide_67 : decode b_Mo_divide 67 = .ok (.if_icmp .eq 9, 3) := by decide +kernel
theorem d_Mo_divide_76 : decode b_Mo_divide 76 = .ok (.lload 6, 2) := by decide +kernel
theorem d_Mo_divide_78 : decode b_Mo_divide 78 = .ok (.goto 19, 3) := by decide +kernel
theorem d_Mo_divide_97 : decode b_Mo_divide 97 = .ok (.putfield 380, 3) := by decide +kernel
theorem d_Mo_divide_100 : decode b_Mo_divide 100 = .ok (.iload 4, 2) := by decide +kernel
theorem d_Mo_divide_102 : decode b_Mo_divide 102 = .ok (.ifCond .eq 43, 3) := by decide +kernel
theorem d_Mo_divide_145 : decode b_Mo_divide 145 = .ok (.iload 4, 2) := by decide +kernel
theorem d_Mo_divide_147 : decode b_Mo_divide 147 = .ok (.ifCond .eq 16, 3) := by decide +kernel
theorem d_Mo_divide_163 : decode b_Mo_divide 163 = .ok (.iconst 0, 1) := by decide +kernel
theorem d_Mo_divide_164 : decode b_Mo_divide 164 = .ok (.istore 8, 2) := by decide +kernel
theorem d_Mo_divide_166 : decode b_Mo_divide 166 = .ok (.iload 4, 2) := by decide +kernel
theorem d_Mo_divide_168 : decode b_Mo_divide 168 = .ok (.ifCond .eq 11, 3) := by decide +kernel
theorem d_Mo_divide_179 : decode b_Mo_divide 179 = .ok (.lload_n 1, 1) := by decide +kernel
theorem d_Mo_divide_180 : decode b_Mo_divide 180 = .ok (.lstore 9, 2) := by decide +kernel
theorem d_Mo_divide_182 : decode b_Mo_divide 182 = .ok (.iload 8, 2) := by decide +kernel
theorem d_Mo_divide_184 : decode b_Mo_divide 184 = .ok (.iload 4, 2) := by decide +kernel
theorem d_Mo_divide_186 : decode b_Mo_divide 186 = .ok (.ifCond .eq 14, 3) := by decide +kernel
theorem d_Mo_divide_200 : decode b_Mo_divide 200 = .ok (.iconst 0, 1) := by decide +kernel
theorem d_Mo_divide_201 : decode b_Mo_divide 201 = .ok (.if_icmp .eq 7, 3) := by decide +kernel
theorem d_Mo_divide_208 : decode b_Mo_divide 208 = .ok (.iconst 0, 1) := by decide +kernel
theorem d_Mo_divide_209 : decode b_Mo_divide 209 = .ok (.istore 11, 2) := by decide +kernel
theorem d_Mo_divide_211 : decode b_Mo_divide 211 = .ok (.iload 8, 2) := by decide +kernel
theorem d_Mo_divide_213 : decode b_Mo_divide 213 = .ok (.ifCond .eq 7, 3) := by decide +kernel
theorem d_Mo_divide_220 : decode b_Mo_divide 220 = .ok (.aload_n 0, 1) := by decide +kernel
theorem d_Mo_divide_221 : decode b_Mo_divide 221 = .ok (.iload 4, 2) := by decide +kernel
theorem d_Mo_divide_223 : decode b_Mo_divide 223 = .ok (.ifCond .eq 16, 3) := by decide +kernel
theorem d_Mo_divide_239 : decode b_Mo_divide 239 = .ok (.lload 9, 2) := by decide +kernel
theorem d_Mo_divide_241 : decode b_Mo_divide 241 = .ok (.bipush 64, 2) := by decide +kernel
theorem d_Mo_quotient_0 : decode b_Mo_quotient 0 = .ok (.lconst 0, 1) := by decide +kernel
theorem d_Mo_quotient_1 : decode b_Mo_quotient 1 = .ok (.lstore 4, 2) := by decide +kernel
theorem d_Mo_quotient_3 : decode b_Mo_quotient 3 = .ok (.lconst 0, 1) := by decide +kernel
theorem d_Mo_quotient_4 : decode b_Mo_quotient 4 = .ok (.lstore 6, 2) := by decide +kernel
theorem d_Mo_quotient_6 : decode b_Mo_quotient 6 = .ok (.lconst 0, 1) := by decide +kernel
theorem d_Mo_quotient_7 : decode b_Mo_quotient 7 = .ok (.lstore 8, 2) := by decide +kernel
theorem d_Mo_quotient_9 : decode b_Mo_quotient 9 = .ok (.bipush 127, 2) := by decide +kernel
theorem d_Mo_quotient_11 : decode b_Mo_quotient 11 = .ok (.istore 10, 2) := by decide +kernel
theorem d_Mo_quotient_13 : decode b_Mo_quotient 13 = .ok (.iload 10, 2) := by decide +kernel
theorem d_Mo_quotient_15 : decode b_Mo_quotient 15 = .ok (.ifCond .lt 126, 3) := by decide +kernel
theorem d_Mo_quotient_141 : decode b_Mo_quotient 141 = .ok (.aload_n 0, 1) := by decide +kernel
theorem d_Mo_quotient_142 : decode b_Mo_quotient 142 = .ok (.lload 8, 2) := by decide +kernel
theorem d_Mo_quotient_144 : decode b_Mo_quotient 144 = .ok (.putfield 380, 3) := by decide +kernel
theorem d_Mo_quotient_147 : decode b_Mo_quotient 147 = .ok (.aload_n 0, 1) := by decide +kernel
theorem d_Mo_quotient_148 : decode b_Mo_quotient 148 = .ok (.lload 4, 2) := by decide +kernel
theorem d_Mo_quotient_150 : decode b_Mo_quotient 150 = .ok (.putfield 383, 3) := by decide +kernel
theorem d_Mo_quotient_153 : decode b_Mo_quotient 153 = .ok (.lload 6, 2) := by decide +kernel
theorem d_Mo_quotient_155 : decode b_Mo_quotient 155 = .ok (.lconst 0, 1) := by decide +kernel
theorem d_Mo_quotient_156 : decode b_Mo_quotient 156 = .ok (.lcmp, 1) := by decide +kernel
theorem d_Mo_quotient_157 : decode b_Mo_quotient 157 = .ok (.ifCond .ne 22, 3) := by decide +kernel
theorem d_Mo_quotient_179 : decode b_Mo_quotient 179 = .ok (.iconst 0, 1) := by decide +kernel
theorem d_Mo_quotient_180 : decode b_Mo_quotient 180 = .ok (.ireturn, 1) := by decide +kernel
theorem d_Mo_quotient_160 : decode b_Mo_quotient 160 = .ok (.iload_n 3, 1) := by decide +kernel
theorem d_Mo_quotient_161 : decode b_Mo_quotient 161 = .ok (.bipush 64, 2) := by decide +kernel
theorem d_Mo_quotient_163 : decode b_Mo_quotient 163 = .ok (.if_icmp .eq 12, 3) := by decide +kernel
theorem d_Mo_quotient_175 : decode b_Mo_quotient 175 = .ok (.iconst 1, 1) := by decide +kernel
theorem d_Mo_quotient_176 : decode b_Mo_quotient 176 = .ok (.goto 4, 3) := by decide +kernel
theorem d_Mo_quotient_166 : decode b_Mo_quotient 166 = .ok (.lload 8, 2) := by decide +kernel
theorem d_Mo_quotient_168 : decode b_Mo_quotient 168 = .ok (.iload_n 3, 1) := by decide +kernel
theorem d_Mo_quotient_169 : decode b_Mo_quotient 169 = .ok (.lushr, 1) := by decide +kernel
theorem d_Mo_quotient_170 : decode b_Mo_quotient 170 = .ok (.lconst 0, 1) := by decide +kernel
theorem d_Mo_quotient_171 : decode b_Mo_quotient 171 = .ok (.lcmp, 1) := by decide +kernel
theorem d_Mo_quotient_172 : decode b_Mo_quotient 172 = .ok (.ifCond .ne 7, 3) := by decide +kernel
theorem d_Mo_quotient_18 : decode b_Mo_quotient 18 = .ok (.lload 4, 2) := by decide +kernel
theorem d_Mo_quotient_20 : decode b_Mo_quotient 20 = .ok (.lconst 0, 1) := by decide +kernel
theorem d_Mo_quotient_21 : decode b_Mo_quotient 21 = .ok (.lcmp, 1) := by decide +kernel
theorem d_Mo_quotient_22 : decode b_Mo_quotient 22 = .ok (.ifCond .ge 7, 3) := by decide +kernel
theorem d_Mo_quotient_29 : decode b_Mo_quotient 29 = .ok (.iconst 0, 1) := by decide +kernel
theorem d_Mo_quotient_30 : decode b_Mo_quotient 30 = .ok (.istore 11, 2) := by decide +kernel
theorem d_Mo_quotient_32 : decode b_Mo_quotient 32 = .ok (.lload 4, 2) := by decide +kernel
theorem d_Mo_quotient_34 : decode b_Mo_quotient 34 = .ok (.iconst 1, 1) := by decide +kernel
theorem d_Mo_quotient_35 : decode b_Mo_quotient 35 = .ok (.lshl, 1) := by decide +kernel
theorem d_Mo_quotient_36 : decode b_Mo_quotient 36 = .ok (.iload 10, 2) := by decide +kernel
theorem d_Mo_quotient_38 : decode b_Mo_quotient 38 = .ok (.bipush 63, 2) := by decide +kernel
theorem d_Mo_quotient_40 : decode b_Mo_quotient 40 = .ok (.if_icmp .le 16, 3) := by decide +kernel
theorem d_Mo_quotient_56 : decode b_Mo_quotient 56 = .ok (.aload_n 0, 1) := by decide +kernel
theorem d_Mo_quotient_57 : decode b_Mo_quotient 57 = .ok (.getfield 380, 3) := by decide +kernel
theorem d_Mo_quotient_60 : decode b_Mo_quotient 60 = .ok (.iload 10, 2) := by decide +kernel
theorem d_Mo_quotient_62 : decode b_Mo_quotient 62 = .ok (.lushr, 1) := by decide +kernel
theorem d_Mo_quotient_63 : decode b_Mo_quotient 63 = .ok (.lconst 1, 1) := by decide +kernel
theorem d_Mo_quotient_64 : decode b_Mo_quotient 64 = .ok (.land, 1) := by decide +kernel
theorem d_Mo_quotient_65 : decode b_Mo_quotient 65 = .ok (.lor, 1) := by decide +kernel
theorem d_Mo_quotient_66 : decode b_Mo_quotient 66 = .ok (.lstore 4, 2) := by decide +kernel
theorem d_Mo_quotient_68 : decode b_Mo_quotient 68 = .ok (.iload 11, 2) := by decide +kernel
theorem d_Mo_quotient_70 : decode b_Mo_quotient 70 = .ok (.ifCond .ne 18, 3) := by decide +kernel
theorem d_Mo_quotient_88 : decode b_Mo_quotient 88 = .ok (.iconst 1, 1) := by decide +kernel
theorem d_Mo_quotient_89 : decode b_Mo_quotient 89 = .ok (.goto 4, 3) := by decide +kernel
theorem d_Mo_quotient_93 : decode b_Mo_quotient 93 = .ok (.istore 12, 2) := by decide +kernel
theorem d_Mo_quotient_95 : decode b_Mo_quotient 95 = .ok (.iload 12, 2) := by decide +kernel
theorem d_Mo_quotient_97 : decode b_Mo_quotient 97 = .ok (.ifCond .eq 9, 3) := by decide +kernel
theorem d_Mo_quotient_106 : decode b_Mo_quotient 106 = .ok (.lload 6, 2) := by decide +kernel
theorem d_Mo_quotient_108 : decode b_Mo_quotient 108 = .ok (.iconst 1, 1) := by decide +kernel
theorem d_Mo_quotient_109 : decode b_Mo_quotient 109 = .ok (.lshl, 1) := by decide +kernel
theorem d_Mo_quotient_110 : decode b_Mo_quotient 110 = .ok (.lload 8, 2) := by decide +kernel
theorem d_Mo_quotient_112 : decode b_Mo_quotient 112 = .ok (.bipush 63, 2) := by decide +kernel
theorem d_Mo_quotient_114 : decode b_Mo_quotient 114 = .ok (.lushr, 1) := by decide +kernel
theorem d_Mo_quotient_115 : decode b_Mo_quotient 115 = .ok (.lor, 1) := by decide +kernel
theorem d_Mo_quotient_116 : decode b_Mo_quotient 116 = .ok (.lstore 6, 2) := by decide +kernel
theorem d_Mo_quotient_118 : decode b_Mo_quotient 118 = .ok (.lload 8, 2) := by decide +kernel
theorem d_Mo_quotient_120 : decode b_Mo_quotient 120 = .ok (.iconst 1, 1) := by decide +kernel
theorem d_Mo_quotient_121 : decode b_Mo_quotient 121 = .ok (.lshl, 1) := by decide +kernel
theorem d_Mo_quotient_122 : decode b_Mo_quotient 122 = .ok (.iload 12, 2) := by decide +kernel
theorem d_Mo_quotient_124 : decode b_Mo_quotient 124 = .ok (.ifCond .eq 7, 3) := by decide +kernel
theorem d_Mo_quotient_131 : decode b_Mo_quotient 131 = .ok (.lconst 0, 1) := by decide +kernel
theorem d_Mo_quotient_132 : decode b_Mo_quotient 132 = .ok (.lor, 1) := by decide +kernel
theorem d_Mo_quotient_133 : decode b_Mo_quotient 133 = .ok (.lstore 8, 2) := by decide +kernel
theorem d_Mo_quotient_135 : decode b_Mo_quotient 135 = .ok (.iinc 10 (-1), 3) := by decide +kernel
theorem d_Mo_quotient_138 : decode b_Mo_quotient 138 = .ok (.goto (-125), 3) := by decide +kernel
theorem d_Mo_quotient_127 : decode b_Mo_quotient 127 = .ok (.lconst 1, 1) := by decide +kernel
theorem d_Mo_quotient_128 : decode b_Mo_quotient 128 = .ok (.goto 4, 3) := by decide +kernel
theorem d_Mo_quotient_100 : decode b_Mo_quotient 100 = .ok (.lload 4, 2) := by decide +kernel
theorem d_Mo_quotient_102 : decode b_Mo_quotient 102 = .ok (.lload_n 1, 1) := by decide +kernel
theorem d_Mo_quotient_103 : decode b_Mo_quotient 103 = .ok (.lsub, 1) := by decide +kernel
theorem d_Mo_quotient_104 : decode b_Mo_quotient 104 = .ok (.lstore 4, 2) := by decide +kernel
theorem d_Mo_quotient_73 : decode b_Mo_quotient 73 = .ok (.lload 4, 2) := by decide +kernel
theorem d_Mo_quotient_75 : decode b_Mo_quotient 75 = .ok (.ldc2_w 401, 3) := by decide +kernel
theorem d_Mo_quotient_78 : decode b_Mo_quotient 78 = .ok (.ladd, 1) := by decide +kernel
theorem d_Mo_quotient_79 : decode b_Mo_quotient 79 = .ok (.lload_n 1, 1) := by decide +kernel
theorem d_Mo_quotient_80 : decode b_Mo_quotient 80 = .ok (.ldc2_w 401, 3) := by decide +kernel
theorem d_Mo_quotient_83 : decode b_Mo_quotient 83 = .ok (.ladd, 1) := by decide +kernel
theorem d_Mo_quotient_84 : decode b_Mo_quotient 84 = .ok (.lcmp, 1) := by decide +kernel
theorem d_Mo_quotient_85 : decode b_Mo_quotient 85 = .ok (.ifCond .lt 7, 3) := by decide +kernel
theorem d_Mo_quotient_92 : decode b_Mo_quotient 92 = .ok (.iconst 0, 1) := by decide +kernel
theorem d_Mo_quotient_43 : decode b_Mo_quotient 43 = .ok (.aload_n 0, 1) := by decide +kernel
theorem d_Mo_quotient_44 : decode b_Mo_quotient 44 = .ok (.getfield 383, 3) := by decide +kernel
theorem d_Mo_quotient_47 : decode b_Mo_quotient 47 = .ok (.iload 10, 2) := by decide +kernel
theorem d_Mo_quotient_49 : decode b_Mo_quotient 49 = .ok (.bipush 64, 2) := by decide +kernel
theorem d_Mo_quotient_51 : decode b_Mo_quotient 51 = .ok (.isub, 1) := by decide +kernel
theorem d_Mo_quotient_52 : decode b_Mo_quotient 52 = .ok (.lushr, 1) := by decide +kernel
theorem d_Mo_quotient_53 : decode b_Mo_quotient 53 = .ok (.goto 10, 3) := by decide +kernel
theorem d_Mo_quotient_25 : decode b_Mo_quotient 25 = .ok (.iconst 1, 1) := by decide +kernel
theorem d_Mo_quotient_26 : decode b_Mo_quotient 26 = .ok (.goto 4, 3) := by decide +kernel
theorem d_Mo_divide_243 : decode b_Mo_divide 243 = .ok (.invokevirtual 403, 3) := by decide +kernel
theorem d_Mo_divide_246 : decode b_Mo_divide 246 = .ok (.ifCond .ne 9, 3) := by decide +kernel
theorem d_Mo_divide_255 : decode b_Mo_divide 255 = .ok (.ldc2_w 71, 3) := by decide +kernel
theorem d_Mo_divide_258 : decode b_Mo_divide 258 = .ok (.iload_n 3, 1) := by decide +kernel
theorem d_Mo_divide_259 : decode b_Mo_divide 259 = .ok (.invokestatic 180, 3) := by decide +kernel
theorem d_Mo_divide_262 : decode b_Mo_divide 262 = .ok (.iload 4, 2) := by decide +kernel
theorem d_Mo_divide_264 : decode b_Mo_divide 264 = .ok (.ifCond .eq 7, 3) := by decide +kernel
theorem d_Mo_divide_271 : decode b_Mo_divide 271 = .ok (.iconst 0, 1) := by decide +kernel
theorem d_Mo_divide_272 : decode b_Mo_divide 272 = .ok (.lushr, 1) := by decide +kernel
theorem d_Mo_divide_273 : decode b_Mo_divide 273 = .ok (.lstore 12, 2) := by decide +kernel
theorem d_Mo_divide_275 : decode b_Mo_divide 275 = .ok (.aload_n 0, 1) := by decide +kernel
theorem d_Mo_divide_276 : decode b_Mo_divide 276 = .ok (.getfield 380, 3) := by decide +kernel
theorem d_Mo_divide_279 : decode b_Mo_divide 279 = .ok (.lload 12, 2) := by decide +kernel
theorem d_Mo_divide_281 : decode b_Mo_divide 281 = .ok (.lsub, 1) := by decide +kernel
theorem d_Mo_divide_282 : decode b_Mo_divide 282 = .ok (.lstore 14, 2) := by decide +kernel
theorem d_Mo_divide_284 : decode b_Mo_divide 284 = .ok (.iload 4, 2) := by decide +kernel
theorem d_Mo_divide_286 : decode b_Mo_divide 286 = .ok (.ifCond .ne 35, 3) := by decide +kernel
theorem d_Mo_divide_321 : decode b_Mo_divide 321 = .ok (.aload_n 0, 1) := by decide +kernel
theorem d_Mo_divide_322 : decode b_Mo_divide 322 = .ok (.getfield 380, 3) := by decide +kernel
theorem d_Mo_divide_325 : decode b_Mo_divide 325 = .ok (.ldc2_w 401, 3) := by decide +kernel
theorem d_Mo_divide_328 : decode b_Mo_divide 328 = .ok (.ladd, 1) := by decide +kernel
theorem d_Mo_divide_329 : decode b_Mo_divide 329 = .ok (.lload 12, 2) := by decide +kernel
theorem d_Mo_divide_331 : decode b_Mo_divide 331 = .ok (.ldc2_w 401, 3) := by decide +kernel
theorem d_Mo_divide_334 : decode b_Mo_divide 334 = .ok (.ladd, 1) := by decide +kernel
theorem d_Mo_divide_335 : decode b_Mo_divide 335 = .ok (.lcmp, 1) := by decide +kernel
theorem d_Mo_divide_336 : decode b_Mo_divide 336 = .ok (.ifCond .le 15, 3) := by decide +kernel
theorem d_Mo_divide_351 : decode b_Mo_divide 351 = .ok (.iconst 1, 1) := by decide +kernel
theorem d_Mo_divide_352 : decode b_Mo_divide 352 = .ok (.goto 4, 3) := by decide +kernel
theorem d_Mo_divide_356 : decode b_Mo_divide 356 = .ok (.istore 16, 2) := by decide +kernel
theorem d_Mo_divide_358 : decode b_Mo_divide 358 = .ok (.iload 16, 2) := by decide +kernel
theorem d_Mo_divide_360 : decode b_Mo_divide 360 = .ok (.ifCond .ne 8, 3) := by decide +kernel
theorem d_Mo_divide_368 : decode b_Mo_divide 368 = .ok (.iload 11, 2) := by decide +kernel
theorem d_Mo_divide_370 : decode b_Mo_divide 370 = .ok (.ifCond .eq 11, 3) := by decide +kernel
theorem d_Mo_divide_381 : decode b_Mo_divide 381 = .ok (.aload_n 0, 1) := by decide +kernel
theorem d_Mo_divide_382 : decode b_Mo_divide 382 = .ok (.getfield 380, 3) := by decide +kernel
theorem d_Mo_divide_385 : decode b_Mo_divide 385 = .ok (.lstore 17, 2) := by decide +kernel
theorem d_Mo_divide_387 : decode b_Mo_divide 387 = .ok (.iload 8, 2) := by decide +kernel
theorem d_Mo_divide_389 : decode b_Mo_divide 389 = .ok (.ifCond .eq 11, 3) := by decide +kernel
theorem d_Mo_divide_400 : decode b_Mo_divide 400 = .ok (.aload_n 0, 1) := by decide +kernel
theorem d_Mo_divide_401 : decode b_Mo_divide 401 = .ok (.getfield 383, 3) := by decide +kernel
theorem d_Mo_divide_404 : decode b_Mo_divide 404 = .ok (.lstore 19, 2) := by decide +kernel
theorem d_Mo_divide_406 : decode b_Mo_divide 406 = .ok (.iload_n 3, 1) := by decide +kernel
theorem d_Mo_divide_407 : decode b_Mo_divide 407 = .ok (.iconst 1, 1) := by decide +kernel
theorem d_Mo_divide_408 : decode b_Mo_divide 408 = .ok (.if_icmp .ne 28, 3) := by decide +kernel
theorem d_Mo_divide_436 : decode b_Mo_divide 436 = .ok (.aload_n 0, 1) := by decide +kernel
theorem d_Mo_divide_437 : decode b_Mo_divide 437 = .ok (.iconst 0, 1) := by decide +kernel
theorem d_Mo_divide_438 : decode b_Mo_divide 438 = .ok (.iload_n 3, 1) := by decide +kernel
theorem d_Mo_divide_439 : decode b_Mo_divide 439 = .ok (.lload 17, 2) := by decide +kernel
theorem d_Mo_divide_441 : decode b_Mo_divide 441 = .ok (.invokevirtual 189, 3) := by decide +kernel
theorem d_Mo_divide_444 : decode b_Mo_divide 444 = .ok (.aload_n 0, 1) := by decide +kernel
theorem d_Mo_divide_445 : decode b_Mo_divide 445 = .ok (.iconst 2, 1) := by decide +kernel
theorem d_Mo_divide_446 : decode b_Mo_divide 446 = .ok (.iload_n 3, 1) := by decide +kernel
theorem d_Mo_divide_447 : decode b_Mo_divide 447 = .ok (.lload 19, 2) := by decide +kernel
theorem d_Mo_divide_449 : decode b_Mo_divide 449 = .ok (.invokevirtual 189, 3) := by decide +kernel
theorem d_Mo_divide_452 : decode b_Mo_divide 452 = .ok (.iconst 0, 1) := by decide +kernel
theorem d_Mo_divide_453 : decode b_Mo_divide 453 = .ok (.istore 21, 2) := by decide +kernel
theorem d_Mo_divide_455 : decode b_Mo_divide 455 = .ok (.iload 21, 2) := by decide +kernel
theorem d_Mo_divide_457 : decode b_Mo_divide 457 = .ok (.bipush 7, 2) := by decide +kernel
theorem d_Mo_divide_459 : decode b_Mo_divide 459 = .ok (.if_icmp .ge 21, 3) := by decide +kernel
theorem d_Mo_divide_480 : decode b_Mo_divide 480 = .ok (.return_, 1) := by decide +kernel
theorem d_Mo_divide_462 : decode b_Mo_divide 462 = .ok (.iload 21, 2) := by decide +kernel
theorem d_Mo_divide_464 : decode b_Mo_divide 464 = .ok (.iconst 5, 1) := by decide +kernel
theorem d_Mo_divide_465 : decode b_Mo_divide 465 = .ok (.if_icmp .eq 9, 3) := by decide +kernel
theorem d_Mo_divide_474 : decode b_Mo_divide 474 = .ok (.iinc 21 1, 3) := by decide +kernel
theorem d_Mo_divide_477 : decode b_Mo_divide 477 = .ok (.goto (-22), 3) := by decide +kernel
theorem d_Mo_divide_468 : decode b_Mo_divide 468 = .ok (.aload_n 0, 1) := by decide +kernel
theorem d_Mo_divide_469 : decode b_Mo_divide 469 = .ok (.iload 21, 2) := by decide +kernel
theorem d_Mo_divide_471 : decode b_Mo_divide 471 = .ok (.invokevirtual 219, 3) := by decide +kernel
theorem d_Mo_divide_411 : decode b_Mo_divide 411 = .ok (.aload_n 0, 1) := by decide +kernel
theorem d_Mo_divide_412 : decode b_Mo_divide 412 = .ok (.iconst 0, 1) := by decide +kernel
theorem d_Mo_divide_413 : decode b_Mo_divide 413 = .ok (.iconst 2, 1) := by decide +kernel
theorem d_Mo_divide_414 : decode b_Mo_divide 414 = .ok (.lload 19, 2) := by decide +kernel
theorem d_Mo_divide_416 : decode b_Mo_divide 416 = .ok (.iconst 1, 1) := by decide +kernel
theorem d_Mo_divide_417 : decode b_Mo_divide 417 = .ok (.invokestatic 180, 3) := by decide +kernel
theorem d_Mo_divide_420 : decode b_Mo_divide 420 = .ok (.bipush 8, 2) := by decide +kernel
theorem d_Mo_divide_422 : decode b_Mo_divide 422 = .ok (.lshl, 1) := by decide +kernel
theorem d_Mo_divide_423 : decode b_Mo_divide 423 = .ok (.lload 17, 2) := by decide +kernel
theorem d_Mo_divide_425 : decode b_Mo_divide 425 = .ok (.iconst 1, 1) := by decide +kernel
theorem d_Mo_divide_426 : decode b_Mo_divide 426 = .ok (.invokestatic 180, 3) := by decide +kernel
theorem d_Mo_divide_429 : decode b_Mo_divide 429 = .ok (.lor, 1) := by decide +kernel
theorem d_Mo_divide_430 : decode b_Mo_divide 430 = .ok (.invokevirtual 189, 3) := by decide +kernel
theorem d_Mo_divide_433 : decode b_Mo_divide 433 = .ok (.goto 19, 3) := by decide +kernel
theorem d_Mo_divide_392 : decode b_Mo_divide 392 = .ok (.aload_n 0, 1) := by decide +kernel
theorem d_Mo_divide_393 : decode b_Mo_divide 393 = .ok (.getfield 383, 3) := by decide +kernel
theorem d_Mo_divide_396 : decode b_Mo_divide 396 = .ok (.lneg, 1) := by decide +kernel
theorem d_Mo_divide_397 : decode b_Mo_divide 397 = .ok (.goto 7, 3) := by decide +kernel
theorem d_Mo_divide_373 : decode b_Mo_divide 373 = .ok (.aload_n 0, 1) := by decide +kernel
theorem d_Mo_divide_374 : decode b_Mo_divide 374 = .ok (.getfield 380, 3) := by decide +kernel
theorem d_Mo_divide_377 : decode b_Mo_divide 377 = .ok (.lneg, 1) := by decide +kernel
theorem d_Mo_divide_378 : decode b_Mo_divide 378 = .ok (.goto 7, 3) := by decide +kernel
theorem d_Mo_divide_363 : decode b_Mo_divide 363 = .ok (.aload_n 0, 1) := by decide +kernel
theorem d_Mo_divide_364 : decode b_Mo_divide 364 = .ok (.iconst 0, 1) := by decide +kernel
theorem d_Mo_divide_365 : decode b_Mo_divide 365 = .ok (.invokevirtual 81, 3) := by decide +kernel
theorem d_Mo_divide_339 : decode b_Mo_divide 339 = .ok (.iload 11, 2) := by decide +kernel
theorem d_Mo_divide_341 : decode b_Mo_divide 341 = .ok (.ifCond .eq 14, 3) := by decide +kernel
theorem d_Mo_divide_355 : decode b_Mo_divide 355 = .ok (.iconst 0, 1) := by decide +kernel
theorem d_Mo_divide_344 : decode b_Mo_divide 344 = .ok (.lload 14, 2) := by decide +kernel
theorem d_Mo_divide_346 : decode b_Mo_divide 346 = .ok (.lconst 1, 1) := by decide +kernel
theorem d_Mo_divide_347 : decode b_Mo_divide 347 = .ok (.lcmp, 1) := by decide +kernel
theorem d_Mo_divide_348 : decode b_Mo_divide 348 = .ok (.ifCond .ne 7, 3) := by decide +kernel
theorem d_Mo_divide_289 : decode b_Mo_divide 289 = .ok (.iload_n 3, 1) := by decide +kernel
theorem d_Mo_divide_290 : decode b_Mo_divide 290 = .ok (.bipush 8, 2) := by decide +kernel
theorem d_Mo_divide_292 : decode b_Mo_divide 292 = .ok (.if_icmp .eq 21, 3) := by decide +kernel
theorem d_Mo_divide_313 : decode b_Mo_divide 313 = .ok (.iconst 1, 1) := by decide +kernel
theorem d_Mo_divide_314 : decode b_Mo_divide 314 = .ok (.goto 42, 3) := by decide +kernel
theorem d_Mo_divide_295 : decode b_Mo_divide 295 = .ok (.aload_n 0, 1) := by decide +kernel
theorem d_Mo_divide_296 : decode b_Mo_divide 296 = .ok (.getfield 380, 3) := by decide +kernel
theorem d_Mo_divide_299 : decode b_Mo_divide 299 = .ok (.ldc2_w 401, 3) := by decide +kernel
theorem d_Mo_divide_302 : decode b_Mo_divide 302 = .ok (.ladd, 1) := by decide +kernel
theorem d_Mo_divide_303 : decode b_Mo_divide 303 = .ok (.lload 12, 2) := by decide +kernel
theorem d_Mo_divide_305 : decode b_Mo_divide 305 = .ok (.ldc2_w 401, 3) := by decide +kernel
theorem d_Mo_divide_308 : decode b_Mo_divide 308 = .ok (.ladd, 1) := by decide +kernel
theorem d_Mo_divide_309 : decode b_Mo_divide 309 = .ok (.lcmp, 1) := by decide +kernel
theorem d_Mo_divide_310 : decode b_Mo_divide 310 = .ok (.ifCond .gt 7, 3) := by decide +kernel
theorem d_Mo_divide_317 : decode b_Mo_divide 317 = .ok (.iconst 0, 1) := by decide +kernel
theorem d_Mo_divide_318 : decode b_Mo_divide 318 = .ok (.goto 38, 3) := by decide +kernel
theorem d_Mo_divide_267 : decode b_Mo_divide 267 = .ok (.iconst 1, 1) := by decide +kernel
theorem d_Mo_divide_268 : decode b_Mo_divide 268 = .ok (.goto 4, 3) := by decide +kernel
theorem d_Mo_divide_249 : decode b_Mo_divide 249 = .ok (.aload_n 0, 1) := by decide +kernel
theorem d_Mo_divide_250 : decode b_Mo_divide 250 = .ok (.iconst 0, 1) := by decide +kernel
theorem d_Mo_divide_251 : decode b_Mo_divide 251 = .ok (.invokevirtual 81, 3) := by decide +kernel
theorem d_Mo_divide_254 : decode b_Mo_divide 254 = .ok (.return_, 1) := by decide +kernel
theorem d_Mo_divide_226 : decode b_Mo_divide 226 = .ok (.lload 9, 2) := by decide +kernel
theorem d_Mo_divide_228 : decode b_Mo_divide 228 = .ok (.lconst 0, 1) := by decide +kernel
theorem d_Mo_divide_229 : decode b_Mo_divide 229 = .ok (.lcmp, 1) := by decide +kernel
theorem d_Mo_divide_230 : decode b_Mo_divide 230 = .ok (.ifCond .ge 9, 3) := by decide +kernel
theorem d_Mo_divide_233 : decode b_Mo_divide 233 = .ok (.lload 9, 2) := by decide +kernel
theorem d_Mo_divide_235 : decode b_Mo_divide 235 = .ok (.lneg, 1) := by decide +kernel
theorem d_Mo_divide_236 : decode b_Mo_divide 236 = .ok (.goto 5, 3) := by decide +kernel
theorem d_Mo_divide_216 : decode b_Mo_divide 216 = .ok (.aload_n 0, 1) := by decide +kernel
theorem d_Mo_turnSign_0 : decode b_Mo_turnSign 0 = .ok (.aload_n 0, 1) := by decide +kernel
theorem d_Mo_turnSign_1 : decode b_Mo_turnSign 1 = .ok (.aload_n 0, 1) := by decide +kernel
theorem d_Mo_turnSign_2 : decode b_Mo_turnSign 2 = .ok (.getfield 380, 3) := by decide +kernel
theorem d_Mo_turnSign_5 : decode b_Mo_turnSign 5 = .ok (.lneg, 1) := by decide +kernel
theorem d_Mo_turnSign_6 : decode b_Mo_turnSign 6 = .ok (.putfield 380, 3) := by decide +kernel
theorem d_Mo_turnSign_9 : decode b_Mo_turnSign 9 = .ok (.aload_n 0, 1) := by decide +kernel
theorem d_Mo_turnSign_10 : decode b_Mo_turnSign 10 = .ok (.aload_n 0, 1) := by decide +kernel
theorem d_Mo_turnSign_11 : decode b_Mo_turnSign 11 = .ok (.getfield 383, 3) := by decide +kernel
theorem d_Mo_turnSign_14 : decode b_Mo_turnSign 14 = .ok (.ldc2_w 71, 3) := by decide +kernel
theorem d_Mo_turnSign_17 : decode b_Mo_turnSign 17 = .ok (.lxor, 1) := by decide +kernel
theorem d_Mo_turnSign_18 : decode b_Mo_turnSign 18 = .ok (.aload_n 0, 1) := by decide +kernel
theorem d_Mo_turnSign_19 : decode b_Mo_turnSign 19 = .ok (.getfield 380, 3) := by decide +kernel
theorem d_Mo_turnSign_22 : decode b_Mo_turnSign 22 = .ok (.lconst 0, 1) := by decide +kernel
theorem d_Mo_turnSign_23 : decode b_Mo_turnSign 23 = .ok (.lcmp, 1) := by decide +kernel
theorem d_Mo_turnSign_24 : decode b_Mo_turnSign 24 = .ok (.ifCond .ne 7, 3) := by decide +kernel
theorem d_Mo_turnSign_31 : decode b_Mo_turnSign 31 = .ok (.lconst 0, 1) := by decide +kernel
theorem d_Mo_turnSign_32 : decode b_Mo_turnSign 32 = .ok (.ladd, 1) := by decide +kernel
theorem d_Mo_turnSign_33 : decode b_Mo_turnSign 33 = .ok (.putfield 383, 3) := by decide +kernel
theorem d_Mo_turnSign_36 : decode b_Mo_turnSign 36 = .ok (.return_, 1) := by decide +kernel
theorem d_Mo_turnSign_27 : decode b_Mo_turnSign 27 = .ok (.lconst 1, 1) := by decide +kernel
theorem d_Mo_turnSign_28 : decode b_Mo_turnSign 28 = .ok (.goto 4, 3) := by decide +kernel
theorem d_Mo_divide_217 : decode b_Mo_divide 217 = .ok (.invokevirtual 390, 3) := by decide +kernel
theorem d_Mo_divide_204 : decode b_Mo_divide 204 = .ok (.iconst 1, 1) := by decide +kernel
theorem d_Mo_divide_205 : decode b_Mo_divide 205 = .ok (.goto 4, 3) := by decide +kernel
theorem d_Mo_divide_189 : decode b_Mo_divide 189 = .ok (.lload 9, 2) := by decide +kernel
theorem d_Mo_divide_191 : decode b_Mo_divide 191 = .ok (.lconst 0, 1) := by decide +kernel
theorem d_Mo_divide_192 : decode b_Mo_divide 192 = .ok (.lcmp, 1) := by decide +kernel
theorem d_Mo_divide_193 : decode b_Mo_divide 193 = .ok (.ifCond .ge 7, 3) := by decide +kernel
theorem d_Mo_divide_196 : decode b_Mo_divide 196 = .ok (.iconst 1, 1) := by decide +kernel
theorem d_Mo_divide_197 : decode b_Mo_divide 197 = .ok (.goto 4, 3) := by decide +kernel
theorem d_Mo_divide_171 : decode b_Mo_divide 171 = .ok (.lload_n 1, 1) := by decide +kernel
theorem d_Mo_divide_172 : decode b_Mo_divide 172 = .ok (.iload_n 3, 1) := by decide +kernel
theorem d_Mo_divide_173 : decode b_Mo_divide 173 = .ok (.invokestatic 118, 3) := by decide +kernel
theorem d_Mo_divide_176 : decode b_Mo_divide 176 = .ok (.goto 4, 3) := by decide +kernel
theorem d_Mo_divide_150 : decode b_Mo_divide 150 = .ok (.aload_n 0, 1) := by decide +kernel
theorem d_Mo_divide_151 : decode b_Mo_divide 151 = .ok (.getfield 383, 3) := by decide +kernel
theorem d_Mo_divide_154 : decode b_Mo_divide 154 = .ok (.lconst 0, 1) := by decide +kernel
theorem d_Mo_divide_155 : decode b_Mo_divide 155 = .ok (.lcmp, 1) := by decide +kernel
theorem d_Mo_divide_156 : decode b_Mo_divide 156 = .ok (.ifCond .ge 7, 3) := by decide +kernel
theorem d_Mo_divide_159 : decode b_Mo_divide 159 = .ok (.iconst 1, 1) := by decide +kernel
theorem d_Mo_divide_160 : decode b_Mo_divide 160 = .ok (.goto 4, 3) := by decide +kernel
theorem d_Mo_divide_105 : decode b_Mo_divide 105 = .ok (.iload_n 3, 1) := by decide +kernel
theorem d_Mo_divide_106 : decode b_Mo_divide 106 = .ok (.bipush 8, 2) := by decide +kernel
theorem d_Mo_divide_108 : decode b_Mo_divide 108 = .ok (.if_icmp .ge 37, 3) := by decide +kernel
theorem d_Mo_divide_111 : decode b_Mo_divide 111 = .ok (.aload_n 0, 1) := by decide +kernel
theorem d_Mo_divide_112 : decode b_Mo_divide 112 = .ok (.aload_n 0, 1) := by decide +kernel
theorem d_Mo_divide_113 : decode b_Mo_divide 113 = .ok (.getfield 380, 3) := by decide +kernel
theorem d_Mo_divide_116 : decode b_Mo_divide 116 = .ok (.iconst 2, 1) := by decide +kernel
theorem d_Mo_divide_117 : decode b_Mo_divide 117 = .ok (.iload_n 3, 1) := by decide +kernel
theorem d_Mo_divide_118 : decode b_Mo_divide 118 = .ok (.imul, 1) := by decide +kernel
theorem d_Mo_divide_119 : decode b_Mo_divide 119 = .ok (.invokestatic 118, 3) := by decide +kernel
theorem d_Mo_divide_122 : decode b_Mo_divide 122 = .ok (.putfield 380, 3) := by decide +kernel
theorem d_Mo_divide_125 : decode b_Mo_divide 125 = .ok (.aload_n 0, 1) := by decide +kernel
theorem d_Mo_divide_126 : decode b_Mo_divide 126 = .ok (.aload_n 0, 1) := by decide +kernel
theorem d_Mo_divide_127 : decode b_Mo_divide 127 = .ok (.getfield 380, 3) := by decide +kernel
theorem d_Mo_divide_130 : decode b_Mo_divide 130 = .ok (.lconst 0, 1) := by decide +kernel
theorem d_Mo_divide_131 : decode b_Mo_divide 131 = .ok (.lcmp, 1) := by decide +kernel
theorem d_Mo_divide_132 : decode b_Mo_divide 132 = .ok (.ifCond .ge 9, 3) := by decide +kernel
theorem d_Mo_divide_141 : decode b_Mo_divide 141 = .ok (.lconst 0, 1) := by decide +kernel
theorem d_Mo_divide_142 : decode b_Mo_divide 142 = .ok (.putfield 383, 3) := by decide +kernel
theorem d_Mo_divide_135 : decode b_Mo_divide 135 = .ok (.ldc2_w 71, 3) := by decide +kernel
theorem d_Mo_divide_138 : decode b_Mo_divide 138 = .ok (.goto 4, 3) := by decide +kernel
theorem d_Mo_divide_70 : decode b_Mo_divide 70 = .ok (.iload_n 3, 1) := by decide +kernel
theorem d_Mo_divide_71 : decode b_Mo_divide 71 = .ok (.bipush 8, 2) := by decide +kernel
theorem d_Mo_divide_73 : decode b_Mo_divide 73 = .ok (.if_icmp .ne 8, 3) := by decide +kernel
theorem d_Mo_divide_81 : decode b_Mo_divide 81 = .ok (.aload_n 0, 1) := by decide +kernel
theorem d_Mo_divide_82 : decode b_Mo_divide 82 = .ok (.getfield 14, 3) := by decide +kernel
theorem d_Mo_divide_85 : decode b_Mo_divide 85 = .ok (.iconst 2, 1) := by decide +kernel
theorem d_Mo_divide_86 : decode b_Mo_divide 86 = .ok (.laload, 1) := by decide +kernel
theorem d_Mo_divide_87 : decode b_Mo_divide 87 = .ok (.iload_n 3, 1) := by decide +kernel
theorem d_Mo_divide_88 : decode b_Mo_divide 88 = .ok (.invokestatic 180, 3) := by decide +kernel
theorem d_Mo_divide_91 : decode b_Mo_divide 91 = .ok (.iload 5, 2) := by decide +kernel
theorem d_Mo_divide_93 : decode b_Mo_divide 93 = .ok (.lshl, 1) := by decide +kernel
theorem d_Mo_divide_94 : decode b_Mo_divide 94 = .ok (.lload 6, 2) := by decide +kernel
theorem d_Mo_divide_96 : decode b_Mo_divide 96 = .ok (.lor, 1) := by decide +kernel
theorem d_Mo_divide_51 : decode b_Mo_divide 51 = .ok (.aload_n 0, 1) := by decide +kernel
theorem d_Mo_divide_52 : decode b_Mo_divide 52 = .ok (.getfield 14, 3) := by decide +kernel
theorem d_Mo_divide_55 : decode b_Mo_divide 55 = .ok (.iconst 2, 1) := by decide +kernel
theorem d_Mo_divide_56 : decode b_Mo_divide 56 = .ok (.laload, 1) := by decide +kernel
theorem d_Mo_divide_57 : decode b_Mo_divide 57 = .ok (.goto 4, 3) := by decide +kernel
theorem d_Mo_divide_34 : decode b_Mo_divide 34 = .ok (.iconst 2, 1) := by decide +kernel
theorem d_Mo_divide_35 : decode b_Mo_divide 35 = .ok (.goto 4, 3) := by decide +kernel
theorem d_Mo_divide_15 : decode b_Mo_divide 15 = .ok (.aload_n 0, 1) := by decide +kernel
theorem d_Mo_divide_16 : decode b_Mo_divide 16 = .ok (.iconst 0, 1) := by decide +kernel
theorem d_Mo_divide_17 : decode b_Mo_divide 17 = .ok (.invokevirtual 81, 3) := by decide +kernel
theorem d_Mo_divide_20 : decode b_Mo_divide 20 = .ok (.return_, 1) := by decide +kernel
theorem d_Mo_divide_8 : decode b_Mo_divide 8 = .ok (.return_, 1) := by decide +kernel
theorem d_Mo_unary_187 : decode b_Mo_unary 187 = .ok (.invokevirtual 442, 3) := by decide +kernel
theorem d_Mo_unary_190 : decode b_Mo_unary 190 = .ok (.return_, 1) := by decide +kernel
theorem d_Mo_unary_182 : decode b_Mo_unary 182 = .ok (.iconst 1, 1) := by decide +kernel
theorem d_Mo_unary_183 : decode b_Mo_unary 183 = .ok (.goto 4, 3) := by decide +kernel
theorem d_Mo_unary_138 : decode b_Mo_unary 138 = .ok (.aload_n 0, 1) := by decide +kernel
theorem d_Mo_unary_139 : decode b_Mo_unary 139 = .ok (.aload_n 0, 1) := by decide +kernel
theorem d_Mo_unary_140 : decode b_Mo_unary 140 = .ok (.iload_n 1, 1) := by decide +kernel
theorem d_Mo_unary_141 : decode b_Mo_unary 141 = .ok (.iconst 0, 1) := by decide +kernel
theorem d_Mo_unary_142 : decode b_Mo_unary 142 = .ok (.invokevirtual 338, 3) := by decide +kernel
theorem d_Mo_unary_145 : decode b_Mo_unary 145 = .ok (.iload_n 1, 1) := by decide +kernel
theorem d_Mo_unary_146 : decode b_Mo_unary 146 = .ok (.aload_n 0, 1) := by decide +kernel
theorem d_Mo_unary_147 : decode b_Mo_unary 147 = .ok (.getfield 139, 3) := by decide +kernel
theorem d_Mo_unary_150 : decode b_Mo_unary 150 = .ok (.iconst 5, 1) := by decide +kernel
theorem d_Mo_unary_151 : decode b_Mo_unary 151 = .ok (.if_icmp .ne 7, 3) := by decide +kernel
theorem d_Mo_unary_158 : decode b_Mo_unary 158 = .ok (.iconst 0, 1) := by decide +kernel
theorem d_Mo_multiplyOperand_0 : decode b_Mo_multiplyOperand 0 = .ok (.aload_n 0, 1) := by decide +kernel
theorem d_Mo_multiplyOperand_1 : decode b_Mo_multiplyOperand 1 = .ok (.iconst 0, 1) := by decide +kernel
theorem d_Mo_multiplyOperand_2 : decode b_Mo_multiplyOperand 2 = .ok (.iload_n 3, 1) := by decide +kernel
theorem d_Mo_multiplyOperand_3 : decode b_Mo_multiplyOperand 3 = .ok (.invokevirtual 185, 3) := by decide +kernel
theorem d_Mo_multiplyOperand_6 : decode b_Mo_multiplyOperand 6 = .ok (.lstore 5, 2) := by decide +kernel
theorem d_Mo_multiplyOperand_8 : decode b_Mo_multiplyOperand 8 = .ok (.iload 4, 2) := by decide +kernel
theorem d_Mo_multiplyOperand_10 : decode b_Mo_multiplyOperand 10 = .ok (.ifCond .eq 21, 3) := by decide +kernel
theorem d_Mo_multiplyOperand_31 : decode b_Mo_multiplyOperand 31 = .ok (.aload_n 0, 1) := by decide +kernel
theorem d_Mo_multiplyOperand_32 : decode b_Mo_multiplyOperand 32 = .ok (.lload 5, 2) := by decide +kernel
theorem d_Mo_multiplyOperand_34 : decode b_Mo_multiplyOperand 34 = .ok (.lload_n 1, 1) := by decide +kernel
theorem d_Mo_multiply_0 : decode b_Mo_multiply 0 = .ok (.aload_n 0, 1) := by decide +kernel
theorem d_Mo_multiply_1 : decode b_Mo_multiply 1 = .ok (.lconst 0, 1) := by decide +kernel
theorem d_Mo_multiply_2 : decode b_Mo_multiply 2 = .ok (.putfield 380, 3) := by decide +kernel
theorem d_Mo_multiply_5 : decode b_Mo_multiply 5 = .ok (.aload_n 0, 1) := by decide +kernel
theorem d_Mo_multiply_6 : decode b_Mo_multiply 6 = .ok (.lconst 0, 1) := by decide +kernel
theorem d_Mo_multiply_7 : decode b_Mo_multiply 7 = .ok (.putfield 383, 3) := by decide +kernel
theorem d_Mo_multiply_10 : decode b_Mo_multiply 10 = .ok (.lconst 0, 1) := by decide +kernel
theorem d_Mo_multiply_11 : decode b_Mo_multiply 11 = .ok (.lstore 5, 2) := by decide +kernel
theorem d_Mo_multiply_13 : decode b_Mo_multiply 13 = .ok (.lload_n 1, 1) := by decide +kernel
theorem d_Mo_multiply_14 : decode b_Mo_multiply 14 = .ok (.lstore 7, 2) := by decide +kernel
theorem d_Mo_multiply_16 : decode b_Mo_multiply 16 = .ok (.iconst 0, 1) := by decide +kernel
theorem d_Mo_multiply_17 : decode b_Mo_multiply 17 = .ok (.istore 9, 2) := by decide +kernel
theorem d_Mo_multiply_19 : decode b_Mo_multiply 19 = .ok (.iload 9, 2) := by decide +kernel
theorem d_Mo_multiply_21 : decode b_Mo_multiply 21 = .ok (.bipush 64, 2) := by decide +kernel
theorem d_Mo_multiply_23 : decode b_Mo_multiply 23 = .ok (.if_icmp .ge 109, 3) := by decide +kernel
theorem d_Mo_multiply_132 : decode b_Mo_multiply 132 = .ok (.return_, 1) := by decide +kernel
theorem d_Mo_multiply_26 : decode b_Mo_multiply 26 = .ok (.lload_n 3, 1) := by decide +kernel
theorem d_Mo_multiply_27 : decode b_Mo_multiply 27 = .ok (.iload 9, 2) := by decide +kernel
theorem d_Mo_multiply_29 : decode b_Mo_multiply 29 = .ok (.lushr, 1) := by decide +kernel
theorem d_Mo_multiply_30 : decode b_Mo_multiply 30 = .ok (.lconst 1, 1) := by decide +kernel
theorem d_Mo_multiply_31 : decode b_Mo_multiply 31 = .ok (.land, 1) := by decide +kernel
theorem d_Mo_multiply_32 : decode b_Mo_multiply 32 = .ok (.lconst 1, 1) := by decide +kernel
theorem d_Mo_multiply_33 : decode b_Mo_multiply 33 = .ok (.lcmp, 1) := by decide +kernel
theorem d_Mo_multiply_34 : decode b_Mo_multiply 34 = .ok (.ifCond .ne 74, 3) := by decide +kernel
theorem d_Mo_multiply_108 : decode b_Mo_multiply 108 = .ok (.lload 5, 2) := by decide +kernel
theorem d_Mo_multiply_110 : decode b_Mo_multiply 110 = .ok (.iconst 1, 1) := by decide +kernel
theorem d_Mo_multiply_111 : decode b_Mo_multiply 111 = .ok (.lshl, 1) := by decide +kernel
theorem d_Mo_multiply_112 : decode b_Mo_multiply 112 = .ok (.lload 7, 2) := by decide +kernel
theorem d_Mo_multiply_114 : decode b_Mo_multiply 114 = .ok (.bipush 63, 2) := by decide +kernel
theorem d_Mo_multiply_116 : decode b_Mo_multiply 116 = .ok (.lushr, 1) := by decide +kernel
theorem d_Mo_multiply_117 : decode b_Mo_multiply 117 = .ok (.lor, 1) := by decide +kernel
theorem d_Mo_multiply_118 : decode b_Mo_multiply 118 = .ok (.lstore 5, 2) := by decide +kernel
theorem d_Mo_multiply_120 : decode b_Mo_multiply 120 = .ok (.lload 7, 2) := by decide +kernel
theorem d_Mo_multiply_122 : decode b_Mo_multiply 122 = .ok (.iconst 1, 1) := by decide +kernel
theorem d_Mo_multiply_123 : decode b_Mo_multiply 123 = .ok (.lshl, 1) := by decide +kernel
theorem d_Mo_multiply_124 : decode b_Mo_multiply 124 = .ok (.lstore 7, 2) := by decide +kernel
theorem d_Mo_multiply_126 : decode b_Mo_multiply 126 = .ok (.iinc 9 1, 3) := by decide +kernel
theorem d_Mo_multiply_129 : decode b_Mo_multiply 129 = .ok (.goto (-110), 3) := by decide +kernel
theorem d_Mo_multiply_37 : decode b_Mo_multiply 37 = .ok (.aload_n 0, 1) := by decide +kernel
theorem d_Mo_multiply_38 : decode b_Mo_multiply 38 = .ok (.getfield 380, 3) := by decide +kernel
theorem d_Mo_multiply_41 : decode b_Mo_multiply 41 = .ok (.lload 7, 2) := by decide +kernel
theorem d_Mo_multiply_43 : decode b_Mo_multiply 43 = .ok (.ladd, 1) := by decide +kernel
theorem d_Mo_multiply_44 : decode b_Mo_multiply 44 = .ok (.lstore 10, 2) := by decide +kernel
theorem d_Mo_multiply_46 : decode b_Mo_multiply 46 = .ok (.aload_n 0, 1) := by decide +kernel
theorem d_Mo_multiply_47 : decode b_Mo_multiply 47 = .ok (.getfield 380, 3) := by decide +kernel
theorem d_Mo_multiply_50 : decode b_Mo_multiply 50 = .ok (.lload 7, 2) := by decide +kernel
theorem d_Mo_multiply_52 : decode b_Mo_multiply 52 = .ok (.land, 1) := by decide +kernel
theorem d_Mo_multiply_53 : decode b_Mo_multiply 53 = .ok (.aload_n 0, 1) := by decide +kernel
theorem d_Mo_multiply_54 : decode b_Mo_multiply 54 = .ok (.getfield 380, 3) := by decide +kernel
theorem d_Mo_multiply_57 : decode b_Mo_multiply 57 = .ok (.lload 7, 2) := by decide +kernel
theorem d_Mo_multiply_59 : decode b_Mo_multiply 59 = .ok (.lor, 1) := by decide +kernel
theorem d_Mo_multiply_60 : decode b_Mo_multiply 60 = .ok (.lload 10, 2) := by decide +kernel
theorem d_Mo_multiply_62 : decode b_Mo_multiply 62 = .ok (.ldc2_w 71, 3) := by decide +kernel
theorem d_Mo_multiply_65 : decode b_Mo_multiply 65 = .ok (.lxor, 1) := by decide +kernel
theorem d_Mo_multiply_66 : decode b_Mo_multiply 66 = .ok (.land, 1) := by decide +kernel
theorem d_Mo_multiply_67 : decode b_Mo_multiply 67 = .ok (.lor, 1) := by decide +kernel
theorem d_Mo_multiply_68 : decode b_Mo_multiply 68 = .ok (.lconst 0, 1) := by decide +kernel
theorem d_Mo_multiply_69 : decode b_Mo_multiply 69 = .ok (.lcmp, 1) := by decide +kernel
theorem d_Mo_multiply_70 : decode b_Mo_multiply 70 = .ok (.ifCond .ge 7, 3) := by decide +kernel
theorem d_Mo_multiply_77 : decode b_Mo_multiply 77 = .ok (.iconst 0, 1) := by decide +kernel
theorem d_Mo_multiply_78 : decode b_Mo_multiply 78 = .ok (.istore 12, 2) := by decide +kernel
theorem d_Mo_multiply_80 : decode b_Mo_multiply 80 = .ok (.aload_n 0, 1) := by decide +kernel
theorem d_Mo_multiply_81 : decode b_Mo_multiply 81 = .ok (.dup, 1) := by decide +kernel
theorem d_Mo_multiply_82 : decode b_Mo_multiply 82 = .ok (.getfield 383, 3) := by decide +kernel
theorem d_Mo_multiply_85 : decode b_Mo_multiply 85 = .ok (.lload 5, 2) := by decide +kernel
theorem d_Mo_multiply_87 : decode b_Mo_multiply 87 = .ok (.iload 12, 2) := by decide +kernel
theorem d_Mo_multiply_89 : decode b_Mo_multiply 89 = .ok (.ifCond .eq 7, 3) := by decide +kernel
theorem d_Mo_multiply_96 : decode b_Mo_multiply 96 = .ok (.lconst 0, 1) := by decide +kernel
theorem d_Mo_multiply_97 : decode b_Mo_multiply 97 = .ok (.ladd, 1) := by decide +kernel
theorem d_Mo_multiply_98 : decode b_Mo_multiply 98 = .ok (.ladd, 1) := by decide +kernel
theorem d_Mo_multiply_99 : decode b_Mo_multiply 99 = .ok (.putfield 383, 3) := by decide +kernel
theorem d_Mo_multiply_102 : decode b_Mo_multiply 102 = .ok (.aload_n 0, 1) := by decide +kernel
theorem d_Mo_multiply_103 : decode b_Mo_multiply 103 = .ok (.lload 10, 2) := by decide +kernel
theorem d_Mo_multiply_105 : decode b_Mo_multiply 105 = .ok (.putfield 380, 3) := by decide +kernel
theorem d_Mo_multiply_92 : decode b_Mo_multiply 92 = .ok (.lconst 1, 1) := by decide +kernel
theorem d_Mo_multiply_93 : decode b_Mo_multiply 93 = .ok (.goto 4, 3) := by decide +kernel
theorem d_Mo_multiply_73 : decode b_Mo_multiply 73 = .ok (.iconst 1, 1) := by decide +kernel
theorem d_Mo_multiply_74 : decode b_Mo_multiply 74 = .ok (.goto 4, 3) := by decide +kernel
theorem d_Mo_multiplyOperand_35 : decode b_Mo_multiplyOperand 35 = .ok (.invokevirtual 386, 3) := by decide +kernel
theorem d_Mo_multiplyOperand_38 : decode b_Mo_multiplyOperand 38 = .ok (.aload_n 0, 1) := by decide +kernel
theorem d_Mo_multiplyOperand_39 : decode b_Mo_multiplyOperand 39 = .ok (.getfield 380, 3) := by decide +kernel
theorem d_Mo_multiplyOperand_42 : decode b_Mo_multiplyOperand 42 = .ok (.iload_n 3, 1) := by decide +kernel
theorem d_Mo_multiplyOperand_43 : decode b_Mo_multiplyOperand 43 = .ok (.invokestatic 180, 3) := by decide +kernel
theorem d_Mo_multiplyOperand_46 : decode b_Mo_multiplyOperand 46 = .ok (.lstore 7, 2) := by decide +kernel
theorem d_Mo_multiplyOperand_48 : decode b_Mo_multiplyOperand 48 = .ok (.iload_n 3, 1) := by decide +kernel
theorem d_Mo_multiplyOperand_49 : decode b_Mo_multiplyOperand 49 = .ok (.bipush 8, 2) := by decide +kernel
theorem d_Mo_multiplyOperand_51 : decode b_Mo_multiplyOperand 51 = .ok (.if_icmp .ne 10, 3) := by decide +kernel
theorem d_Mo_multiplyOperand_61 : decode b_Mo_multiplyOperand 61 = .ok (.aload_n 0, 1) := by decide +kernel
theorem d_Mo_multiplyOperand_62 : decode b_Mo_multiplyOperand 62 = .ok (.getfield 380, 3) := by decide +kernel
theorem d_Mo_multiplyOperand_65 : decode b_Mo_multiplyOperand 65 = .ok (.bipush 8, 2) := by decide +kernel
theorem d_Mo_multiplyOperand_67 : decode b_Mo_multiplyOperand 67 = .ok (.iload_n 3, 1) := by decide +kernel
theorem d_Mo_multiplyOperand_68 : decode b_Mo_multiplyOperand 68 = .ok (.imul, 1) := by decide +kernel
theorem d_Mo_multiplyOperand_69 : decode b_Mo_multiplyOperand 69 = .ok (.lushr, 1) := by decide +kernel
theorem d_Mo_multiplyOperand_70 : decode b_Mo_multiplyOperand 70 = .ok (.iload_n 3, 1) := by decide +kernel
theorem d_Mo_multiplyOperand_71 : decode b_Mo_multiplyOperand 71 = .ok (.invokestatic 180, 3) := by decide +kernel
theorem d_Mo_multiplyOperand_74 : decode b_Mo_multiplyOperand 74 = .ok (.lstore 9, 2) := by decide +kernel
theorem d_Mo_multiplyOperand_76 : decode b_Mo_multiplyOperand 76 = .ok (.iload_n 3, 1) := by decide +kernel
theorem d_Mo_multiplyOperand_77 : decode b_Mo_multiplyOperand 77 = .ok (.iconst 1, 1) := by decide +kernel
theorem d_Mo_multiplyOperand_78 : decode b_Mo_multiplyOperand 78 = .ok (.if_icmp .ne 17, 3) := by decide +kernel
theorem d_Mo_multiplyOperand_95 : decode b_Mo_multiplyOperand 95 = .ok (.iload_n 3, 1) := by decide +kernel
theorem d_Mo_multiplyOperand_96 : decode b_Mo_multiplyOperand 96 = .ok (.iconst 1, 1) := by decide +kernel
theorem d_Mo_multiplyOperand_97 : decode b_Mo_multiplyOperand 97 = .ok (.if_icmp .le 11, 3) := by decide +kernel
theorem d_Mo_multiplyOperand_108 : decode b_Mo_multiplyOperand 108 = .ok (.iload_n 3, 1) := by decide +kernel
theorem d_Mo_multiplyOperand_109 : decode b_Mo_multiplyOperand 109 = .ok (.iconst 1, 1) := by decide +kernel
theorem d_Mo_multiplyOperand_110 : decode b_Mo_multiplyOperand 110 = .ok (.if_icmp .le 11, 3) := by decide +kernel
theorem d_Mo_multiplyOperand_121 : decode b_Mo_multiplyOperand 121 = .ok (.aload_n 0, 1) := by decide +kernel
theorem d_Mo_multiplyOperand_122 : decode b_Mo_multiplyOperand 122 = .ok (.lload 9, 2) := by decide +kernel
theorem d_Mo_multiplyOperand_124 : decode b_Mo_multiplyOperand 124 = .ok (.iload 4, 2) := by decide +kernel
theorem d_Mo_multiplyOperand_126 : decode b_Mo_multiplyOperand 126 = .ok (.ifCond .eq 22, 3) := by decide +kernel
theorem d_Mo_multiplyOperand_148 : decode b_Mo_multiplyOperand 148 = .ok (.lconst 0, 1) := by decide +kernel
theorem d_Mo_multiplyOperand_149 : decode b_Mo_multiplyOperand 149 = .ok (.lcmp, 1) := by decide +kernel
theorem d_Mo_multiplyOperand_150 : decode b_Mo_multiplyOperand 150 = .ok (.ifCond .eq 7, 3) := by decide +kernel
theorem d_Mo_multiplyOperand_157 : decode b_Mo_multiplyOperand 157 = .ok (.iconst 0, 1) := by decide +kernel
theorem d_Mo_muchFlags_0 : decode b_Mo_muchFlags 0 = .ok (.aload_n 0, 1) := by decide +kernel
theorem d_Mo_muchFlags_1 : decode b_Mo_muchFlags 1 = .ok (.getfield 21, 3) := by decide +kernel
theorem d_Mo_muchFlags_4 : decode b_Mo_muchFlags 4 = .ok (.iconst 0, 1) := by decide +kernel
theorem d_Mo_muchFlags_5 : decode b_Mo_muchFlags 5 = .ok (.iload_n 1, 1) := by decide +kernel
theorem d_Mo_muchFlags_6 : decode b_Mo_muchFlags 6 = .ok (.bastore, 1) := by decide +kernel
theorem d_Mo_muchFlags_7 : decode b_Mo_muchFlags 7 = .ok (.aload_n 0, 1) := by decide +kernel
theorem d_Mo_muchFlags_8 : decode b_Mo_muchFlags 8 = .ok (.getfield 21, 3) := by decide +kernel
theorem d_Mo_muchFlags_11 : decode b_Mo_muchFlags 11 = .ok (.bipush 6, 2) := by decide +kernel
theorem d_Mo_muchFlags_13 : decode b_Mo_muchFlags 13 = .ok (.iload_n 1, 1) := by decide +kernel
theorem d_Mo_muchFlags_14 : decode b_Mo_muchFlags 14 = .ok (.bastore, 1) := by decide +kernel
theorem d_Mo_muchFlags_15 : decode b_Mo_muchFlags 15 = .ok (.aload_n 0, 1) := by decide +kernel
theorem d_Mo_muchFlags_16 : decode b_Mo_muchFlags 16 = .ok (.iconst 4, 1) := by decide +kernel
theorem d_Mo_muchFlags_17 : decode b_Mo_muchFlags 17 = .ok (.invokevirtual 219, 3) := by decide +kernel
theorem d_Mo_muchFlags_20 : decode b_Mo_muchFlags 20 = .ok (.aload_n 0, 1) := by decide +kernel
theorem d_Mo_muchFlags_21 : decode b_Mo_muchFlags 21 = .ok (.iconst 3, 1) := by decide +kernel
theorem d_Mo_muchFlags_22 : decode b_Mo_muchFlags 22 = .ok (.invokevirtual 219, 3) := by decide +kernel
theorem d_Mo_muchFlags_25 : decode b_Mo_muchFlags 25 = .ok (.aload_n 0, 1) := by decide +kernel
theorem d_Mo_muchFlags_26 : decode b_Mo_muchFlags 26 = .ok (.iconst 2, 1) := by decide +kernel
theorem d_Mo_muchFlags_27 : decode b_Mo_muchFlags 27 = .ok (.invokevirtual 219, 3) := by decide +kernel
theorem d_Mo_muchFlags_30 : decode b_Mo_muchFlags 30 = .ok (.aload_n 0, 1) := by decide +kernel
theorem d_Mo_muchFlags_31 : decode b_Mo_muchFlags 31 = .ok (.iconst 1, 1) := by decide +kernel
theorem d_Mo_muchFlags_32 : decode b_Mo_muchFlags 32 = .ok (.invokevirtual 219, 3) := by decide +kernel
theorem d_Mo_muchFlags_35 : decode b_Mo_muchFlags 35 = .ok (.return_, 1) := by decide +kernel
theorem d_Mo_multiplyOperand_158 : decode b_Mo_multiplyOperand 158 = .ok (.invokevirtual 396, 3) := by decide +kernel
theorem d_Mo_multiplyOperand_161 : decode b_Mo_multiplyOperand 161 = .ok (.return_, 1) := by decide +kernel
theorem d_Mo_multiplyOperand_153 : decode b_Mo_multiplyOperand 153 = .ok (.iconst 1, 1) := by decide +kernel
theorem d_Mo_multiplyOperand_154 : decode b_Mo_multiplyOperand 154 = .ok (.goto 4, 3) := by decide +kernel
theorem d_Mo_multiplyOperand_129 : decode b_Mo_multiplyOperand 129 = .ok (.lload 7, 2) := by decide +kernel
theorem d_Mo_multiplyOperand_131 : decode b_Mo_multiplyOperand 131 = .ok (.iload_n 3, 1) := by decide +kernel
theorem d_Mo_multiplyOperand_132 : decode b_Mo_multiplyOperand 132 = .ok (.invokestatic 212, 3) := by decide +kernel
theorem d_Mo_multiplyOperand_135 : decode b_Mo_multiplyOperand 135 = .ok (.ifCond .eq 13, 3) := by decide +kernel
theorem d_Mo_multiplyOperand_138 : decode b_Mo_multiplyOperand 138 = .ok (.ldc2_w 71, 3) := by decide +kernel
theorem d_Mo_multiplyOperand_141 : decode b_Mo_multiplyOperand 141 = .ok (.iload_n 3, 1) := by decide +kernel
theorem d_Mo_multiplyOperand_142 : decode b_Mo_multiplyOperand 142 = .ok (.invokestatic 180, 3) := by decide +kernel
theorem d_Mo_multiplyOperand_145 : decode b_Mo_multiplyOperand 145 = .ok (.goto 4, 3) := by decide +kernel
theorem d_Mo_multiplyOperand_113 : decode b_Mo_multiplyOperand 113 = .ok (.aload_n 0, 1) := by decide +kernel
theorem d_Mo_multiplyOperand_114 : decode b_Mo_multiplyOperand 114 = .ok (.iconst 2, 1) := by decide +kernel
theorem d_Mo_multiplyOperand_115 : decode b_Mo_multiplyOperand 115 = .ok (.iload_n 3, 1) := by decide +kernel
theorem d_Mo_multiplyOperand_116 : decode b_Mo_multiplyOperand 116 = .ok (.lload 9, 2) := by decide +kernel
theorem d_Mo_multiplyOperand_118 : decode b_Mo_multiplyOperand 118 = .ok (.invokevirtual 189, 3) := by decide +kernel
theorem d_Mo_multiplyOperand_100 : decode b_Mo_multiplyOperand 100 = .ok (.aload_n 0, 1) := by decide +kernel
theorem d_Mo_multiplyOperand_101 : decode b_Mo_multiplyOperand 101 = .ok (.iconst 0, 1) := by decide +kernel
theorem d_Mo_multiplyOperand_102 : decode b_Mo_multiplyOperand 102 = .ok (.iload_n 3, 1) := by decide +kernel
theorem d_Mo_multiplyOperand_103 : decode b_Mo_multiplyOperand 103 = .ok (.lload 7, 2) := by decide +kernel
theorem d_Mo_multiplyOperand_105 : decode b_Mo_multiplyOperand 105 = .ok (.invokevirtual 189, 3) := by decide +kernel
theorem d_Mo_multiplyOperand_81 : decode b_Mo_multiplyOperand 81 = .ok (.aload_n 0, 1) := by decide +kernel
theorem d_Mo_multiplyOperand_82 : decode b_Mo_multiplyOperand 82 = .ok (.iconst 0, 1) := by decide +kernel
theorem d_Mo_multiplyOperand_83 : decode b_Mo_multiplyOperand 83 = .ok (.iconst 2, 1) := by decide +kernel
theorem d_Mo_multiplyOperand_84 : decode b_Mo_multiplyOperand 84 = .ok (.lload 9, 2) := by decide +kernel
theorem d_Mo_multiplyOperand_86 : decode b_Mo_multiplyOperand 86 = .ok (.bipush 8, 2) := by decide +kernel
theorem d_Mo_multiplyOperand_88 : decode b_Mo_multiplyOperand 88 = .ok (.lshl, 1) := by decide +kernel
theorem d_Mo_multiplyOperand_89 : decode b_Mo_multiplyOperand 89 = .ok (.lload 7, 2) := by decide +kernel
theorem d_Mo_multiplyOperand_91 : decode b_Mo_multiplyOperand 91 = .ok (.lor, 1) := by decide +kernel
theorem d_Mo_multiplyOperand_92 : decode b_Mo_multiplyOperand 92 = .ok (.invokevirtual 189, 3) := by decide +kernel
theorem d_Mo_multiplyOperand_54 : decode b_Mo_multiplyOperand 54 = .ok (.aload_n 0, 1) := by decide +kernel
theorem d_Mo_multiplyOperand_55 : decode b_Mo_multiplyOperand 55 = .ok (.getfield 383, 3) := by decide +kernel
theorem d_Mo_multiplyOperand_58 : decode b_Mo_multiplyOperand 58 = .ok (.goto 16, 3) := by decide +kernel
theorem d_Mo_multiplyOperand_13 : decode b_Mo_multiplyOperand 13 = .ok (.aload_n 0, 1) := by decide +kernel
theorem d_Mo_multiplyOperand_14 : decode b_Mo_multiplyOperand 14 = .ok (.lload 5, 2) := by decide +kernel
theorem d_Mo_multiplyOperand_16 : decode b_Mo_multiplyOperand 16 = .ok (.iload_n 3, 1) := by decide +kernel
theorem d_Mo_multiplyOperand_17 : decode b_Mo_multiplyOperand 17 = .ok (.invokestatic 118, 3) := by decide +kernel
theorem d_Mo_multiplyOperand_20 : decode b_Mo_multiplyOperand 20 = .ok (.lload_n 1, 1) := by decide +kernel
theorem d_Mo_multiplyOperand_21 : decode b_Mo_multiplyOperand 21 = .ok (.iload_n 3, 1) := by decide +kernel
theorem d_Mo_multiplyOperand_22 : decode b_Mo_multiplyOperand 22 = .ok (.invokestatic 118, 3) := by decide +kernel
theorem d_Mo_multiplySigned_0 : decode b_Mo_multiplySigned 0 = .ok (.aload_n 0, 1) := by decide +kernel
theorem d_Mo_multiplySigned_1 : decode b_Mo_multiplySigned 1 = .ok (.lload_n 1, 1) := by decide +kernel
theorem d_Mo_multiplySigned_2 : decode b_Mo_multiplySigned 2 = .ok (.lconst 0, 1) := by decide +kernel
theorem d_Mo_multiplySigned_3 : decode b_Mo_multiplySigned 3 = .ok (.lcmp, 1) := by decide +kernel
theorem d_Mo_multiplySigned_4 : decode b_Mo_multiplySigned 4 = .ok (.ifCond .ge 8, 3) := by decide +kernel
theorem d_Mo_multiplySigned_12 : decode b_Mo_multiplySigned 12 = .ok (.lload_n 1, 1) := by decide +kernel
theorem d_Mo_multiplySigned_13 : decode b_Mo_multiplySigned 13 = .ok (.lload_n 3, 1) := by decide +kernel
theorem d_Mo_multiplySigned_14 : decode b_Mo_multiplySigned 14 = .ok (.lconst 0, 1) := by decide +kernel
theorem d_Mo_multiplySigned_15 : decode b_Mo_multiplySigned 15 = .ok (.lcmp, 1) := by decide +kernel
theorem d_Mo_multiplySigned_16 : decode b_Mo_multiplySigned 16 = .ok (.ifCond .ge 8, 3) := by decide +kernel
theorem d_Mo_multiplySigned_24 : decode b_Mo_multiplySigned 24 = .ok (.lload_n 3, 1) := by decide +kernel
theorem d_Mo_multiplySigned_25 : decode b_Mo_multiplySigned 25 = .ok (.invokevirtual 386, 3) := by decide +kernel
theorem d_Mo_multiplySigned_28 : decode b_Mo_multiplySigned 28 = .ok (.lload_n 1, 1) := by decide +kernel
theorem d_Mo_multiplySigned_29 : decode b_Mo_multiplySigned 29 = .ok (.lconst 0, 1) := by decide +kernel
theorem d_Mo_multiplySigned_30 : decode b_Mo_multiplySigned 30 = .ok (.lcmp, 1) := by decide +kernel
theorem d_Mo_multiplySigned_31 : decode b_Mo_multiplySigned 31 = .ok (.ifCond .ge 7, 3) := by decide +kernel
theorem d_Mo_multiplySigned_38 : decode b_Mo_multiplySigned 38 = .ok (.iconst 0, 1) := by decide +kernel
theorem d_Mo_multiplySigned_39 : decode b_Mo_multiplySigned 39 = .ok (.lload_n 3, 1) := by decide +kernel
theorem d_Mo_multiplySigned_40 : decode b_Mo_multiplySigned 40 = .ok (.lconst 0, 1) := by decide +kernel
theorem d_Mo_multiplySigned_41 : decode b_Mo_multiplySigned 41 = .ok (.lcmp, 1) := by decide +kernel
theorem d_Mo_multiplySigned_42 : decode b_Mo_multiplySigned 42 = .ok (.ifCond .ge 7, 3) := by decide +kernel
theorem d_Mo_multiplySigned_49 : decode b_Mo_multiplySigned 49 = .ok (.iconst 0, 1) := by decide +kernel
theorem d_Mo_multiplySigned_50 : decode b_Mo_multiplySigned 50 = .ok (.if_icmp .eq 7, 3) := by decide +kernel
theorem d_Mo_multiplySigned_57 : decode b_Mo_multiplySigned 57 = .ok (.return_, 1) := by decide +kernel
theorem d_Mo_multiplySigned_53 : decode b_Mo_multiplySigned 53 = .ok (.aload_n 0, 1) := by decide +kernel
theorem d_Mo_multiplySigned_54 : decode b_Mo_multiplySigned 54 = .ok (.invokevirtual 390, 3) := by decide +kernel
theorem d_Mo_multiplySigned_45 : decode b_Mo_multiplySigned 45 = .ok (.iconst 1, 1) := by decide +kernel
theorem d_Mo_multiplySigned_46 : decode b_Mo_multiplySigned 46 = .ok (.goto 4, 3) := by decide +kernel
theorem d_Mo_multiplySigned_34 : decode b_Mo_multiplySigned 34 = .ok (.iconst 1, 1) := by decide +kernel
theorem d_Mo_multiplySigned_35 : decode b_Mo_multiplySigned 35 = .ok (.goto 4, 3) := by decide +kernel
theorem d_Mo_multiplySigned_19 : decode b_Mo_multiplySigned 19 = .ok (.lload_n 3, 1) := by decide +kernel
theorem d_Mo_multiplySigned_20 : decode b_Mo_multiplySigned 20 = .ok (.lneg, 1) := by decide +kernel
theorem d_Mo_multiplySigned_21 : decode b_Mo_multiplySigned 21 = .ok (.goto 4, 3) := by decide +kernel
theorem d_Mo_multiplySigned_7 : decode b_Mo_multiplySigned 7 = .ok (.lload_n 1, 1) := by decide +kernel
theorem d_Mo_multiplySigned_8 : decode b_Mo_multiplySigned 8 = .ok (.lneg, 1) := by decide +kernel
theorem d_Mo_multiplySigned_9 : decode b_Mo_multiplySigned 9 = .ok (.goto 4, 3) := by decide +kernel
theorem d_Mo_multiplyOperand_25 : decode b_Mo_multiplyOperand 25 = .ok (.invokevirtual 393, 3) := by decide +kernel
theorem d_Mo_multiplyOperand_28 : decode b_Mo_multiplyOperand 28 = .ok (.goto 10, 3) := by decide +kernel
theorem d_Mo_unary_159 : decode b_Mo_unary 159 = .ok (.invokevirtual 438, 3) := by decide +kernel
theorem d_Mo_unary_162 : decode b_Mo_unary 162 = .ok (.goto 28, 3) := by decide +kernel
theorem d_Mo_unary_154 : decode b_Mo_unary 154 = .ok (.iconst 1, 1) := by decide +kernel
theorem d_Mo_unary_155 : decode b_Mo_unary 155 = .ok (.goto 4, 3) := by decide +kernel
theorem d_Mo_unary_107 : decode b_Mo_unary 107 = .ok (.aload_n 0, 1) := by decide +kernel
theorem d_Mo_unary_108 : decode b_Mo_unary 108 = .ok (.iload_n 1, 1) := by decide +kernel
theorem d_Mo_unary_109 : decode b_Mo_unary 109 = .ok (.aload_n 0, 1) := by decide +kernel
theorem d_Mo_unary_110 : decode b_Mo_unary 110 = .ok (.lconst 0, 1) := by decide +kernel
theorem d_Mo_unary_111 : decode b_Mo_unary 111 = .ok (.aload_n 0, 1) := by decide +kernel
theorem d_Mo_unary_112 : decode b_Mo_unary 112 = .ok (.iload_n 1, 1) := by decide +kernel
theorem d_Mo_unary_113 : decode b_Mo_unary 113 = .ok (.iconst 1, 1) := by decide +kernel
theorem d_Mo_unary_114 : decode b_Mo_unary 114 = .ok (.invokevirtual 338, 3) := by decide +kernel
theorem d_Mo_unary_117 : decode b_Mo_unary 117 = .ok (.iconst 0, 1) := by decide +kernel
theorem d_Mo_unary_118 : decode b_Mo_unary 118 = .ok (.iconst 1, 1) := by decide +kernel
theorem d_Mo_unary_119 : decode b_Mo_unary 119 = .ok (.iload_n 1, 1) := by decide +kernel
theorem d_Mo_unary_120 : decode b_Mo_unary 120 = .ok (.invokevirtual 225, 3) := by decide +kernel
theorem d_Mo_unary_123 : decode b_Mo_unary 123 = .ok (.invokevirtual 348, 3) := by decide +kernel
theorem d_Mo_unary_126 : decode b_Mo_unary 126 = .ok (.goto 64, 3) := by decide +kernel
theorem d_Mo_unary_81 : decode b_Mo_unary 81 = .ok (.aload_n 0, 1) := by decide +kernel
theorem d_Mo_unary_82 : decode b_Mo_unary 82 = .ok (.iload_n 1, 1) := by decide +kernel
theorem d_Mo_unary_83 : decode b_Mo_unary 83 = .ok (.aload_n 0, 1) := by decide +kernel
theorem d_Mo_unary_84 : decode b_Mo_unary 84 = .ok (.iload_n 1, 1) := by decide +kernel
theorem d_Mo_unary_85 : decode b_Mo_unary 85 = .ok (.iconst 1, 1) := by decide +kernel
theorem d_Mo_unary_86 : decode b_Mo_unary 86 = .ok (.invokevirtual 338, 3) := by decide +kernel
theorem d_Mo_unary_89 : decode b_Mo_unary 89 = .ok (.ldc2_w 71, 3) := by decide +kernel
theorem d_Mo_unary_92 : decode b_Mo_unary 92 = .ok (.lxor, 1) := by decide +kernel
theorem d_Mo_unary_93 : decode b_Mo_unary 93 = .ok (.invokevirtual 348, 3) := by decide +kernel
theorem d_Mo_unary_96 : decode b_Mo_unary 96 = .ok (.goto 94, 3) := by decide +kernel
theorem d_Mo_unary_43 : decode b_Mo_unary 43 = .ok (.aload_n 0, 1) := by decide +kernel
theorem d_Mo_unary_44 : decode b_Mo_unary 44 = .ok (.iload_n 1, 1) := by decide +kernel
theorem d_Mo_unary_45 : decode b_Mo_unary 45 = .ok (.invokestatic 370, 3) := by decide +kernel
theorem d_Mo_unary_48 : decode b_Mo_unary 48 = .ok (.invokevirtual 373, 3) := by decide +kernel
theorem d_Mo_unary_51 : decode b_Mo_unary 51 = .ok (.iload_n 1, 1) := by decide +kernel
theorem d_Mo_unary_52 : decode b_Mo_unary 52 = .ok (.invokestatic 180, 3) := by decide +kernel
theorem d_Mo_unary_55 : decode b_Mo_unary 55 = .ok (.lstore_n 2, 1) := by decide +kernel
theorem d_Mo_unary_56 : decode b_Mo_unary 56 = .ok (.aload_n 0, 1) := by decide +kernel
theorem d_Mo_unary_57 : decode b_Mo_unary 57 = .ok (.aload_n 0, 1) := by decide +kernel
theorem d_Mo_unary_58 : decode b_Mo_unary 58 = .ok (.iload_n 1, 1) := by decide +kernel
theorem d_Mo_unary_59 : decode b_Mo_unary 59 = .ok (.iconst 0, 1) := by decide +kernel
theorem d_Mo_unary_60 : decode b_Mo_unary 60 = .ok (.invokevirtual 338, 3) := by decide +kernel
theorem d_Mo_unary_63 : decode b_Mo_unary 63 = .ok (.lload_n 2, 1) := by decide +kernel
theorem d_Mo_unary_64 : decode b_Mo_unary 64 = .ok (.land, 1) := by decide +kernel
theorem d_Mo_unary_65 : decode b_Mo_unary 65 = .ok (.iload_n 1, 1) := by decide +kernel
theorem d_Mo_unary_66 : decode b_Mo_unary 66 = .ok (.invokevirtual 222, 3) := by decide +kernel
theorem d_Mo_unary_69 : decode b_Mo_unary 69 = .ok (.pop2, 1) := by decide +kernel
theorem d_Mo_unary_70 : decode b_Mo_unary 70 = .ok (.goto 120, 3) := by decide +kernel
theorem d_Mo_unary_12 : decode b_Mo_unary 12 = .ok (.aload_n 0, 1) := by decide +kernel
theorem d_Mo_unary_13 : decode b_Mo_unary 13 = .ok (.bipush 6, 2) := by decide +kernel
theorem d_Mo_unary_15 : decode b_Mo_unary 15 = .ok (.invokevirtual 81, 3) := by decide +kernel
theorem d_Mo_first_381 : decode b_Mo_first 381 = .ok (.invokevirtual 280, 3) := by decide +kernel
theorem d_Mo_first_384 : decode b_Mo_first 384 = .ok (.goto 31, 3) := by decide +kernel
theorem d_Mo_first_372 : decode b_Mo_first 372 = .ok (.iload_n 1, 1) := by decide +kernel
theorem d_Mo_first_373 : decode b_Mo_first 373 = .ok (.sipush 247, 3) := by decide +kernel
theorem d_Mo_first_376 : decode b_Mo_first 376 = .ok (.if_icmp .ne 11, 3) := by decide +kernel
theorem d_Mo_first_387 : decode b_Mo_first 387 = .ok (.iload_n 1, 1) := by decide +kernel
theorem d_Mo_first_388 : decode b_Mo_first 388 = .ok (.sipush 254, 3) := by decide +kernel
theorem d_Mo_first_391 : decode b_Mo_first 391 = .ok (.if_icmp .eq 10, 3) := by decide +kernel
theorem d_Mo_first_401 : decode b_Mo_first 401 = .ok (.aload_n 0, 1) := by decide +kernel
theorem d_Mo_first_402 : decode b_Mo_first 402 = .ok (.iload_n 2, 1) := by decide +kernel
theorem d_Mo_more_0 : decode b_Mo_more 0 = .ok (.aload_n 0, 1) := by decide +kernel
theorem d_Mo_more_1 : decode b_Mo_more 1 = .ok (.invokevirtual 167, 3) := by decide +kernel
theorem d_Mo_more_4 : decode b_Mo_more 4 = .ok (.aload_n 0, 1) := by decide +kernel
theorem d_Mo_more_5 : decode b_Mo_more 5 = .ok (.getfield 139, 3) := by decide +kernel
theorem d_Mo_more_8 : decode b_Mo_more 8 = .ok (.iconst 2, 1) := by decide +kernel
theorem d_Mo_more_9 : decode b_Mo_more 9 = .ok (.if_icmp .lt 40, 3) := by decide +kernel
theorem d_Mo_more_49 : decode b_Mo_more 49 = .ok (.iconst 1, 1) := by decide +kernel
theorem d_Mo_more_50 : decode b_Mo_more 50 = .ok (.goto 4, 3) := by decide +kernel
theorem d_Mo_more_54 : decode b_Mo_more 54 = .ok (.istore_n 2, 1) := by decide +kernel
theorem d_Mo_more_55 : decode b_Mo_more 55 = .ok (.iload_n 2, 1) := by decide +kernel
theorem d_Mo_more_56 : decode b_Mo_more 56 = .ok (.ifCond .ne 9, 3) := by decide +kernel
theorem d_Mo_more_65 : decode b_Mo_more 65 = .ok (.aload_n 0, 1) := by decide +kernel
theorem d_Mo_more_66 : decode b_Mo_more 66 = .ok (.invokevirtual 170, 3) := by decide +kernel
theorem d_Mo_more_69 : decode b_Mo_more 69 = .ok (.aload_n 0, 1) := by decide +kernel
theorem d_Mo_more_70 : decode b_Mo_more 70 = .ok (.aload_n 0, 1) := by decide +kernel
theorem d_Mo_more_71 : decode b_Mo_more 71 = .ok (.getfield 111, 3) := by decide +kernel
theorem d_Mo_more_74 : decode b_Mo_more 74 = .ok (.aload_n 0, 1) := by decide +kernel
theorem d_Mo_more_75 : decode b_Mo_more 75 = .ok (.getfield 108, 3) := by decide +kernel
theorem d_Mo_more_78 : decode b_Mo_more 78 = .ok (.i2l, 1) := by decide +kernel
theorem d_Mo_more_79 : decode b_Mo_more 79 = .ok (.ladd, 1) := by decide +kernel
theorem d_Mo_more_80 : decode b_Mo_more 80 = .ok (.putfield 173, 3) := by decide +kernel
theorem d_Mo_more_83 : decode b_Mo_more 83 = .ok (.aload_n 0, 1) := by decide +kernel
theorem d_Mo_more_84 : decode b_Mo_more 84 = .ok (.getfield 28, 3) := by decide +kernel
theorem d_Mo_more_87 : decode b_Mo_more 87 = .ok (.iconst (-1), 1) := by decide +kernel
theorem d_Mo_more_88 : decode b_Mo_more 88 = .ok (.if_icmp .eq 4, 3) := by decide +kernel
theorem d_Mo_more_92 : decode b_Mo_more 92 = .ok (.aload_n 0, 1) := by decide +kernel
theorem d_Mo_more_93 : decode b_Mo_more 93 = .ok (.getfield 139, 3) := by decide +kernel
theorem d_Mo_more_96 : decode b_Mo_more 96 = .ok (.iconst 2, 1) := by decide +kernel
theorem d_Mo_more_97 : decode b_Mo_more 97 = .ok (.if_icmp .ge 55, 3) := by decide +kernel
theorem d_Mo_more_152 : decode b_Mo_more 152 = .ok (.aload_n 0, 1) := by decide +kernel
theorem d_Mo_more_153 : decode b_Mo_more 153 = .ok (.getfield 139, 3) := by decide +kernel
theorem d_Mo_more_156 : decode b_Mo_more 156 = .ok (.bipush 6, 2) := by decide +kernel
theorem d_Mo_more_158 : decode b_Mo_more 158 = .ok (.if_icmp .ne 23, 3) := by decide +kernel
theorem d_Mo_more_181 : decode b_Mo_more 181 = .ok (.aload_n 0, 1) := by decide +kernel
theorem d_Mo_more_182 : decode b_Mo_more 182 = .ok (.getfield 173, 3) := by decide +kernel
theorem d_Mo_more_185 : decode b_Mo_more 185 = .ok (.lstore_n 3, 1) := by decide +kernel
theorem d_Mo_more_186 : decode b_Mo_more 186 = .ok (.aload_n 0, 1) := by decide +kernel
theorem d_Mo_more_187 : decode b_Mo_more 187 = .ok (.bipush 8, 2) := by decide +kernel
theorem d_Mo_more_189 : decode b_Mo_more 189 = .ok (.iconst 0, 1) := by decide +kernel
theorem d_Mo_more_190 : decode b_Mo_more 190 = .ok (.invokevirtual 338, 3) := by decide +kernel
theorem d_Mo_more_193 : decode b_Mo_more 193 = .ok (.lstore 5, 2) := by decide +kernel
theorem d_Mo_more_195 : decode b_Mo_more 195 = .ok (.aload_n 0, 1) := by decide +kernel
theorem d_Mo_more_196 : decode b_Mo_more 196 = .ok (.getfield 28, 3) := by decide +kernel
theorem d_Mo_more_199 : decode b_Mo_more 199 = .ok (.iconst (-1), 1) := by decide +kernel
theorem d_Mo_more_200 : decode b_Mo_more 200 = .ok (.if_icmp .ne 9, 3) := by decide +kernel
theorem d_Mo_more_209 : decode b_Mo_more 209 = .ok (.aload_n 0, 1) := by decide +kernel
theorem d_Mo_more_210 : decode b_Mo_more 210 = .ok (.getfield 139, 3) := by decide +kernel
