theorem d_On_sizeByOpcode_20 : decode b_On_sizeByOpcode 20 = .ok (.invokevirtual 54, 3) := by decide +kernel
theorem d_On_sizeByOpcode_23 : decode b_On_sizeByOpcode 23 = .ok (.ireturn, 1) := by decide +kernel
theorem d_On_sizeByOpcode_12 : decode b_On_sizeByOpcode 12 = .ok (.iconst 1, 1) := by decide +kernel
theorem d_On_sizeByOpcode_13 : decode b_On_sizeByOpcode 13 = .ok (.goto 10, 3) := by decide +kernel
theorem d_On_execute_217 : decode b_On_execute 217 = .ok (.invokevirtual 67, 3) := by decide +kernel
theorem d_On_executeSingle_0 : decode b_On_executeSingle 0 = .ok (.aload_n 0, 1) := by decide +kernel
theorem d_On_executeSingle_1 : decode b_On_executeSingle 1 = .ok (.getfield 15, 3) := by decide +kernel
theorem d_On_executeSingle_4 : decode b_On_executeSingle 4 = .ok (.getfield 31, 3) := by decide +kernel
theorem d_On_executeSingle_7 : decode b_On_executeSingle 7 = .ok (.lookupswitch 420 #[(105, 161), (107, 161), (132, 202), (133, 202), (168, 230), (169, 230), (192, 259), (193, 259), (208, 259), (209, 259), (210, 259), (211, 259), (245, 335), (248, 351), (249, 368), (252, 384), (253, 402), (254, 295), (255, 295)], 161) := by decide +kernel
theorem d_On_executeSingle_168 : decode b_On_executeSingle 168 = .ok (.aload_n 0, 1) := by decide +kernel
theorem d_On_executeSingle_169 : decode b_On_executeSingle 169 = .ok (.getfield 27, 3) := by decide +kernel
theorem d_On_executeSingle_172 : decode b_On_executeSingle 172 = .ok (.aload_n 0, 1) := by decide +kernel
theorem d_On_executeSingle_173 : decode b_On_executeSingle 173 = .ok (.getfield 19, 3) := by decide +kernel
theorem d_On_executeSingle_176 : decode b_On_executeSingle 176 = .ok (.invokevirtual 82, 3) := by decide +kernel
theorem d_On_executeSingle_179 : decode b_On_executeSingle 179 = .ok (.aload_n 0, 1) := by decide +kernel
theorem d_On_executeSingle_180 : decode b_On_executeSingle 180 = .ok (.getfield 15, 3) := by decide +kernel
theorem d_On_executeSingle_183 : decode b_On_executeSingle 183 = .ok (.getfield 44, 3) := by decide +kernel
theorem d_On_executeSingle_186 : decode b_On_executeSingle 186 = .ok (.iload_n 1, 1) := by decide +kernel
theorem d_On_executeSingle_187 : decode b_On_executeSingle 187 = .ok (.iconst 1, 1) := by decide +kernel
theorem d_On_executeSingle_188 : decode b_On_executeSingle 188 = .ok (.invokevirtual 103, 3) := by decide +kernel
theorem d_On_executeSingle_191 : decode b_On_executeSingle 191 = .ok (.aload_n 0, 1) := by decide +kernel
theorem d_On_executeSingle_192 : decode b_On_executeSingle 192 = .ok (.getfield 19, 3) := by decide +kernel
theorem d_On_executeSingle_195 : decode b_On_executeSingle 195 = .ok (.aload_n 0, 1) := by decide +kernel
theorem d_On_executeSingle_196 : decode b_On_executeSingle 196 = .ok (.getfield 27, 3) := by decide +kernel
theorem d_On_executeSingle_199 : decode b_On_executeSingle 199 = .ok (.getfield 109, 3) := by decide +kernel
theorem d_On_executeSingle_202 : decode b_On_executeSingle 202 = .ok (.iload_n 1, 1) := by decide +kernel
theorem d_On_executeSingle_203 : decode b_On_executeSingle 203 = .ok (.invokevirtual 91, 3) := by decide +kernel
theorem d_On_executeSingle_206 : decode b_On_executeSingle 206 = .ok (.goto 226, 3) := by decide +kernel
theorem d_On_executeSingle_432 : decode b_On_executeSingle 432 = .ok (.return_, 1) := by decide +kernel
theorem d_On_executeSingle_209 : decode b_On_executeSingle 209 = .ok (.aload_n 0, 1) := by decide +kernel
theorem d_On_executeSingle_210 : decode b_On_executeSingle 210 = .ok (.getfield 23, 3) := by decide +kernel
theorem d_On_executeSingle_213 : decode b_On_executeSingle 213 = .ok (.aload_n 0, 1) := by decide +kernel
theorem d_On_executeSingle_214 : decode b_On_executeSingle 214 = .ok (.getfield 19, 3) := by decide +kernel
theorem d_On_executeSingle_217 : decode b_On_executeSingle 217 = .ok (.invokevirtual 82, 3) := by decide +kernel
theorem d_On_executeSingle_220 : decode b_On_executeSingle 220 = .ok (.aload_n 0, 1) := by decide +kernel
theorem d_On_executeSingle_221 : decode b_On_executeSingle 221 = .ok (.getfield 19, 3) := by decide +kernel
theorem d_On_executeSingle_224 : decode b_On_executeSingle 224 = .ok (.iload_n 1, 1) := by decide +kernel
theorem d_On_executeSingle_225 : decode b_On_executeSingle 225 = .ok (.invokevirtual 74, 3) := by decide +kernel
theorem d_On_executeSingle_228 : decode b_On_executeSingle 228 = .ok (.land, 1) := by decide +kernel
theorem d_On_executeSingle_229 : decode b_On_executeSingle 229 = .ok (.iload_n 1, 1) := by decide +kernel
theorem d_On_executeSingle_230 : decode b_On_executeSingle 230 = .ok (.invokevirtual 112, 3) := by decide +kernel
theorem d_On_executeSingle_233 : decode b_On_executeSingle 233 = .ok (.pop2, 1) := by decide +kernel
theorem d_On_executeSingle_234 : decode b_On_executeSingle 234 = .ok (.goto 198, 3) := by decide +kernel
theorem d_On_executeSingle_237 : decode b_On_executeSingle 237 = .ok (.aload_n 0, 1) := by decide +kernel
theorem d_On_executeSingle_238 : decode b_On_executeSingle 238 = .ok (.getfield 23, 3) := by decide +kernel
theorem d_On_executeSingle_241 : decode b_On_executeSingle 241 = .ok (.aload_n 0, 1) := by decide +kernel
theorem d_On_executeSingle_242 : decode b_On_executeSingle 242 = .ok (.getfield 19, 3) := by decide +kernel
theorem d_On_executeSingle_245 : decode b_On_executeSingle 245 = .ok (.iconst 0, 1) := by decide +kernel
theorem d_On_executeSingle_246 : decode b_On_executeSingle 246 = .ok (.iload_n 1, 1) := by decide +kernel
theorem d_On_executeSingle_247 : decode b_On_executeSingle 247 = .ok (.invokevirtual 78, 3) := by decide +kernel
theorem d_On_executeSingle_250 : decode b_On_executeSingle 250 = .ok (.aload_n 0, 1) := by decide +kernel
theorem d_On_executeSingle_251 : decode b_On_executeSingle 251 = .ok (.getfield 15, 3) := by decide +kernel
theorem d_On_executeSingle_254 : decode b_On_executeSingle 254 = .ok (.getfield 44, 3) := by decide +kernel
theorem d_On_executeSingle_257 : decode b_On_executeSingle 257 = .ok (.land, 1) := by decide +kernel
theorem d_On_executeSingle_258 : decode b_On_executeSingle 258 = .ok (.iload_n 1, 1) := by decide +kernel
theorem d_On_executeSingle_259 : decode b_On_executeSingle 259 = .ok (.invokevirtual 112, 3) := by decide +kernel
theorem d_On_executeSingle_262 : decode b_On_executeSingle 262 = .ok (.pop2, 1) := by decide +kernel
theorem d_On_executeSingle_263 : decode b_On_executeSingle 263 = .ok (.goto 169, 3) := by decide +kernel
theorem d_On_executeSingle_266 : decode b_On_executeSingle 266 = .ok (.aload_n 0, 1) := by decide +kernel
theorem d_On_executeSingle_267 : decode b_On_executeSingle 267 = .ok (.getfield 19, 3) := by decide +kernel
theorem d_On_executeSingle_270 : decode b_On_executeSingle 270 = .ok (.aload_n 0, 1) := by decide +kernel
theorem d_On_executeSingle_271 : decode b_On_executeSingle 271 = .ok (.getfield 23, 3) := by decide +kernel
theorem d_On_executeSingle_274 : decode b_On_executeSingle 274 = .ok (.aload_n 0, 1) := by decide +kernel
theorem d_On_executeSingle_275 : decode b_On_executeSingle 275 = .ok (.getfield 15, 3) := by decide +kernel
theorem d_On_executeSingle_278 : decode b_On_executeSingle 278 = .ok (.getfield 64, 3) := by decide +kernel
theorem d_On_executeSingle_281 : decode b_On_executeSingle 281 = .ok (.aload_n 0, 1) := by decide +kernel
theorem d_On_executeSingle_282 : decode b_On_executeSingle 282 = .ok (.getfield 19, 3) := by decide +kernel
theorem d_On_executeSingle_285 : decode b_On_executeSingle 285 = .ok (.invokevirtual 82, 3) := by decide +kernel
theorem d_On_executeSingle_288 : decode b_On_executeSingle 288 = .ok (.aload_n 0, 1) := by decide +kernel
theorem d_On_countOfShift_0 : decode b_On_countOfShift 0 = .ok (.aload_n 0, 1) := by decide +kernel
theorem d_On_countOfShift_1 : decode b_On_countOfShift 1 = .ok (.getfield 15, 3) := by decide +kernel
theorem d_On_countOfShift_4 : decode b_On_countOfShift 4 = .ok (.getfield 31, 3) := by decide +kernel
theorem d_On_countOfShift_7 : decode b_On_countOfShift 7 = .ok (.sipush 208, 3) := by decide +kernel
theorem d_On_countOfShift_10 : decode b_On_countOfShift 10 = .ok (.if_icmp .ge 12, 3) := by decide +kernel
theorem d_On_countOfShift_22 : decode b_On_countOfShift 22 = .ok (.aload_n 0, 1) := by decide +kernel
theorem d_On_countOfShift_23 : decode b_On_countOfShift 23 = .ok (.getfield 15, 3) := by decide +kernel
theorem d_On_countOfShift_26 : decode b_On_countOfShift 26 = .ok (.getfield 31, 3) := by decide +kernel
theorem d_On_countOfShift_29 : decode b_On_countOfShift 29 = .ok (.sipush 210, 3) := by decide +kernel
theorem d_On_countOfShift_32 : decode b_On_countOfShift 32 = .ok (.if_icmp .ge 7, 3) := by decide +kernel
theorem d_On_countOfShift_39 : decode b_On_countOfShift 39 = .ok (.aload_n 0, 1) := by decide +kernel
theorem d_On_countOfShift_40 : decode b_On_countOfShift 40 = .ok (.getfield 9, 3) := by decide +kernel
theorem d_On_countOfShift_43 : decode b_On_countOfShift 43 = .ok (.getfield 135, 3) := by decide +kernel
theorem d_On_countOfShift_46 : decode b_On_countOfShift 46 = .ok (.iconst 1, 1) := by decide +kernel
theorem d_On_countOfShift_47 : decode b_On_countOfShift 47 = .ok (.laload, 1) := by decide +kernel
theorem d_On_countOfShift_48 : decode b_On_countOfShift 48 = .ok (.l2i, 1) := by decide +kernel
theorem d_On_countOfShift_49 : decode b_On_countOfShift 49 = .ok (.ireturn, 1) := by decide +kernel
theorem d_On_countOfShift_35 : decode b_On_countOfShift 35 = .ok (.iconst 1, 1) := by decide +kernel
theorem d_On_countOfShift_36 : decode b_On_countOfShift 36 = .ok (.goto 13, 3) := by decide +kernel
theorem d_On_countOfShift_13 : decode b_On_countOfShift 13 = .ok (.aload_n 0, 1) := by decide +kernel
theorem d_On_countOfShift_14 : decode b_On_countOfShift 14 = .ok (.getfield 15, 3) := by decide +kernel
theorem d_On_countOfShift_17 : decode b_On_countOfShift 17 = .ok (.getfield 44, 3) := by decide +kernel
theorem d_On_countOfShift_20 : decode b_On_countOfShift 20 = .ok (.l2i, 1) := by decide +kernel
theorem d_On_countOfShift_21 : decode b_On_countOfShift 21 = .ok (.ireturn, 1) := by decide +kernel
theorem d_On_executeSingle_289 : decode b_On_executeSingle 289 = .ok (.invokevirtual 116, 3) := by decide +kernel
theorem d_On_executeSingle_292 : decode b_On_executeSingle 292 = .ok (.iload_n 1, 1) := by decide +kernel
theorem d_Ar_shift_0 : decode b_Ar_shift 0 = .ok (.iload 4, 2) := by decide +kernel
theorem d_Ar_shift_2 : decode b_Ar_shift 2 = .ok (.iload 5, 2) := by decide +kernel
theorem d_Ar_shift_4 : decode b_Ar_shift 4 = .ok (.bipush 8, 2) := by decide +kernel
theorem d_Ar_shift_6 : decode b_Ar_shift 6 = .ok (.if_icmp .ne 8, 3) := by decide +kernel
theorem d_Ar_shift_14 : decode b_Ar_shift 14 = .ok (.bipush 31, 2) := by decide +kernel
theorem d_Ar_shift_16 : decode b_Ar_shift 16 = .ok (.iand, 1) := by decide +kernel
theorem d_Ar_shift_17 : decode b_Ar_shift 17 = .ok (.istore 6, 2) := by decide +kernel
theorem d_Ar_shift_19 : decode b_Ar_shift 19 = .ok (.iload 6, 2) := by decide +kernel
theorem d_Ar_shift_21 : decode b_Ar_shift 21 = .ok (.ifCond .ne 5, 3) := by decide +kernel
theorem d_Ar_shift_26 : decode b_Ar_shift 26 = .ok (.iload_n 1, 1) := by decide +kernel
theorem d_Ar_shift_27 : decode b_Ar_shift 27 = .ok (.tableswitch 101 0 5 #[37, 48, 59, 70, 81, 91], 37) := by decide +kernel
theorem d_Ar_shift_64 : decode b_Ar_shift 64 = .ok (.aload_n 0, 1) := by decide +kernel
theorem d_Ar_shift_65 : decode b_Ar_shift 65 = .ok (.iconst 1, 1) := by decide +kernel
theorem d_Ar_shift_66 : decode b_Ar_shift 66 = .ok (.lload_n 2, 1) := by decide +kernel
theorem d_Ar_shift_67 : decode b_Ar_shift 67 = .ok (.iload 6, 2) := by decide +kernel
theorem d_Ar_shift_69 : decode b_Ar_shift 69 = .ok (.iload 5, 2) := by decide +kernel
theorem d_Ar_rotate_0 : decode b_Ar_rotate 0 = .ok (.bipush 8, 2) := by decide +kernel
theorem d_Ar_rotate_2 : decode b_Ar_rotate 2 = .ok (.iload 5, 2) := by decide +kernel
theorem d_Ar_rotate_4 : decode b_Ar_rotate 4 = .ok (.imul, 1) := by decide +kernel
theorem d_Ar_rotate_5 : decode b_Ar_rotate 5 = .ok (.istore 6, 2) := by decide +kernel
theorem d_Ar_rotate_7 : decode b_Ar_rotate 7 = .ok (.iload_n 1, 1) := by decide +kernel
theorem d_Ar_rotate_8 : decode b_Ar_rotate 8 = .ok (.ifCond .eq 8, 3) := by decide +kernel
theorem d_Ar_rotate_16 : decode b_Ar_rotate 16 = .ok (.iload 6, 2) := by decide +kernel
theorem d_Ar_rotate_18 : decode b_Ar_rotate 18 = .ok (.iload 4, 2) := by decide +kernel
theorem d_Ar_rotate_20 : decode b_Ar_rotate 20 = .ok (.iload 6, 2) := by decide +kernel
theorem d_Ar_rotate_22 : decode b_Ar_rotate 22 = .ok (.irem, 1) := by decide +kernel
theorem d_Ar_rotate_23 : decode b_Ar_rotate 23 = .ok (.isub, 1) := by decide +kernel
theorem d_Ar_rotate_24 : decode b_Ar_rotate 24 = .ok (.iload 6, 2) := by decide +kernel
theorem d_Ar_rotate_26 : decode b_Ar_rotate 26 = .ok (.irem, 1) := by decide +kernel
theorem d_Ar_rotate_27 : decode b_Ar_rotate 27 = .ok (.istore 7, 2) := by decide +kernel
theorem d_Ar_rotate_29 : decode b_Ar_rotate 29 = .ok (.iload 7, 2) := by decide +kernel
theorem d_Ar_rotate_31 : decode b_Ar_rotate 31 = .ok (.ifCond .ne 7, 3) := by decide +kernel
theorem d_Ar_rotate_38 : decode b_Ar_rotate 38 = .ok (.lload_n 2, 1) := by decide +kernel
theorem d_Ar_rotate_39 : decode b_Ar_rotate 39 = .ok (.iload 7, 2) := by decide +kernel
theorem d_Ar_rotate_41 : decode b_Ar_rotate 41 = .ok (.lshl, 1) := by decide +kernel
theorem d_Ar_rotate_42 : decode b_Ar_rotate 42 = .ok (.lload_n 2, 1) := by decide +kernel
theorem d_Ar_rotate_43 : decode b_Ar_rotate 43 = .ok (.iload 6, 2) := by decide +kernel
theorem d_Ar_rotate_45 : decode b_Ar_rotate 45 = .ok (.iload 7, 2) := by decide +kernel
theorem d_Ar_rotate_47 : decode b_Ar_rotate 47 = .ok (.isub, 1) := by decide +kernel
theorem d_Ar_rotate_48 : decode b_Ar_rotate 48 = .ok (.lushr, 1) := by decide +kernel
theorem d_Ar_rotate_49 : decode b_Ar_rotate 49 = .ok (.lor, 1) := by decide +kernel
theorem d_Ar_rotate_50 : decode b_Ar_rotate 50 = .ok (.iload 5, 2) := by decide +kernel
theorem d_Ar_rotate_52 : decode b_Ar_rotate 52 = .ok (.invokestatic 36, 3) := by decide +kernel
theorem d_Ar_rotate_55 : decode b_Ar_rotate 55 = .ok (.land, 1) := by decide +kernel
theorem d_Ar_rotate_56 : decode b_Ar_rotate 56 = .ok (.lstore 8, 2) := by decide +kernel
theorem d_Ar_rotate_58 : decode b_Ar_rotate 58 = .ok (.aload_n 0, 1) := by decide +kernel
theorem d_Ar_rotate_59 : decode b_Ar_rotate 59 = .ok (.iload_n 1, 1) := by decide +kernel
theorem d_Ar_rotate_60 : decode b_Ar_rotate 60 = .ok (.lload 8, 2) := by decide +kernel
theorem d_Ar_rotate_62 : decode b_Ar_rotate 62 = .ok (.iload_n 1, 1) := by decide +kernel
theorem d_Ar_rotate_63 : decode b_Ar_rotate 63 = .ok (.ifCond .eq 8, 3) := by decide +kernel
theorem d_Ar_rotate_71 : decode b_Ar_rotate 71 = .ok (.lload 8, 2) := by decide +kernel
theorem d_Ar_rotate_73 : decode b_Ar_rotate 73 = .ok (.iload 6, 2) := by decide +kernel
theorem d_Ar_rotate_75 : decode b_Ar_rotate 75 = .ok (.iconst 1, 1) := by decide +kernel
theorem d_Ar_rotate_76 : decode b_Ar_rotate 76 = .ok (.isub, 1) := by decide +kernel
theorem d_Ar_rotate_77 : decode b_Ar_rotate 77 = .ok (.lushr, 1) := by decide +kernel
theorem d_Ar_rotate_78 : decode b_Ar_rotate 78 = .ok (.iload 4, 2) := by decide +kernel
theorem d_Ar_rotate_80 : decode b_Ar_rotate 80 = .ok (.iload 5, 2) := by decide +kernel
theorem d_Ar_settleRotation_0 : decode b_Ar_settleRotation 0 = .ok (.bipush 8, 2) := by decide +kernel
theorem d_Ar_settleRotation_2 : decode b_Ar_settleRotation 2 = .ok (.iload 7, 2) := by decide +kernel
theorem d_Ar_settleRotation_4 : decode b_Ar_settleRotation 4 = .ok (.imul, 1) := by decide +kernel
theorem d_Ar_settleRotation_5 : decode b_Ar_settleRotation 5 = .ok (.istore 8, 2) := by decide +kernel
theorem d_Ar_settleRotation_7 : decode b_Ar_settleRotation 7 = .ok (.lload_n 2, 1) := by decide +kernel
theorem d_Ar_settleRotation_8 : decode b_Ar_settleRotation 8 = .ok (.iload 8, 2) := by decide +kernel
theorem d_Ar_settleRotation_10 : decode b_Ar_settleRotation 10 = .ok (.iconst 1, 1) := by decide +kernel
theorem d_Ar_settleRotation_11 : decode b_Ar_settleRotation 11 = .ok (.isub, 1) := by decide +kernel
theorem d_Ar_settleRotation_12 : decode b_Ar_settleRotation 12 = .ok (.lushr, 1) := by decide +kernel
theorem d_Ar_settleRotation_13 : decode b_Ar_settleRotation 13 = .ok (.iload_n 1, 1) := by decide +kernel
theorem d_Ar_settleRotation_14 : decode b_Ar_settleRotation 14 = .ok (.ifCond .eq 8, 3) := by decide +kernel
theorem d_Ar_settleRotation_22 : decode b_Ar_settleRotation 22 = .ok (.lload_n 2, 1) := by decide +kernel
theorem d_Ar_settleRotation_23 : decode b_Ar_settleRotation 23 = .ok (.iload 8, 2) := by decide +kernel
theorem d_Ar_settleRotation_25 : decode b_Ar_settleRotation 25 = .ok (.iconst 2, 1) := by decide +kernel
theorem d_Ar_settleRotation_26 : decode b_Ar_settleRotation 26 = .ok (.isub, 1) := by decide +kernel
theorem d_Ar_settleRotation_27 : decode b_Ar_settleRotation 27 = .ok (.lushr, 1) := by decide +kernel
theorem d_Ar_settleRotation_28 : decode b_Ar_settleRotation 28 = .ok (.lxor, 1) := by decide +kernel
theorem d_Ar_settleRotation_29 : decode b_Ar_settleRotation 29 = .ok (.lstore 9, 2) := by decide +kernel
theorem d_Ar_settleRotation_31 : decode b_Ar_settleRotation 31 = .ok (.lload 4, 2) := by decide +kernel
theorem d_Ar_settleRotation_33 : decode b_Ar_settleRotation 33 = .ok (.lconst 1, 1) := by decide +kernel
theorem d_Ar_settleRotation_34 : decode b_Ar_settleRotation 34 = .ok (.land, 1) := by decide +kernel
theorem d_Ar_settleRotation_35 : decode b_Ar_settleRotation 35 = .ok (.l2i, 1) := by decide +kernel
theorem d_Ar_settleRotation_36 : decode b_Ar_settleRotation 36 = .ok (.iconst 1, 1) := by decide +kernel
theorem d_Ar_settleRotation_37 : decode b_Ar_settleRotation 37 = .ok (.imul, 1) := by decide +kernel
theorem d_Ar_settleRotation_38 : decode b_Ar_settleRotation 38 = .ok (.lload 9, 2) := by decide +kernel
theorem d_Ar_settleRotation_40 : decode b_Ar_settleRotation 40 = .ok (.lconst 1, 1) := by decide +kernel
theorem d_Ar_settleRotation_41 : decode b_Ar_settleRotation 41 = .ok (.land, 1) := by decide +kernel
theorem d_Ar_settleRotation_42 : decode b_Ar_settleRotation 42 = .ok (.l2i, 1) := by decide +kernel
theorem d_Ar_settleRotation_43 : decode b_Ar_settleRotation 43 = .ok (.sipush 2048, 3) := by decide +kernel
theorem d_Ar_settleRotation_46 : decode b_Ar_settleRotation 46 = .ok (.imul, 1) := by decide +kernel
theorem d_Ar_settleRotation_47 : decode b_Ar_settleRotation 47 = .ok (.ior, 1) := by decide +kernel
theorem d_Ar_settleRotation_48 : decode b_Ar_settleRotation 48 = .ok (.istore 11, 2) := by decide +kernel
theorem d_Ar_settleRotation_50 : decode b_Ar_settleRotation 50 = .ok (.aload_n 0, 1) := by decide +kernel
theorem d_Ar_settleRotation_51 : decode b_Ar_settleRotation 51 = .ok (.iload 6, 2) := by decide +kernel
theorem d_Ar_settleRotation_53 : decode b_Ar_settleRotation 53 = .ok (.iconst 1, 1) := by decide +kernel
theorem d_Ar_settleRotation_54 : decode b_Ar_settleRotation 54 = .ok (.if_icmp .ne 9, 3) := by decide +kernel
theorem d_Ar_settleRotation_63 : decode b_Ar_settleRotation 63 = .ok (.iconst 1, 1) := by decide +kernel
theorem d_Ar_settleRotation_64 : decode b_Ar_settleRotation 64 = .ok (.iload 11, 2) := by decide +kernel
theorem d_Ar_settleRotation_66 : decode b_Ar_settleRotation 66 = .ok (.iload 6, 2) := by decide +kernel
theorem d_Ar_settleRotation_68 : decode b_Ar_settleRotation 68 = .ok (.iconst 1, 1) := by decide +kernel
theorem d_Ar_settleRotation_69 : decode b_Ar_settleRotation 69 = .ok (.if_icmp .ne 7, 3) := by decide +kernel
theorem d_Ar_settleRotation_76 : decode b_Ar_settleRotation 76 = .ok (.sipush 2048, 3) := by decide +kernel
theorem d_Ar_settleRotation_79 : decode b_Ar_settleRotation 79 = .ok (.invokevirtual 32, 3) := by decide +kernel
theorem d_Ar_settleRotation_82 : decode b_Ar_settleRotation 82 = .ok (.return_, 1) := by decide +kernel
theorem d_Ar_settleRotation_72 : decode b_Ar_settleRotation 72 = .ok (.iconst 0, 1) := by decide +kernel
theorem d_Ar_settleRotation_73 : decode b_Ar_settleRotation 73 = .ok (.goto 6, 3) := by decide +kernel
theorem d_Ar_settleRotation_57 : decode b_Ar_settleRotation 57 = .ok (.sipush 2049, 3) := by decide +kernel
theorem d_Ar_settleRotation_60 : decode b_Ar_settleRotation 60 = .ok (.goto 4, 3) := by decide +kernel
theorem d_Ar_settleRotation_17 : decode b_Ar_settleRotation 17 = .ok (.lload 4, 2) := by decide +kernel
theorem d_Ar_settleRotation_19 : decode b_Ar_settleRotation 19 = .ok (.goto 9, 3) := by decide +kernel
theorem d_Ar_rotate_82 : decode b_Ar_rotate 82 = .ok (.invokevirtual 71, 3) := by decide +kernel
theorem d_Ar_rotate_85 : decode b_Ar_rotate 85 = .ok (.lload 8, 2) := by decide +kernel
theorem d_Ar_rotate_87 : decode b_Ar_rotate 87 = .ok (.lreturn, 1) := by decide +kernel
theorem d_Ar_rotate_66 : decode b_Ar_rotate 66 = .ok (.lload 8, 2) := by decide +kernel
theorem d_Ar_rotate_68 : decode b_Ar_rotate 68 = .ok (.goto 10, 3) := by decide +kernel
theorem d_Ar_rotate_34 : decode b_Ar_rotate 34 = .ok (.lload_n 2, 1) := by decide +kernel
theorem d_Ar_rotate_35 : decode b_Ar_rotate 35 = .ok (.goto 21, 3) := by decide +kernel
theorem d_Ar_rotate_11 : decode b_Ar_rotate 11 = .ok (.iload 4, 2) := by decide +kernel
theorem d_Ar_rotate_13 : decode b_Ar_rotate 13 = .ok (.goto 11, 3) := by decide +kernel
theorem d_Ar_shift_71 : decode b_Ar_shift 71 = .ok (.invokevirtual 54, 3) := by decide +kernel
theorem d_Ar_shift_74 : decode b_Ar_shift 74 = .ok (.lreturn, 1) := by decide +kernel
theorem d_Ar_shift_75 : decode b_Ar_shift 75 = .ok (.aload_n 0, 1) := by decide +kernel
theorem d_Ar_shift_76 : decode b_Ar_shift 76 = .ok (.iconst 0, 1) := by decide +kernel
theorem d_Ar_shift_77 : decode b_Ar_shift 77 = .ok (.lload_n 2, 1) := by decide +kernel
theorem d_Ar_shift_78 : decode b_Ar_shift 78 = .ok (.iload 6, 2) := by decide +kernel
theorem d_Ar_shift_80 : decode b_Ar_shift 80 = .ok (.iload 5, 2) := by decide +kernel
theorem d_Ar_shift_82 : decode b_Ar_shift 82 = .ok (.invokevirtual 54, 3) := by decide +kernel
theorem d_Ar_shift_85 : decode b_Ar_shift 85 = .ok (.lreturn, 1) := by decide +kernel
theorem d_Ar_shift_86 : decode b_Ar_shift 86 = .ok (.aload_n 0, 1) := by decide +kernel
theorem d_Ar_shift_87 : decode b_Ar_shift 87 = .ok (.iconst 1, 1) := by decide +kernel
theorem d_Ar_shift_88 : decode b_Ar_shift 88 = .ok (.lload_n 2, 1) := by decide +kernel
theorem d_Ar_shift_89 : decode b_Ar_shift 89 = .ok (.iload 6, 2) := by decide +kernel
theorem d_Ar_shift_91 : decode b_Ar_shift 91 = .ok (.iload 5, 2) := by decide +kernel
theorem d_Ar_rotateThroughCarry_0 : decode b_Ar_rotateThroughCarry 0 = .ok (.bipush 8, 2) := by decide +kernel
theorem d_Ar_rotateThroughCarry_2 : decode b_Ar_rotateThroughCarry 2 = .ok (.iload 5, 2) := by decide +kernel
theorem d_Ar_rotateThroughCarry_4 : decode b_Ar_rotateThroughCarry 4 = .ok (.imul, 1) := by decide +kernel
theorem d_Ar_rotateThroughCarry_5 : decode b_Ar_rotateThroughCarry 5 = .ok (.istore 6, 2) := by decide +kernel
theorem d_Ar_rotateThroughCarry_7 : decode b_Ar_rotateThroughCarry 7 = .ok (.iload 4, 2) := by decide +kernel
theorem d_Ar_rotateThroughCarry_9 : decode b_Ar_rotateThroughCarry 9 = .ok (.iload 6, 2) := by decide +kernel
theorem d_Ar_rotateThroughCarry_11 : decode b_Ar_rotateThroughCarry 11 = .ok (.iconst 1, 1) := by decide +kernel
theorem d_Ar_rotateThroughCarry_12 : decode b_Ar_rotateThroughCarry 12 = .ok (.iadd, 1) := by decide +kernel
theorem d_Ar_rotateThroughCarry_13 : decode b_Ar_rotateThroughCarry 13 = .ok (.irem, 1) := by decide +kernel
theorem d_Ar_rotateThroughCarry_14 : decode b_Ar_rotateThroughCarry 14 = .ok (.istore 7, 2) := by decide +kernel
theorem d_Ar_rotateThroughCarry_16 : decode b_Ar_rotateThroughCarry 16 = .ok (.iload 5, 2) := by decide +kernel
theorem d_Ar_rotateThroughCarry_18 : decode b_Ar_rotateThroughCarry 18 = .ok (.invokestatic 36, 3) := by decide +kernel
theorem d_Ar_rotateThroughCarry_21 : decode b_Ar_rotateThroughCarry 21 = .ok (.lstore 8, 2) := by decide +kernel
theorem d_Ar_rotateThroughCarry_23 : decode b_Ar_rotateThroughCarry 23 = .ok (.aload_n 0, 1) := by decide +kernel
theorem d_Ar_rotateThroughCarry_24 : decode b_Ar_rotateThroughCarry 24 = .ok (.getfield 9, 3) := by decide +kernel
theorem d_Ar_rotateThroughCarry_27 : decode b_Ar_rotateThroughCarry 27 = .ok (.getfield 17, 3) := by decide +kernel
theorem d_Ar_rotateThroughCarry_30 : decode b_Ar_rotateThroughCarry 30 = .ok (.iconst 1, 1) := by decide +kernel
theorem d_Ar_rotateThroughCarry_31 : decode b_Ar_rotateThroughCarry 31 = .ok (.iand, 1) := by decide +kernel
theorem d_Ar_rotateThroughCarry_32 : decode b_Ar_rotateThroughCarry 32 = .ok (.i2l, 1) := by decide +kernel
theorem d_Ar_rotateThroughCarry_33 : decode b_Ar_rotateThroughCarry 33 = .ok (.lstore 10, 2) := by decide +kernel
theorem d_Ar_rotateThroughCarry_35 : decode b_Ar_rotateThroughCarry 35 = .ok (.lload_n 2, 1) := by decide +kernel
theorem d_Ar_rotateThroughCarry_36 : decode b_Ar_rotateThroughCarry 36 = .ok (.lstore 12, 2) := by decide +kernel
theorem d_Ar_rotateThroughCarry_38 : decode b_Ar_rotateThroughCarry 38 = .ok (.iconst 0, 1) := by decide +kernel
theorem d_Ar_rotateThroughCarry_39 : decode b_Ar_rotateThroughCarry 39 = .ok (.istore 14, 2) := by decide +kernel
theorem d_Ar_rotateThroughCarry_41 : decode b_Ar_rotateThroughCarry 41 = .ok (.iload 14, 2) := by decide +kernel
theorem d_Ar_rotateThroughCarry_43 : decode b_Ar_rotateThroughCarry 43 = .ok (.iload 7, 2) := by decide +kernel
theorem d_Ar_rotateThroughCarry_45 : decode b_Ar_rotateThroughCarry 45 = .ok (.if_icmp .ge 64, 3) := by decide +kernel
theorem d_Ar_rotateThroughCarry_109 : decode b_Ar_rotateThroughCarry 109 = .ok (.aload_n 0, 1) := by decide +kernel
theorem d_Ar_rotateThroughCarry_110 : decode b_Ar_rotateThroughCarry 110 = .ok (.iload_n 1, 1) := by decide +kernel
theorem d_Ar_rotateThroughCarry_111 : decode b_Ar_rotateThroughCarry 111 = .ok (.lload 12, 2) := by decide +kernel
theorem d_Ar_rotateThroughCarry_113 : decode b_Ar_rotateThroughCarry 113 = .ok (.lload 10, 2) := by decide +kernel
theorem d_Ar_rotateThroughCarry_115 : decode b_Ar_rotateThroughCarry 115 = .ok (.iload 4, 2) := by decide +kernel
theorem d_Ar_rotateThroughCarry_117 : decode b_Ar_rotateThroughCarry 117 = .ok (.iload 5, 2) := by decide +kernel
theorem d_Ar_rotateThroughCarry_119 : decode b_Ar_rotateThroughCarry 119 = .ok (.invokevirtual 71, 3) := by decide +kernel
theorem d_Ar_rotateThroughCarry_122 : decode b_Ar_rotateThroughCarry 122 = .ok (.lload 12, 2) := by decide +kernel
theorem d_Ar_rotateThroughCarry_124 : decode b_Ar_rotateThroughCarry 124 = .ok (.lreturn, 1) := by decide +kernel
theorem d_Ar_rotateThroughCarry_48 : decode b_Ar_rotateThroughCarry 48 = .ok (.iload_n 1, 1) := by decide +kernel
theorem d_Ar_rotateThroughCarry_49 : decode b_Ar_rotateThroughCarry 49 = .ok (.ifCond .eq 13, 3) := by decide +kernel
theorem d_Ar_rotateThroughCarry_62 : decode b_Ar_rotateThroughCarry 62 = .ok (.lload 12, 2) := by decide +kernel
theorem d_Ar_rotateThroughCarry_64 : decode b_Ar_rotateThroughCarry 64 = .ok (.lconst 1, 1) := by decide +kernel
theorem d_Ar_rotateThroughCarry_65 : decode b_Ar_rotateThroughCarry 65 = .ok (.land, 1) := by decide +kernel
theorem d_Ar_rotateThroughCarry_66 : decode b_Ar_rotateThroughCarry 66 = .ok (.lstore 15, 2) := by decide +kernel
theorem d_Ar_rotateThroughCarry_68 : decode b_Ar_rotateThroughCarry 68 = .ok (.iload_n 1, 1) := by decide +kernel
theorem d_Ar_rotateThroughCarry_69 : decode b_Ar_rotateThroughCarry 69 = .ok (.ifCond .eq 16, 3) := by decide +kernel
theorem d_Ar_rotateThroughCarry_85 : decode b_Ar_rotateThroughCarry 85 = .ok (.lload 12, 2) := by decide +kernel
theorem d_Ar_rotateThroughCarry_87 : decode b_Ar_rotateThroughCarry 87 = .ok (.iconst 1, 1) := by decide +kernel
theorem d_Ar_rotateThroughCarry_88 : decode b_Ar_rotateThroughCarry 88 = .ok (.lushr, 1) := by decide +kernel
theorem d_Ar_rotateThroughCarry_89 : decode b_Ar_rotateThroughCarry 89 = .ok (.lload 10, 2) := by decide +kernel
theorem d_Ar_rotateThroughCarry_91 : decode b_Ar_rotateThroughCarry 91 = .ok (.iload 6, 2) := by decide +kernel
theorem d_Ar_rotateThroughCarry_93 : decode b_Ar_rotateThroughCarry 93 = .ok (.iconst 1, 1) := by decide +kernel
theorem d_Ar_rotateThroughCarry_94 : decode b_Ar_rotateThroughCarry 94 = .ok (.isub, 1) := by decide +kernel
theorem d_Ar_rotateThroughCarry_95 : decode b_Ar_rotateThroughCarry 95 = .ok (.lshl, 1) := by decide +kernel
theorem d_Ar_rotateThroughCarry_96 : decode b_Ar_rotateThroughCarry 96 = .ok (.lor, 1) := by decide +kernel
theorem d_Ar_rotateThroughCarry_97 : decode b_Ar_rotateThroughCarry 97 = .ok (.lstore 12, 2) := by decide +kernel
theorem d_Ar_rotateThroughCarry_99 : decode b_Ar_rotateThroughCarry 99 = .ok (.lload 15, 2) := by decide +kernel
theorem d_Ar_rotateThroughCarry_101 : decode b_Ar_rotateThroughCarry 101 = .ok (.lstore 10, 2) := by decide +kernel
theorem d_Ar_rotateThroughCarry_103 : decode b_Ar_rotateThroughCarry 103 = .ok (.iinc 14 1, 3) := by decide +kernel
theorem d_Ar_rotateThroughCarry_106 : decode b_Ar_rotateThroughCarry 106 = .ok (.goto (-65), 3) := by decide +kernel
theorem d_Ar_rotateThroughCarry_72 : decode b_Ar_rotateThroughCarry 72 = .ok (.lload 12, 2) := by decide +kernel
theorem d_Ar_rotateThroughCarry_74 : decode b_Ar_rotateThroughCarry 74 = .ok (.iconst 1, 1) := by decide +kernel
theorem d_Ar_rotateThroughCarry_75 : decode b_Ar_rotateThroughCarry 75 = .ok (.lshl, 1) := by decide +kernel
theorem d_Ar_rotateThroughCarry_76 : decode b_Ar_rotateThroughCarry 76 = .ok (.lload 10, 2) := by decide +kernel
theorem d_Ar_rotateThroughCarry_78 : decode b_Ar_rotateThroughCarry 78 = .ok (.lor, 1) := by decide +kernel
theorem d_Ar_rotateThroughCarry_79 : decode b_Ar_rotateThroughCarry 79 = .ok (.lload 8, 2) := by decide +kernel
theorem d_Ar_rotateThroughCarry_81 : decode b_Ar_rotateThroughCarry 81 = .ok (.land, 1) := by decide +kernel
theorem d_Ar_rotateThroughCarry_82 : decode b_Ar_rotateThroughCarry 82 = .ok (.goto 15, 3) := by decide +kernel
theorem d_Ar_rotateThroughCarry_52 : decode b_Ar_rotateThroughCarry 52 = .ok (.lload 12, 2) := by decide +kernel
theorem d_Ar_rotateThroughCarry_54 : decode b_Ar_rotateThroughCarry 54 = .ok (.iload 6, 2) := by decide +kernel
theorem d_Ar_rotateThroughCarry_56 : decode b_Ar_rotateThroughCarry 56 = .ok (.iconst 1, 1) := by decide +kernel
theorem d_Ar_rotateThroughCarry_57 : decode b_Ar_rotateThroughCarry 57 = .ok (.isub, 1) := by decide +kernel
theorem d_Ar_rotateThroughCarry_58 : decode b_Ar_rotateThroughCarry 58 = .ok (.lushr, 1) := by decide +kernel
theorem d_Ar_rotateThroughCarry_59 : decode b_Ar_rotateThroughCarry 59 = .ok (.goto 7, 3) := by decide +kernel
theorem d_Ar_shift_93 : decode b_Ar_shift 93 = .ok (.invokevirtual 58, 3) := by decide +kernel
theorem d_Ar_shift_96 : decode b_Ar_shift 96 = .ok (.lreturn, 1) := by decide +kernel
theorem d_Ar_shift_97 : decode b_Ar_shift 97 = .ok (.aload_n 0, 1) := by decide +kernel
theorem d_Ar_shift_98 : decode b_Ar_shift 98 = .ok (.iconst 0, 1) := by decide +kernel
theorem d_Ar_shift_99 : decode b_Ar_shift 99 = .ok (.lload_n 2, 1) := by decide +kernel
theorem d_Ar_shift_100 : decode b_Ar_shift 100 = .ok (.iload 6, 2) := by decide +kernel
theorem d_Ar_shift_102 : decode b_Ar_shift 102 = .ok (.iload 5, 2) := by decide +kernel
theorem d_Ar_shift_104 : decode b_Ar_shift 104 = .ok (.invokevirtual 58, 3) := by decide +kernel
theorem d_Ar_shift_107 : decode b_Ar_shift 107 = .ok (.lreturn, 1) := by decide +kernel
theorem d_Ar_shift_108 : decode b_Ar_shift 108 = .ok (.aload_n 0, 1) := by decide +kernel
theorem d_Ar_shift_109 : decode b_Ar_shift 109 = .ok (.lload_n 2, 1) := by decide +kernel
theorem d_Ar_shift_110 : decode b_Ar_shift 110 = .ok (.iload 6, 2) := by decide +kernel
theorem d_Ar_shift_112 : decode b_Ar_shift 112 = .ok (.iload 5, 2) := by decide +kernel
theorem d_Ar_shiftLeft_0 : decode b_Ar_shiftLeft 0 = .ok (.bipush 8, 2) := by decide +kernel
theorem d_Ar_shiftLeft_2 : decode b_Ar_shiftLeft 2 = .ok (.iload 4, 2) := by decide +kernel
theorem d_Ar_shiftLeft_4 : decode b_Ar_shiftLeft 4 = .ok (.imul, 1) := by decide +kernel
theorem d_Ar_shiftLeft_5 : decode b_Ar_shiftLeft 5 = .ok (.istore 5, 2) := by decide +kernel
theorem d_Ar_shiftLeft_7 : decode b_Ar_shiftLeft 7 = .ok (.lload_n 1, 1) := by decide +kernel
theorem d_Ar_shiftLeft_8 : decode b_Ar_shiftLeft 8 = .ok (.iload_n 3, 1) := by decide +kernel
theorem d_Ar_shiftLeft_9 : decode b_Ar_shiftLeft 9 = .ok (.lshl, 1) := by decide +kernel
theorem d_Ar_shiftLeft_10 : decode b_Ar_shiftLeft 10 = .ok (.iload 4, 2) := by decide +kernel
theorem d_Ar_shiftLeft_12 : decode b_Ar_shiftLeft 12 = .ok (.invokestatic 36, 3) := by decide +kernel
theorem d_Ar_shiftLeft_15 : decode b_Ar_shiftLeft 15 = .ok (.land, 1) := by decide +kernel
theorem d_Ar_shiftLeft_16 : decode b_Ar_shiftLeft 16 = .ok (.lstore 6, 2) := by decide +kernel
theorem d_Ar_shiftLeft_18 : decode b_Ar_shiftLeft 18 = .ok (.iload_n 3, 1) := by decide +kernel
theorem d_Ar_shiftLeft_19 : decode b_Ar_shiftLeft 19 = .ok (.iload 5, 2) := by decide +kernel
theorem d_Ar_shiftLeft_21 : decode b_Ar_shiftLeft 21 = .ok (.if_icmp .le 7, 3) := by decide +kernel
theorem d_Ar_shiftLeft_28 : decode b_Ar_shiftLeft 28 = .ok (.lload_n 1, 1) := by decide +kernel
theorem d_Ar_shiftLeft_29 : decode b_Ar_shiftLeft 29 = .ok (.iload 5, 2) := by decide +kernel
theorem d_Ar_shiftLeft_31 : decode b_Ar_shiftLeft 31 = .ok (.iload_n 3, 1) := by decide +kernel
theorem d_Ar_shiftLeft_32 : decode b_Ar_shiftLeft 32 = .ok (.isub, 1) := by decide +kernel
theorem d_Ar_shiftLeft_33 : decode b_Ar_shiftLeft 33 = .ok (.lushr, 1) := by decide +kernel
theorem d_Ar_shiftLeft_34 : decode b_Ar_shiftLeft 34 = .ok (.lstore 8, 2) := by decide +kernel
theorem d_Ar_shiftLeft_36 : decode b_Ar_shiftLeft 36 = .ok (.aload_n 0, 1) := by decide +kernel
theorem d_Ar_shiftLeft_37 : decode b_Ar_shiftLeft 37 = .ok (.lload 6, 2) := by decide +kernel
theorem d_Ar_shiftLeft_39 : decode b_Ar_shiftLeft 39 = .ok (.lload 8, 2) := by decide +kernel
theorem d_Ar_shiftLeft_41 : decode b_Ar_shiftLeft 41 = .ok (.lload 6, 2) := by decide +kernel
theorem d_Ar_shiftLeft_43 : decode b_Ar_shiftLeft 43 = .ok (.iload 5, 2) := by decide +kernel
theorem d_Ar_shiftLeft_45 : decode b_Ar_shiftLeft 45 = .ok (.iconst 1, 1) := by decide +kernel
theorem d_Ar_shiftLeft_46 : decode b_Ar_shiftLeft 46 = .ok (.isub, 1) := by decide +kernel
theorem d_Ar_shiftLeft_47 : decode b_Ar_shiftLeft 47 = .ok (.lushr, 1) := by decide +kernel
theorem d_Ar_shiftLeft_48 : decode b_Ar_shiftLeft 48 = .ok (.lload 8, 2) := by decide +kernel
theorem d_Ar_shiftLeft_50 : decode b_Ar_shiftLeft 50 = .ok (.lxor, 1) := by decide +kernel
theorem d_Ar_shiftLeft_51 : decode b_Ar_shiftLeft 51 = .ok (.iload_n 3, 1) := by decide +kernel
theorem d_Ar_shiftLeft_52 : decode b_Ar_shiftLeft 52 = .ok (.iload 4, 2) := by decide +kernel
theorem d_Ar_settleShift_0 : decode b_Ar_settleShift 0 = .ok (.lload_n 1, 1) := by decide +kernel
theorem d_Ar_settleShift_1 : decode b_Ar_settleShift 1 = .ok (.iload 8, 2) := by decide +kernel
theorem d_Ar_settleShift_3 : decode b_Ar_settleShift 3 = .ok (.invokestatic 28, 3) := by decide +kernel
theorem d_Ar_settleShift_6 : decode b_Ar_settleShift 6 = .ok (.lload_n 3, 1) := by decide +kernel
theorem d_Ar_settleShift_7 : decode b_Ar_settleShift 7 = .ok (.lconst 1, 1) := by decide +kernel
theorem d_Ar_settleShift_8 : decode b_Ar_settleShift 8 = .ok (.land, 1) := by decide +kernel
theorem d_Ar_settleShift_9 : decode b_Ar_settleShift 9 = .ok (.l2i, 1) := by decide +kernel
theorem d_Ar_settleShift_10 : decode b_Ar_settleShift 10 = .ok (.iconst 1, 1) := by decide +kernel
theorem d_Ar_settleShift_11 : decode b_Ar_settleShift 11 = .ok (.imul, 1) := by decide +kernel
theorem d_Ar_settleShift_12 : decode b_Ar_settleShift 12 = .ok (.ior, 1) := by decide +kernel
theorem d_Ar_settleShift_13 : decode b_Ar_settleShift 13 = .ok (.lload 5, 2) := by decide +kernel
theorem d_Ar_settleShift_15 : decode b_Ar_settleShift 15 = .ok (.lconst 1, 1) := by decide +kernel
theorem d_Ar_settleShift_16 : decode b_Ar_settleShift 16 = .ok (.land, 1) := by decide +kernel
theorem d_Ar_settleShift_17 : decode b_Ar_settleShift 17 = .ok (.l2i, 1) := by decide +kernel
theorem d_Ar_settleShift_18 : decode b_Ar_settleShift 18 = .ok (.sipush 2048, 3) := by decide +kernel
theorem d_Ar_settleShift_21 : decode b_Ar_settleShift 21 = .ok (.imul, 1) := by decide +kernel
theorem d_Ar_settleShift_22 : decode b_Ar_settleShift 22 = .ok (.ior, 1) := by decide +kernel
theorem d_Ar_settleShift_23 : decode b_Ar_settleShift 23 = .ok (.istore 9, 2) := by decide +kernel
theorem d_Ar_settleShift_25 : decode b_Ar_settleShift 25 = .ok (.bipush 16, 2) := by decide +kernel
theorem d_Ar_settleShift_27 : decode b_Ar_settleShift 27 = .ok (.iload 7, 2) := by decide +kernel
theorem d_Ar_settleShift_29 : decode b_Ar_settleShift 29 = .ok (.iconst 1, 1) := by decide +kernel
theorem d_Ar_settleShift_30 : decode b_Ar_settleShift 30 = .ok (.if_icmp .ne 7, 3) := by decide +kernel
theorem d_Ar_settleShift_37 : decode b_Ar_settleShift 37 = .ok (.sipush 2048, 3) := by decide +kernel
theorem d_Ar_settleShift_40 : decode b_Ar_settleShift 40 = .ok (.ior, 1) := by decide +kernel
theorem d_Ar_settleShift_41 : decode b_Ar_settleShift 41 = .ok (.iload 7, 2) := by decide +kernel
theorem d_Ar_settleShift_43 : decode b_Ar_settleShift 43 = .ok (.bipush 8, 2) := by decide +kernel
theorem d_Ar_settleShift_45 : decode b_Ar_settleShift 45 = .ok (.iload 8, 2) := by decide +kernel
theorem d_Ar_settleShift_47 : decode b_Ar_settleShift 47 = .ok (.imul, 1) := by decide +kernel
theorem d_Ar_settleShift_48 : decode b_Ar_settleShift 48 = .ok (.if_icmp .le 7, 3) := by decide +kernel
theorem d_Ar_settleShift_55 : decode b_Ar_settleShift 55 = .ok (.iconst 0, 1) := by decide +kernel
theorem d_Ar_settleShift_56 : decode b_Ar_settleShift 56 = .ok (.ior, 1) := by decide +kernel
theorem d_Ar_settleShift_57 : decode b_Ar_settleShift 57 = .ok (.istore 10, 2) := by decide +kernel
theorem d_Ar_settleShift_59 : decode b_Ar_settleShift 59 = .ok (.aload_n 0, 1) := by decide +kernel
theorem d_Ar_settleShift_60 : decode b_Ar_settleShift 60 = .ok (.sipush 2261, 3) := by decide +kernel
theorem d_Ar_settleShift_63 : decode b_Ar_settleShift 63 = .ok (.iload 10, 2) := by decide +kernel
theorem d_Ar_settleShift_65 : decode b_Ar_settleShift 65 = .ok (.iconst (-1), 1) := by decide +kernel
theorem d_Ar_settleShift_66 : decode b_Ar_settleShift 66 = .ok (.ixor, 1) := by decide +kernel
theorem d_Ar_settleShift_67 : decode b_Ar_settleShift 67 = .ok (.iand, 1) := by decide +kernel
theorem d_Ar_settleShift_68 : decode b_Ar_settleShift 68 = .ok (.iload 9, 2) := by decide +kernel
theorem d_Ar_settleShift_70 : decode b_Ar_settleShift 70 = .ok (.iload 10, 2) := by decide +kernel
theorem d_Ar_settleShift_72 : decode b_Ar_settleShift 72 = .ok (.invokevirtual 32, 3) := by decide +kernel
theorem d_Ar_settleShift_75 : decode b_Ar_settleShift 75 = .ok (.return_, 1) := by decide +kernel
theorem d_Ar_settleShift_51 : decode b_Ar_settleShift 51 = .ok (.iconst 1, 1) := by decide +kernel
theorem d_Ar_settleShift_52 : decode b_Ar_settleShift 52 = .ok (.goto 4, 3) := by decide +kernel
theorem d_Ar_settleShift_33 : decode b_Ar_settleShift 33 = .ok (.iconst 0, 1) := by decide +kernel
theorem d_Ar_settleShift_34 : decode b_Ar_settleShift 34 = .ok (.goto 6, 3) := by decide +kernel
theorem d_Ar_shiftLeft_54 : decode b_Ar_shiftLeft 54 = .ok (.invokevirtual 75, 3) := by decide +kernel
theorem d_Ar_shiftLeft_57 : decode b_Ar_shiftLeft 57 = .ok (.lload 6, 2) := by decide +kernel
theorem d_Ar_shiftLeft_59 : decode b_Ar_shiftLeft 59 = .ok (.lreturn, 1) := by decide +kernel
theorem d_Ar_shiftLeft_24 : decode b_Ar_shiftLeft 24 = .ok (.lconst 0, 1) := by decide +kernel
theorem d_Ar_shiftLeft_25 : decode b_Ar_shiftLeft 25 = .ok (.goto 9, 3) := by decide +kernel
theorem d_Ar_shift_114 : decode b_Ar_shift 114 = .ok (.invokevirtual 61, 3) := by decide +kernel
theorem d_Ar_shift_117 : decode b_Ar_shift 117 = .ok (.lreturn, 1) := by decide +kernel
theorem d_Ar_shift_118 : decode b_Ar_shift 118 = .ok (.aload_n 0, 1) := by decide +kernel
theorem d_Ar_shift_119 : decode b_Ar_shift 119 = .ok (.lload_n 2, 1) := by decide +kernel
theorem d_Ar_shift_120 : decode b_Ar_shift 120 = .ok (.iload 6, 2) := by decide +kernel
theorem d_Ar_shift_122 : decode b_Ar_shift 122 = .ok (.iload 5, 2) := by decide +kernel
theorem d_Ar_shiftRight_0 : decode b_Ar_shiftRight 0 = .ok (.lload_n 1, 1) := by decide +kernel
theorem d_Ar_shiftRight_1 : decode b_Ar_shiftRight 1 = .ok (.iload_n 3, 1) := by decide +kernel
theorem d_Ar_shiftRight_2 : decode b_Ar_shiftRight 2 = .ok (.lushr, 1) := by decide +kernel
theorem d_Ar_shiftRight_3 : decode b_Ar_shiftRight 3 = .ok (.lstore 5, 2) := by decide +kernel
theorem d_Ar_shiftRight_5 : decode b_Ar_shiftRight 5 = .ok (.aload_n 0, 1) := by decide +kernel
theorem d_Ar_shiftRight_6 : decode b_Ar_shiftRight 6 = .ok (.lload 5, 2) := by decide +kernel
theorem d_Ar_shiftRight_8 : decode b_Ar_shiftRight 8 = .ok (.lload_n 1, 1) := by decide +kernel
theorem d_Ar_shiftRight_9 : decode b_Ar_shiftRight 9 = .ok (.iload_n 3, 1) := by decide +kernel
theorem d_Ar_shiftRight_10 : decode b_Ar_shiftRight 10 = .ok (.iconst 1, 1) := by decide +kernel
theorem d_Ar_shiftRight_11 : decode b_Ar_shiftRight 11 = .ok (.isub, 1) := by decide +kernel
theorem d_Ar_shiftRight_12 : decode b_Ar_shiftRight 12 = .ok (.lushr, 1) := by decide +kernel
theorem d_Ar_shiftRight_13 : decode b_Ar_shiftRight 13 = .ok (.lload_n 1, 1) := by decide +kernel
theorem d_Ar_shiftRight_14 : decode b_Ar_shiftRight 14 = .ok (.bipush 8, 2) := by decide +kernel
theorem d_Ar_shiftRight_16 : decode b_Ar_shiftRight 16 = .ok (.iload 4, 2) := by decide +kernel
theorem d_Ar_shiftRight_18 : decode b_Ar_shiftRight 18 = .ok (.imul, 1) := by decide +kernel
theorem d_Ar_shiftRight_19 : decode b_Ar_shiftRight 19 = .ok (.iconst 1, 1) := by decide +kernel
theorem d_Ar_shiftRight_20 : decode b_Ar_shiftRight 20 = .ok (.isub, 1) := by decide +kernel
theorem d_Ar_shiftRight_21 : decode b_Ar_shiftRight 21 = .ok (.lushr, 1) := by decide +kernel
theorem d_Ar_shiftRight_22 : decode b_Ar_shiftRight 22 = .ok (.iload_n 3, 1) := by decide +kernel
theorem d_Ar_shiftRight_23 : decode b_Ar_shiftRight 23 = .ok (.iload 4, 2) := by decide +kernel
theorem d_Ar_shiftRight_25 : decode b_Ar_shiftRight 25 = .ok (.invokevirtual 75, 3) := by decide +kernel
theorem d_Ar_shiftRight_28 : decode b_Ar_shiftRight 28 = .ok (.lload 5, 2) := by decide +kernel
theorem d_Ar_shiftRight_30 : decode b_Ar_shiftRight 30 = .ok (.lreturn, 1) := by decide +kernel
theorem d_Ar_shift_124 : decode b_Ar_shift 124 = .ok (.invokevirtual 65, 3) := by decide +kernel
theorem d_Ar_shift_127 : decode b_Ar_shift 127 = .ok (.lreturn, 1) := by decide +kernel
theorem d_Ar_shift_128 : decode b_Ar_shift 128 = .ok (.aload_n 0, 1) := by decide +kernel
theorem d_Ar_shift_129 : decode b_Ar_shift 129 = .ok (.lload_n 2, 1) := by decide +kernel
theorem d_Ar_shift_130 : decode b_Ar_shift 130 = .ok (.iload 6, 2) := by decide +kernel
theorem d_Ar_shift_132 : decode b_Ar_shift 132 = .ok (.iload 5, 2) := by decide +kernel
theorem d_Ar_shiftSigned_0 : decode b_Ar_shiftSigned 0 = .ok (.lload_n 1, 1) := by decide +kernel
theorem d_Ar_shiftSigned_1 : decode b_Ar_shiftSigned 1 = .ok (.iload 4, 2) := by decide +kernel
theorem d_Ar_shiftSigned_3 : decode b_Ar_shiftSigned 3 = .ok (.invokestatic 79, 3) := by decide +kernel
theorem d_Ar_shiftSigned_6 : decode b_Ar_shiftSigned 6 = .ok (.lstore 5, 2) := by decide +kernel
theorem d_Ar_shiftSigned_8 : decode b_Ar_shiftSigned 8 = .ok (.lload 5, 2) := by decide +kernel
theorem d_Ar_shiftSigned_10 : decode b_Ar_shiftSigned 10 = .ok (.iload_n 3, 1) := by decide +kernel
theorem d_Ar_shiftSigned_11 : decode b_Ar_shiftSigned 11 = .ok (.lshr, 1) := by decide +kernel
theorem d_Ar_shiftSigned_12 : decode b_Ar_shiftSigned 12 = .ok (.iload 4, 2) := by decide +kernel
theorem d_Ar_shiftSigned_14 : decode b_Ar_shiftSigned 14 = .ok (.invokestatic 36, 3) := by decide +kernel
theorem d_Ar_shiftSigned_17 : decode b_Ar_shiftSigned 17 = .ok (.land, 1) := by decide +kernel
theorem d_Ar_shiftSigned_18 : decode b_Ar_shiftSigned 18 = .ok (.lstore 7, 2) := by decide +kernel
theorem d_Ar_shiftSigned_20 : decode b_Ar_shiftSigned 20 = .ok (.iload_n 3, 1) := by decide +kernel
theorem d_Ar_shiftSigned_21 : decode b_Ar_shiftSigned 21 = .ok (.bipush 8, 2) := by decide +kernel
theorem d_Ar_shiftSigned_23 : decode b_Ar_shiftSigned 23 = .ok (.iload 4, 2) := by decide +kernel
theorem d_Ar_shiftSigned_25 : decode b_Ar_shiftSigned 25 = .ok (.imul, 1) := by decide +kernel
theorem d_Ar_shiftSigned_26 : decode b_Ar_shiftSigned 26 = .ok (.invokestatic 82, 3) := by decide +kernel
theorem d_Ar_shiftSigned_29 : decode b_Ar_shiftSigned 29 = .ok (.istore 9, 2) := by decide +kernel
theorem d_Ar_shiftSigned_31 : decode b_Ar_shiftSigned 31 = .ok (.aload_n 0, 1) := by decide +kernel
theorem d_Ar_shiftSigned_32 : decode b_Ar_shiftSigned 32 = .ok (.lload 7, 2) := by decide +kernel
theorem d_Ar_shiftSigned_34 : decode b_Ar_shiftSigned 34 = .ok (.lload 5, 2) := by decide +kernel
theorem d_Ar_shiftSigned_36 : decode b_Ar_shiftSigned 36 = .ok (.iload_n 3, 1) := by decide +kernel
theorem d_Ar_shiftSigned_37 : decode b_Ar_shiftSigned 37 = .ok (.iconst 1, 1) := by decide +kernel
theorem d_Ar_shiftSigned_38 : decode b_Ar_shiftSigned 38 = .ok (.isub, 1) := by decide +kernel
theorem d_Ar_shiftSigned_39 : decode b_Ar_shiftSigned 39 = .ok (.lshr, 1) := by decide +kernel
theorem d_Ar_shiftSigned_40 : decode b_Ar_shiftSigned 40 = .ok (.lconst 0, 1) := by decide +kernel
theorem d_Ar_shiftSigned_41 : decode b_Ar_shiftSigned 41 = .ok (.iload 9, 2) := by decide +kernel
theorem d_Ar_shiftSigned_43 : decode b_Ar_shiftSigned 43 = .ok (.iload 4, 2) := by decide +kernel
theorem d_Ar_shiftSigned_45 : decode b_Ar_shiftSigned 45 = .ok (.invokevirtual 75, 3) := by decide +kernel
theorem d_Ar_shiftSigned_48 : decode b_Ar_shiftSigned 48 = .ok (.lload 7, 2) := by decide +kernel
theorem d_Ar_shiftSigned_50 : decode b_Ar_shiftSigned 50 = .ok (.lreturn, 1) := by decide +kernel
theorem d_Ar_shift_134 : decode b_Ar_shift 134 = .ok (.invokevirtual 68, 3) := by decide +kernel
theorem d_Ar_shift_137 : decode b_Ar_shift 137 = .ok (.lreturn, 1) := by decide +kernel
theorem d_Ar_shift_24 : decode b_Ar_shift 24 = .ok (.lload_n 2, 1) := by decide +kernel
theorem d_Ar_shift_25 : decode b_Ar_shift 25 = .ok (.lreturn, 1) := by decide +kernel
theorem d_Ar_shift_9 : decode b_Ar_shift 9 = .ok (.bipush 63, 2) := by decide +kernel
theorem d_Ar_shift_11 : decode b_Ar_shift 11 = .ok (.goto 5, 3) := by decide +kernel
theorem d_On_executeSingle_293 : decode b_On_executeSingle 293 = .ok (.invokevirtual 119, 3) := by decide +kernel
theorem d_On_executeSingle_296 : decode b_On_executeSingle 296 = .ok (.invokevirtual 95, 3) := by decide +kernel
theorem d_On_executeSingle_299 : decode b_On_executeSingle 299 = .ok (.goto 133, 3) := by decide +kernel
theorem d_On_executeSingle_342 : decode b_On_executeSingle 342 = .ok (.aload_n 0, 1) := by decide +kernel
theorem d_On_executeSingle_343 : decode b_On_executeSingle 343 = .ok (.getfield 9, 3) := by decide +kernel
theorem d_On_executeSingle_346 : decode b_On_executeSingle 346 = .ok (.dup, 1) := by decide +kernel
theorem d_On_executeSingle_347 : decode b_On_executeSingle 347 = .ok (.getfield 127, 3) := by decide +kernel
theorem d_On_executeSingle_350 : decode b_On_executeSingle 350 = .ok (.iconst 1, 1) := by decide +kernel
theorem d_On_executeSingle_351 : decode b_On_executeSingle 351 = .ok (.ixor, 1) := by decide +kernel
theorem d_On_executeSingle_352 : decode b_On_executeSingle 352 = .ok (.putfield 127, 3) := by decide +kernel
theorem d_On_executeSingle_355 : decode b_On_executeSingle 355 = .ok (.goto 77, 3) := by decide +kernel
theorem d_On_executeSingle_358 : decode b_On_executeSingle 358 = .ok (.aload_n 0, 1) := by decide +kernel
theorem d_On_executeSingle_359 : decode b_On_executeSingle 359 = .ok (.getfield 9, 3) := by decide +kernel
theorem d_On_executeSingle_362 : decode b_On_executeSingle 362 = .ok (.dup, 1) := by decide +kernel
theorem d_On_executeSingle_363 : decode b_On_executeSingle 363 = .ok (.getfield 127, 3) := by decide +kernel
theorem d_On_executeSingle_366 : decode b_On_executeSingle 366 = .ok (.bipush (-2), 2) := by decide +kernel
theorem d_On_executeSingle_368 : decode b_On_executeSingle 368 = .ok (.iand, 1) := by decide +kernel
theorem d_On_executeSingle_369 : decode b_On_executeSingle 369 = .ok (.putfield 127, 3) := by decide +kernel
theorem d_On_executeSingle_372 : decode b_On_executeSingle 372 = .ok (.goto 60, 3) := by decide +kernel
theorem d_On_executeSingle_375 : decode b_On_executeSingle 375 = .ok (.aload_n 0, 1) := by decide +kernel
theorem d_On_executeSingle_376 : decode b_On_executeSingle 376 = .ok (.getfield 9, 3) := by decide +kernel
theorem d_On_executeSingle_379 : decode b_On_executeSingle 379 = .ok (.dup, 1) := by decide +kernel
theorem d_On_executeSingle_380 : decode b_On_executeSingle 380 = .ok (.getfield 127, 3) := by decide +kernel
theorem d_On_executeSingle_383 : decode b_On_executeSingle 383 = .ok (.iconst 1, 1) := by decide +kernel
theorem d_On_executeSingle_384 : decode b_On_executeSingle 384 = .ok (.ior, 1) := by decide +kernel
theorem d_On_executeSingle_385 : decode b_On_executeSingle 385 = .ok (.putfield 127, 3) := by decide +kernel
theorem d_On_executeSingle_388 : decode b_On_executeSingle 388 = .ok (.goto 44, 3) := by decide +kernel
theorem d_On_executeSingle_391 : decode b_On_executeSingle 391 = .ok (.aload_n 0, 1) := by decide +kernel
theorem d_On_executeSingle_392 : decode b_On_executeSingle 392 = .ok (.getfield 9, 3) := by decide +kernel
theorem d_On_executeSingle_395 : decode b_On_executeSingle 395 = .ok (.dup, 1) := by decide +kernel
theorem d_On_executeSingle_396 : decode b_On_executeSingle 396 = .ok (.getfield 127, 3) := by decide +kernel
theorem d_On_executeSingle_399 : decode b_On_executeSingle 399 = .ok (.sipush (-1025), 3) := by decide +kernel
theorem d_On_executeSingle_402 : decode b_On_executeSingle 402 = .ok (.iand, 1) := by decide +kernel
theorem d_On_executeSingle_403 : decode b_On_executeSingle 403 = .ok (.putfield 127, 3) := by decide +kernel
theorem d_On_executeSingle_406 : decode b_On_executeSingle 406 = .ok (.goto 26, 3) := by decide +kernel
theorem d_On_executeSingle_409 : decode b_On_executeSingle 409 = .ok (.aload_n 0, 1) := by decide +kernel
theorem d_On_executeSingle_410 : decode b_On_executeSingle 410 = .ok (.getfield 9, 3) := by decide +kernel
theorem d_On_executeSingle_413 : decode b_On_executeSingle 413 = .ok (.dup, 1) := by decide +kernel
theorem d_On_executeSingle_414 : decode b_On_executeSingle 414 = .ok (.getfield 127, 3) := by decide +kernel
theorem d_On_executeSingle_417 : decode b_On_executeSingle 417 = .ok (.sipush 1024, 3) := by decide +kernel
theorem d_On_executeSingle_420 : decode b_On_executeSingle 420 = .ok (.ior, 1) := by decide +kernel
theorem d_On_executeSingle_421 : decode b_On_executeSingle 421 = .ok (.putfield 127, 3) := by decide +kernel
theorem d_On_executeSingle_424 : decode b_On_executeSingle 424 = .ok (.goto 8, 3) := by decide +kernel
theorem d_On_executeSingle_302 : decode b_On_executeSingle 302 = .ok (.aload_n 0, 1) := by decide +kernel
theorem d_On_executeSingle_303 : decode b_On_executeSingle 303 = .ok (.getfield 19, 3) := by decide +kernel
theorem d_On_executeSingle_306 : decode b_On_executeSingle 306 = .ok (.aload_n 0, 1) := by decide +kernel
theorem d_On_executeSingle_307 : decode b_On_executeSingle 307 = .ok (.getfield 23, 3) := by decide +kernel
theorem d_On_executeSingle_310 : decode b_On_executeSingle 310 = .ok (.aload_n 0, 1) := by decide +kernel
theorem d_On_executeSingle_311 : decode b_On_executeSingle 311 = .ok (.getfield 19, 3) := by decide +kernel
theorem d_On_executeSingle_314 : decode b_On_executeSingle 314 = .ok (.invokevirtual 82, 3) := by decide +kernel
theorem d_On_executeSingle_317 : decode b_On_executeSingle 317 = .ok (.aload_n 0, 1) := by decide +kernel
theorem d_On_executeSingle_318 : decode b_On_executeSingle 318 = .ok (.getfield 15, 3) := by decide +kernel
theorem d_On_executeSingle_321 : decode b_On_executeSingle 321 = .ok (.getfield 64, 3) := by decide +kernel
theorem d_On_executeSingle_324 : decode b_On_executeSingle 324 = .ok (.ifCond .ne 7, 3) := by decide +kernel
theorem d_On_executeSingle_331 : decode b_On_executeSingle 331 = .ok (.iconst 0, 1) := by decide +kernel
theorem d_On_executeSingle_332 : decode b_On_executeSingle 332 = .ok (.iload_n 1, 1) := by decide +kernel
theorem d_Ar_neighbour_0 : decode b_Ar_neighbour 0 = .ok (.aload_n 0, 1) := by decide +kernel
theorem d_Ar_neighbour_1 : decode b_Ar_neighbour 1 = .ok (.getfield 9, 3) := by decide +kernel
theorem d_Ar_neighbour_4 : decode b_Ar_neighbour 4 = .ok (.getfield 17, 3) := by decide +kernel
theorem d_Ar_neighbour_7 : decode b_Ar_neighbour 7 = .ok (.iconst 1, 1) := by decide +kernel
theorem d_Ar_neighbour_8 : decode b_Ar_neighbour 8 = .ok (.iand, 1) := by decide +kernel
theorem d_Ar_neighbour_9 : decode b_Ar_neighbour 9 = .ok (.istore 5, 2) := by decide +kernel
theorem d_Ar_neighbour_11 : decode b_Ar_neighbour 11 = .ok (.iload_n 3, 1) := by decide +kernel
theorem d_Ar_neighbour_12 : decode b_Ar_neighbour 12 = .ok (.ifCond .eq 15, 3) := by decide +kernel
theorem d_Ar_neighbour_27 : decode b_Ar_neighbour 27 = .ok (.aload_n 0, 1) := by decide +kernel
theorem d_Ar_neighbour_28 : decode b_Ar_neighbour 28 = .ok (.lload_n 1, 1) := by decide +kernel
theorem d_Ar_neighbour_29 : decode b_Ar_neighbour 29 = .ok (.lconst 1, 1) := by decide +kernel
theorem d_Ar_neighbour_30 : decode b_Ar_neighbour 30 = .ok (.lconst 0, 1) := by decide +kernel
theorem d_Ar_neighbour_31 : decode b_Ar_neighbour 31 = .ok (.iload 4, 2) := by decide +kernel
theorem d_Ar_neighbour_33 : decode b_Ar_neighbour 33 = .ok (.invokevirtual 47, 3) := by decide +kernel
theorem d_Ar_neighbour_36 : decode b_Ar_neighbour 36 = .ok (.lstore 6, 2) := by decide +kernel
theorem d_Ar_neighbour_38 : decode b_Ar_neighbour 38 = .ok (.aload_n 0, 1) := by decide +kernel
theorem d_Ar_neighbour_39 : decode b_Ar_neighbour 39 = .ok (.iconst 1, 1) := by decide +kernel
theorem d_Ar_neighbour_40 : decode b_Ar_neighbour 40 = .ok (.iload 5, 2) := by decide +kernel
theorem d_Ar_neighbour_42 : decode b_Ar_neighbour 42 = .ok (.iconst 0, 1) := by decide +kernel
theorem d_Ar_neighbour_43 : decode b_Ar_neighbour 43 = .ok (.invokevirtual 32, 3) := by decide +kernel
theorem d_Ar_neighbour_46 : decode b_Ar_neighbour 46 = .ok (.lload 6, 2) := by decide +kernel
theorem d_Ar_neighbour_48 : decode b_Ar_neighbour 48 = .ok (.lreturn, 1) := by decide +kernel
theorem d_Ar_neighbour_15 : decode b_Ar_neighbour 15 = .ok (.aload_n 0, 1) := by decide +kernel
theorem d_Ar_neighbour_16 : decode b_Ar_neighbour 16 = .ok (.lload_n 1, 1) := by decide +kernel
theorem d_Ar_neighbour_17 : decode b_Ar_neighbour 17 = .ok (.lconst 1, 1) := by decide +kernel
theorem d_Ar_neighbour_18 : decode b_Ar_neighbour 18 = .ok (.lconst 0, 1) := by decide +kernel
theorem d_Ar_neighbour_19 : decode b_Ar_neighbour 19 = .ok (.iload 4, 2) := by decide +kernel
theorem d_Ar_neighbour_21 : decode b_Ar_neighbour 21 = .ok (.invokevirtual 44, 3) := by decide +kernel
theorem d_Ar_neighbour_24 : decode b_Ar_neighbour 24 = .ok (.goto 12, 3) := by decide +kernel
theorem d_On_executeSingle_333 : decode b_On_executeSingle 333 = .ok (.invokevirtual 123, 3) := by decide +kernel
theorem d_On_executeSingle_336 : decode b_On_executeSingle 336 = .ok (.invokevirtual 95, 3) := by decide +kernel
theorem d_On_executeSingle_339 : decode b_On_executeSingle 339 = .ok (.goto 93, 3) := by decide +kernel
theorem d_On_executeSingle_327 : decode b_On_executeSingle 327 = .ok (.iconst 1, 1) := by decide +kernel
theorem d_On_executeSingle_328 : decode b_On_executeSingle 328 = .ok (.goto 4, 3) := by decide +kernel
theorem d_On_executeSingle_427 : decode b_On_executeSingle 427 = .ok (.aload_n 0, 1) := by decide +kernel
theorem d_On_executeSingle_428 : decode b_On_executeSingle 428 = .ok (.iload_n 1, 1) := by decide +kernel
theorem d_On_move_0 : decode b_On_move 0 = .ok (.aload_n 0, 1) := by decide +kernel
theorem d_On_move_1 : decode b_On_move 1 = .ok (.getfield 15, 3) := by decide +kernel
theorem d_On_move_4 : decode b_On_move 4 = .ok (.getfield 31, 3) := by decide +kernel
theorem d_On_move_7 : decode b_On_move 7 = .ok (.lookupswitch 320 #[(99, 105), (134, 133), (135, 133), (136, 168), (137, 168), (138, 186), (139, 186), (141, 204), (152, 223), (153, 264), (198, 303), (199, 303)], 105) := by decide +kernel
theorem d_On_move_112 : decode b_On_move 112 = .ok (.aload_n 0, 1) := by decide +kernel
theorem d_On_move_113 : decode b_On_move 113 = .ok (.getfield 19, 3) := by decide +kernel
theorem d_On_move_116 : decode b_On_move 116 = .ok (.aload_n 0, 1) := by decide +kernel
theorem d_On_move_117 : decode b_On_move 117 = .ok (.getfield 19, 3) := by decide +kernel
theorem d_On_move_120 : decode b_On_move 120 = .ok (.invokevirtual 82, 3) := by decide +kernel
theorem d_On_move_123 : decode b_On_move 123 = .ok (.aload_n 0, 1) := by decide +kernel
theorem d_On_move_124 : decode b_On_move 124 = .ok (.getfield 19, 3) := by decide +kernel
theorem d_On_move_127 : decode b_On_move 127 = .ok (.getfield 139, 3) := by decide +kernel
theorem d_On_move_130 : decode b_On_move 130 = .ok (.invokestatic 142, 3) := by decide +kernel
theorem d_On_move_133 : decode b_On_move 133 = .ok (.iload_n 1, 1) := by decide +kernel
theorem d_On_move_134 : decode b_On_move 134 = .ok (.invokevirtual 91, 3) := by decide +kernel
theorem d_On_move_137 : decode b_On_move 137 = .ok (.goto 190, 3) := by decide +kernel
theorem d_On_move_327 : decode b_On_move 327 = .ok (.return_, 1) := by decide +kernel
theorem d_On_move_140 : decode b_On_move 140 = .ok (.aload_n 0, 1) := by decide +kernel
theorem d_On_move_141 : decode b_On_move 141 = .ok (.getfield 19, 3) := by decide +kernel
theorem d_On_move_144 : decode b_On_move 144 = .ok (.invokevirtual 82, 3) := by decide +kernel
theorem d_On_move_147 : decode b_On_move 147 = .ok (.lstore_n 2, 1) := by decide +kernel
theorem d_On_move_148 : decode b_On_move 148 = .ok (.aload_n 0, 1) := by decide +kernel
theorem d_On_move_149 : decode b_On_move 149 = .ok (.getfield 19, 3) := by decide +kernel
theorem d_On_move_152 : decode b_On_move 152 = .ok (.aload_n 0, 1) := by decide +kernel
theorem d_On_move_153 : decode b_On_move 153 = .ok (.getfield 19, 3) := by decide +kernel
theorem d_On_move_156 : decode b_On_move 156 = .ok (.iload_n 1, 1) := by decide +kernel
theorem d_On_move_157 : decode b_On_move 157 = .ok (.invokevirtual 74, 3) := by decide +kernel
theorem d_On_move_160 : decode b_On_move 160 = .ok (.invokevirtual 95, 3) := by decide +kernel
theorem d_On_move_163 : decode b_On_move 163 = .ok (.aload_n 0, 1) := by decide +kernel
theorem d_On_move_164 : decode b_On_move 164 = .ok (.getfield 19, 3) := by decide +kernel
theorem d_On_move_167 : decode b_On_move 167 = .ok (.lload_n 2, 1) := by decide +kernel
theorem d_On_move_168 : decode b_On_move 168 = .ok (.iload_n 1, 1) := by decide +kernel
theorem d_On_move_169 : decode b_On_move 169 = .ok (.invokevirtual 91, 3) := by decide +kernel
theorem d_On_move_172 : decode b_On_move 172 = .ok (.goto 155, 3) := by decide +kernel
theorem d_On_move_175 : decode b_On_move 175 = .ok (.aload_n 0, 1) := by decide +kernel
theorem d_On_move_176 : decode b_On_move 176 = .ok (.getfield 19, 3) := by decide +kernel
theorem d_On_move_179 : decode b_On_move 179 = .ok (.aload_n 0, 1) := by decide +kernel
theorem d_On_move_180 : decode b_On_move 180 = .ok (.getfield 19, 3) := by decide +kernel
theorem d_On_move_183 : decode b_On_move 183 = .ok (.iload_n 1, 1) := by decide +kernel
theorem d_On_move_184 : decode b_On_move 184 = .ok (.invokevirtual 74, 3) := by decide +kernel
theorem d_On_move_187 : decode b_On_move 187 = .ok (.invokevirtual 95, 3) := by decide +kernel
theorem d_On_move_190 : decode b_On_move 190 = .ok (.goto 137, 3) := by decide +kernel
theorem d_On_move_193 : decode b_On_move 193 = .ok (.aload_n 0, 1) := by decide +kernel
theorem d_On_move_194 : decode b_On_move 194 = .ok (.getfield 19, 3) := by decide +kernel
theorem d_On_move_197 : decode b_On_move 197 = .ok (.aload_n 0, 1) := by decide +kernel
theorem d_On_move_198 : decode b_On_move 198 = .ok (.getfield 19, 3) := by decide +kernel
theorem d_On_move_201 : decode b_On_move 201 = .ok (.invokevirtual 82, 3) := by decide +kernel
theorem d_On_move_204 : decode b_On_move 204 = .ok (.iload_n 1, 1) := by decide +kernel
theorem d_On_move_205 : decode b_On_move 205 = .ok (.invokevirtual 91, 3) := by decide +kernel
theorem d_On_move_208 : decode b_On_move 208 = .ok (.goto 119, 3) := by decide +kernel
theorem d_On_move_211 : decode b_On_move 211 = .ok (.aload_n 0, 1) := by decide +kernel
theorem d_On_move_212 : decode b_On_move 212 = .ok (.getfield 19, 3) := by decide +kernel
theorem d_On_move_215 : decode b_On_move 215 = .ok (.aload_n 0, 1) := by decide +kernel
theorem d_On_move_216 : decode b_On_move 216 = .ok (.getfield 15, 3) := by decide +kernel
theorem d_On_move_219 : decode b_On_move 219 = .ok (.lconst 0, 1) := by decide +kernel
theorem d_On_move_220 : decode b_On_move 220 = .ok (.invokevirtual 145, 3) := by decide +kernel
theorem d_On_move_223 : decode b_On_move 223 = .ok (.iload_n 1, 1) := by decide +kernel
theorem d_On_move_224 : decode b_On_move 224 = .ok (.invokevirtual 91, 3) := by decide +kernel
theorem d_On_move_227 : decode b_On_move 227 = .ok (.goto 100, 3) := by decide +kernel
theorem d_On_move_230 : decode b_On_move 230 = .ok (.aload_n 0, 1) := by decide +kernel
theorem d_On_move_231 : decode b_On_move 231 = .ok (.getfield 9, 3) := by decide +kernel
theorem d_On_move_234 : decode b_On_move 234 = .ok (.getfield 135, 3) := by decide +kernel
theorem d_On_move_237 : decode b_On_move 237 = .ok (.iconst 0, 1) := by decide +kernel
theorem d_On_move_238 : decode b_On_move 238 = .ok (.laload, 1) := by decide +kernel
theorem d_On_move_239 : decode b_On_move 239 = .ok (.aload_n 0, 1) := by decide +kernel
theorem d_On_move_240 : decode b_On_move 240 = .ok (.getfield 15, 3) := by decide +kernel
theorem d_On_move_243 : decode b_On_move 243 = .ok (.invokevirtual 54, 3) := by decide +kernel
theorem d_On_move_246 : decode b_On_move 246 = .ok (.iconst 2, 1) := by decide +kernel
theorem d_On_move_247 : decode b_On_move 247 = .ok (.idiv, 1) := by decide +kernel
theorem d_On_move_248 : decode b_On_move 248 = .ok (.invokestatic 142, 3) := by decide +kernel
theorem d_On_move_251 : decode b_On_move 251 = .ok (.lstore_n 2, 1) := by decide +kernel
theorem d_On_move_252 : decode b_On_move 252 = .ok (.aload_n 0, 1) := by decide +kernel
theorem d_On_move_253 : decode b_On_move 253 = .ok (.getfield 19, 3) := by decide +kernel
theorem d_On_move_256 : decode b_On_move 256 = .ok (.iconst 0, 1) := by decide +kernel
theorem d_On_move_257 : decode b_On_move 257 = .ok (.lload_n 2, 1) := by decide +kernel
theorem d_On_move_258 : decode b_On_move 258 = .ok (.aload_n 0, 1) := by decide +kernel
theorem d_On_move_259 : decode b_On_move 259 = .ok (.getfield 15, 3) := by decide +kernel
theorem d_On_move_262 : decode b_On_move 262 = .ok (.invokevirtual 54, 3) := by decide +kernel
theorem d_On_move_265 : decode b_On_move 265 = .ok (.invokevirtual 48, 3) := by decide +kernel
theorem d_On_move_268 : decode b_On_move 268 = .ok (.goto 59, 3) := by decide +kernel
theorem d_On_move_271 : decode b_On_move 271 = .ok (.aload_n 0, 1) := by decide +kernel
theorem d_On_move_272 : decode b_On_move 272 = .ok (.getfield 9, 3) := by decide +kernel
theorem d_On_move_275 : decode b_On_move 275 = .ok (.getfield 135, 3) := by decide +kernel
theorem d_On_move_278 : decode b_On_move 278 = .ok (.iconst 0, 1) := by decide +kernel
theorem d_On_move_279 : decode b_On_move 279 = .ok (.laload, 1) := by decide +kernel
theorem d_On_move_280 : decode b_On_move 280 = .ok (.iload_n 1, 1) := by decide +kernel
theorem d_On_move_281 : decode b_On_move 281 = .ok (.invokestatic 142, 3) := by decide +kernel
theorem d_On_move_284 : decode b_On_move 284 = .ok (.lstore_n 2, 1) := by decide +kernel
theorem d_On_move_285 : decode b_On_move 285 = .ok (.aload_n 0, 1) := by decide +kernel
theorem d_On_move_286 : decode b_On_move 286 = .ok (.getfield 19, 3) := by decide +kernel
theorem d_On_move_289 : decode b_On_move 289 = .ok (.iconst 2, 1) := by decide +kernel
theorem d_On_move_290 : decode b_On_move 290 = .ok (.lload_n 2, 1) := by decide +kernel
theorem d_On_move_291 : decode b_On_move 291 = .ok (.lconst 0, 1) := by decide +kernel
theorem d_On_move_292 : decode b_On_move 292 = .ok (.lcmp, 1) := by decide +kernel
theorem d_On_move_293 : decode b_On_move 293 = .ok (.ifCond .ge 9, 3) := by decide +kernel
theorem d_On_move_302 : decode b_On_move 302 = .ok (.lconst 0, 1) := by decide +kernel
theorem d_On_move_303 : decode b_On_move 303 = .ok (.iload_n 1, 1) := by decide +kernel
theorem d_On_move_304 : decode b_On_move 304 = .ok (.invokevirtual 48, 3) := by decide +kernel
theorem d_On_move_307 : decode b_On_move 307 = .ok (.goto 20, 3) := by decide +kernel
theorem d_On_move_296 : decode b_On_move 296 = .ok (.ldc2_w 149, 3) := by decide +kernel
theorem d_On_move_299 : decode b_On_move 299 = .ok (.goto 4, 3) := by decide +kernel
theorem d_On_move_310 : decode b_On_move 310 = .ok (.aload_n 0, 1) := by decide +kernel
theorem d_On_move_311 : decode b_On_move 311 = .ok (.getfield 19, 3) := by decide +kernel
theorem d_On_move_314 : decode b_On_move 314 = .ok (.aload_n 0, 1) := by decide +kernel
theorem d_On_move_315 : decode b_On_move 315 = .ok (.getfield 15, 3) := by decide +kernel
theorem d_On_move_318 : decode b_On_move 318 = .ok (.getfield 44, 3) := by decide +kernel
theorem d_On_move_321 : decode b_On_move 321 = .ok (.invokevirtual 95, 3) := by decide +kernel
theorem d_On_move_324 : decode b_On_move 324 = .ok (.goto 3, 3) := by decide +kernel
theorem d_On_executeSingle_429 : decode b_On_executeSingle 429 = .ok (.invokevirtual 132, 3) := by decide +kernel
theorem d_On_execute_220 : decode b_On_execute 220 = .ok (.invokevirtual 70, 3) := by decide +kernel
theorem d_On_execute_223 : decode b_On_execute 223 = .ok (.iconst (-1), 1) := by decide +kernel
theorem d_On_execute_224 : decode b_On_execute 224 = .ok (.ireturn, 1) := by decide +kernel
theorem d_On_execute_187 : decode b_On_execute 187 = .ok (.aload_n 0, 1) := by decide +kernel
theorem d_On_execute_188 : decode b_On_execute 188 = .ok (.getfield 15, 3) := by decide +kernel
theorem d_On_execute_191 : decode b_On_execute 191 = .ok (.getfield 31, 3) := by decide +kernel
theorem d_On_execute_194 : decode b_On_execute 194 = .ok (.sipush 131, 3) := by decide +kernel
theorem d_On_execute_197 : decode b_On_execute 197 = .ok (.if_icmp .gt 18, 3) := by decide +kernel
theorem d_On_execute_200 : decode b_On_execute 200 = .ok (.aload_n 0, 1) := by decide +kernel
theorem d_On_execute_201 : decode b_On_execute 201 = .ok (.aload_n 0, 1) := by decide +kernel
theorem d_On_execute_202 : decode b_On_execute 202 = .ok (.getfield 15, 3) := by decide +kernel
theorem d_On_execute_205 : decode b_On_execute 205 = .ok (.getfield 64, 3) := by decide +kernel
theorem d_On_execute_208 : decode b_On_execute 208 = .ok (.iconst 3, 1) := by decide +kernel
theorem d_On_combine_0 : decode b_On_combine 0 = .ok (.aload_n 0, 1) := by decide +kernel
theorem d_On_combine_1 : decode b_On_combine 1 = .ok (.invokevirtual 67, 3) := by decide +kernel
theorem d_On_combine_4 : decode b_On_combine 4 = .ok (.istore_n 3, 1) := by decide +kernel
theorem d_On_combine_5 : decode b_On_combine 5 = .ok (.iload_n 2, 1) := by decide +kernel
theorem d_On_combine_6 : decode b_On_combine 6 = .ok (.iconst 1, 1) := by decide +kernel
theorem d_On_combine_7 : decode b_On_combine 7 = .ok (.if_icmp .ne 14, 3) := by decide +kernel
theorem d_On_combine_21 : decode b_On_combine 21 = .ok (.iload_n 2, 1) := by decide +kernel
theorem d_On_combine_22 : decode b_On_combine 22 = .ok (.iconst 2, 1) := by decide +kernel
theorem d_On_combine_23 : decode b_On_combine 23 = .ok (.if_icmp .ne 15, 3) := by decide +kernel
theorem d_On_combine_38 : decode b_On_combine 38 = .ok (.aload_n 0, 1) := by decide +kernel
theorem d_On_combine_39 : decode b_On_combine 39 = .ok (.getfield 19, 3) := by decide +kernel
theorem d_On_combine_42 : decode b_On_combine 42 = .ok (.invokevirtual 82, 3) := by decide +kernel
theorem d_On_combine_45 : decode b_On_combine 45 = .ok (.lstore 4, 2) := by decide +kernel
theorem d_On_combine_47 : decode b_On_combine 47 = .ok (.iload_n 2, 1) := by decide +kernel
theorem d_On_combine_48 : decode b_On_combine 48 = .ok (.ifCond .ne 14, 3) := by decide +kernel
theorem d_On_combine_62 : decode b_On_combine 62 = .ok (.iload_n 2, 1) := by decide +kernel
theorem d_On_combine_63 : decode b_On_combine 63 = .ok (.iconst 1, 1) := by decide +kernel
theorem d_On_combine_64 : decode b_On_combine 64 = .ok (.if_icmp .ne 13, 3) := by decide +kernel
theorem d_On_combine_77 : decode b_On_combine 77 = .ok (.aload_n 0, 1) := by decide +kernel
theorem d_On_combine_78 : decode b_On_combine 78 = .ok (.getfield 15, 3) := by decide +kernel
theorem d_On_combine_81 : decode b_On_combine 81 = .ok (.getfield 44, 3) := by decide +kernel
theorem d_On_combine_84 : decode b_On_combine 84 = .ok (.lstore 6, 2) := by decide +kernel
theorem d_On_combine_86 : decode b_On_combine 86 = .ok (.aload_n 0, 1) := by decide +kernel
theorem d_On_combine_87 : decode b_On_combine 87 = .ok (.getfield 23, 3) := by decide +kernel
theorem d_On_combine_90 : decode b_On_combine 90 = .ok (.iload_n 1, 1) := by decide +kernel
theorem d_On_combine_91 : decode b_On_combine 91 = .ok (.lload 4, 2) := by decide +kernel
theorem d_On_combine_93 : decode b_On_combine 93 = .ok (.lload 6, 2) := by decide +kernel
theorem d_On_combine_95 : decode b_On_combine 95 = .ok (.iload_n 3, 1) := by decide +kernel
theorem d_Ar_combine_0 : decode b_Ar_combine 0 = .ok (.aload_n 0, 1) := by decide +kernel
theorem d_Ar_combine_1 : decode b_Ar_combine 1 = .ok (.getfield 9, 3) := by decide +kernel
theorem d_Ar_combine_4 : decode b_Ar_combine 4 = .ok (.getfield 17, 3) := by decide +kernel
theorem d_Ar_combine_7 : decode b_Ar_combine 7 = .ok (.iconst 1, 1) := by decide +kernel
theorem d_Ar_combine_8 : decode b_Ar_combine 8 = .ok (.iand, 1) := by decide +kernel
theorem d_Ar_combine_9 : decode b_Ar_combine 9 = .ok (.i2l, 1) := by decide +kernel
theorem d_Ar_combine_10 : decode b_Ar_combine 10 = .ok (.lstore 7, 2) := by decide +kernel
theorem d_Ar_combine_12 : decode b_Ar_combine 12 = .ok (.iload_n 1, 1) := by decide +kernel
theorem d_Ar_combine_13 : decode b_Ar_combine 13 = .ok (.tableswitch 111 0 6 #[43, 54, 65, 77, 89, 111, 100], 43) := by decide +kernel
theorem d_Ar_combine_56 : decode b_Ar_combine 56 = .ok (.aload_n 0, 1) := by decide +kernel
theorem d_Ar_combine_57 : decode b_Ar_combine 57 = .ok (.lload_n 2, 1) := by decide +kernel
theorem d_Ar_combine_58 : decode b_Ar_combine 58 = .ok (.lload 4, 2) := by decide +kernel
theorem d_Ar_combine_60 : decode b_Ar_combine 60 = .ok (.lconst 0, 1) := by decide +kernel
theorem d_Ar_combine_61 : decode b_Ar_combine 61 = .ok (.iload 6, 2) := by decide +kernel
theorem d_Ar_combine_63 : decode b_Ar_combine 63 = .ok (.invokevirtual 44, 3) := by decide +kernel
theorem d_Ar_combine_66 : decode b_Ar_combine 66 = .ok (.lreturn, 1) := by decide +kernel
theorem d_Ar_combine_67 : decode b_Ar_combine 67 = .ok (.aload_n 0, 1) := by decide +kernel
theorem d_Ar_combine_68 : decode b_Ar_combine 68 = .ok (.lload_n 2, 1) := by decide +kernel
theorem d_Ar_combine_69 : decode b_Ar_combine 69 = .ok (.lload 4, 2) := by decide +kernel
theorem d_Ar_combine_71 : decode b_Ar_combine 71 = .ok (.lor, 1) := by decide +kernel
theorem d_Ar_combine_72 : decode b_Ar_combine 72 = .ok (.iload 6, 2) := by decide +kernel
theorem d_Ar_combine_74 : decode b_Ar_combine 74 = .ok (.invokevirtual 50, 3) := by decide +kernel
theorem d_Ar_combine_77 : decode b_Ar_combine 77 = .ok (.lreturn, 1) := by decide +kernel
theorem d_Ar_combine_78 : decode b_Ar_combine 78 = .ok (.aload_n 0, 1) := by decide +kernel
theorem d_Ar_combine_79 : decode b_Ar_combine 79 = .ok (.lload_n 2, 1) := by decide +kernel
theorem d_Ar_combine_80 : decode b_Ar_combine 80 = .ok (.lload 4, 2) := by decide +kernel
theorem d_Ar_combine_82 : decode b_Ar_combine 82 = .ok (.lload 7, 2) := by decide +kernel
theorem d_Ar_combine_84 : decode b_Ar_combine 84 = .ok (.iload 6, 2) := by decide +kernel
theorem d_Ar_combine_86 : decode b_Ar_combine 86 = .ok (.invokevirtual 44, 3) := by decide +kernel
theorem d_Ar_combine_89 : decode b_Ar_combine 89 = .ok (.lreturn, 1) := by decide +kernel
theorem d_Ar_combine_90 : decode b_Ar_combine 90 = .ok (.aload_n 0, 1) := by decide +kernel
theorem d_Ar_combine_91 : decode b_Ar_combine 91 = .ok (.lload_n 2, 1) := by decide +kernel
theorem d_Ar_combine_92 : decode b_Ar_combine 92 = .ok (.lload 4, 2) := by decide +kernel
theorem d_Ar_combine_94 : decode b_Ar_combine 94 = .ok (.lload 7, 2) := by decide +kernel
theorem d_Ar_combine_96 : decode b_Ar_combine 96 = .ok (.iload 6, 2) := by decide +kernel
theorem d_Ar_combine_98 : decode b_Ar_combine 98 = .ok (.invokevirtual 47, 3) := by decide +kernel
theorem d_Ar_combine_101 : decode b_Ar_combine 101 = .ok (.lreturn, 1) := by decide +kernel
theorem d_Ar_combine_102 : decode b_Ar_combine 102 = .ok (.aload_n 0, 1) := by decide +kernel
theorem d_Ar_combine_103 : decode b_Ar_combine 103 = .ok (.lload_n 2, 1) := by decide +kernel
theorem d_Ar_combine_104 : decode b_Ar_combine 104 = .ok (.lload 4, 2) := by decide +kernel
theorem d_Ar_combine_106 : decode b_Ar_combine 106 = .ok (.land, 1) := by decide +kernel
theorem d_Ar_combine_107 : decode b_Ar_combine 107 = .ok (.iload 6, 2) := by decide +kernel
theorem d_Ar_combine_109 : decode b_Ar_combine 109 = .ok (.invokevirtual 50, 3) := by decide +kernel
theorem d_Ar_combine_112 : decode b_Ar_combine 112 = .ok (.lreturn, 1) := by decide +kernel
theorem d_Ar_combine_124 : decode b_Ar_combine 124 = .ok (.aload_n 0, 1) := by decide +kernel
theorem d_Ar_combine_125 : decode b_Ar_combine 125 = .ok (.lload_n 2, 1) := by decide +kernel
theorem d_Ar_combine_126 : decode b_Ar_combine 126 = .ok (.lload 4, 2) := by decide +kernel
theorem d_Ar_combine_128 : decode b_Ar_combine 128 = .ok (.lconst 0, 1) := by decide +kernel
theorem d_Ar_combine_129 : decode b_Ar_combine 129 = .ok (.iload 6, 2) := by decide +kernel
theorem d_Ar_combine_131 : decode b_Ar_combine 131 = .ok (.invokevirtual 47, 3) := by decide +kernel
theorem d_Ar_combine_134 : decode b_Ar_combine 134 = .ok (.lreturn, 1) := by decide +kernel
theorem d_Ar_combine_113 : decode b_Ar_combine 113 = .ok (.aload_n 0, 1) := by decide +kernel
theorem d_Ar_combine_114 : decode b_Ar_combine 114 = .ok (.lload_n 2, 1) := by decide +kernel
theorem d_Ar_combine_115 : decode b_Ar_combine 115 = .ok (.lload 4, 2) := by decide +kernel
theorem d_Ar_combine_117 : decode b_Ar_combine 117 = .ok (.lxor, 1) := by decide +kernel
theorem d_Ar_combine_118 : decode b_Ar_combine 118 = .ok (.iload 6, 2) := by decide +kernel
theorem d_Ar_combine_120 : decode b_Ar_combine 120 = .ok (.invokevirtual 50, 3) := by decide +kernel
theorem d_Ar_combine_123 : decode b_Ar_combine 123 = .ok (.lreturn, 1) := by decide +kernel
theorem d_On_combine_96 : decode b_On_combine 96 = .ok (.invokevirtual 86, 3) := by decide +kernel
theorem d_On_combine_99 : decode b_On_combine 99 = .ok (.lstore 8, 2) := by decide +kernel
theorem d_On_combine_101 : decode b_On_combine 101 = .ok (.iload_n 1, 1) := by decide +kernel
theorem d_On_combine_102 : decode b_On_combine 102 = .ok (.bipush 7, 2) := by decide +kernel
theorem d_On_combine_104 : decode b_On_combine 104 = .ok (.if_icmp .ne 4, 3) := by decide +kernel
theorem d_On_combine_108 : decode b_On_combine 108 = .ok (.iload_n 2, 1) := by decide +kernel
theorem d_On_combine_109 : decode b_On_combine 109 = .ok (.iconst 1, 1) := by decide +kernel
theorem d_On_combine_110 : decode b_On_combine 110 = .ok (.if_icmp .ne 16, 3) := by decide +kernel
theorem d_On_combine_126 : decode b_On_combine 126 = .ok (.iload_n 2, 1) := by decide +kernel
theorem d_On_combine_127 : decode b_On_combine 127 = .ok (.iconst 2, 1) := by decide +kernel
theorem d_On_combine_128 : decode b_On_combine 128 = .ok (.if_icmp .ne 17, 3) := by decide +kernel
theorem d_On_combine_145 : decode b_On_combine 145 = .ok (.aload_n 0, 1) := by decide +kernel
theorem d_On_combine_146 : decode b_On_combine 146 = .ok (.getfield 19, 3) := by decide +kernel
theorem d_On_combine_149 : decode b_On_combine 149 = .ok (.lload 8, 2) := by decide +kernel
theorem d_On_combine_151 : decode b_On_combine 151 = .ok (.invokevirtual 95, 3) := by decide +kernel
theorem d_On_combine_154 : decode b_On_combine 154 = .ok (.return_, 1) := by decide +kernel
theorem d_On_combine_131 : decode b_On_combine 131 = .ok (.aload_n 0, 1) := by decide +kernel
theorem d_On_combine_132 : decode b_On_combine 132 = .ok (.getfield 19, 3) := by decide +kernel
theorem d_On_combine_135 : decode b_On_combine 135 = .ok (.iconst 0, 1) := by decide +kernel
theorem d_On_combine_136 : decode b_On_combine 136 = .ok (.lload 8, 2) := by decide +kernel
theorem d_On_combine_138 : decode b_On_combine 138 = .ok (.iload_n 3, 1) := by decide +kernel
theorem d_On_combine_139 : decode b_On_combine 139 = .ok (.invokevirtual 48, 3) := by decide +kernel
theorem d_On_combine_142 : decode b_On_combine 142 = .ok (.goto 12, 3) := by decide +kernel
theorem d_On_combine_113 : decode b_On_combine 113 = .ok (.aload_n 0, 1) := by decide +kernel
theorem d_On_combine_114 : decode b_On_combine 114 = .ok (.getfield 19, 3) := by decide +kernel
theorem d_On_combine_117 : decode b_On_combine 117 = .ok (.lload 8, 2) := by decide +kernel
theorem d_On_combine_119 : decode b_On_combine 119 = .ok (.iload_n 3, 1) := by decide +kernel
theorem d_On_combine_120 : decode b_On_combine 120 = .ok (.invokevirtual 91, 3) := by decide +kernel
theorem d_On_combine_123 : decode b_On_combine 123 = .ok (.goto 31, 3) := by decide +kernel
theorem d_On_combine_107 : decode b_On_combine 107 = .ok (.return_, 1) := by decide +kernel
theorem d_On_combine_67 : decode b_On_combine 67 = .ok (.aload_n 0, 1) := by decide +kernel
theorem d_On_combine_68 : decode b_On_combine 68 = .ok (.getfield 19, 3) := by decide +kernel
theorem d_On_combine_71 : decode b_On_combine 71 = .ok (.invokevirtual 82, 3) := by decide +kernel
theorem d_On_combine_74 : decode b_On_combine 74 = .ok (.goto 10, 3) := by decide +kernel
theorem d_On_combine_51 : decode b_On_combine 51 = .ok (.aload_n 0, 1) := by decide +kernel
theorem d_On_combine_52 : decode b_On_combine 52 = .ok (.getfield 19, 3) := by decide +kernel
theorem d_On_combine_55 : decode b_On_combine 55 = .ok (.iload_n 3, 1) := by decide +kernel
theorem d_On_combine_56 : decode b_On_combine 56 = .ok (.invokevirtual 74, 3) := by decide +kernel
theorem d_On_combine_59 : decode b_On_combine 59 = .ok (.goto 25, 3) := by decide +kernel
theorem d_On_combine_26 : decode b_On_combine 26 = .ok (.aload_n 0, 1) := by decide +kernel
theorem d_On_combine_27 : decode b_On_combine 27 = .ok (.getfield 19, 3) := by decide +kernel
theorem d_On_combine_30 : decode b_On_combine 30 = .ok (.iconst 0, 1) := by decide +kernel
theorem d_On_combine_31 : decode b_On_combine 31 = .ok (.iload_n 3, 1) := by decide +kernel
theorem d_On_combine_32 : decode b_On_combine 32 = .ok (.invokevirtual 78, 3) := by decide +kernel
theorem d_On_combine_35 : decode b_On_combine 35 = .ok (.goto 10, 3) := by decide +kernel
theorem d_On_combine_10 : decode b_On_combine 10 = .ok (.aload_n 0, 1) := by decide +kernel
theorem d_On_combine_11 : decode b_On_combine 11 = .ok (.getfield 19, 3) := by decide +kernel
theorem d_On_combine_14 : decode b_On_combine 14 = .ok (.iload_n 3, 1) := by decide +kernel
theorem d_On_combine_15 : decode b_On_combine 15 = .ok (.invokevirtual 74, 3) := by decide +kernel
theorem d_On_combine_18 : decode b_On_combine 18 = .ok (.goto 27, 3) := by decide +kernel
theorem d_On_execute_209 : decode b_On_execute 209 = .ok (.invokevirtual 60, 3) := by decide +kernel
theorem d_On_execute_212 : decode b_On_execute 212 = .ok (.goto 11, 3) := by decide +kernel
theorem d_On_execute_147 : decode b_On_execute 147 = .ok (.aload_n 0, 1) := by decide +kernel
theorem d_On_execute_148 : decode b_On_execute 148 = .ok (.aload_n 0, 1) := by decide +kernel
theorem d_On_execute_149 : decode b_On_execute 149 = .ok (.getfield 15, 3) := by decide +kernel
theorem d_On_execute_152 : decode b_On_execute 152 = .ok (.getfield 31, 3) := by decide +kernel
theorem d_On_execute_155 : decode b_On_execute 155 = .ok (.iconst 3, 1) := by decide +kernel
theorem d_On_execute_156 : decode b_On_execute 156 = .ok (.ishr, 1) := by decide +kernel
theorem d_On_execute_157 : decode b_On_execute 157 = .ok (.aload_n 0, 1) := by decide +kernel
theorem d_On_execute_158 : decode b_On_execute 158 = .ok (.getfield 15, 3) := by decide +kernel
theorem d_On_execute_161 : decode b_On_execute 161 = .ok (.getfield 31, 3) := by decide +kernel
theorem d_On_execute_164 : decode b_On_execute 164 = .ok (.iconst 1, 1) := by decide +kernel
theorem d_On_execute_165 : decode b_On_execute 165 = .ok (.ishr, 1) := by decide +kernel
theorem d_On_execute_166 : decode b_On_execute 166 = .ok (.iconst 3, 1) := by decide +kernel
theorem d_On_execute_167 : decode b_On_execute 167 = .ok (.iand, 1) := by decide +kernel
theorem d_On_execute_168 : decode b_On_execute 168 = .ok (.invokevirtual 60, 3) := by decide +kernel
theorem d_On_execute_171 : decode b_On_execute 171 = .ok (.goto 52, 3) := by decide +kernel
theorem d_Co_step_73 : decode b_Co_step 73 = .ok (.invokevirtual 154, 3) := by decide +kernel
theorem d_Co_step_76 : decode b_Co_step 76 = .ok (.goto 10, 3) := by decide +kernel
theorem d_Co_step_42 : decode b_Co_step 42 = .ok (.aload_n 0, 1) := by decide +kernel
theorem d_Co_step_43 : decode b_Co_step 43 = .ok (.getfield 70, 3) := by decide +kernel
theorem d_Sr_execute_0 : decode b_Sr_execute 0 = .ok (.aload_n 0, 1) := by decide +kernel
theorem d_Sr_execute_1 : decode b_Sr_execute 1 = .ok (.getfield 15, 3) := by decide +kernel
theorem d_Sr_execute_4 : decode b_Sr_execute 4 = .ok (.getfield 34, 3) := by decide +kernel
theorem d_Sr_execute_7 : decode b_Sr_execute 7 = .ok (.bipush (-2), 2) := by decide +kernel
theorem d_Sr_execute_9 : decode b_Sr_execute 9 = .ok (.iand, 1) := by decide +kernel
theorem d_Sr_execute_10 : decode b_Sr_execute 10 = .ok (.istore_n 1, 1) := by decide +kernel
theorem d_Sr_execute_11 : decode b_Sr_execute 11 = .ok (.iload_n 1, 1) := by decide +kernel
theorem d_Sr_execute_12 : decode b_Sr_execute 12 = .ok (.sipush 164, 3) := by decide +kernel
theorem d_Sr_execute_15 : decode b_Sr_execute 15 = .ok (.if_icmp .lt 17, 3) := by decide +kernel
theorem d_Sr_execute_32 : decode b_Sr_execute 32 = .ok (.bipush (-2), 2) := by decide +kernel
theorem d_Sr_execute_34 : decode b_Sr_execute 34 = .ok (.ireturn, 1) := by decide +kernel
theorem d_Sr_execute_18 : decode b_Sr_execute 18 = .ok (.iload_n 1, 1) := by decide +kernel
theorem d_Sr_execute_19 : decode b_Sr_execute 19 = .ok (.sipush 174, 3) := by decide +kernel
theorem d_Sr_execute_22 : decode b_Sr_execute 22 = .ok (.if_icmp .gt 10, 3) := by decide +kernel
theorem d_Sr_execute_25 : decode b_Sr_execute 25 = .ok (.iload_n 1, 1) := by decide +kernel
theorem d_Sr_execute_26 : decode b_Sr_execute 26 = .ok (.sipush 168, 3) := by decide +kernel
theorem d_Sr_execute_29 : decode b_Sr_execute 29 = .ok (.if_icmp .ne 6, 3) := by decide +kernel
theorem d_Sr_execute_35 : decode b_Sr_execute 35 = .ok (.aload_n 0, 1) := by decide +kernel
theorem d_Sr_execute_36 : decode b_Sr_execute 36 = .ok (.getfield 15, 3) := by decide +kernel
theorem d_Sr_execute_39 : decode b_Sr_execute 39 = .ok (.getfield 40, 3) := by decide +kernel
theorem d_Sr_execute_42 : decode b_Sr_execute 42 = .ok (.ifCond .eq 7, 3) := by decide +kernel
theorem d_Sr_execute_49 : decode b_Sr_execute 49 = .ok (.iconst 0, 1) := by decide +kernel
theorem d_Sr_execute_50 : decode b_Sr_execute 50 = .ok (.istore_n 2, 1) := by decide +kernel
theorem d_Sr_execute_51 : decode b_Sr_execute 51 = .ok (.iload_n 2, 1) := by decide +kernel
theorem d_Sr_execute_52 : decode b_Sr_execute 52 = .ok (.ifCond .eq 19, 3) := by decide +kernel
theorem d_Sr_execute_71 : decode b_Sr_execute 71 = .ok (.aload_n 0, 1) := by decide +kernel
theorem d_Sr_execute_72 : decode b_Sr_execute 72 = .ok (.getfield 15, 3) := by decide +kernel
theorem d_Sr_execute_75 : decode b_Sr_execute 75 = .ok (.getfield 34, 3) := by decide +kernel
theorem d_Sr_execute_78 : decode b_Sr_execute 78 = .ok (.iconst 1, 1) := by decide +kernel
theorem d_Sr_execute_79 : decode b_Sr_execute 79 = .ok (.iand, 1) := by decide +kernel
theorem d_Sr_execute_80 : decode b_Sr_execute 80 = .ok (.ifCond .ne 7, 3) := by decide +kernel
theorem d_Sr_execute_87 : decode b_Sr_execute 87 = .ok (.aload_n 0, 1) := by decide +kernel
theorem d_Sr_execute_88 : decode b_Sr_execute 88 = .ok (.getfield 15, 3) := by decide +kernel
theorem d_Sr_execute_91 : decode b_Sr_execute 91 = .ok (.invokevirtual 49, 3) := by decide +kernel
theorem d_Sr_execute_94 : decode b_Sr_execute 94 = .ok (.istore_n 3, 1) := by decide +kernel
theorem d_Sr_execute_95 : decode b_Sr_execute 95 = .ok (.aload_n 0, 1) := by decide +kernel
theorem d_Sr_execute_96 : decode b_Sr_execute 96 = .ok (.iload_n 1, 1) := by decide +kernel
theorem d_Sr_execute_97 : decode b_Sr_execute 97 = .ok (.iload_n 3, 1) := by decide +kernel
theorem d_Sr_executeOnce_0 : decode b_Sr_executeOnce 0 = .ok (.iload_n 1, 1) := by decide +kernel
theorem d_Sr_executeOnce_1 : decode b_Sr_executeOnce 1 = .ok (.sipush 164, 3) := by decide +kernel
theorem d_Sr_executeOnce_4 : decode b_Sr_executeOnce 4 = .ok (.if_icmp .eq 17, 3) := by decide +kernel
theorem d_Sr_executeOnce_21 : decode b_Sr_executeOnce 21 = .ok (.iconst 1, 1) := by decide +kernel
theorem d_Sr_executeOnce_22 : decode b_Sr_executeOnce 22 = .ok (.goto 4, 3) := by decide +kernel
theorem d_Sr_executeOnce_26 : decode b_Sr_executeOnce 26 = .ok (.istore_n 3, 1) := by decide +kernel
theorem d_Sr_executeOnce_27 : decode b_Sr_executeOnce 27 = .ok (.iload_n 1, 1) := by decide +kernel
theorem d_Sr_executeOnce_28 : decode b_Sr_executeOnce 28 = .ok (.sipush 172, 3) := by decide +kernel
theorem d_Sr_executeOnce_31 : decode b_Sr_executeOnce 31 = .ok (.if_icmp .eq 7, 3) := by decide +kernel
theorem d_Sr_executeOnce_38 : decode b_Sr_executeOnce 38 = .ok (.iconst 0, 1) := by decide +kernel
theorem d_Sr_executeOnce_39 : decode b_Sr_executeOnce 39 = .ok (.istore 4, 2) := by decide +kernel
theorem d_Sr_executeOnce_41 : decode b_Sr_executeOnce 41 = .ok (.iload_n 1, 1) := by decide +kernel
theorem d_Sr_executeOnce_42 : decode b_Sr_executeOnce 42 = .ok (.sipush 164, 3) := by decide +kernel
theorem d_Sr_executeOnce_45 : decode b_Sr_executeOnce 45 = .ok (.if_icmp .eq 10, 3) := by decide +kernel
theorem d_Sr_executeOnce_55 : decode b_Sr_executeOnce 55 = .ok (.iconst 1, 1) := by decide +kernel
theorem d_Sr_executeOnce_56 : decode b_Sr_executeOnce 56 = .ok (.goto 4, 3) := by decide +kernel
theorem d_Sr_executeOnce_60 : decode b_Sr_executeOnce 60 = .ok (.istore 5, 2) := by decide +kernel
theorem d_Sr_executeOnce_62 : decode b_Sr_executeOnce 62 = .ok (.iconst (-1), 1) := by decide +kernel
theorem d_Sr_executeOnce_63 : decode b_Sr_executeOnce 63 = .ok (.istore 6, 2) := by decide +kernel
theorem d_Sr_executeOnce_65 : decode b_Sr_executeOnce 65 = .ok (.iload_n 3, 1) := by decide +kernel
theorem d_Sr_executeOnce_66 : decode b_Sr_executeOnce 66 = .ok (.ifCond .eq 25, 3) := by decide +kernel
theorem d_Sr_executeOnce_91 : decode b_Sr_executeOnce 91 = .ok (.iload 4, 2) := by decide +kernel
theorem d_Sr_executeOnce_93 : decode b_Sr_executeOnce 93 = .ok (.ifCond .eq 40, 3) := by decide +kernel
theorem d_Sr_executeOnce_133 : decode b_Sr_executeOnce 133 = .ok (.iload 6, 2) := by decide +kernel
theorem d_Sr_executeOnce_135 : decode b_Sr_executeOnce 135 = .ok (.iconst (-1), 1) := by decide +kernel
theorem d_Sr_executeOnce_136 : decode b_Sr_executeOnce 136 = .ok (.if_icmp .eq 6, 3) := by decide +kernel
theorem d_Sr_executeOnce_142 : decode b_Sr_executeOnce 142 = .ok (.aload_n 0, 1) := by decide +kernel
