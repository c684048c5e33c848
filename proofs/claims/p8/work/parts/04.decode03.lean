theorem d_Wi_multiply_36 : decode b_Wi_multiply 36 = .ok (.ifCond .ge 7, 3) := by decide +kernel
theorem d_Wi_multiply_43 : decode b_Wi_multiply 43 = .ok (.lconst 0, 1) := by decide +kernel
theorem d_Wi_multiply_44 : decode b_Wi_multiply 44 = .ok (.lload_n 3, 1) := by decide +kernel
theorem d_Wi_multiply_45 : decode b_Wi_multiply 45 = .ok (.lconst 0, 1) := by decide +kernel
theorem d_Wi_multiply_46 : decode b_Wi_multiply 46 = .ok (.lcmp, 1) := by decide +kernel
theorem d_Wi_multiply_47 : decode b_Wi_multiply 47 = .ok (.ifCond .ge 7, 3) := by decide +kernel
theorem d_Wi_multiply_54 : decode b_Wi_multiply 54 = .ok (.lconst 0, 1) := by decide +kernel
theorem d_Wi_multiply_55 : decode b_Wi_multiply 55 = .ok (.ladd, 1) := by decide +kernel
theorem d_Wi_multiply_56 : decode b_Wi_multiply 56 = .ok (.lsub, 1) := by decide +kernel
theorem d_Wi_multiply_57 : decode b_Wi_multiply 57 = .ok (.putfield 23, 3) := by decide +kernel
theorem d_Wi_multiply_60 : decode b_Wi_multiply 60 = .ok (.goto 59, 3) := by decide +kernel
theorem d_Wi_multiply_50 : decode b_Wi_multiply 50 = .ok (.lload_n 1, 1) := by decide +kernel
theorem d_Wi_multiply_51 : decode b_Wi_multiply 51 = .ok (.goto 4, 3) := by decide +kernel
theorem d_Wi_multiply_39 : decode b_Wi_multiply 39 = .ok (.lload_n 3, 1) := by decide +kernel
theorem d_Wi_multiply_40 : decode b_Wi_multiply 40 = .ok (.goto 4, 3) := by decide +kernel
theorem d_Tw_executeSingle_212 : decode b_Tw_executeSingle 212 = .ok (.invokevirtual 79, 3) := by decide +kernel
theorem d_Tw_executeSingle_215 : decode b_Tw_executeSingle 215 = .ok (.aload_n 0, 1) := by decide +kernel
theorem d_Tw_executeSingle_216 : decode b_Tw_executeSingle 216 = .ok (.getfield 15, 3) := by decide +kernel
theorem d_Tw_executeSingle_219 : decode b_Tw_executeSingle 219 = .ok (.aload_n 0, 1) := by decide +kernel
theorem d_Tw_executeSingle_220 : decode b_Tw_executeSingle 220 = .ok (.getfield 23, 3) := by decide +kernel
theorem d_Tw_executeSingle_223 : decode b_Tw_executeSingle 223 = .ok (.getfield 85, 3) := by decide +kernel
theorem d_Tw_executeSingle_226 : decode b_Tw_executeSingle 226 = .ok (.iload_n 2, 1) := by decide +kernel
theorem d_Tw_executeSingle_227 : decode b_Tw_executeSingle 227 = .ok (.invokevirtual 88, 3) := by decide +kernel
theorem d_Tw_executeSingle_230 : decode b_Tw_executeSingle 230 = .ok (.goto 90, 3) := by decide +kernel
theorem d_Tw_executeSingle_233 : decode b_Tw_executeSingle 233 = .ok (.aload_n 0, 1) := by decide +kernel
theorem d_Tw_compareAndChange_0 : decode b_Tw_compareAndChange 0 = .ok (.aload_n 0, 1) := by decide +kernel
theorem d_Tw_compareAndChange_1 : decode b_Tw_compareAndChange 1 = .ok (.getfield 15, 3) := by decide +kernel
theorem d_Tw_compareAndChange_4 : decode b_Tw_compareAndChange 4 = .ok (.getfield 95, 3) := by decide +kernel
theorem d_Tw_compareAndChange_7 : decode b_Tw_compareAndChange 7 = .ok (.istore_n 1, 1) := by decide +kernel
theorem d_Tw_compareAndChange_8 : decode b_Tw_compareAndChange 8 = .ok (.aload_n 0, 1) := by decide +kernel
theorem d_Tw_compareAndChange_9 : decode b_Tw_compareAndChange 9 = .ok (.getfield 15, 3) := by decide +kernel
theorem d_Tw_compareAndChange_12 : decode b_Tw_compareAndChange 12 = .ok (.invokevirtual 75, 3) := by decide +kernel
theorem d_Tw_compareAndChange_15 : decode b_Tw_compareAndChange 15 = .ok (.lstore_n 2, 1) := by decide +kernel
theorem d_Tw_compareAndChange_16 : decode b_Tw_compareAndChange 16 = .ok (.aload_n 0, 1) := by decide +kernel
theorem d_Tw_compareAndChange_17 : decode b_Tw_compareAndChange 17 = .ok (.getfield 15, 3) := by decide +kernel
theorem d_Tw_compareAndChange_20 : decode b_Tw_compareAndChange 20 = .ok (.iconst 0, 1) := by decide +kernel
theorem d_Tw_compareAndChange_21 : decode b_Tw_compareAndChange 21 = .ok (.iload_n 1, 1) := by decide +kernel
theorem d_Tw_compareAndChange_22 : decode b_Tw_compareAndChange 22 = .ok (.invokevirtual 112, 3) := by decide +kernel
theorem d_Tw_compareAndChange_25 : decode b_Tw_compareAndChange 25 = .ok (.lstore 4, 2) := by decide +kernel
theorem d_Tw_compareAndChange_27 : decode b_Tw_compareAndChange 27 = .ok (.aload_n 0, 1) := by decide +kernel
theorem d_Tw_compareAndChange_28 : decode b_Tw_compareAndChange 28 = .ok (.getfield 19, 3) := by decide +kernel
theorem d_Tw_compareAndChange_31 : decode b_Tw_compareAndChange 31 = .ok (.lload 4, 2) := by decide +kernel
theorem d_Tw_compareAndChange_33 : decode b_Tw_compareAndChange 33 = .ok (.lload_n 2, 1) := by decide +kernel
theorem d_Tw_compareAndChange_34 : decode b_Tw_compareAndChange 34 = .ok (.lconst 0, 1) := by decide +kernel
theorem d_Tw_compareAndChange_35 : decode b_Tw_compareAndChange 35 = .ok (.iload_n 1, 1) := by decide +kernel
theorem d_Ar_difference_0 : decode b_Ar_difference 0 = .ok (.lload_n 1, 1) := by decide +kernel
theorem d_Ar_difference_1 : decode b_Ar_difference 1 = .ok (.lload_n 3, 1) := by decide +kernel
theorem d_Ar_difference_2 : decode b_Ar_difference 2 = .ok (.lsub, 1) := by decide +kernel
theorem d_Ar_difference_3 : decode b_Ar_difference 3 = .ok (.lload 5, 2) := by decide +kernel
theorem d_Ar_difference_5 : decode b_Ar_difference 5 = .ok (.lsub, 1) := by decide +kernel
theorem d_Ar_difference_6 : decode b_Ar_difference 6 = .ok (.lstore 8, 2) := by decide +kernel
theorem d_Ar_difference_8 : decode b_Ar_difference 8 = .ok (.lload_n 1, 1) := by decide +kernel
theorem d_Ar_difference_9 : decode b_Ar_difference 9 = .ok (.ldc2_w 15, 3) := by decide +kernel
theorem d_Ar_difference_12 : decode b_Ar_difference 12 = .ok (.lxor, 1) := by decide +kernel
theorem d_Ar_difference_13 : decode b_Ar_difference 13 = .ok (.lload_n 3, 1) := by decide +kernel
theorem d_Ar_difference_14 : decode b_Ar_difference 14 = .ok (.land, 1) := by decide +kernel
theorem d_Ar_difference_15 : decode b_Ar_difference 15 = .ok (.lload_n 1, 1) := by decide +kernel
theorem d_Ar_difference_16 : decode b_Ar_difference 16 = .ok (.lload_n 3, 1) := by decide +kernel
theorem d_Ar_difference_17 : decode b_Ar_difference 17 = .ok (.lxor, 1) := by decide +kernel
theorem d_Ar_difference_18 : decode b_Ar_difference 18 = .ok (.ldc2_w 15, 3) := by decide +kernel
theorem d_Ar_difference_21 : decode b_Ar_difference 21 = .ok (.lxor, 1) := by decide +kernel
theorem d_Ar_difference_22 : decode b_Ar_difference 22 = .ok (.lload 8, 2) := by decide +kernel
theorem d_Ar_difference_24 : decode b_Ar_difference 24 = .ok (.land, 1) := by decide +kernel
theorem d_Ar_difference_25 : decode b_Ar_difference 25 = .ok (.lor, 1) := by decide +kernel
theorem d_Ar_difference_26 : decode b_Ar_difference 26 = .ok (.lstore 10, 2) := by decide +kernel
theorem d_Ar_difference_28 : decode b_Ar_difference 28 = .ok (.aload_n 0, 1) := by decide +kernel
theorem d_Ar_difference_29 : decode b_Ar_difference 29 = .ok (.lload 8, 2) := by decide +kernel
theorem d_Ar_difference_31 : decode b_Ar_difference 31 = .ok (.lload 10, 2) := by decide +kernel
theorem d_Ar_difference_33 : decode b_Ar_difference 33 = .ok (.lload_n 1, 1) := by decide +kernel
theorem d_Ar_difference_34 : decode b_Ar_difference 34 = .ok (.lload_n 3, 1) := by decide +kernel
theorem d_Ar_difference_35 : decode b_Ar_difference 35 = .ok (.lxor, 1) := by decide +kernel
theorem d_Ar_difference_36 : decode b_Ar_difference 36 = .ok (.lload_n 1, 1) := by decide +kernel
theorem d_Ar_difference_37 : decode b_Ar_difference 37 = .ok (.lload 8, 2) := by decide +kernel
theorem d_Ar_difference_39 : decode b_Ar_difference 39 = .ok (.lxor, 1) := by decide +kernel
theorem d_Ar_difference_40 : decode b_Ar_difference 40 = .ok (.land, 1) := by decide +kernel
theorem d_Ar_difference_41 : decode b_Ar_difference 41 = .ok (.iload 7, 2) := by decide +kernel
theorem d_Ar_settleSum_0 : decode b_Ar_settleSum 0 = .ok (.bipush 8, 2) := by decide +kernel
theorem d_Ar_settleSum_2 : decode b_Ar_settleSum 2 = .ok (.iload 7, 2) := by decide +kernel
theorem d_Ar_settleSum_4 : decode b_Ar_settleSum 4 = .ok (.imul, 1) := by decide +kernel
theorem d_Ar_settleSum_5 : decode b_Ar_settleSum 5 = .ok (.iconst 1, 1) := by decide +kernel
theorem d_Ar_settleSum_6 : decode b_Ar_settleSum 6 = .ok (.isub, 1) := by decide +kernel
theorem d_Ar_settleSum_7 : decode b_Ar_settleSum 7 = .ok (.istore 8, 2) := by decide +kernel
theorem d_Ar_settleSum_9 : decode b_Ar_settleSum 9 = .ok (.lload_n 1, 1) := by decide +kernel
theorem d_Ar_settleSum_10 : decode b_Ar_settleSum 10 = .ok (.iload 7, 2) := by decide +kernel
theorem d_Ar_flagsOf_0 : decode b_Ar_flagsOf 0 = .ok (.bipush 64, 2) := by decide +kernel
theorem d_Ar_flagsOf_2 : decode b_Ar_flagsOf 2 = .ok (.bipush 8, 2) := by decide +kernel
theorem d_Ar_flagsOf_4 : decode b_Ar_flagsOf 4 = .ok (.iload_n 2, 1) := by decide +kernel
theorem d_Ar_flagsOf_5 : decode b_Ar_flagsOf 5 = .ok (.imul, 1) := by decide +kernel
theorem d_Ar_flagsOf_6 : decode b_Ar_flagsOf 6 = .ok (.isub, 1) := by decide +kernel
theorem d_Ar_flagsOf_7 : decode b_Ar_flagsOf 7 = .ok (.istore_n 3, 1) := by decide +kernel
theorem d_Ar_flagsOf_8 : decode b_Ar_flagsOf 8 = .ok (.lload_n 0, 1) := by decide +kernel
theorem d_Ar_flagsOf_9 : decode b_Ar_flagsOf 9 = .ok (.iload_n 3, 1) := by decide +kernel
theorem d_Ar_flagsOf_10 : decode b_Ar_flagsOf 10 = .ok (.lshl, 1) := by decide +kernel
theorem d_Ar_flagsOf_11 : decode b_Ar_flagsOf 11 = .ok (.lstore 4, 2) := by decide +kernel
theorem d_Ar_flagsOf_13 : decode b_Ar_flagsOf 13 = .ok (.lload_n 0, 1) := by decide +kernel
theorem d_Ar_flagsOf_14 : decode b_Ar_flagsOf 14 = .ok (.lload_n 0, 1) := by decide +kernel
theorem d_Ar_flagsOf_15 : decode b_Ar_flagsOf 15 = .ok (.iconst 4, 1) := by decide +kernel
theorem d_Ar_flagsOf_16 : decode b_Ar_flagsOf 16 = .ok (.lushr, 1) := by decide +kernel
theorem d_Ar_flagsOf_17 : decode b_Ar_flagsOf 17 = .ok (.lxor, 1) := by decide +kernel
theorem d_Ar_flagsOf_18 : decode b_Ar_flagsOf 18 = .ok (.l2i, 1) := by decide +kernel
theorem d_Ar_flagsOf_19 : decode b_Ar_flagsOf 19 = .ok (.bipush 15, 2) := by decide +kernel
theorem d_Ar_flagsOf_21 : decode b_Ar_flagsOf 21 = .ok (.iand, 1) := by decide +kernel
theorem d_Ar_flagsOf_22 : decode b_Ar_flagsOf 22 = .ok (.istore 6, 2) := by decide +kernel
theorem d_Ar_flagsOf_24 : decode b_Ar_flagsOf 24 = .ok (.lload 4, 2) := by decide +kernel
theorem d_Ar_flagsOf_26 : decode b_Ar_flagsOf 26 = .ok (.lconst 0, 1) := by decide +kernel
theorem d_Ar_flagsOf_27 : decode b_Ar_flagsOf 27 = .ok (.lcmp, 1) := by decide +kernel
theorem d_Ar_flagsOf_28 : decode b_Ar_flagsOf 28 = .ok (.ifCond .ne 8, 3) := by decide +kernel
theorem d_Ar_flagsOf_36 : decode b_Ar_flagsOf 36 = .ok (.iconst 0, 1) := by decide +kernel
theorem d_Ar_flagsOf_37 : decode b_Ar_flagsOf 37 = .ok (.lload 4, 2) := by decide +kernel
theorem d_Ar_flagsOf_39 : decode b_Ar_flagsOf 39 = .ok (.lconst 0, 1) := by decide +kernel
theorem d_Ar_flagsOf_40 : decode b_Ar_flagsOf 40 = .ok (.lcmp, 1) := by decide +kernel
theorem d_Ar_flagsOf_41 : decode b_Ar_flagsOf 41 = .ok (.ifCond .ge 9, 3) := by decide +kernel
theorem d_Ar_flagsOf_50 : decode b_Ar_flagsOf 50 = .ok (.iconst 0, 1) := by decide +kernel
theorem d_Ar_flagsOf_51 : decode b_Ar_flagsOf 51 = .ok (.ior, 1) := by decide +kernel
theorem d_Ar_flagsOf_52 : decode b_Ar_flagsOf 52 = .ok (.ldc 27, 2) := by decide +kernel
theorem d_Ar_flagsOf_54 : decode b_Ar_flagsOf 54 = .ok (.iload 6, 2) := by decide +kernel
theorem d_Ar_flagsOf_56 : decode b_Ar_flagsOf 56 = .ok (.ishr, 1) := by decide +kernel
theorem d_Ar_flagsOf_57 : decode b_Ar_flagsOf 57 = .ok (.iconst 1, 1) := by decide +kernel
theorem d_Ar_flagsOf_58 : decode b_Ar_flagsOf 58 = .ok (.iand, 1) := by decide +kernel
theorem d_Ar_flagsOf_59 : decode b_Ar_flagsOf 59 = .ok (.iconst 4, 1) := by decide +kernel
theorem d_Ar_flagsOf_60 : decode b_Ar_flagsOf 60 = .ok (.imul, 1) := by decide +kernel
theorem d_Ar_flagsOf_61 : decode b_Ar_flagsOf 61 = .ok (.ior, 1) := by decide +kernel
theorem d_Ar_flagsOf_62 : decode b_Ar_flagsOf 62 = .ok (.ireturn, 1) := by decide +kernel
theorem d_Ar_flagsOf_44 : decode b_Ar_flagsOf 44 = .ok (.sipush 128, 3) := by decide +kernel
theorem d_Ar_flagsOf_47 : decode b_Ar_flagsOf 47 = .ok (.goto 4, 3) := by decide +kernel
theorem d_Ar_flagsOf_31 : decode b_Ar_flagsOf 31 = .ok (.bipush 64, 2) := by decide +kernel
theorem d_Ar_flagsOf_33 : decode b_Ar_flagsOf 33 = .ok (.goto 4, 3) := by decide +kernel
theorem d_Ar_settleSum_12 : decode b_Ar_settleSum 12 = .ok (.invokestatic 28, 3) := by decide +kernel
theorem d_Ar_settleSum_15 : decode b_Ar_settleSum 15 = .ok (.lload_n 3, 1) := by decide +kernel
theorem d_Ar_settleSum_16 : decode b_Ar_settleSum 16 = .ok (.iload 8, 2) := by decide +kernel
theorem d_Ar_settleSum_18 : decode b_Ar_settleSum 18 = .ok (.lushr, 1) := by decide +kernel
theorem d_Ar_settleSum_19 : decode b_Ar_settleSum 19 = .ok (.lconst 1, 1) := by decide +kernel
theorem d_Ar_settleSum_20 : decode b_Ar_settleSum 20 = .ok (.land, 1) := by decide +kernel
theorem d_Ar_settleSum_21 : decode b_Ar_settleSum 21 = .ok (.l2i, 1) := by decide +kernel
theorem d_Ar_settleSum_22 : decode b_Ar_settleSum 22 = .ok (.iconst 1, 1) := by decide +kernel
theorem d_Ar_settleSum_23 : decode b_Ar_settleSum 23 = .ok (.imul, 1) := by decide +kernel
theorem d_Ar_settleSum_24 : decode b_Ar_settleSum 24 = .ok (.ior, 1) := by decide +kernel
theorem d_Ar_settleSum_25 : decode b_Ar_settleSum 25 = .ok (.lload_n 3, 1) := by decide +kernel
theorem d_Ar_settleSum_26 : decode b_Ar_settleSum 26 = .ok (.iconst 3, 1) := by decide +kernel
theorem d_Ar_settleSum_27 : decode b_Ar_settleSum 27 = .ok (.lushr, 1) := by decide +kernel
theorem d_Ar_settleSum_28 : decode b_Ar_settleSum 28 = .ok (.lconst 1, 1) := by decide +kernel
theorem d_Ar_settleSum_29 : decode b_Ar_settleSum 29 = .ok (.land, 1) := by decide +kernel
theorem d_Ar_settleSum_30 : decode b_Ar_settleSum 30 = .ok (.l2i, 1) := by decide +kernel
theorem d_Ar_settleSum_31 : decode b_Ar_settleSum 31 = .ok (.bipush 16, 2) := by decide +kernel
theorem d_Ar_settleSum_33 : decode b_Ar_settleSum 33 = .ok (.imul, 1) := by decide +kernel
theorem d_Ar_settleSum_34 : decode b_Ar_settleSum 34 = .ok (.ior, 1) := by decide +kernel
theorem d_Ar_settleSum_35 : decode b_Ar_settleSum 35 = .ok (.lload 5, 2) := by decide +kernel
theorem d_Ar_settleSum_37 : decode b_Ar_settleSum 37 = .ok (.iload 8, 2) := by decide +kernel
theorem d_Ar_settleSum_39 : decode b_Ar_settleSum 39 = .ok (.lushr, 1) := by decide +kernel
theorem d_Ar_settleSum_40 : decode b_Ar_settleSum 40 = .ok (.lconst 1, 1) := by decide +kernel
theorem d_Ar_settleSum_41 : decode b_Ar_settleSum 41 = .ok (.land, 1) := by decide +kernel
theorem d_Ar_settleSum_42 : decode b_Ar_settleSum 42 = .ok (.l2i, 1) := by decide +kernel
theorem d_Ar_settleSum_43 : decode b_Ar_settleSum 43 = .ok (.sipush 2048, 3) := by decide +kernel
theorem d_Ar_settleSum_46 : decode b_Ar_settleSum 46 = .ok (.imul, 1) := by decide +kernel
theorem d_Ar_settleSum_47 : decode b_Ar_settleSum 47 = .ok (.ior, 1) := by decide +kernel
theorem d_Ar_settleSum_48 : decode b_Ar_settleSum 48 = .ok (.istore 9, 2) := by decide +kernel
theorem d_Ar_settleSum_50 : decode b_Ar_settleSum 50 = .ok (.aload_n 0, 1) := by decide +kernel
theorem d_Ar_settleSum_51 : decode b_Ar_settleSum 51 = .ok (.sipush 2261, 3) := by decide +kernel
theorem d_Ar_settleSum_54 : decode b_Ar_settleSum 54 = .ok (.iload 9, 2) := by decide +kernel
theorem d_Ar_settleSum_56 : decode b_Ar_settleSum 56 = .ok (.iconst 0, 1) := by decide +kernel
theorem d_Ar_settleSum_57 : decode b_Ar_settleSum 57 = .ok (.invokevirtual 32, 3) := by decide +kernel
theorem d_Ar_settleSum_60 : decode b_Ar_settleSum 60 = .ok (.lload_n 1, 1) := by decide +kernel
theorem d_Ar_settleSum_61 : decode b_Ar_settleSum 61 = .ok (.iload 7, 2) := by decide +kernel
theorem d_Ar_settleSum_63 : decode b_Ar_settleSum 63 = .ok (.invokestatic 36, 3) := by decide +kernel
theorem d_Ar_settleSum_66 : decode b_Ar_settleSum 66 = .ok (.land, 1) := by decide +kernel
theorem d_Ar_settleSum_67 : decode b_Ar_settleSum 67 = .ok (.lreturn, 1) := by decide +kernel
theorem d_Ar_difference_43 : decode b_Ar_difference 43 = .ok (.invokevirtual 40, 3) := by decide +kernel
theorem d_Ar_difference_46 : decode b_Ar_difference 46 = .ok (.lreturn, 1) := by decide +kernel
theorem d_Tw_compareAndChange_36 : decode b_Tw_compareAndChange 36 = .ok (.invokevirtual 142, 3) := by decide +kernel
theorem d_Tw_compareAndChange_39 : decode b_Tw_compareAndChange 39 = .ok (.pop2, 1) := by decide +kernel
theorem d_Tw_compareAndChange_40 : decode b_Tw_compareAndChange 40 = .ok (.lload 4, 2) := by decide +kernel
theorem d_Tw_compareAndChange_42 : decode b_Tw_compareAndChange 42 = .ok (.lload_n 2, 1) := by decide +kernel
theorem d_Tw_compareAndChange_43 : decode b_Tw_compareAndChange 43 = .ok (.lcmp, 1) := by decide +kernel
theorem d_Tw_compareAndChange_44 : decode b_Tw_compareAndChange 44 = .ok (.ifCond .ne 21, 3) := by decide +kernel
theorem d_Tw_compareAndChange_65 : decode b_Tw_compareAndChange 65 = .ok (.aload_n 0, 1) := by decide +kernel
theorem d_Tw_compareAndChange_66 : decode b_Tw_compareAndChange 66 = .ok (.getfield 15, 3) := by decide +kernel
theorem d_Tw_compareAndChange_69 : decode b_Tw_compareAndChange 69 = .ok (.iconst 0, 1) := by decide +kernel
theorem d_Tw_compareAndChange_70 : decode b_Tw_compareAndChange 70 = .ok (.lload_n 2, 1) := by decide +kernel
theorem d_Tw_compareAndChange_71 : decode b_Tw_compareAndChange 71 = .ok (.iload_n 1, 1) := by decide +kernel
theorem d_Tw_compareAndChange_72 : decode b_Tw_compareAndChange 72 = .ok (.invokevirtual 118, 3) := by decide +kernel
theorem d_Tw_compareAndChange_75 : decode b_Tw_compareAndChange 75 = .ok (.aload_n 0, 1) := by decide +kernel
theorem d_Tw_compareAndChange_76 : decode b_Tw_compareAndChange 76 = .ok (.getfield 15, 3) := by decide +kernel
theorem d_Tw_compareAndChange_79 : decode b_Tw_compareAndChange 79 = .ok (.lload_n 2, 1) := by decide +kernel
theorem d_Tw_compareAndChange_80 : decode b_Tw_compareAndChange 80 = .ok (.invokevirtual 43, 3) := by decide +kernel
theorem d_Tw_compareAndChange_83 : decode b_Tw_compareAndChange 83 = .ok (.return_, 1) := by decide +kernel
theorem d_Tw_compareAndChange_47 : decode b_Tw_compareAndChange 47 = .ok (.aload_n 0, 1) := by decide +kernel
theorem d_Tw_compareAndChange_48 : decode b_Tw_compareAndChange 48 = .ok (.getfield 15, 3) := by decide +kernel
theorem d_Tw_compareAndChange_51 : decode b_Tw_compareAndChange 51 = .ok (.aload_n 0, 1) := by decide +kernel
theorem d_Tw_compareAndChange_52 : decode b_Tw_compareAndChange 52 = .ok (.getfield 15, 3) := by decide +kernel
theorem d_Tw_compareAndChange_55 : decode b_Tw_compareAndChange 55 = .ok (.iload_n 1, 1) := by decide +kernel
theorem d_Tw_compareAndChange_56 : decode b_Tw_compareAndChange 56 = .ok (.invokevirtual 60, 3) := by decide +kernel
theorem d_Tw_compareAndChange_59 : decode b_Tw_compareAndChange 59 = .ok (.invokevirtual 43, 3) := by decide +kernel
theorem d_Tw_compareAndChange_62 : decode b_Tw_compareAndChange 62 = .ok (.goto 21, 3) := by decide +kernel
theorem d_Tw_executeSingle_234 : decode b_Tw_executeSingle 234 = .ok (.invokevirtual 92, 3) := by decide +kernel
theorem d_Tw_executeSingle_237 : decode b_Tw_executeSingle 237 = .ok (.goto 83, 3) := by decide +kernel
theorem d_Tw_executeSingle_240 : decode b_Tw_executeSingle 240 = .ok (.aload_n 0, 1) := by decide +kernel
theorem d_Tw_executeSingle_241 : decode b_Tw_executeSingle 241 = .ok (.getfield 15, 3) := by decide +kernel
theorem d_Tw_executeSingle_244 : decode b_Tw_executeSingle 244 = .ok (.aload_n 0, 1) := by decide +kernel
theorem d_Tw_executeSingle_245 : decode b_Tw_executeSingle 245 = .ok (.getfield 15, 3) := by decide +kernel
theorem d_Tw_executeSingle_248 : decode b_Tw_executeSingle 248 = .ok (.invokevirtual 75, 3) := by decide +kernel
theorem d_Tw_executeSingle_251 : decode b_Tw_executeSingle 251 = .ok (.iload_n 2, 1) := by decide +kernel
theorem d_Tw_executeSingle_252 : decode b_Tw_executeSingle 252 = .ok (.invokevirtual 88, 3) := by decide +kernel
theorem d_Tw_executeSingle_255 : decode b_Tw_executeSingle 255 = .ok (.goto 65, 3) := by decide +kernel
theorem d_Tw_executeSingle_168 : decode b_Tw_executeSingle 168 = .ok (.aload_n 0, 1) := by decide +kernel
theorem d_Tw_executeSingle_169 : decode b_Tw_executeSingle 169 = .ok (.aload_n 0, 1) := by decide +kernel
theorem d_Tw_executeSingle_170 : decode b_Tw_executeSingle 170 = .ok (.getfield 9, 3) := by decide +kernel
theorem d_Tw_executeSingle_173 : decode b_Tw_executeSingle 173 = .ok (.getfield 68, 3) := by decide +kernel
theorem d_Tw_executeSingle_176 : decode b_Tw_executeSingle 176 = .ok (.iconst 3, 1) := by decide +kernel
theorem d_Tw_executeSingle_177 : decode b_Tw_executeSingle 177 = .ok (.iand, 1) := by decide +kernel
theorem d_Tw_executeSingle_178 : decode b_Tw_executeSingle 178 = .ok (.aload_n 0, 1) := by decide +kernel
theorem d_Tw_executeSingle_179 : decode b_Tw_executeSingle 179 = .ok (.getfield 9, 3) := by decide +kernel
theorem d_Tw_executeSingle_182 : decode b_Tw_executeSingle 182 = .ok (.getfield 71, 3) := by decide +kernel
theorem d_Tw_executeSingle_185 : decode b_Tw_executeSingle 185 = .ok (.invokevirtual 64, 3) := by decide +kernel
theorem d_Tw_executeSingle_188 : decode b_Tw_executeSingle 188 = .ok (.goto 132, 3) := by decide +kernel
theorem d_Tw_executeSingle_286 : decode b_Tw_executeSingle 286 = .ok (.aload_n 0, 1) := by decide +kernel
theorem d_Tw_executeSingle_287 : decode b_Tw_executeSingle 287 = .ok (.iload_n 1, 1) := by decide +kernel
theorem d_Tw_executeSingle_288 : decode b_Tw_executeSingle 288 = .ok (.sipush 188, 3) := by decide +kernel
theorem d_Tw_executeSingle_291 : decode b_Tw_executeSingle 291 = .ok (.if_icmp .ne 7, 3) := by decide +kernel
theorem d_Tw_executeSingle_298 : decode b_Tw_executeSingle 298 = .ok (.iconst 0, 1) := by decide +kernel
theorem d_Tw_executeSingle_299 : decode b_Tw_executeSingle 299 = .ok (.aload_n 0, 1) := by decide +kernel
theorem d_Tw_executeSingle_300 : decode b_Tw_executeSingle 300 = .ok (.getfield 15, 3) := by decide +kernel
theorem d_Tw_executeSingle_303 : decode b_Tw_executeSingle 303 = .ok (.invokevirtual 75, 3) := by decide +kernel
theorem d_Tw_executeSingle_306 : decode b_Tw_executeSingle 306 = .ok (.iload_n 2, 1) := by decide +kernel
theorem d_Tw_findBit_0 : decode b_Tw_findBit 0 = .ok (.aload_n 0, 1) := by decide +kernel
theorem d_Tw_findBit_1 : decode b_Tw_findBit 1 = .ok (.getfield 19, 3) := by decide +kernel
theorem d_Tw_findBit_4 : decode b_Tw_findBit 4 = .ok (.bipush 64, 2) := by decide +kernel
theorem d_Tw_findBit_6 : decode b_Tw_findBit 6 = .ok (.lload_n 2, 1) := by decide +kernel
theorem d_Tw_findBit_7 : decode b_Tw_findBit 7 = .ok (.lconst 0, 1) := by decide +kernel
theorem d_Tw_findBit_8 : decode b_Tw_findBit 8 = .ok (.lcmp, 1) := by decide +kernel
theorem d_Tw_findBit_9 : decode b_Tw_findBit 9 = .ok (.ifCond .ne 8, 3) := by decide +kernel
theorem d_Tw_findBit_17 : decode b_Tw_findBit 17 = .ok (.iconst 0, 1) := by decide +kernel
theorem d_Tw_findBit_18 : decode b_Tw_findBit 18 = .ok (.sipush 2197, 3) := by decide +kernel
theorem d_Tw_findBit_21 : decode b_Tw_findBit 21 = .ok (.invokevirtual 124, 3) := by decide +kernel
theorem d_Tw_findBit_24 : decode b_Tw_findBit 24 = .ok (.lload_n 2, 1) := by decide +kernel
theorem d_Tw_findBit_25 : decode b_Tw_findBit 25 = .ok (.lconst 0, 1) := by decide +kernel
theorem d_Tw_findBit_26 : decode b_Tw_findBit 26 = .ok (.lcmp, 1) := by decide +kernel
theorem d_Tw_findBit_27 : decode b_Tw_findBit 27 = .ok (.ifCond .eq 29, 3) := by decide +kernel
theorem d_Tw_findBit_56 : decode b_Tw_findBit 56 = .ok (.return_, 1) := by decide +kernel
theorem d_Tw_findBit_30 : decode b_Tw_findBit 30 = .ok (.aload_n 0, 1) := by decide +kernel
theorem d_Tw_findBit_31 : decode b_Tw_findBit 31 = .ok (.getfield 15, 3) := by decide +kernel
theorem d_Tw_findBit_34 : decode b_Tw_findBit 34 = .ok (.iload_n 1, 1) := by decide +kernel
theorem d_Tw_findBit_35 : decode b_Tw_findBit 35 = .ok (.ifCond .eq 11, 3) := by decide +kernel
theorem d_Tw_findBit_46 : decode b_Tw_findBit 46 = .ok (.lload_n 2, 1) := by decide +kernel
theorem d_Tw_highestBit_0 : decode b_Tw_highestBit 0 = .ok (.lload_n 0, 1) := by decide +kernel
theorem d_Tw_highestBit_1 : decode b_Tw_highestBit 1 = .ok (.lstore_n 2, 1) := by decide +kernel
theorem d_Tw_highestBit_2 : decode b_Tw_highestBit 2 = .ok (.iconst 1, 1) := by decide +kernel
theorem d_Tw_highestBit_3 : decode b_Tw_highestBit 3 = .ok (.istore 4, 2) := by decide +kernel
theorem d_Tw_highestBit_5 : decode b_Tw_highestBit 5 = .ok (.iload 4, 2) := by decide +kernel
theorem d_Tw_highestBit_7 : decode b_Tw_highestBit 7 = .ok (.bipush 64, 2) := by decide +kernel
theorem d_Tw_highestBit_9 : decode b_Tw_highestBit 9 = .ok (.if_icmp .ge 19, 3) := by decide +kernel
theorem d_Tw_highestBit_28 : decode b_Tw_highestBit 28 = .ok (.lload_n 2, 1) := by decide +kernel
theorem d_Lo_bitCount_0 : decode b_Lo_bitCount 0 = .ok (.lload_n 0, 1) := by decide +kernel
theorem d_Lo_bitCount_1 : decode b_Lo_bitCount 1 = .ok (.lload_n 0, 1) := by decide +kernel
theorem d_Lo_bitCount_2 : decode b_Lo_bitCount 2 = .ok (.iconst 1, 1) := by decide +kernel
theorem d_Lo_bitCount_3 : decode b_Lo_bitCount 3 = .ok (.lushr, 1) := by decide +kernel
theorem d_Lo_bitCount_4 : decode b_Lo_bitCount 4 = .ok (.ldc2_w 314, 3) := by decide +kernel
theorem d_Lo_bitCount_7 : decode b_Lo_bitCount 7 = .ok (.land, 1) := by decide +kernel
theorem d_Lo_bitCount_8 : decode b_Lo_bitCount 8 = .ok (.lsub, 1) := by decide +kernel
theorem d_Lo_bitCount_9 : decode b_Lo_bitCount 9 = .ok (.lstore_n 0, 1) := by decide +kernel
theorem d_Lo_bitCount_10 : decode b_Lo_bitCount 10 = .ok (.lload_n 0, 1) := by decide +kernel
theorem d_Lo_bitCount_11 : decode b_Lo_bitCount 11 = .ok (.ldc2_w 316, 3) := by decide +kernel
theorem d_Lo_bitCount_14 : decode b_Lo_bitCount 14 = .ok (.land, 1) := by decide +kernel
theorem d_Lo_bitCount_15 : decode b_Lo_bitCount 15 = .ok (.lload_n 0, 1) := by decide +kernel
theorem d_Lo_bitCount_16 : decode b_Lo_bitCount 16 = .ok (.iconst 2, 1) := by decide +kernel
theorem d_Lo_bitCount_17 : decode b_Lo_bitCount 17 = .ok (.lushr, 1) := by decide +kernel
theorem d_Lo_bitCount_18 : decode b_Lo_bitCount 18 = .ok (.ldc2_w 316, 3) := by decide +kernel
theorem d_Lo_bitCount_21 : decode b_Lo_bitCount 21 = .ok (.land, 1) := by decide +kernel
theorem d_Lo_bitCount_22 : decode b_Lo_bitCount 22 = .ok (.ladd, 1) := by decide +kernel
theorem d_Lo_bitCount_23 : decode b_Lo_bitCount 23 = .ok (.lstore_n 0, 1) := by decide +kernel
theorem d_Lo_bitCount_24 : decode b_Lo_bitCount 24 = .ok (.lload_n 0, 1) := by decide +kernel
theorem d_Lo_bitCount_25 : decode b_Lo_bitCount 25 = .ok (.lload_n 0, 1) := by decide +kernel
theorem d_Lo_bitCount_26 : decode b_Lo_bitCount 26 = .ok (.iconst 4, 1) := by decide +kernel
theorem d_Lo_bitCount_27 : decode b_Lo_bitCount 27 = .ok (.lushr, 1) := by decide +kernel
theorem d_Lo_bitCount_28 : decode b_Lo_bitCount 28 = .ok (.ladd, 1) := by decide +kernel
theorem d_Lo_bitCount_29 : decode b_Lo_bitCount 29 = .ok (.ldc2_w 318, 3) := by decide +kernel
theorem d_Lo_bitCount_32 : decode b_Lo_bitCount 32 = .ok (.land, 1) := by decide +kernel
theorem d_Lo_bitCount_33 : decode b_Lo_bitCount 33 = .ok (.lstore_n 0, 1) := by decide +kernel
theorem d_Lo_bitCount_34 : decode b_Lo_bitCount 34 = .ok (.lload_n 0, 1) := by decide +kernel
theorem d_Lo_bitCount_35 : decode b_Lo_bitCount 35 = .ok (.lload_n 0, 1) := by decide +kernel
theorem d_Lo_bitCount_36 : decode b_Lo_bitCount 36 = .ok (.bipush 8, 2) := by decide +kernel
theorem d_Lo_bitCount_38 : decode b_Lo_bitCount 38 = .ok (.lushr, 1) := by decide +kernel
theorem d_Lo_bitCount_39 : decode b_Lo_bitCount 39 = .ok (.ladd, 1) := by decide +kernel
theorem d_Lo_bitCount_40 : decode b_Lo_bitCount 40 = .ok (.lstore_n 0, 1) := by decide +kernel
theorem d_Lo_bitCount_41 : decode b_Lo_bitCount 41 = .ok (.lload_n 0, 1) := by decide +kernel
theorem d_Lo_bitCount_42 : decode b_Lo_bitCount 42 = .ok (.lload_n 0, 1) := by decide +kernel
theorem d_Lo_bitCount_43 : decode b_Lo_bitCount 43 = .ok (.bipush 16, 2) := by decide +kernel
theorem d_Lo_bitCount_45 : decode b_Lo_bitCount 45 = .ok (.lushr, 1) := by decide +kernel
theorem d_Lo_bitCount_46 : decode b_Lo_bitCount 46 = .ok (.ladd, 1) := by decide +kernel
theorem d_Lo_bitCount_47 : decode b_Lo_bitCount 47 = .ok (.lstore_n 0, 1) := by decide +kernel
theorem d_Lo_bitCount_48 : decode b_Lo_bitCount 48 = .ok (.lload_n 0, 1) := by decide +kernel
theorem d_Lo_bitCount_49 : decode b_Lo_bitCount 49 = .ok (.lload_n 0, 1) := by decide +kernel
theorem d_Lo_bitCount_50 : decode b_Lo_bitCount 50 = .ok (.bipush 32, 2) := by decide +kernel
theorem d_Lo_bitCount_52 : decode b_Lo_bitCount 52 = .ok (.lushr, 1) := by decide +kernel
theorem d_Lo_bitCount_53 : decode b_Lo_bitCount 53 = .ok (.ladd, 1) := by decide +kernel
theorem d_Lo_bitCount_54 : decode b_Lo_bitCount 54 = .ok (.lstore_n 0, 1) := by decide +kernel
theorem d_Lo_bitCount_55 : decode b_Lo_bitCount 55 = .ok (.lload_n 0, 1) := by decide +kernel
theorem d_Lo_bitCount_56 : decode b_Lo_bitCount 56 = .ok (.l2i, 1) := by decide +kernel
theorem d_Lo_bitCount_57 : decode b_Lo_bitCount 57 = .ok (.bipush 127, 2) := by decide +kernel
theorem d_Lo_bitCount_59 : decode b_Lo_bitCount 59 = .ok (.iand, 1) := by decide +kernel
theorem d_Lo_bitCount_60 : decode b_Lo_bitCount 60 = .ok (.ireturn, 1) := by decide +kernel
theorem d_Tw_highestBit_29 : decode b_Tw_highestBit 29 = .ok (.invokestatic 137, 3) := by decide +kernel
theorem d_Tw_highestBit_32 : decode b_Tw_highestBit 32 = .ok (.iconst 1, 1) := by decide +kernel
theorem d_Tw_highestBit_33 : decode b_Tw_highestBit 33 = .ok (.isub, 1) := by decide +kernel
theorem d_Tw_highestBit_34 : decode b_Tw_highestBit 34 = .ok (.ireturn, 1) := by decide +kernel
theorem d_Tw_highestBit_12 : decode b_Tw_highestBit 12 = .ok (.lload_n 2, 1) := by decide +kernel
theorem d_Tw_highestBit_13 : decode b_Tw_highestBit 13 = .ok (.lload_n 2, 1) := by decide +kernel
theorem d_Tw_highestBit_14 : decode b_Tw_highestBit 14 = .ok (.iload 4, 2) := by decide +kernel
theorem d_Tw_highestBit_16 : decode b_Tw_highestBit 16 = .ok (.lushr, 1) := by decide +kernel
theorem d_Tw_highestBit_17 : decode b_Tw_highestBit 17 = .ok (.lor, 1) := by decide +kernel
theorem d_Tw_highestBit_18 : decode b_Tw_highestBit 18 = .ok (.lstore_n 2, 1) := by decide +kernel
theorem d_Tw_highestBit_19 : decode b_Tw_highestBit 19 = .ok (.iload 4, 2) := by decide +kernel
theorem d_Tw_highestBit_21 : decode b_Tw_highestBit 21 = .ok (.iconst 2, 1) := by decide +kernel
theorem d_Tw_highestBit_22 : decode b_Tw_highestBit 22 = .ok (.imul, 1) := by decide +kernel
theorem d_Tw_highestBit_23 : decode b_Tw_highestBit 23 = .ok (.istore 4, 2) := by decide +kernel
theorem d_Tw_highestBit_25 : decode b_Tw_highestBit 25 = .ok (.goto (-20), 3) := by decide +kernel
theorem d_Tw_findBit_47 : decode b_Tw_findBit 47 = .ok (.invokestatic 134, 3) := by decide +kernel
theorem d_Tw_findBit_50 : decode b_Tw_findBit 50 = .ok (.i2l, 1) := by decide +kernel
theorem d_Tw_findBit_51 : decode b_Tw_findBit 51 = .ok (.iload 4, 2) := by decide +kernel
theorem d_Tw_findBit_53 : decode b_Tw_findBit 53 = .ok (.invokevirtual 88, 3) := by decide +kernel
theorem d_Tw_findBit_38 : decode b_Tw_findBit 38 = .ok (.lload_n 2, 1) := by decide +kernel
theorem d_Tw_lowestBit_0 : decode b_Tw_lowestBit 0 = .ok (.lload_n 0, 1) := by decide +kernel
theorem d_Tw_lowestBit_1 : decode b_Tw_lowestBit 1 = .ok (.lload_n 0, 1) := by decide +kernel
theorem d_Tw_lowestBit_2 : decode b_Tw_lowestBit 2 = .ok (.lneg, 1) := by decide +kernel
theorem d_Tw_lowestBit_3 : decode b_Tw_lowestBit 3 = .ok (.land, 1) := by decide +kernel
theorem d_Tw_lowestBit_4 : decode b_Tw_lowestBit 4 = .ok (.lconst 1, 1) := by decide +kernel
theorem d_Tw_lowestBit_5 : decode b_Tw_lowestBit 5 = .ok (.lsub, 1) := by decide +kernel
theorem d_Tw_lowestBit_6 : decode b_Tw_lowestBit 6 = .ok (.invokestatic 137, 3) := by decide +kernel
theorem d_Tw_lowestBit_9 : decode b_Tw_lowestBit 9 = .ok (.ireturn, 1) := by decide +kernel
theorem d_Tw_findBit_39 : decode b_Tw_findBit 39 = .ok (.invokestatic 130, 3) := by decide +kernel
theorem d_Tw_findBit_42 : decode b_Tw_findBit 42 = .ok (.i2l, 1) := by decide +kernel
theorem d_Tw_findBit_43 : decode b_Tw_findBit 43 = .ok (.goto 8, 3) := by decide +kernel
theorem d_Tw_findBit_12 : decode b_Tw_findBit 12 = .ok (.bipush 64, 2) := by decide +kernel
theorem d_Tw_findBit_14 : decode b_Tw_findBit 14 = .ok (.goto 4, 3) := by decide +kernel
theorem d_Tw_executeSingle_307 : decode b_Tw_executeSingle 307 = .ok (.invokevirtual 102, 3) := by decide +kernel
theorem d_Tw_executeSingle_310 : decode b_Tw_executeSingle 310 = .ok (.goto 10, 3) := by decide +kernel
theorem d_Tw_executeSingle_294 : decode b_Tw_executeSingle 294 = .ok (.iconst 1, 1) := by decide +kernel
theorem d_Tw_executeSingle_295 : decode b_Tw_executeSingle 295 = .ok (.goto 4, 3) := by decide +kernel
theorem d_Tw_executeSingle_258 : decode b_Tw_executeSingle 258 = .ok (.aload_n 0, 1) := by decide +kernel
theorem d_Tw_executeSingle_259 : decode b_Tw_executeSingle 259 = .ok (.getfield 15, 3) := by decide +kernel
theorem d_Tw_executeSingle_262 : decode b_Tw_executeSingle 262 = .ok (.aload_n 0, 1) := by decide +kernel
theorem d_Tw_executeSingle_263 : decode b_Tw_executeSingle 263 = .ok (.getfield 15, 3) := by decide +kernel
theorem d_Tw_executeSingle_266 : decode b_Tw_executeSingle 266 = .ok (.invokevirtual 75, 3) := by decide +kernel
theorem d_Tw_executeSingle_269 : decode b_Tw_executeSingle 269 = .ok (.aload_n 0, 1) := by decide +kernel
theorem d_Tw_executeSingle_270 : decode b_Tw_executeSingle 270 = .ok (.getfield 15, 3) := by decide +kernel
theorem d_Tw_executeSingle_273 : decode b_Tw_executeSingle 273 = .ok (.getfield 95, 3) := by decide +kernel
theorem d_Tw_executeSingle_276 : decode b_Tw_executeSingle 276 = .ok (.invokestatic 98, 3) := by decide +kernel
theorem d_Tw_executeSingle_279 : decode b_Tw_executeSingle 279 = .ok (.iload_n 2, 1) := by decide +kernel
theorem d_Tw_executeSingle_280 : decode b_Tw_executeSingle 280 = .ok (.invokevirtual 88, 3) := by decide +kernel
theorem d_Tw_executeSingle_283 : decode b_Tw_executeSingle 283 = .ok (.goto 37, 3) := by decide +kernel
theorem d_Tw_executeSingle_313 : decode b_Tw_executeSingle 313 = .ok (.aload_n 0, 1) := by decide +kernel
theorem d_Tw_changeAndAdd_0 : decode b_Tw_changeAndAdd 0 = .ok (.aload_n 0, 1) := by decide +kernel
theorem d_Tw_changeAndAdd_1 : decode b_Tw_changeAndAdd 1 = .ok (.getfield 15, 3) := by decide +kernel
theorem d_Tw_changeAndAdd_4 : decode b_Tw_changeAndAdd 4 = .ok (.getfield 95, 3) := by decide +kernel
theorem d_Tw_changeAndAdd_7 : decode b_Tw_changeAndAdd 7 = .ok (.istore_n 1, 1) := by decide +kernel
theorem d_Tw_changeAndAdd_8 : decode b_Tw_changeAndAdd 8 = .ok (.aload_n 0, 1) := by decide +kernel
theorem d_Tw_changeAndAdd_9 : decode b_Tw_changeAndAdd 9 = .ok (.getfield 15, 3) := by decide +kernel
theorem d_Tw_changeAndAdd_12 : decode b_Tw_changeAndAdd 12 = .ok (.invokevirtual 75, 3) := by decide +kernel
theorem d_Tw_changeAndAdd_15 : decode b_Tw_changeAndAdd 15 = .ok (.lstore_n 2, 1) := by decide +kernel
theorem d_Tw_changeAndAdd_16 : decode b_Tw_changeAndAdd 16 = .ok (.aload_n 0, 1) := by decide +kernel
theorem d_Tw_changeAndAdd_17 : decode b_Tw_changeAndAdd 17 = .ok (.getfield 19, 3) := by decide +kernel
theorem d_Tw_changeAndAdd_20 : decode b_Tw_changeAndAdd 20 = .ok (.lload_n 2, 1) := by decide +kernel
theorem d_Tw_changeAndAdd_21 : decode b_Tw_changeAndAdd 21 = .ok (.aload_n 0, 1) := by decide +kernel
theorem d_Tw_changeAndAdd_22 : decode b_Tw_changeAndAdd 22 = .ok (.getfield 15, 3) := by decide +kernel
theorem d_Tw_changeAndAdd_25 : decode b_Tw_changeAndAdd 25 = .ok (.iload_n 1, 1) := by decide +kernel
theorem d_Tw_changeAndAdd_26 : decode b_Tw_changeAndAdd 26 = .ok (.invokevirtual 60, 3) := by decide +kernel
theorem d_Tw_changeAndAdd_29 : decode b_Tw_changeAndAdd 29 = .ok (.lconst 0, 1) := by decide +kernel
theorem d_Tw_changeAndAdd_30 : decode b_Tw_changeAndAdd 30 = .ok (.iload_n 1, 1) := by decide +kernel
theorem d_Ar_sum_0 : decode b_Ar_sum 0 = .ok (.lload_n 1, 1) := by decide +kernel
theorem d_Ar_sum_1 : decode b_Ar_sum 1 = .ok (.lload_n 3, 1) := by decide +kernel
theorem d_Ar_sum_2 : decode b_Ar_sum 2 = .ok (.ladd, 1) := by decide +kernel
theorem d_Ar_sum_3 : decode b_Ar_sum 3 = .ok (.lload 5, 2) := by decide +kernel
theorem d_Ar_sum_5 : decode b_Ar_sum 5 = .ok (.ladd, 1) := by decide +kernel
theorem d_Ar_sum_6 : decode b_Ar_sum 6 = .ok (.lstore 8, 2) := by decide +kernel
theorem d_Ar_sum_8 : decode b_Ar_sum 8 = .ok (.lload_n 1, 1) := by decide +kernel
theorem d_Ar_sum_9 : decode b_Ar_sum 9 = .ok (.lload_n 3, 1) := by decide +kernel
theorem d_Ar_sum_10 : decode b_Ar_sum 10 = .ok (.land, 1) := by decide +kernel
theorem d_Ar_sum_11 : decode b_Ar_sum 11 = .ok (.lload_n 1, 1) := by decide +kernel
theorem d_Ar_sum_12 : decode b_Ar_sum 12 = .ok (.lload_n 3, 1) := by decide +kernel
theorem d_Ar_sum_13 : decode b_Ar_sum 13 = .ok (.lor, 1) := by decide +kernel
theorem d_Ar_sum_14 : decode b_Ar_sum 14 = .ok (.lload 8, 2) := by decide +kernel
theorem d_Ar_sum_16 : decode b_Ar_sum 16 = .ok (.ldc2_w 15, 3) := by decide +kernel
theorem d_Ar_sum_19 : decode b_Ar_sum 19 = .ok (.lxor, 1) := by decide +kernel
theorem d_Ar_sum_20 : decode b_Ar_sum 20 = .ok (.land, 1) := by decide +kernel
theorem d_Ar_sum_21 : decode b_Ar_sum 21 = .ok (.lor, 1) := by decide +kernel
theorem d_Ar_sum_22 : decode b_Ar_sum 22 = .ok (.lstore 10, 2) := by decide +kernel
theorem d_Ar_sum_24 : decode b_Ar_sum 24 = .ok (.aload_n 0, 1) := by decide +kernel
theorem d_Ar_sum_25 : decode b_Ar_sum 25 = .ok (.lload 8, 2) := by decide +kernel
theorem d_Ar_sum_27 : decode b_Ar_sum 27 = .ok (.lload 10, 2) := by decide +kernel
theorem d_Ar_sum_29 : decode b_Ar_sum 29 = .ok (.lload_n 1, 1) := by decide +kernel
theorem d_Ar_sum_30 : decode b_Ar_sum 30 = .ok (.lload 8, 2) := by decide +kernel
theorem d_Ar_sum_32 : decode b_Ar_sum 32 = .ok (.lxor, 1) := by decide +kernel
theorem d_Ar_sum_33 : decode b_Ar_sum 33 = .ok (.lload_n 3, 1) := by decide +kernel
theorem d_Ar_sum_34 : decode b_Ar_sum 34 = .ok (.lload 8, 2) := by decide +kernel
theorem d_Ar_sum_36 : decode b_Ar_sum 36 = .ok (.lxor, 1) := by decide +kernel
theorem d_Ar_sum_37 : decode b_Ar_sum 37 = .ok (.land, 1) := by decide +kernel
theorem d_Ar_sum_38 : decode b_Ar_sum 38 = .ok (.iload 7, 2) := by decide +kernel
theorem d_Ar_sum_40 : decode b_Ar_sum 40 = .ok (.invokevirtual 40, 3) := by decide +kernel
theorem d_Ar_sum_43 : decode b_Ar_sum 43 = .ok (.lreturn, 1) := by decide +kernel
theorem d_Tw_changeAndAdd_31 : decode b_Tw_changeAndAdd 31 = .ok (.invokevirtual 146, 3) := by decide +kernel
theorem d_Tw_changeAndAdd_34 : decode b_Tw_changeAndAdd 34 = .ok (.lstore 4, 2) := by decide +kernel
theorem d_Tw_changeAndAdd_36 : decode b_Tw_changeAndAdd 36 = .ok (.aload_n 0, 1) := by decide +kernel
theorem d_Tw_changeAndAdd_37 : decode b_Tw_changeAndAdd 37 = .ok (.getfield 15, 3) := by decide +kernel
theorem d_Tw_changeAndAdd_40 : decode b_Tw_changeAndAdd 40 = .ok (.lload_n 2, 1) := by decide +kernel
theorem d_Tw_changeAndAdd_41 : decode b_Tw_changeAndAdd 41 = .ok (.iload_n 1, 1) := by decide +kernel
theorem d_Tw_changeAndAdd_42 : decode b_Tw_changeAndAdd 42 = .ok (.invokevirtual 88, 3) := by decide +kernel
theorem d_Tw_changeAndAdd_45 : decode b_Tw_changeAndAdd 45 = .ok (.aload_n 0, 1) := by decide +kernel
theorem d_Tw_changeAndAdd_46 : decode b_Tw_changeAndAdd 46 = .ok (.getfield 15, 3) := by decide +kernel
theorem d_Tw_changeAndAdd_49 : decode b_Tw_changeAndAdd 49 = .ok (.lload 4, 2) := by decide +kernel
theorem d_Tw_changeAndAdd_51 : decode b_Tw_changeAndAdd 51 = .ok (.invokevirtual 43, 3) := by decide +kernel
theorem d_Tw_changeAndAdd_54 : decode b_Tw_changeAndAdd 54 = .ok (.return_, 1) := by decide +kernel
theorem d_Tw_executeSingle_314 : decode b_Tw_executeSingle 314 = .ok (.invokevirtual 106, 3) := by decide +kernel
theorem d_Tw_executeSingle_317 : decode b_Tw_executeSingle 317 = .ok (.goto 3, 3) := by decide +kernel
theorem d_Tw_execute_118 : decode b_Tw_execute 118 = .ok (.invokevirtual 52, 3) := by decide +kernel
theorem d_Co_step_83 : decode b_Co_step 83 = .ok (.invokevirtual 155, 3) := by decide +kernel
theorem d_Co_step_86 : decode b_Co_step 86 = .ok (.istore_n 1, 1) := by decide +kernel
theorem d_Co_step_69 : decode b_Co_step 69 = .ok (.aload_n 0, 1) := by decide +kernel
theorem d_Co_step_70 : decode b_Co_step 70 = .ok (.getfield 79, 3) := by decide +kernel
theorem d_On_execute_0 : decode b_On_execute 0 = .ok (.aload_n 0, 1) := by decide +kernel
theorem d_On_execute_1 : decode b_On_execute 1 = .ok (.getfield 15, 3) := by decide +kernel
theorem d_On_execute_4 : decode b_On_execute 4 = .ok (.getfield 31, 3) := by decide +kernel
theorem d_On_execute_7 : decode b_On_execute 7 = .ok (.bipush (-8), 2) := by decide +kernel
theorem d_On_execute_9 : decode b_On_execute 9 = .ok (.iand, 1) := by decide +kernel
theorem d_On_execute_10 : decode b_On_execute 10 = .ok (.lookupswitch 94 #[(144, 34), (176, 40), (184, 64)], 34) := by decide +kernel
theorem d_On_execute_44 : decode b_On_execute 44 = .ok (.aload_n 0, 1) := by decide +kernel
theorem d_On_changePlacesWithA_0 : decode b_On_changePlacesWithA 0 = .ok (.aload_n 0, 1) := by decide +kernel
theorem d_On_changePlacesWithA_1 : decode b_On_changePlacesWithA 1 = .ok (.getfield 15, 3) := by decide +kernel
theorem d_On_changePlacesWithA_4 : decode b_On_changePlacesWithA 4 = .ok (.getfield 31, 3) := by decide +kernel
theorem d_On_changePlacesWithA_7 : decode b_On_changePlacesWithA 7 = .ok (.sipush 144, 3) := by decide +kernel
theorem d_On_changePlacesWithA_10 : decode b_On_changePlacesWithA 10 = .ok (.if_icmp .ne 14, 3) := by decide +kernel
theorem d_On_changePlacesWithA_24 : decode b_On_changePlacesWithA 24 = .ok (.aload_n 0, 1) := by decide +kernel
theorem d_On_changePlacesWithA_25 : decode b_On_changePlacesWithA 25 = .ok (.getfield 15, 3) := by decide +kernel
theorem d_On_changePlacesWithA_28 : decode b_On_changePlacesWithA 28 = .ok (.invokevirtual 54, 3) := by decide +kernel
theorem d_On_changePlacesWithA_31 : decode b_On_changePlacesWithA 31 = .ok (.istore_n 1, 1) := by decide +kernel
theorem d_On_changePlacesWithA_32 : decode b_On_changePlacesWithA 32 = .ok (.aload_n 0, 1) := by decide +kernel
theorem d_On_changePlacesWithA_33 : decode b_On_changePlacesWithA 33 = .ok (.getfield 19, 3) := by decide +kernel
theorem d_On_changePlacesWithA_36 : decode b_On_changePlacesWithA 36 = .ok (.iconst 0, 1) := by decide +kernel
theorem d_On_changePlacesWithA_37 : decode b_On_changePlacesWithA 37 = .ok (.iload_n 1, 1) := by decide +kernel
theorem d_On_changePlacesWithA_38 : decode b_On_changePlacesWithA 38 = .ok (.invokevirtual 78, 3) := by decide +kernel
theorem d_On_changePlacesWithA_41 : decode b_On_changePlacesWithA 41 = .ok (.lstore_n 2, 1) := by decide +kernel
theorem d_On_changePlacesWithA_42 : decode b_On_changePlacesWithA 42 = .ok (.aload_n 0, 1) := by decide +kernel
theorem d_On_changePlacesWithA_43 : decode b_On_changePlacesWithA 43 = .ok (.getfield 19, 3) := by decide +kernel
theorem d_On_changePlacesWithA_46 : decode b_On_changePlacesWithA 46 = .ok (.iconst 0, 1) := by decide +kernel
theorem d_On_changePlacesWithA_47 : decode b_On_changePlacesWithA 47 = .ok (.aload_n 0, 1) := by decide +kernel
theorem d_On_changePlacesWithA_48 : decode b_On_changePlacesWithA 48 = .ok (.getfield 19, 3) := by decide +kernel
theorem d_On_changePlacesWithA_51 : decode b_On_changePlacesWithA 51 = .ok (.aload_n 0, 1) := by decide +kernel
theorem d_On_changePlacesWithA_52 : decode b_On_changePlacesWithA 52 = .ok (.getfield 15, 3) := by decide +kernel
theorem d_On_changePlacesWithA_55 : decode b_On_changePlacesWithA 55 = .ok (.invokevirtual 40, 3) := by decide +kernel
theorem d_On_changePlacesWithA_58 : decode b_On_changePlacesWithA 58 = .ok (.iload_n 1, 1) := by decide +kernel
theorem d_On_changePlacesWithA_59 : decode b_On_changePlacesWithA 59 = .ok (.invokevirtual 78, 3) := by decide +kernel
theorem d_On_changePlacesWithA_62 : decode b_On_changePlacesWithA 62 = .ok (.iload_n 1, 1) := by decide +kernel
theorem d_On_changePlacesWithA_63 : decode b_On_changePlacesWithA 63 = .ok (.invokevirtual 48, 3) := by decide +kernel
theorem d_On_changePlacesWithA_66 : decode b_On_changePlacesWithA 66 = .ok (.aload_n 0, 1) := by decide +kernel
theorem d_On_changePlacesWithA_67 : decode b_On_changePlacesWithA 67 = .ok (.getfield 19, 3) := by decide +kernel
theorem d_On_changePlacesWithA_70 : decode b_On_changePlacesWithA 70 = .ok (.aload_n 0, 1) := by decide +kernel
theorem d_On_changePlacesWithA_71 : decode b_On_changePlacesWithA 71 = .ok (.getfield 15, 3) := by decide +kernel
theorem d_On_changePlacesWithA_74 : decode b_On_changePlacesWithA 74 = .ok (.invokevirtual 40, 3) := by decide +kernel
theorem d_On_changePlacesWithA_77 : decode b_On_changePlacesWithA 77 = .ok (.lload_n 2, 1) := by decide +kernel
theorem d_On_changePlacesWithA_78 : decode b_On_changePlacesWithA 78 = .ok (.iload_n 1, 1) := by decide +kernel
theorem d_On_changePlacesWithA_79 : decode b_On_changePlacesWithA 79 = .ok (.invokevirtual 48, 3) := by decide +kernel
theorem d_On_changePlacesWithA_82 : decode b_On_changePlacesWithA 82 = .ok (.return_, 1) := by decide +kernel
theorem d_On_changePlacesWithA_13 : decode b_On_changePlacesWithA 13 = .ok (.aload_n 0, 1) := by decide +kernel
theorem d_On_changePlacesWithA_14 : decode b_On_changePlacesWithA 14 = .ok (.getfield 15, 3) := by decide +kernel
theorem d_De_hasB_0 : decode b_De_hasB 0 = .ok (.aload_n 0, 1) := by decide +kernel
theorem d_De_hasB_1 : decode b_De_hasB 1 = .ok (.getfield 78, 3) := by decide +kernel
theorem d_De_hasB_4 : decode b_De_hasB 4 = .ok (.iconst 1, 1) := by decide +kernel
theorem d_De_hasB_5 : decode b_De_hasB 5 = .ok (.iand, 1) := by decide +kernel
theorem d_De_hasB_6 : decode b_De_hasB 6 = .ok (.ifCond .eq 7, 3) := by decide +kernel
theorem d_De_hasB_13 : decode b_De_hasB 13 = .ok (.iconst 0, 1) := by decide +kernel
theorem d_De_hasB_14 : decode b_De_hasB 14 = .ok (.ireturn, 1) := by decide +kernel
theorem d_De_hasB_9 : decode b_De_hasB 9 = .ok (.iconst 1, 1) := by decide +kernel
theorem d_De_hasB_10 : decode b_De_hasB 10 = .ok (.goto 4, 3) := by decide +kernel
theorem d_On_changePlacesWithA_17 : decode b_On_changePlacesWithA 17 = .ok (.invokevirtual 99, 3) := by decide +kernel
theorem d_On_changePlacesWithA_20 : decode b_On_changePlacesWithA 20 = .ok (.ifCond .ne 4, 3) := by decide +kernel
theorem d_On_changePlacesWithA_23 : decode b_On_changePlacesWithA 23 = .ok (.return_, 1) := by decide +kernel
theorem d_On_execute_45 : decode b_On_execute 45 = .ok (.invokevirtual 37, 3) := by decide +kernel
theorem d_On_execute_48 : decode b_On_execute 48 = .ok (.iconst (-1), 1) := by decide +kernel
theorem d_On_execute_49 : decode b_On_execute 49 = .ok (.ireturn, 1) := by decide +kernel
theorem d_On_execute_50 : decode b_On_execute 50 = .ok (.aload_n 0, 1) := by decide +kernel
theorem d_On_execute_51 : decode b_On_execute 51 = .ok (.getfield 19, 3) := by decide +kernel
theorem d_On_execute_54 : decode b_On_execute 54 = .ok (.aload_n 0, 1) := by decide +kernel
theorem d_On_execute_55 : decode b_On_execute 55 = .ok (.getfield 15, 3) := by decide +kernel
theorem d_On_execute_58 : decode b_On_execute 58 = .ok (.invokevirtual 40, 3) := by decide +kernel
theorem d_On_execute_61 : decode b_On_execute 61 = .ok (.aload_n 0, 1) := by decide +kernel
theorem d_On_execute_62 : decode b_On_execute 62 = .ok (.getfield 15, 3) := by decide +kernel
theorem d_On_execute_65 : decode b_On_execute 65 = .ok (.getfield 44, 3) := by decide +kernel
theorem d_On_execute_68 : decode b_On_execute 68 = .ok (.iconst 1, 1) := by decide +kernel
theorem d_On_execute_69 : decode b_On_execute 69 = .ok (.invokevirtual 48, 3) := by decide +kernel
theorem d_On_execute_72 : decode b_On_execute 72 = .ok (.iconst (-1), 1) := by decide +kernel
theorem d_On_execute_73 : decode b_On_execute 73 = .ok (.ireturn, 1) := by decide +kernel
theorem d_On_execute_74 : decode b_On_execute 74 = .ok (.aload_n 0, 1) := by decide +kernel
theorem d_On_execute_75 : decode b_On_execute 75 = .ok (.getfield 19, 3) := by decide +kernel
theorem d_On_execute_78 : decode b_On_execute 78 = .ok (.aload_n 0, 1) := by decide +kernel
theorem d_On_execute_79 : decode b_On_execute 79 = .ok (.getfield 15, 3) := by decide +kernel
theorem d_On_execute_82 : decode b_On_execute 82 = .ok (.invokevirtual 40, 3) := by decide +kernel
theorem d_On_execute_85 : decode b_On_execute 85 = .ok (.aload_n 0, 1) := by decide +kernel
theorem d_On_execute_86 : decode b_On_execute 86 = .ok (.getfield 15, 3) := by decide +kernel
theorem d_On_execute_89 : decode b_On_execute 89 = .ok (.getfield 44, 3) := by decide +kernel
theorem d_On_execute_92 : decode b_On_execute 92 = .ok (.aload_n 0, 1) := by decide +kernel
theorem d_On_execute_93 : decode b_On_execute 93 = .ok (.getfield 15, 3) := by decide +kernel
theorem d_On_execute_96 : decode b_On_execute 96 = .ok (.invokevirtual 54, 3) := by decide +kernel
theorem d_On_execute_99 : decode b_On_execute 99 = .ok (.invokevirtual 48, 3) := by decide +kernel
theorem d_On_execute_102 : decode b_On_execute 102 = .ok (.iconst (-1), 1) := by decide +kernel
theorem d_On_execute_103 : decode b_On_execute 103 = .ok (.ireturn, 1) := by decide +kernel
theorem d_On_execute_104 : decode b_On_execute 104 = .ok (.aload_n 0, 1) := by decide +kernel
theorem d_On_execute_105 : decode b_On_execute 105 = .ok (.getfield 15, 3) := by decide +kernel
theorem d_On_execute_108 : decode b_On_execute 108 = .ok (.getfield 31, 3) := by decide +kernel
theorem d_On_execute_111 : decode b_On_execute 111 = .ok (.sipush 246, 3) := by decide +kernel
theorem d_On_execute_114 : decode b_On_execute 114 = .ok (.if_icmp .eq 16, 3) := by decide +kernel
theorem d_On_execute_130 : decode b_On_execute 130 = .ok (.aload_n 0, 1) := by decide +kernel
theorem d_On_executeByReg_0 : decode b_On_executeByReg 0 = .ok (.aload_n 0, 1) := by decide +kernel
theorem d_On_executeByReg_1 : decode b_On_executeByReg 1 = .ok (.getfield 19, 3) := by decide +kernel
theorem d_On_executeByReg_4 : decode b_On_executeByReg 4 = .ok (.getfield 139, 3) := by decide +kernel
theorem d_On_executeByReg_7 : decode b_On_executeByReg 7 = .ok (.istore_n 1, 1) := by decide +kernel
theorem d_On_executeByReg_8 : decode b_On_executeByReg 8 = .ok (.aload_n 0, 1) := by decide +kernel
theorem d_On_executeByReg_9 : decode b_On_executeByReg 9 = .ok (.getfield 19, 3) := by decide +kernel
theorem d_On_executeByReg_12 : decode b_On_executeByReg 12 = .ok (.invokevirtual 82, 3) := by decide +kernel
theorem d_On_executeByReg_15 : decode b_On_executeByReg 15 = .ok (.lstore_n 2, 1) := by decide +kernel
theorem d_On_executeByReg_16 : decode b_On_executeByReg 16 = .ok (.aload_n 0, 1) := by decide +kernel
theorem d_On_executeByReg_17 : decode b_On_executeByReg 17 = .ok (.getfield 15, 3) := by decide +kernel
theorem d_On_executeByReg_20 : decode b_On_executeByReg 20 = .ok (.getfield 64, 3) := by decide +kernel
theorem d_On_executeByReg_23 : decode b_On_executeByReg 23 = .ok (.tableswitch 136 0 5 #[37, 136, 58, 73, 94, 94], 37) := by decide +kernel
theorem d_On_executeByReg_60 : decode b_On_executeByReg 60 = .ok (.aload_n 0, 1) := by decide +kernel
theorem d_On_executeByReg_61 : decode b_On_executeByReg 61 = .ok (.getfield 23, 3) := by decide +kernel
theorem d_On_executeByReg_64 : decode b_On_executeByReg 64 = .ok (.lload_n 2, 1) := by decide +kernel
theorem d_On_executeByReg_65 : decode b_On_executeByReg 65 = .ok (.aload_n 0, 1) := by decide +kernel
theorem d_On_executeByReg_66 : decode b_On_executeByReg 66 = .ok (.getfield 15, 3) := by decide +kernel
theorem d_On_executeByReg_69 : decode b_On_executeByReg 69 = .ok (.getfield 44, 3) := by decide +kernel
theorem d_On_executeByReg_72 : decode b_On_executeByReg 72 = .ok (.land, 1) := by decide +kernel
theorem d_On_executeByReg_73 : decode b_On_executeByReg 73 = .ok (.iload_n 1, 1) := by decide +kernel
theorem d_Ar_logic_0 : decode b_Ar_logic 0 = .ok (.aload_n 0, 1) := by decide +kernel
theorem d_Ar_logic_1 : decode b_Ar_logic 1 = .ok (.sipush 2245, 3) := by decide +kernel
theorem d_Ar_logic_4 : decode b_Ar_logic 4 = .ok (.lload_n 1, 1) := by decide +kernel
theorem d_Ar_logic_5 : decode b_Ar_logic 5 = .ok (.iload_n 3, 1) := by decide +kernel
theorem d_Ar_logic_6 : decode b_Ar_logic 6 = .ok (.invokestatic 28, 3) := by decide +kernel
theorem d_Ar_logic_9 : decode b_Ar_logic 9 = .ok (.bipush 16, 2) := by decide +kernel
theorem d_Ar_logic_11 : decode b_Ar_logic 11 = .ok (.invokevirtual 32, 3) := by decide +kernel
theorem d_Ar_logic_14 : decode b_Ar_logic 14 = .ok (.lload_n 1, 1) := by decide +kernel
theorem d_Ar_logic_15 : decode b_Ar_logic 15 = .ok (.iload_n 3, 1) := by decide +kernel
theorem d_Ar_logic_16 : decode b_Ar_logic 16 = .ok (.invokestatic 36, 3) := by decide +kernel
theorem d_Ar_logic_19 : decode b_Ar_logic 19 = .ok (.land, 1) := by decide +kernel
theorem d_Ar_logic_20 : decode b_Ar_logic 20 = .ok (.lreturn, 1) := by decide +kernel
theorem d_On_executeByReg_74 : decode b_On_executeByReg 74 = .ok (.invokevirtual 112, 3) := by decide +kernel
theorem d_On_executeByReg_77 : decode b_On_executeByReg 77 = .ok (.pop2, 1) := by decide +kernel
theorem d_On_executeByReg_78 : decode b_On_executeByReg 78 = .ok (.goto 88, 3) := by decide +kernel
theorem d_On_executeByReg_166 : decode b_On_executeByReg 166 = .ok (.iconst (-1), 1) := by decide +kernel
theorem d_On_executeByReg_167 : decode b_On_executeByReg 167 = .ok (.ireturn, 1) := by decide +kernel
theorem d_On_executeByReg_159 : decode b_On_executeByReg 159 = .ok (.aload_n 0, 1) := by decide +kernel
theorem d_On_executeByReg_160 : decode b_On_executeByReg 160 = .ok (.lload_n 2, 1) := by decide +kernel
theorem d_On_executeByReg_161 : decode b_On_executeByReg 161 = .ok (.iload_n 1, 1) := by decide +kernel
theorem d_On_divideBy_0 : decode b_On_divideBy 0 = .ok (.iload_n 3, 1) := by decide +kernel
theorem d_On_divideBy_1 : decode b_On_divideBy 1 = .ok (.iconst 1, 1) := by decide +kernel
theorem d_On_divideBy_2 : decode b_On_divideBy 2 = .ok (.if_icmp .ne 22, 3) := by decide +kernel
theorem d_On_divideBy_24 : decode b_On_divideBy 24 = .ok (.aload_n 0, 1) := by decide +kernel
theorem d_On_divideBy_25 : decode b_On_divideBy 25 = .ok (.getfield 19, 3) := by decide +kernel
theorem d_On_divideBy_28 : decode b_On_divideBy 28 = .ok (.iconst 2, 1) := by decide +kernel
theorem d_On_divideBy_29 : decode b_On_divideBy 29 = .ok (.iload_n 3, 1) := by decide +kernel
theorem d_On_divideBy_30 : decode b_On_divideBy 30 = .ok (.invokevirtual 78, 3) := by decide +kernel
theorem d_On_divideBy_33 : decode b_On_divideBy 33 = .ok (.lstore 4, 2) := by decide +kernel
theorem d_On_divideBy_35 : decode b_On_divideBy 35 = .ok (.aload_n 0, 1) := by decide +kernel
theorem d_On_divideBy_36 : decode b_On_divideBy 36 = .ok (.getfield 27, 3) := by decide +kernel
theorem d_On_divideBy_39 : decode b_On_divideBy 39 = .ok (.lload 4, 2) := by decide +kernel
theorem d_On_divideBy_41 : decode b_On_divideBy 41 = .ok (.aload_n 0, 1) := by decide +kernel
theorem d_On_divideBy_42 : decode b_On_divideBy 42 = .ok (.getfield 19, 3) := by decide +kernel
theorem d_On_divideBy_45 : decode b_On_divideBy 45 = .ok (.iconst 0, 1) := by decide +kernel
theorem d_On_divideBy_46 : decode b_On_divideBy 46 = .ok (.iload_n 3, 1) := by decide +kernel
theorem d_On_divideBy_47 : decode b_On_divideBy 47 = .ok (.invokevirtual 78, 3) := by decide +kernel
theorem d_On_divideBy_50 : decode b_On_divideBy 50 = .ok (.lload_n 1, 1) := by decide +kernel
theorem d_On_divideBy_51 : decode b_On_divideBy 51 = .ok (.iload_n 3, 1) := by decide +kernel
theorem d_On_divideBy_52 : decode b_On_divideBy 52 = .ok (.aload_n 0, 1) := by decide +kernel
theorem d_On_divideBy_53 : decode b_On_divideBy 53 = .ok (.getfield 15, 3) := by decide +kernel
theorem d_On_divideBy_56 : decode b_On_divideBy 56 = .ok (.getfield 64, 3) := by decide +kernel
theorem d_On_divideBy_59 : decode b_On_divideBy 59 = .ok (.bipush 7, 2) := by decide +kernel
theorem d_On_divideBy_61 : decode b_On_divideBy 61 = .ok (.if_icmp .ne 7, 3) := by decide +kernel
theorem d_On_divideBy_68 : decode b_On_divideBy 68 = .ok (.iconst 0, 1) := by decide +kernel
theorem d_Wi_divide_0 : decode b_Wi_divide 0 = .ok (.iload 7, 2) := by decide +kernel
theorem d_Wi_divide_2 : decode b_Wi_divide 2 = .ok (.invokestatic 32, 3) := by decide +kernel
theorem d_Wi_divide_5 : decode b_Wi_divide 5 = .ok (.lstore 9, 2) := by decide +kernel
theorem d_Wi_divide_7 : decode b_Wi_divide 7 = .ok (.iload 8, 2) := by decide +kernel
theorem d_Wi_divide_9 : decode b_Wi_divide 9 = .ok (.ifCond .eq 18, 3) := by decide +kernel
theorem d_Wi_divide_27 : decode b_Wi_divide 27 = .ok (.iconst 0, 1) := by decide +kernel
theorem d_Wi_divide_28 : decode b_Wi_divide 28 = .ok (.istore 11, 2) := by decide +kernel
theorem d_Wi_divide_30 : decode b_Wi_divide 30 = .ok (.iload 8, 2) := by decide +kernel
theorem d_Wi_divide_32 : decode b_Wi_divide 32 = .ok (.ifCond .eq 19, 3) := by decide +kernel
theorem d_Wi_divide_51 : decode b_Wi_divide 51 = .ok (.iconst 0, 1) := by decide +kernel
theorem d_Wi_divide_52 : decode b_Wi_divide 52 = .ok (.istore 12, 2) := by decide +kernel
theorem d_Wi_divide_54 : decode b_Wi_divide 54 = .ok (.iload 12, 2) := by decide +kernel
theorem d_Wi_divide_56 : decode b_Wi_divide 56 = .ok (.ifCond .eq 9, 3) := by decide +kernel
theorem d_Wi_divide_65 : decode b_Wi_divide 65 = .ok (.lload 5, 2) := by decide +kernel
theorem d_Wi_divide_67 : decode b_Wi_divide 67 = .ok (.lload 9, 2) := by decide +kernel
theorem d_Wi_divide_69 : decode b_Wi_divide 69 = .ok (.land, 1) := by decide +kernel
theorem d_Wi_divide_70 : decode b_Wi_divide 70 = .ok (.lstore 13, 2) := by decide +kernel
theorem d_Wi_divide_72 : decode b_Wi_divide 72 = .ok (.lload_n 1, 1) := by decide +kernel
theorem d_Wi_divide_73 : decode b_Wi_divide 73 = .ok (.lstore 15, 2) := by decide +kernel
theorem d_Wi_divide_75 : decode b_Wi_divide 75 = .ok (.lload_n 3, 1) := by decide +kernel
theorem d_Wi_divide_76 : decode b_Wi_divide 76 = .ok (.lstore 17, 2) := by decide +kernel
theorem d_Wi_divide_78 : decode b_Wi_divide 78 = .ok (.iload 11, 2) := by decide +kernel
theorem d_Wi_divide_80 : decode b_Wi_divide 80 = .ok (.ifCond .eq 31, 3) := by decide +kernel
theorem d_Wi_divide_111 : decode b_Wi_divide 111 = .ok (.lload 13, 2) := by decide +kernel
theorem d_Wi_divide_113 : decode b_Wi_divide 113 = .ok (.lconst 0, 1) := by decide +kernel
theorem d_Wi_divide_114 : decode b_Wi_divide 114 = .ok (.lcmp, 1) := by decide +kernel
theorem d_Wi_divide_115 : decode b_Wi_divide 115 = .ok (.ifCond .eq 13, 3) := by decide +kernel
theorem d_Wi_divide_128 : decode b_Wi_divide 128 = .ok (.iconst 0, 1) := by decide +kernel
theorem d_Wi_divide_129 : decode b_Wi_divide 129 = .ok (.ireturn, 1) := by decide +kernel
theorem d_Wi_divide_118 : decode b_Wi_divide 118 = .ok (.lload 15, 2) := by decide +kernel
theorem d_Wi_divide_120 : decode b_Wi_divide 120 = .ok (.lload 13, 2) := by decide +kernel
theorem d_Wi_isBelow_0 : decode b_Wi_isBelow 0 = .ok (.lload_n 0, 1) := by decide +kernel
theorem d_Wi_isBelow_1 : decode b_Wi_isBelow 1 = .ok (.ldc2_w 52, 3) := by decide +kernel
theorem d_Wi_isBelow_4 : decode b_Wi_isBelow 4 = .ok (.lxor, 1) := by decide +kernel
theorem d_Wi_isBelow_5 : decode b_Wi_isBelow 5 = .ok (.lload_n 2, 1) := by decide +kernel
theorem d_Wi_isBelow_6 : decode b_Wi_isBelow 6 = .ok (.ldc2_w 52, 3) := by decide +kernel
theorem d_Wi_isBelow_9 : decode b_Wi_isBelow 9 = .ok (.lxor, 1) := by decide +kernel
theorem d_Wi_isBelow_10 : decode b_Wi_isBelow 10 = .ok (.lcmp, 1) := by decide +kernel
theorem d_Wi_isBelow_11 : decode b_Wi_isBelow 11 = .ok (.ifCond .ge 7, 3) := by decide +kernel
theorem d_Wi_isBelow_18 : decode b_Wi_isBelow 18 = .ok (.iconst 0, 1) := by decide +kernel
theorem d_Wi_isBelow_19 : decode b_Wi_isBelow 19 = .ok (.ireturn, 1) := by decide +kernel
theorem d_Wi_isBelow_14 : decode b_Wi_isBelow 14 = .ok (.iconst 1, 1) := by decide +kernel
theorem d_Wi_isBelow_15 : decode b_Wi_isBelow 15 = .ok (.goto 4, 3) := by decide +kernel
theorem d_Wi_divide_122 : decode b_Wi_divide 122 = .ok (.invokestatic 44, 3) := by decide +kernel
theorem d_Wi_divide_125 : decode b_Wi_divide 125 = .ok (.ifCond .ne 5, 3) := by decide +kernel
theorem d_Wi_divide_130 : decode b_Wi_divide 130 = .ok (.aload_n 0, 1) := by decide +kernel
theorem d_Wi_divide_131 : decode b_Wi_divide 131 = .ok (.lload 15, 2) := by decide +kernel
theorem d_Wi_divide_133 : decode b_Wi_divide 133 = .ok (.lload 17, 2) := by decide +kernel
theorem d_Wi_divide_135 : decode b_Wi_divide 135 = .ok (.lload 13, 2) := by decide +kernel
theorem d_Wi_divide_137 : decode b_Wi_divide 137 = .ok (.bipush 8, 2) := by decide +kernel
theorem d_Wi_divide_139 : decode b_Wi_divide 139 = .ok (.iload 7, 2) := by decide +kernel
theorem d_Wi_divide_141 : decode b_Wi_divide 141 = .ok (.imul, 1) := by decide +kernel
theorem d_Wi_divideMagnitudes_0 : decode b_Wi_divideMagnitudes 0 = .ok (.lconst 0, 1) := by decide +kernel
theorem d_Wi_divideMagnitudes_1 : decode b_Wi_divideMagnitudes 1 = .ok (.lstore 8, 2) := by decide +kernel
theorem d_Wi_divideMagnitudes_3 : decode b_Wi_divideMagnitudes 3 = .ok (.lload_n 1, 1) := by decide +kernel
theorem d_Wi_divideMagnitudes_4 : decode b_Wi_divideMagnitudes 4 = .ok (.lstore 10, 2) := by decide +kernel
theorem d_Wi_divideMagnitudes_6 : decode b_Wi_divideMagnitudes 6 = .ok (.iload 7, 2) := by decide +kernel
theorem d_Wi_divideMagnitudes_8 : decode b_Wi_divideMagnitudes 8 = .ok (.iconst 1, 1) := by decide +kernel
theorem d_Wi_divideMagnitudes_9 : decode b_Wi_divideMagnitudes 9 = .ok (.isub, 1) := by decide +kernel
theorem d_Wi_divideMagnitudes_10 : decode b_Wi_divideMagnitudes 10 = .ok (.istore 12, 2) := by decide +kernel
theorem d_Wi_divideMagnitudes_12 : decode b_Wi_divideMagnitudes 12 = .ok (.iload 12, 2) := by decide +kernel
theorem d_Wi_divideMagnitudes_14 : decode b_Wi_divideMagnitudes 14 = .ok (.ifCond .lt 67, 3) := by decide +kernel
theorem d_Wi_divideMagnitudes_81 : decode b_Wi_divideMagnitudes 81 = .ok (.aload_n 0, 1) := by decide +kernel
theorem d_Wi_divideMagnitudes_82 : decode b_Wi_divideMagnitudes 82 = .ok (.lload 8, 2) := by decide +kernel
theorem d_Wi_divideMagnitudes_84 : decode b_Wi_divideMagnitudes 84 = .ok (.putfield 15, 3) := by decide +kernel
theorem d_Wi_divideMagnitudes_87 : decode b_Wi_divideMagnitudes 87 = .ok (.aload_n 0, 1) := by decide +kernel
theorem d_Wi_divideMagnitudes_88 : decode b_Wi_divideMagnitudes 88 = .ok (.lload 10, 2) := by decide +kernel
theorem d_Wi_divideMagnitudes_90 : decode b_Wi_divideMagnitudes 90 = .ok (.putfield 23, 3) := by decide +kernel
theorem d_Wi_divideMagnitudes_93 : decode b_Wi_divideMagnitudes 93 = .ok (.return_, 1) := by decide +kernel
theorem d_Wi_divideMagnitudes_17 : decode b_Wi_divideMagnitudes 17 = .ok (.lload 10, 2) := by decide +kernel
theorem d_Wi_divideMagnitudes_19 : decode b_Wi_divideMagnitudes 19 = .ok (.lconst 0, 1) := by decide +kernel
theorem d_Wi_divideMagnitudes_20 : decode b_Wi_divideMagnitudes 20 = .ok (.lcmp, 1) := by decide +kernel
theorem d_Wi_divideMagnitudes_21 : decode b_Wi_divideMagnitudes 21 = .ok (.ifCond .ge 7, 3) := by decide +kernel
theorem d_Wi_divideMagnitudes_28 : decode b_Wi_divideMagnitudes 28 = .ok (.iconst 0, 1) := by decide +kernel
theorem d_Wi_divideMagnitudes_29 : decode b_Wi_divideMagnitudes 29 = .ok (.istore 13, 2) := by decide +kernel
theorem d_Wi_divideMagnitudes_31 : decode b_Wi_divideMagnitudes 31 = .ok (.lload 10, 2) := by decide +kernel
theorem d_Wi_divideMagnitudes_33 : decode b_Wi_divideMagnitudes 33 = .ok (.iconst 1, 1) := by decide +kernel
theorem d_Wi_divideMagnitudes_34 : decode b_Wi_divideMagnitudes 34 = .ok (.lshl, 1) := by decide +kernel
theorem d_Wi_divideMagnitudes_35 : decode b_Wi_divideMagnitudes 35 = .ok (.lload_n 3, 1) := by decide +kernel
theorem d_Wi_divideMagnitudes_36 : decode b_Wi_divideMagnitudes 36 = .ok (.iload 12, 2) := by decide +kernel
theorem d_Wi_divideMagnitudes_38 : decode b_Wi_divideMagnitudes 38 = .ok (.lushr, 1) := by decide +kernel
theorem d_Wi_divideMagnitudes_39 : decode b_Wi_divideMagnitudes 39 = .ok (.lconst 1, 1) := by decide +kernel
theorem d_Wi_divideMagnitudes_40 : decode b_Wi_divideMagnitudes 40 = .ok (.land, 1) := by decide +kernel
theorem d_Wi_divideMagnitudes_41 : decode b_Wi_divideMagnitudes 41 = .ok (.lor, 1) := by decide +kernel
theorem d_Wi_divideMagnitudes_42 : decode b_Wi_divideMagnitudes 42 = .ok (.lstore 10, 2) := by decide +kernel
theorem d_Wi_divideMagnitudes_44 : decode b_Wi_divideMagnitudes 44 = .ok (.iload 13, 2) := by decide +kernel
theorem d_Wi_divideMagnitudes_46 : decode b_Wi_divideMagnitudes 46 = .ok (.ifCond .ne 13, 3) := by decide +kernel
theorem d_Wi_divideMagnitudes_59 : decode b_Wi_divideMagnitudes 59 = .ok (.lload 10, 2) := by decide +kernel
theorem d_Wi_divideMagnitudes_61 : decode b_Wi_divideMagnitudes 61 = .ok (.lload 5, 2) := by decide +kernel
theorem d_Wi_divideMagnitudes_63 : decode b_Wi_divideMagnitudes 63 = .ok (.lsub, 1) := by decide +kernel
theorem d_Wi_divideMagnitudes_64 : decode b_Wi_divideMagnitudes 64 = .ok (.lstore 10, 2) := by decide +kernel
theorem d_Wi_divideMagnitudes_66 : decode b_Wi_divideMagnitudes 66 = .ok (.lload 8, 2) := by decide +kernel
theorem d_Wi_divideMagnitudes_68 : decode b_Wi_divideMagnitudes 68 = .ok (.lconst 1, 1) := by decide +kernel
theorem d_Wi_divideMagnitudes_69 : decode b_Wi_divideMagnitudes 69 = .ok (.iload 12, 2) := by decide +kernel
theorem d_Wi_divideMagnitudes_71 : decode b_Wi_divideMagnitudes 71 = .ok (.lshl, 1) := by decide +kernel
theorem d_Wi_divideMagnitudes_72 : decode b_Wi_divideMagnitudes 72 = .ok (.lor, 1) := by decide +kernel
theorem d_Wi_divideMagnitudes_73 : decode b_Wi_divideMagnitudes 73 = .ok (.lstore 8, 2) := by decide +kernel
theorem d_Wi_divideMagnitudes_75 : decode b_Wi_divideMagnitudes 75 = .ok (.iinc 12 (-1), 3) := by decide +kernel
theorem d_Wi_divideMagnitudes_78 : decode b_Wi_divideMagnitudes 78 = .ok (.goto (-66), 3) := by decide +kernel
theorem d_Wi_divideMagnitudes_49 : decode b_Wi_divideMagnitudes 49 = .ok (.lload 10, 2) := by decide +kernel
theorem d_Wi_divideMagnitudes_51 : decode b_Wi_divideMagnitudes 51 = .ok (.lload 5, 2) := by decide +kernel
theorem d_Wi_divideMagnitudes_53 : decode b_Wi_divideMagnitudes 53 = .ok (.invokestatic 44, 3) := by decide +kernel
theorem d_Wi_divideMagnitudes_56 : decode b_Wi_divideMagnitudes 56 = .ok (.ifCond .ne 19, 3) := by decide +kernel
theorem d_Wi_divideMagnitudes_24 : decode b_Wi_divideMagnitudes 24 = .ok (.iconst 1, 1) := by decide +kernel
theorem d_Wi_divideMagnitudes_25 : decode b_Wi_divideMagnitudes 25 = .ok (.goto 4, 3) := by decide +kernel
theorem d_Wi_divide_142 : decode b_Wi_divide 142 = .ok (.invokevirtual 48, 3) := by decide +kernel
theorem d_Wi_divide_145 : decode b_Wi_divide 145 = .ok (.iload 11, 2) := by decide +kernel
theorem d_Wi_divide_147 : decode b_Wi_divide 147 = .ok (.iload 12, 2) := by decide +kernel
theorem d_Wi_divide_149 : decode b_Wi_divide 149 = .ok (.if_icmp .eq 7, 3) := by decide +kernel
theorem d_Wi_divide_156 : decode b_Wi_divide 156 = .ok (.iconst 0, 1) := by decide +kernel
theorem d_Wi_divide_157 : decode b_Wi_divide 157 = .ok (.istore 19, 2) := by decide +kernel
theorem d_Wi_divide_159 : decode b_Wi_divide 159 = .ok (.lload 9, 2) := by decide +kernel
theorem d_Wi_divide_161 : decode b_Wi_divide 161 = .ok (.iconst 1, 1) := by decide +kernel
theorem d_Wi_divide_162 : decode b_Wi_divide 162 = .ok (.lushr, 1) := by decide +kernel
theorem d_Wi_divide_163 : decode b_Wi_divide 163 = .ok (.iload 19, 2) := by decide +kernel
theorem d_Wi_divide_165 : decode b_Wi_divide 165 = .ok (.ifCond .eq 7, 3) := by decide +kernel
theorem d_Wi_divide_172 : decode b_Wi_divide 172 = .ok (.lconst 0, 1) := by decide +kernel
theorem d_Wi_divide_173 : decode b_Wi_divide 173 = .ok (.ladd, 1) := by decide +kernel
theorem d_Wi_divide_174 : decode b_Wi_divide 174 = .ok (.lstore 20, 2) := by decide +kernel
theorem d_Wi_divide_176 : decode b_Wi_divide 176 = .ok (.iload 8, 2) := by decide +kernel
theorem d_Wi_divide_178 : decode b_Wi_divide 178 = .ok (.ifCond .eq 17, 3) := by decide +kernel
theorem d_Wi_divide_195 : decode b_Wi_divide 195 = .ok (.aload_n 0, 1) := by decide +kernel
theorem d_Wi_divide_196 : decode b_Wi_divide 196 = .ok (.iload 19, 2) := by decide +kernel
theorem d_Wi_divide_198 : decode b_Wi_divide 198 = .ok (.ifCond .eq 11, 3) := by decide +kernel
theorem d_Wi_divide_209 : decode b_Wi_divide 209 = .ok (.aload_n 0, 1) := by decide +kernel
theorem d_Wi_divide_210 : decode b_Wi_divide 210 = .ok (.getfield 15, 3) := by decide +kernel
theorem d_Wi_divide_213 : decode b_Wi_divide 213 = .ok (.lload 9, 2) := by decide +kernel
theorem d_Wi_divide_215 : decode b_Wi_divide 215 = .ok (.land, 1) := by decide +kernel
theorem d_Wi_divide_216 : decode b_Wi_divide 216 = .ok (.putfield 15, 3) := by decide +kernel
theorem d_Wi_divide_219 : decode b_Wi_divide 219 = .ok (.aload_n 0, 1) := by decide +kernel
theorem d_Wi_divide_220 : decode b_Wi_divide 220 = .ok (.iload 11, 2) := by decide +kernel
theorem d_Wi_divide_222 : decode b_Wi_divide 222 = .ok (.ifCond .eq 11, 3) := by decide +kernel
theorem d_Wi_divide_233 : decode b_Wi_divide 233 = .ok (.aload_n 0, 1) := by decide +kernel
theorem d_Wi_divide_234 : decode b_Wi_divide 234 = .ok (.getfield 23, 3) := by decide +kernel
theorem d_Wi_divide_237 : decode b_Wi_divide 237 = .ok (.lload 9, 2) := by decide +kernel
theorem d_Wi_divide_239 : decode b_Wi_divide 239 = .ok (.land, 1) := by decide +kernel
theorem d_Wi_divide_240 : decode b_Wi_divide 240 = .ok (.putfield 23, 3) := by decide +kernel
theorem d_Wi_divide_243 : decode b_Wi_divide 243 = .ok (.aload_n 0, 1) := by decide +kernel
theorem d_Wi_divide_244 : decode b_Wi_divide 244 = .ok (.getfield 9, 3) := by decide +kernel
theorem d_Wi_divide_247 : decode b_Wi_divide 247 = .ok (.iconst 0, 1) := by decide +kernel
theorem d_Wi_divide_248 : decode b_Wi_divide 248 = .ok (.iconst 0, 1) := by decide +kernel
theorem d_Wi_divide_249 : decode b_Wi_divide 249 = .ok (.sipush 2261, 3) := by decide +kernel
theorem d_Wi_divide_252 : decode b_Wi_divide 252 = .ok (.invokevirtual 36, 3) := by decide +kernel
theorem d_Wi_divide_255 : decode b_Wi_divide 255 = .ok (.iconst 1, 1) := by decide +kernel
theorem d_Wi_divide_256 : decode b_Wi_divide 256 = .ok (.ireturn, 1) := by decide +kernel
theorem d_Wi_divide_225 : decode b_Wi_divide 225 = .ok (.aload_n 0, 1) := by decide +kernel
theorem d_Wi_divide_226 : decode b_Wi_divide 226 = .ok (.getfield 23, 3) := by decide +kernel
theorem d_Wi_divide_229 : decode b_Wi_divide 229 = .ok (.lneg, 1) := by decide +kernel
theorem d_Wi_divide_230 : decode b_Wi_divide 230 = .ok (.goto 7, 3) := by decide +kernel
theorem d_Wi_divide_201 : decode b_Wi_divide 201 = .ok (.aload_n 0, 1) := by decide +kernel
theorem d_Wi_divide_202 : decode b_Wi_divide 202 = .ok (.getfield 15, 3) := by decide +kernel
theorem d_Wi_divide_205 : decode b_Wi_divide 205 = .ok (.lneg, 1) := by decide +kernel
theorem d_Wi_divide_206 : decode b_Wi_divide 206 = .ok (.goto 7, 3) := by decide +kernel
theorem d_Wi_divide_181 : decode b_Wi_divide 181 = .ok (.lload 20, 2) := by decide +kernel
theorem d_Wi_divide_183 : decode b_Wi_divide 183 = .ok (.aload_n 0, 1) := by decide +kernel
theorem d_Wi_divide_184 : decode b_Wi_divide 184 = .ok (.getfield 15, 3) := by decide +kernel
theorem d_Wi_divide_187 : decode b_Wi_divide 187 = .ok (.invokestatic 44, 3) := by decide +kernel
theorem d_Wi_divide_190 : decode b_Wi_divide 190 = .ok (.ifCond .eq 5, 3) := by decide +kernel
theorem d_Wi_divide_193 : decode b_Wi_divide 193 = .ok (.iconst 0, 1) := by decide +kernel
theorem d_Wi_divide_194 : decode b_Wi_divide 194 = .ok (.ireturn, 1) := by decide +kernel
theorem d_Wi_divide_168 : decode b_Wi_divide 168 = .ok (.lconst 1, 1) := by decide +kernel
theorem d_Wi_divide_169 : decode b_Wi_divide 169 = .ok (.goto 4, 3) := by decide +kernel
theorem d_Wi_divide_152 : decode b_Wi_divide 152 = .ok (.iconst 1, 1) := by decide +kernel
theorem d_Wi_divide_153 : decode b_Wi_divide 153 = .ok (.goto 4, 3) := by decide +kernel
theorem d_Wi_divide_83 : decode b_Wi_divide 83 = .ok (.lload_n 3, 1) := by decide +kernel
theorem d_Wi_divide_84 : decode b_Wi_divide 84 = .ok (.lneg, 1) := by decide +kernel
theorem d_Wi_divide_85 : decode b_Wi_divide 85 = .ok (.lload 9, 2) := by decide +kernel
theorem d_Wi_divide_87 : decode b_Wi_divide 87 = .ok (.land, 1) := by decide +kernel
theorem d_Wi_divide_88 : decode b_Wi_divide 88 = .ok (.lstore 17, 2) := by decide +kernel
theorem d_Wi_divide_90 : decode b_Wi_divide 90 = .ok (.lload_n 3, 1) := by decide +kernel
theorem d_Wi_divide_91 : decode b_Wi_divide 91 = .ok (.lconst 0, 1) := by decide +kernel
theorem d_Wi_divide_92 : decode b_Wi_divide 92 = .ok (.lcmp, 1) := by decide +kernel
theorem d_Wi_divide_93 : decode b_Wi_divide 93 = .ok (.ifCond .ne 8, 3) := by decide +kernel
theorem d_Wi_divide_101 : decode b_Wi_divide 101 = .ok (.lload_n 1, 1) := by decide +kernel
theorem d_Wi_divide_102 : decode b_Wi_divide 102 = .ok (.ldc2_w 42, 3) := by decide +kernel
theorem d_Wi_divide_105 : decode b_Wi_divide 105 = .ok (.lxor, 1) := by decide +kernel
theorem d_Wi_divide_106 : decode b_Wi_divide 106 = .ok (.lload 9, 2) := by decide +kernel
theorem d_Wi_divide_108 : decode b_Wi_divide 108 = .ok (.land, 1) := by decide +kernel
theorem d_Wi_divide_109 : decode b_Wi_divide 109 = .ok (.lstore 15, 2) := by decide +kernel
theorem d_Wi_divide_96 : decode b_Wi_divide 96 = .ok (.lload_n 1, 1) := by decide +kernel
theorem d_Wi_divide_97 : decode b_Wi_divide 97 = .ok (.lneg, 1) := by decide +kernel
theorem d_Wi_divide_98 : decode b_Wi_divide 98 = .ok (.goto 8, 3) := by decide +kernel
theorem d_Wi_divide_59 : decode b_Wi_divide 59 = .ok (.lload 5, 2) := by decide +kernel
theorem d_Wi_divide_61 : decode b_Wi_divide 61 = .ok (.lneg, 1) := by decide +kernel
theorem d_Wi_divide_62 : decode b_Wi_divide 62 = .ok (.goto 5, 3) := by decide +kernel
theorem d_Wi_divide_35 : decode b_Wi_divide 35 = .ok (.lload 5, 2) := by decide +kernel
theorem d_Wi_divide_37 : decode b_Wi_divide 37 = .ok (.iload 7, 2) := by decide +kernel
theorem d_Wi_divide_39 : decode b_Wi_divide 39 = .ok (.invokestatic 26, 3) := by decide +kernel
theorem d_Wi_divide_42 : decode b_Wi_divide 42 = .ok (.lconst 0, 1) := by decide +kernel
theorem d_Wi_divide_43 : decode b_Wi_divide 43 = .ok (.lcmp, 1) := by decide +kernel
theorem d_Wi_divide_44 : decode b_Wi_divide 44 = .ok (.ifCond .ge 7, 3) := by decide +kernel
theorem d_Wi_divide_47 : decode b_Wi_divide 47 = .ok (.iconst 1, 1) := by decide +kernel
theorem d_Wi_divide_48 : decode b_Wi_divide 48 = .ok (.goto 4, 3) := by decide +kernel
theorem d_Wi_divide_12 : decode b_Wi_divide 12 = .ok (.lload_n 1, 1) := by decide +kernel
theorem d_Wi_divide_13 : decode b_Wi_divide 13 = .ok (.iload 7, 2) := by decide +kernel
theorem d_Wi_divide_15 : decode b_Wi_divide 15 = .ok (.invokestatic 26, 3) := by decide +kernel
theorem d_Wi_divide_18 : decode b_Wi_divide 18 = .ok (.lconst 0, 1) := by decide +kernel
theorem d_Wi_divide_19 : decode b_Wi_divide 19 = .ok (.lcmp, 1) := by decide +kernel
theorem d_Wi_divide_20 : decode b_Wi_divide 20 = .ok (.ifCond .ge 7, 3) := by decide +kernel
theorem d_Wi_divide_23 : decode b_Wi_divide 23 = .ok (.iconst 1, 1) := by decide +kernel
theorem d_Wi_divide_24 : decode b_Wi_divide 24 = .ok (.goto 4, 3) := by decide +kernel
theorem d_On_divideBy_69 : decode b_On_divideBy 69 = .ok (.invokevirtual 164, 3) := by decide +kernel
theorem d_On_divideBy_72 : decode b_On_divideBy 72 = .ok (.ifCond .ne 5, 3) := by decide +kernel
theorem d_On_divideBy_77 : decode b_On_divideBy 77 = .ok (.aload_n 0, 1) := by decide +kernel
theorem d_On_divideBy_78 : decode b_On_divideBy 78 = .ok (.iload_n 3, 1) := by decide +kernel
theorem d_On_putHalves_0 : decode b_On_putHalves 0 = .ok (.iload_n 1, 1) := by decide +kernel
theorem d_On_putHalves_1 : decode b_On_putHalves 1 = .ok (.iconst 1, 1) := by decide +kernel
theorem d_On_putHalves_2 : decode b_On_putHalves 2 = .ok (.if_icmp .ne 31, 3) := by decide +kernel
theorem d_On_putHalves_33 : decode b_On_putHalves 33 = .ok (.aload_n 0, 1) := by decide +kernel
theorem d_On_putHalves_34 : decode b_On_putHalves 34 = .ok (.getfield 19, 3) := by decide +kernel
theorem d_On_putHalves_37 : decode b_On_putHalves 37 = .ok (.iconst 0, 1) := by decide +kernel
theorem d_On_putHalves_38 : decode b_On_putHalves 38 = .ok (.aload_n 0, 1) := by decide +kernel
theorem d_On_putHalves_39 : decode b_On_putHalves 39 = .ok (.getfield 27, 3) := by decide +kernel
theorem d_On_putHalves_42 : decode b_On_putHalves 42 = .ok (.getfield 109, 3) := by decide +kernel
theorem d_On_putHalves_45 : decode b_On_putHalves 45 = .ok (.iload_n 1, 1) := by decide +kernel
theorem d_On_putHalves_46 : decode b_On_putHalves 46 = .ok (.invokevirtual 48, 3) := by decide +kernel
theorem d_On_putHalves_49 : decode b_On_putHalves 49 = .ok (.aload_n 0, 1) := by decide +kernel
theorem d_On_putHalves_50 : decode b_On_putHalves 50 = .ok (.getfield 19, 3) := by decide +kernel
theorem d_On_putHalves_53 : decode b_On_putHalves 53 = .ok (.iconst 2, 1) := by decide +kernel
theorem d_On_putHalves_54 : decode b_On_putHalves 54 = .ok (.aload_n 0, 1) := by decide +kernel
theorem d_On_putHalves_55 : decode b_On_putHalves 55 = .ok (.getfield 27, 3) := by decide +kernel
theorem d_On_putHalves_58 : decode b_On_putHalves 58 = .ok (.getfield 168, 3) := by decide +kernel
theorem d_On_putHalves_61 : decode b_On_putHalves 61 = .ok (.iload_n 1, 1) := by decide +kernel
theorem d_On_putHalves_62 : decode b_On_putHalves 62 = .ok (.invokevirtual 48, 3) := by decide +kernel
theorem d_On_putHalves_65 : decode b_On_putHalves 65 = .ok (.return_, 1) := by decide +kernel
theorem d_On_putHalves_5 : decode b_On_putHalves 5 = .ok (.aload_n 0, 1) := by decide +kernel
theorem d_On_putHalves_6 : decode b_On_putHalves 6 = .ok (.getfield 19, 3) := by decide +kernel
theorem d_On_putHalves_9 : decode b_On_putHalves 9 = .ok (.iconst 0, 1) := by decide +kernel
theorem d_On_putHalves_10 : decode b_On_putHalves 10 = .ok (.aload_n 0, 1) := by decide +kernel
theorem d_On_putHalves_11 : decode b_On_putHalves 11 = .ok (.getfield 27, 3) := by decide +kernel
theorem d_On_putHalves_14 : decode b_On_putHalves 14 = .ok (.getfield 168, 3) := by decide +kernel
theorem d_On_putHalves_17 : decode b_On_putHalves 17 = .ok (.bipush 8, 2) := by decide +kernel
theorem d_On_putHalves_19 : decode b_On_putHalves 19 = .ok (.lshl, 1) := by decide +kernel
theorem d_On_putHalves_20 : decode b_On_putHalves 20 = .ok (.aload_n 0, 1) := by decide +kernel
theorem d_On_putHalves_21 : decode b_On_putHalves 21 = .ok (.getfield 27, 3) := by decide +kernel
theorem d_On_putHalves_24 : decode b_On_putHalves 24 = .ok (.getfield 109, 3) := by decide +kernel
theorem d_On_putHalves_27 : decode b_On_putHalves 27 = .ok (.lor, 1) := by decide +kernel
theorem d_On_putHalves_28 : decode b_On_putHalves 28 = .ok (.iconst 2, 1) := by decide +kernel
theorem d_On_putHalves_29 : decode b_On_putHalves 29 = .ok (.invokevirtual 48, 3) := by decide +kernel
theorem d_On_putHalves_32 : decode b_On_putHalves 32 = .ok (.return_, 1) := by decide +kernel
theorem d_On_divideBy_79 : decode b_On_divideBy 79 = .ok (.invokevirtual 155, 3) := by decide +kernel
theorem d_On_divideBy_82 : decode b_On_divideBy 82 = .ok (.iconst (-1), 1) := by decide +kernel
theorem d_On_divideBy_83 : decode b_On_divideBy 83 = .ok (.ireturn, 1) := by decide +kernel
theorem d_On_divideBy_75 : decode b_On_divideBy 75 = .ok (.iconst 0, 1) := by decide +kernel
theorem d_On_divideBy_76 : decode b_On_divideBy 76 = .ok (.ireturn, 1) := by decide +kernel
theorem d_On_divideBy_64 : decode b_On_divideBy 64 = .ok (.iconst 1, 1) := by decide +kernel
theorem d_On_divideBy_65 : decode b_On_divideBy 65 = .ok (.goto 4, 3) := by decide +kernel
theorem d_On_divideBy_5 : decode b_On_divideBy 5 = .ok (.aload_n 0, 1) := by decide +kernel
theorem d_On_divideBy_6 : decode b_On_divideBy 6 = .ok (.getfield 9, 3) := by decide +kernel
theorem d_On_divideBy_9 : decode b_On_divideBy 9 = .ok (.getfield 135, 3) := by decide +kernel
theorem d_On_divideBy_12 : decode b_On_divideBy 12 = .ok (.iconst 0, 1) := by decide +kernel
theorem d_On_divideBy_13 : decode b_On_divideBy 13 = .ok (.laload, 1) := by decide +kernel
theorem d_On_divideBy_14 : decode b_On_divideBy 14 = .ok (.bipush 8, 2) := by decide +kernel
theorem d_On_divideBy_16 : decode b_On_divideBy 16 = .ok (.lushr, 1) := by decide +kernel
theorem d_On_divideBy_17 : decode b_On_divideBy 17 = .ok (.ldc2_w 162, 3) := by decide +kernel
theorem d_On_divideBy_20 : decode b_On_divideBy 20 = .ok (.land, 1) := by decide +kernel
theorem d_On_divideBy_21 : decode b_On_divideBy 21 = .ok (.goto 12, 3) := by decide +kernel
theorem d_On_executeByReg_162 : decode b_On_executeByReg 162 = .ok (.invokevirtual 158, 3) := by decide +kernel
theorem d_On_executeByReg_165 : decode b_On_executeByReg 165 = .ok (.ireturn, 1) := by decide +kernel
theorem d_On_executeByReg_81 : decode b_On_executeByReg 81 = .ok (.aload_n 0, 1) := by decide +kernel
theorem d_On_executeByReg_82 : decode b_On_executeByReg 82 = .ok (.getfield 19, 3) := by decide +kernel
theorem d_On_executeByReg_85 : decode b_On_executeByReg 85 = .ok (.lload_n 2, 1) := by decide +kernel
theorem d_On_executeByReg_86 : decode b_On_executeByReg 86 = .ok (.ldc2_w 149, 3) := by decide +kernel
theorem d_On_executeByReg_89 : decode b_On_executeByReg 89 = .ok (.lxor, 1) := by decide +kernel
theorem d_On_executeByReg_90 : decode b_On_executeByReg 90 = .ok (.invokevirtual 95, 3) := by decide +kernel
theorem d_On_executeByReg_93 : decode b_On_executeByReg 93 = .ok (.goto 73, 3) := by decide +kernel
theorem d_On_executeByReg_96 : decode b_On_executeByReg 96 = .ok (.aload_n 0, 1) := by decide +kernel
theorem d_On_executeByReg_97 : decode b_On_executeByReg 97 = .ok (.getfield 19, 3) := by decide +kernel
theorem d_On_executeByReg_100 : decode b_On_executeByReg 100 = .ok (.aload_n 0, 1) := by decide +kernel
theorem d_On_executeByReg_101 : decode b_On_executeByReg 101 = .ok (.getfield 23, 3) := by decide +kernel
theorem d_On_executeByReg_104 : decode b_On_executeByReg 104 = .ok (.lconst 0, 1) := by decide +kernel
theorem d_On_executeByReg_105 : decode b_On_executeByReg 105 = .ok (.lload_n 2, 1) := by decide +kernel
theorem d_On_executeByReg_106 : decode b_On_executeByReg 106 = .ok (.lconst 0, 1) := by decide +kernel
theorem d_On_executeByReg_107 : decode b_On_executeByReg 107 = .ok (.iload_n 1, 1) := by decide +kernel
theorem d_On_executeByReg_108 : decode b_On_executeByReg 108 = .ok (.invokevirtual 151, 3) := by decide +kernel
theorem d_On_executeByReg_111 : decode b_On_executeByReg 111 = .ok (.invokevirtual 95, 3) := by decide +kernel
theorem d_On_executeByReg_114 : decode b_On_executeByReg 114 = .ok (.goto 52, 3) := by decide +kernel
theorem d_On_executeByReg_117 : decode b_On_executeByReg 117 = .ok (.aload_n 0, 1) := by decide +kernel
theorem d_On_executeByReg_118 : decode b_On_executeByReg 118 = .ok (.getfield 27, 3) := by decide +kernel
theorem d_On_executeByReg_121 : decode b_On_executeByReg 121 = .ok (.aload_n 0, 1) := by decide +kernel
theorem d_On_executeByReg_122 : decode b_On_executeByReg 122 = .ok (.getfield 19, 3) := by decide +kernel
theorem d_On_executeByReg_125 : decode b_On_executeByReg 125 = .ok (.iconst 0, 1) := by decide +kernel
theorem d_On_executeByReg_126 : decode b_On_executeByReg 126 = .ok (.iload_n 1, 1) := by decide +kernel
theorem d_On_executeByReg_127 : decode b_On_executeByReg 127 = .ok (.invokevirtual 78, 3) := by decide +kernel
theorem d_On_executeByReg_130 : decode b_On_executeByReg 130 = .ok (.lload_n 2, 1) := by decide +kernel
theorem d_On_executeByReg_131 : decode b_On_executeByReg 131 = .ok (.iload_n 1, 1) := by decide +kernel
theorem d_On_executeByReg_132 : decode b_On_executeByReg 132 = .ok (.aload_n 0, 1) := by decide +kernel
theorem d_On_executeByReg_133 : decode b_On_executeByReg 133 = .ok (.getfield 15, 3) := by decide +kernel
theorem d_On_executeByReg_136 : decode b_On_executeByReg 136 = .ok (.getfield 64, 3) := by decide +kernel
theorem d_On_executeByReg_139 : decode b_On_executeByReg 139 = .ok (.iconst 5, 1) := by decide +kernel
theorem d_On_executeByReg_140 : decode b_On_executeByReg 140 = .ok (.if_icmp .ne 7, 3) := by decide +kernel
theorem d_On_executeByReg_147 : decode b_On_executeByReg 147 = .ok (.iconst 0, 1) := by decide +kernel
theorem d_On_executeByReg_148 : decode b_On_executeByReg 148 = .ok (.invokevirtual 103, 3) := by decide +kernel
theorem d_On_executeByReg_151 : decode b_On_executeByReg 151 = .ok (.aload_n 0, 1) := by decide +kernel
theorem d_On_executeByReg_152 : decode b_On_executeByReg 152 = .ok (.iload_n 1, 1) := by decide +kernel
theorem d_On_executeByReg_153 : decode b_On_executeByReg 153 = .ok (.invokevirtual 155, 3) := by decide +kernel
theorem d_On_executeByReg_156 : decode b_On_executeByReg 156 = .ok (.goto 10, 3) := by decide +kernel
theorem d_On_executeByReg_143 : decode b_On_executeByReg 143 = .ok (.iconst 1, 1) := by decide +kernel
theorem d_On_executeByReg_144 : decode b_On_executeByReg 144 = .ok (.goto 4, 3) := by decide +kernel
theorem d_On_execute_131 : decode b_On_execute 131 = .ok (.invokevirtual 57, 3) := by decide +kernel
theorem d_On_execute_134 : decode b_On_execute 134 = .ok (.ireturn, 1) := by decide +kernel
theorem d_On_execute_117 : decode b_On_execute 117 = .ok (.aload_n 0, 1) := by decide +kernel
theorem d_On_execute_118 : decode b_On_execute 118 = .ok (.getfield 15, 3) := by decide +kernel
theorem d_On_execute_121 : decode b_On_execute 121 = .ok (.getfield 31, 3) := by decide +kernel
theorem d_On_execute_124 : decode b_On_execute 124 = .ok (.sipush 247, 3) := by decide +kernel
theorem d_On_execute_127 : decode b_On_execute 127 = .ok (.if_icmp .ne 8, 3) := by decide +kernel
theorem d_On_execute_135 : decode b_On_execute 135 = .ok (.aload_n 0, 1) := by decide +kernel
theorem d_On_execute_136 : decode b_On_execute 136 = .ok (.getfield 15, 3) := by decide +kernel
theorem d_On_execute_139 : decode b_On_execute 139 = .ok (.getfield 31, 3) := by decide +kernel
theorem d_On_execute_142 : decode b_On_execute 142 = .ok (.bipush 64, 2) := by decide +kernel
theorem d_On_execute_144 : decode b_On_execute 144 = .ok (.if_icmp .ge 30, 3) := by decide +kernel
theorem d_On_execute_174 : decode b_On_execute 174 = .ok (.aload_n 0, 1) := by decide +kernel
theorem d_On_execute_175 : decode b_On_execute 175 = .ok (.getfield 15, 3) := by decide +kernel
theorem d_On_execute_178 : decode b_On_execute 178 = .ok (.getfield 31, 3) := by decide +kernel
theorem d_On_execute_181 : decode b_On_execute 181 = .ok (.sipush 128, 3) := by decide +kernel
theorem d_On_execute_184 : decode b_On_execute 184 = .ok (.if_icmp .lt 31, 3) := by decide +kernel
theorem d_On_execute_215 : decode b_On_execute 215 = .ok (.aload_n 0, 1) := by decide +kernel
theorem d_On_execute_216 : decode b_On_execute 216 = .ok (.aload_n 0, 1) := by decide +kernel
theorem d_On_sizeByOpcode_0 : decode b_On_sizeByOpcode 0 = .ok (.aload_n 0, 1) := by decide +kernel
theorem d_On_sizeByOpcode_1 : decode b_On_sizeByOpcode 1 = .ok (.getfield 15, 3) := by decide +kernel
theorem d_On_sizeByOpcode_4 : decode b_On_sizeByOpcode 4 = .ok (.getfield 31, 3) := by decide +kernel
theorem d_On_sizeByOpcode_7 : decode b_On_sizeByOpcode 7 = .ok (.iconst 1, 1) := by decide +kernel
theorem d_On_sizeByOpcode_8 : decode b_On_sizeByOpcode 8 = .ok (.iand, 1) := by decide +kernel
theorem d_On_sizeByOpcode_9 : decode b_On_sizeByOpcode 9 = .ok (.ifCond .ne 7, 3) := by decide +kernel
theorem d_On_sizeByOpcode_16 : decode b_On_sizeByOpcode 16 = .ok (.aload_n 0, 1) := by decide +kernel
theorem d_On_sizeByOpcode_17 : decode b_On_sizeByOpcode 17 = .ok (.getfield 15, 3) := by decide +kernel
