theorem d_Mo_scan_50 : decode b_Mo_scan 50 = .ok (.iconst (-1), 1) := by decide +kernel
theorem d_Mo_scan_51 : decode b_Mo_scan 51 = .ok (.if_icmp .ne 7, 3) := by decide +kernel
theorem d_Mo_scan_58 : decode b_Mo_scan 58 = .ok (.iinc 6 1, 3) := by decide +kernel
theorem d_Mo_scan_61 : decode b_Mo_scan 61 = .ok (.goto (-38), 3) := by decide +kernel
theorem d_Mo_scan_54 : decode b_Mo_scan 54 = .ok (.iload 6, 2) := by decide +kernel
theorem d_Mo_scan_56 : decode b_Mo_scan 56 = .ok (.istore 4, 2) := by decide +kernel
theorem d_Mo_scan_41 : decode b_Mo_scan 41 = .ok (.goto 17, 3) := by decide +kernel
theorem d_Mo_second_368 : decode b_Mo_second 368 = .ok (.invokevirtual 364, 3) := by decide +kernel
theorem d_Mo_second_371 : decode b_Mo_second 371 = .ok (.goto 31, 3) := by decide +kernel
theorem d_Mo_second_359 : decode b_Mo_second 359 = .ok (.iload_n 1, 1) := by decide +kernel
theorem d_Mo_second_360 : decode b_Mo_second 360 = .ok (.sipush 189, 3) := by decide +kernel
theorem d_Mo_second_363 : decode b_Mo_second 363 = .ok (.if_icmp .ne 11, 3) := by decide +kernel
theorem d_Mo_second_374 : decode b_Mo_second 374 = .ok (.iload_n 1, 1) := by decide +kernel
theorem d_Mo_second_375 : decode b_Mo_second 375 = .ok (.sipush 192, 3) := by decide +kernel
theorem d_Mo_second_378 : decode b_Mo_second 378 = .ok (.if_icmp .eq 10, 3) := by decide +kernel
theorem d_Mo_second_388 : decode b_Mo_second 388 = .ok (.aload_n 0, 1) := by decide +kernel
theorem d_Mo_second_389 : decode b_Mo_second 389 = .ok (.iload_n 2, 1) := by decide +kernel
theorem d_Mo_addAndChange_0 : decode b_Mo_addAndChange 0 = .ok (.aload_n 0, 1) := by decide +kernel
theorem d_Mo_addAndChange_1 : decode b_Mo_addAndChange 1 = .ok (.invokevirtual 335, 3) := by decide +kernel
theorem d_Mo_addAndChange_4 : decode b_Mo_addAndChange 4 = .ok (.aload_n 0, 1) := by decide +kernel
theorem d_Mo_addAndChange_5 : decode b_Mo_addAndChange 5 = .ok (.iload_n 1, 1) := by decide +kernel
theorem d_Mo_addAndChange_6 : decode b_Mo_addAndChange 6 = .ok (.iconst 1, 1) := by decide +kernel
theorem d_Mo_addAndChange_7 : decode b_Mo_addAndChange 7 = .ok (.invokevirtual 338, 3) := by decide +kernel
theorem d_Mo_addAndChange_10 : decode b_Mo_addAndChange 10 = .ok (.lstore_n 2, 1) := by decide +kernel
theorem d_Mo_addAndChange_11 : decode b_Mo_addAndChange 11 = .ok (.aload_n 0, 1) := by decide +kernel
theorem d_Mo_addAndChange_12 : decode b_Mo_addAndChange 12 = .ok (.lload_n 2, 1) := by decide +kernel
theorem d_Mo_addAndChange_13 : decode b_Mo_addAndChange 13 = .ok (.aload_n 0, 1) := by decide +kernel
theorem d_Mo_addAndChange_14 : decode b_Mo_addAndChange 14 = .ok (.iload_n 1, 1) := by decide +kernel
theorem d_Mo_addAndChange_15 : decode b_Mo_addAndChange 15 = .ok (.invokevirtual 341, 3) := by decide +kernel
theorem d_Mo_addAndChange_18 : decode b_Mo_addAndChange 18 = .ok (.iconst 0, 1) := by decide +kernel
theorem d_Mo_addAndChange_19 : decode b_Mo_addAndChange 19 = .ok (.iconst 0, 1) := by decide +kernel
theorem d_Mo_addAndChange_20 : decode b_Mo_addAndChange 20 = .ok (.iload_n 1, 1) := by decide +kernel
theorem d_Mo_addAndChange_21 : decode b_Mo_addAndChange 21 = .ok (.invokevirtual 225, 3) := by decide +kernel
theorem d_Mo_addAndChange_24 : decode b_Mo_addAndChange 24 = .ok (.lstore 4, 2) := by decide +kernel
theorem d_Mo_addAndChange_26 : decode b_Mo_addAndChange 26 = .ok (.aload_n 0, 1) := by decide +kernel
theorem d_Mo_addAndChange_27 : decode b_Mo_addAndChange 27 = .ok (.iload_n 1, 1) := by decide +kernel
theorem d_Mo_addAndChange_28 : decode b_Mo_addAndChange 28 = .ok (.lload_n 2, 1) := by decide +kernel
theorem d_Mo_addAndChange_29 : decode b_Mo_addAndChange 29 = .ok (.invokevirtual 344, 3) := by decide +kernel
theorem d_Mo_addAndChange_32 : decode b_Mo_addAndChange 32 = .ok (.aload_n 0, 1) := by decide +kernel
theorem d_Mo_addAndChange_33 : decode b_Mo_addAndChange 33 = .ok (.iload_n 1, 1) := by decide +kernel
theorem d_Mo_addAndChange_34 : decode b_Mo_addAndChange 34 = .ok (.lload 4, 2) := by decide +kernel
theorem d_Mo_addAndChange_36 : decode b_Mo_addAndChange 36 = .ok (.invokevirtual 348, 3) := by decide +kernel
theorem d_Mo_addAndChange_39 : decode b_Mo_addAndChange 39 = .ok (.return_, 1) := by decide +kernel
theorem d_Mo_second_390 : decode b_Mo_second 390 = .ok (.invokevirtual 367, 3) := by decide +kernel
theorem d_Mo_second_393 : decode b_Mo_second 393 = .ok (.goto 9, 3) := by decide +kernel
theorem d_Mo_second_381 : decode b_Mo_second 381 = .ok (.iload_n 1, 1) := by decide +kernel
theorem d_Mo_second_382 : decode b_Mo_second 382 = .ok (.sipush 193, 3) := by decide +kernel
theorem d_Mo_second_385 : decode b_Mo_second 385 = .ok (.if_icmp .ne 11, 3) := by decide +kernel
theorem d_Mo_second_396 : decode b_Mo_second 396 = .ok (.aload_n 0, 1) := by decide +kernel
theorem d_Mo_second_397 : decode b_Mo_second 397 = .ok (.bipush 6, 2) := by decide +kernel
theorem d_Mo_second_399 : decode b_Mo_second 399 = .ok (.invokevirtual 81, 3) := by decide +kernel
theorem d_Mo_second_239 : decode b_Mo_second 239 = .ok (.aload_n 0, 1) := by decide +kernel
theorem d_Mo_second_240 : decode b_Mo_second 240 = .ok (.iload_n 1, 1) := by decide +kernel
theorem d_Mo_second_241 : decode b_Mo_second 241 = .ok (.invokevirtual 295, 3) := by decide +kernel
theorem d_Mo_second_244 : decode b_Mo_second 244 = .ok (.goto 158, 3) := by decide +kernel
theorem d_Mo_second_137 : decode b_Mo_second 137 = .ok (.iload_n 1, 1) := by decide +kernel
theorem d_Mo_second_138 : decode b_Mo_second 138 = .ok (.sipush 207, 3) := by decide +kernel
theorem d_Mo_second_141 : decode b_Mo_second 141 = .ok (.if_icmp .gt 20, 3) := by decide +kernel
theorem d_Mo_second_144 : decode b_Mo_second 144 = .ok (.aload_n 0, 1) := by decide +kernel
theorem d_Mo_second_145 : decode b_Mo_second 145 = .ok (.iload_n 1, 1) := by decide +kernel
theorem d_Mo_second_146 : decode b_Mo_second 146 = .ok (.bipush 8, 2) := by decide +kernel
theorem d_Mo_second_148 : decode b_Mo_second 148 = .ok (.irem, 1) := by decide +kernel
theorem d_Mo_second_149 : decode b_Mo_second 149 = .ok (.aload_n 0, 1) := by decide +kernel
theorem d_Mo_second_150 : decode b_Mo_second 150 = .ok (.iconst 1, 1) := by decide +kernel
theorem d_Mo_second_151 : decode b_Mo_second 151 = .ok (.invokevirtual 157, 3) := by decide +kernel
theorem d_Mo_second_154 : decode b_Mo_second 154 = .ok (.iadd, 1) := by decide +kernel
theorem d_Mo_turnRound_0 : decode b_Mo_turnRound 0 = .ok (.aload_n 0, 1) := by decide +kernel
theorem d_Mo_turnRound_1 : decode b_Mo_turnRound 1 = .ok (.invokevirtual 235, 3) := by decide +kernel
theorem d_Mo_turnRound_4 : decode b_Mo_turnRound 4 = .ok (.istore_n 2, 1) := by decide +kernel
theorem d_Mo_turnRound_5 : decode b_Mo_turnRound 5 = .ok (.iload_n 2, 1) := by decide +kernel
theorem d_Mo_turnRound_6 : decode b_Mo_turnRound 6 = .ok (.iconst 2, 1) := by decide +kernel
theorem d_Mo_turnRound_7 : decode b_Mo_turnRound 7 = .ok (.if_icmp .ne 10, 3) := by decide +kernel
theorem d_Mo_turnRound_17 : decode b_Mo_turnRound 17 = .ok (.lconst 0, 1) := by decide +kernel
theorem d_Mo_turnRound_18 : decode b_Mo_turnRound 18 = .ok (.lstore_n 3, 1) := by decide +kernel
theorem d_Mo_turnRound_19 : decode b_Mo_turnRound 19 = .ok (.iconst 0, 1) := by decide +kernel
theorem d_Mo_turnRound_20 : decode b_Mo_turnRound 20 = .ok (.istore 5, 2) := by decide +kernel
theorem d_Mo_turnRound_22 : decode b_Mo_turnRound 22 = .ok (.iload 5, 2) := by decide +kernel
theorem d_Mo_turnRound_24 : decode b_Mo_turnRound 24 = .ok (.iload_n 2, 1) := by decide +kernel
theorem d_Mo_turnRound_25 : decode b_Mo_turnRound 25 = .ok (.if_icmp .ge 38, 3) := by decide +kernel
theorem d_Mo_turnRound_63 : decode b_Mo_turnRound 63 = .ok (.aload_n 0, 1) := by decide +kernel
theorem d_Mo_turnRound_64 : decode b_Mo_turnRound 64 = .ok (.iload_n 1, 1) := by decide +kernel
theorem d_Mo_turnRound_65 : decode b_Mo_turnRound 65 = .ok (.iload_n 2, 1) := by decide +kernel
theorem d_Mo_turnRound_66 : decode b_Mo_turnRound 66 = .ok (.lload_n 3, 1) := by decide +kernel
theorem d_Mo_turnRound_67 : decode b_Mo_turnRound 67 = .ok (.invokevirtual 189, 3) := by decide +kernel
theorem d_Mo_turnRound_70 : decode b_Mo_turnRound 70 = .ok (.return_, 1) := by decide +kernel
theorem d_Mo_turnRound_28 : decode b_Mo_turnRound 28 = .ok (.lload_n 3, 1) := by decide +kernel
theorem d_Mo_turnRound_29 : decode b_Mo_turnRound 29 = .ok (.aload_n 0, 1) := by decide +kernel
theorem d_Mo_turnRound_30 : decode b_Mo_turnRound 30 = .ok (.getfield 14, 3) := by decide +kernel
theorem d_Mo_turnRound_33 : decode b_Mo_turnRound 33 = .ok (.iload_n 1, 1) := by decide +kernel
theorem d_Mo_turnRound_34 : decode b_Mo_turnRound 34 = .ok (.laload, 1) := by decide +kernel
theorem d_Mo_turnRound_35 : decode b_Mo_turnRound 35 = .ok (.bipush 8, 2) := by decide +kernel
theorem d_Mo_turnRound_37 : decode b_Mo_turnRound 37 = .ok (.iload 5, 2) := by decide +kernel
theorem d_Mo_turnRound_39 : decode b_Mo_turnRound 39 = .ok (.imul, 1) := by decide +kernel
theorem d_Mo_turnRound_40 : decode b_Mo_turnRound 40 = .ok (.lushr, 1) := by decide +kernel
theorem d_Mo_turnRound_41 : decode b_Mo_turnRound 41 = .ok (.ldc2_w 106, 3) := by decide +kernel
theorem d_Mo_turnRound_44 : decode b_Mo_turnRound 44 = .ok (.land, 1) := by decide +kernel
theorem d_Mo_turnRound_45 : decode b_Mo_turnRound 45 = .ok (.bipush 8, 2) := by decide +kernel
theorem d_Mo_turnRound_47 : decode b_Mo_turnRound 47 = .ok (.iload_n 2, 1) := by decide +kernel
theorem d_Mo_turnRound_48 : decode b_Mo_turnRound 48 = .ok (.iconst 1, 1) := by decide +kernel
theorem d_Mo_turnRound_49 : decode b_Mo_turnRound 49 = .ok (.isub, 1) := by decide +kernel
theorem d_Mo_turnRound_50 : decode b_Mo_turnRound 50 = .ok (.iload 5, 2) := by decide +kernel
theorem d_Mo_turnRound_52 : decode b_Mo_turnRound 52 = .ok (.isub, 1) := by decide +kernel
theorem d_Mo_turnRound_53 : decode b_Mo_turnRound 53 = .ok (.imul, 1) := by decide +kernel
theorem d_Mo_turnRound_54 : decode b_Mo_turnRound 54 = .ok (.lshl, 1) := by decide +kernel
theorem d_Mo_turnRound_55 : decode b_Mo_turnRound 55 = .ok (.lor, 1) := by decide +kernel
theorem d_Mo_turnRound_56 : decode b_Mo_turnRound 56 = .ok (.lstore_n 3, 1) := by decide +kernel
theorem d_Mo_turnRound_57 : decode b_Mo_turnRound 57 = .ok (.iinc 5 1, 3) := by decide +kernel
theorem d_Mo_turnRound_60 : decode b_Mo_turnRound 60 = .ok (.goto (-38), 3) := by decide +kernel
theorem d_Mo_turnRound_10 : decode b_Mo_turnRound 10 = .ok (.aload_n 0, 1) := by decide +kernel
theorem d_Mo_turnRound_11 : decode b_Mo_turnRound 11 = .ok (.bipush 6, 2) := by decide +kernel
theorem d_Mo_turnRound_13 : decode b_Mo_turnRound 13 = .ok (.invokevirtual 81, 3) := by decide +kernel
theorem d_Mo_turnRound_16 : decode b_Mo_turnRound 16 = .ok (.return_, 1) := by decide +kernel
theorem d_Mo_second_155 : decode b_Mo_second 155 = .ok (.invokevirtual 351, 3) := by decide +kernel
theorem d_Mo_second_158 : decode b_Mo_second 158 = .ok (.goto 244, 3) := by decide +kernel
theorem d_Mo_second_91 : decode b_Mo_second 91 = .ok (.iload_n 1, 1) := by decide +kernel
theorem d_Mo_second_92 : decode b_Mo_second 92 = .ok (.sipush 159, 3) := by decide +kernel
theorem d_Mo_second_95 : decode b_Mo_second 95 = .ok (.if_icmp .gt 35, 3) := by decide +kernel
theorem d_Mo_second_98 : decode b_Mo_second 98 = .ok (.aload_n 0, 1) := by decide +kernel
theorem d_Mo_second_99 : decode b_Mo_second 99 = .ok (.invokevirtual 335, 3) := by decide +kernel
theorem d_Mo_second_102 : decode b_Mo_second 102 = .ok (.aload_n 0, 1) := by decide +kernel
theorem d_Mo_second_103 : decode b_Mo_second 103 = .ok (.iconst 1, 1) := by decide +kernel
theorem d_Mo_second_104 : decode b_Mo_second 104 = .ok (.iconst 1, 1) := by decide +kernel
theorem d_Mo_second_105 : decode b_Mo_second 105 = .ok (.invokevirtual 338, 3) := by decide +kernel
theorem d_Mo_second_108 : decode b_Mo_second 108 = .ok (.pop2, 1) := by decide +kernel
theorem d_Mo_second_109 : decode b_Mo_second 109 = .ok (.aload_n 0, 1) := by decide +kernel
theorem d_Mo_second_110 : decode b_Mo_second 110 = .ok (.iconst 1, 1) := by decide +kernel
theorem d_Mo_second_111 : decode b_Mo_second 111 = .ok (.aload_n 0, 1) := by decide +kernel
theorem d_Mo_second_112 : decode b_Mo_second 112 = .ok (.iload_n 1, 1) := by decide +kernel
theorem d_Mo_second_113 : decode b_Mo_second 113 = .ok (.invokevirtual 252, 3) := by decide +kernel
theorem d_Mo_second_116 : decode b_Mo_second 116 = .ok (.ifCond .eq 7, 3) := by decide +kernel
theorem d_Mo_second_123 : decode b_Mo_second 123 = .ok (.lconst 0, 1) := by decide +kernel
theorem d_Mo_second_124 : decode b_Mo_second 124 = .ok (.invokevirtual 348, 3) := by decide +kernel
theorem d_Mo_second_127 : decode b_Mo_second 127 = .ok (.goto 275, 3) := by decide +kernel
theorem d_Mo_second_119 : decode b_Mo_second 119 = .ok (.lconst 1, 1) := by decide +kernel
theorem d_Mo_second_120 : decode b_Mo_second 120 = .ok (.goto 4, 3) := by decide +kernel
theorem d_Mo_second_64 : decode b_Mo_second 64 = .ok (.iload_n 1, 1) := by decide +kernel
theorem d_Mo_second_65 : decode b_Mo_second 65 = .ok (.sipush 143, 3) := by decide +kernel
theorem d_Mo_second_68 : decode b_Mo_second 68 = .ok (.if_icmp .gt 16, 3) := by decide +kernel
theorem d_Mo_second_71 : decode b_Mo_second 71 = .ok (.aload_n 0, 1) := by decide +kernel
theorem d_Mo_second_72 : decode b_Mo_second 72 = .ok (.aload_n 0, 1) := by decide +kernel
theorem d_Mo_second_73 : decode b_Mo_second 73 = .ok (.iload_n 1, 1) := by decide +kernel
theorem d_Mo_second_74 : decode b_Mo_second 74 = .ok (.invokevirtual 252, 3) := by decide +kernel
theorem d_Mo_second_77 : decode b_Mo_second 77 = .ok (.iconst 4, 1) := by decide +kernel
theorem d_Mo_second_78 : decode b_Mo_second 78 = .ok (.invokevirtual 255, 3) := by decide +kernel
theorem d_Mo_second_81 : decode b_Mo_second 81 = .ok (.goto 321, 3) := by decide +kernel
theorem d_Mo_second_6 : decode b_Mo_second 6 = .ok (.iload_n 1, 1) := by decide +kernel
theorem d_Mo_second_7 : decode b_Mo_second 7 = .ok (.bipush 79, 2) := by decide +kernel
theorem d_Mo_second_9 : decode b_Mo_second 9 = .ok (.if_icmp .gt 48, 3) := by decide +kernel
theorem d_Mo_second_12 : decode b_Mo_second 12 = .ok (.aload_n 0, 1) := by decide +kernel
theorem d_Mo_second_13 : decode b_Mo_second 13 = .ok (.invokevirtual 335, 3) := by decide +kernel
theorem d_Mo_second_16 : decode b_Mo_second 16 = .ok (.aload_n 0, 1) := by decide +kernel
theorem d_Mo_second_17 : decode b_Mo_second 17 = .ok (.aload_n 0, 1) := by decide +kernel
theorem d_Mo_second_18 : decode b_Mo_second 18 = .ok (.invokevirtual 235, 3) := by decide +kernel
theorem d_Mo_second_21 : decode b_Mo_second 21 = .ok (.iconst 0, 1) := by decide +kernel
theorem d_Mo_second_22 : decode b_Mo_second 22 = .ok (.invokevirtual 338, 3) := by decide +kernel
theorem d_Mo_second_25 : decode b_Mo_second 25 = .ok (.lstore_n 3, 1) := by decide +kernel
theorem d_Mo_second_26 : decode b_Mo_second 26 = .ok (.aload_n 0, 1) := by decide +kernel
theorem d_Mo_second_27 : decode b_Mo_second 27 = .ok (.aload_n 0, 1) := by decide +kernel
theorem d_Mo_second_28 : decode b_Mo_second 28 = .ok (.invokevirtual 235, 3) := by decide +kernel
theorem d_Mo_second_31 : decode b_Mo_second 31 = .ok (.aload_n 0, 1) := by decide +kernel
theorem d_Mo_second_32 : decode b_Mo_second 32 = .ok (.iload_n 1, 1) := by decide +kernel
theorem d_Mo_second_33 : decode b_Mo_second 33 = .ok (.invokevirtual 252, 3) := by decide +kernel
theorem d_Mo_second_36 : decode b_Mo_second 36 = .ok (.ifCond .eq 7, 3) := by decide +kernel
theorem d_Mo_second_43 : decode b_Mo_second 43 = .ok (.aload_n 0, 1) := by decide +kernel
theorem d_Mo_second_44 : decode b_Mo_second 44 = .ok (.aload_n 0, 1) := by decide +kernel
theorem d_Mo_second_45 : decode b_Mo_second 45 = .ok (.invokevirtual 235, 3) := by decide +kernel
theorem d_Mo_second_48 : decode b_Mo_second 48 = .ok (.invokevirtual 341, 3) := by decide +kernel
theorem d_Mo_second_51 : decode b_Mo_second 51 = .ok (.invokevirtual 344, 3) := by decide +kernel
theorem d_Mo_second_54 : decode b_Mo_second 54 = .ok (.goto 348, 3) := by decide +kernel
theorem d_Mo_second_39 : decode b_Mo_second 39 = .ok (.lload_n 3, 1) := by decide +kernel
theorem d_Mo_second_40 : decode b_Mo_second 40 = .ok (.goto 11, 3) := by decide +kernel
theorem d_Mo_step_125 : decode b_Mo_step 125 = .ok (.invokevirtual 238, 3) := by decide +kernel
theorem d_Mo_step_128 : decode b_Mo_step 128 = .ok (.goto 28, 3) := by decide +kernel
theorem d_Mo_step_117 : decode b_Mo_step 117 = .ok (.iconst 1, 1) := by decide +kernel
theorem d_Mo_step_118 : decode b_Mo_step 118 = .ok (.goto 7, 3) := by decide +kernel
theorem d_Mo_step_52 : decode b_Mo_step 52 = .ok (.aload_n 0, 1) := by decide +kernel
theorem d_Mo_step_53 : decode b_Mo_step 53 = .ok (.getfield 25, 3) := by decide +kernel
theorem d_Mo_step_56 : decode b_Mo_step 56 = .ok (.iload_n 1, 1) := by decide +kernel
theorem d_Mo_step_57 : decode b_Mo_step 57 = .ok (.aload_n 0, 1) := by decide +kernel
theorem d_Mo_step_58 : decode b_Mo_step 58 = .ok (.getfield 21, 3) := by decide +kernel
theorem d_Mo_step_61 : decode b_Mo_step 61 = .ok (.iload_n 1, 1) := by decide +kernel
theorem d_Mo_step_62 : decode b_Mo_step 62 = .ok (.baload, 1) := by decide +kernel
theorem d_Mo_step_63 : decode b_Mo_step 63 = .ok (.bastore, 1) := by decide +kernel
theorem d_Mo_step_64 : decode b_Mo_step 64 = .ok (.iinc 1 1, 3) := by decide +kernel
theorem d_Mo_step_67 : decode b_Mo_step 67 = .ok (.goto (-21), 3) := by decide +kernel
theorem d_Mo_step_26 : decode b_Mo_step 26 = .ok (.aload_n 0, 1) := by decide +kernel
theorem d_Mo_step_27 : decode b_Mo_step 27 = .ok (.getfield 18, 3) := by decide +kernel
theorem d_Mo_step_30 : decode b_Mo_step 30 = .ok (.iload_n 1, 1) := by decide +kernel
theorem d_Mo_step_31 : decode b_Mo_step 31 = .ok (.aload_n 0, 1) := by decide +kernel
theorem d_Mo_step_32 : decode b_Mo_step 32 = .ok (.getfield 14, 3) := by decide +kernel
theorem d_Mo_step_35 : decode b_Mo_step 35 = .ok (.iload_n 1, 1) := by decide +kernel
theorem d_Mo_step_36 : decode b_Mo_step 36 = .ok (.laload, 1) := by decide +kernel
theorem d_Mo_step_37 : decode b_Mo_step 37 = .ok (.lastore, 1) := by decide +kernel
theorem d_Mo_step_38 : decode b_Mo_step 38 = .ok (.iinc 1 1, 3) := by decide +kernel
theorem d_Mo_step_41 : decode b_Mo_step 41 = .ok (.goto (-21), 3) := by decide +kernel
theorem d_Mo_run_0 : decode b_Mo_run 0 = .ok (.iload_n 1, 1) := by decide +kernel
theorem d_Mo_run_1 : decode b_Mo_run 1 = .ok (.ifCond .lt 10, 3) := by decide +kernel
theorem d_Mo_run_11 : decode b_Mo_run 11 = .ok (.iconst 0, 1) := by decide +kernel
theorem d_Mo_run_12 : decode b_Mo_run 12 = .ok (.ireturn, 1) := by decide +kernel
theorem d_Mo_run_4 : decode b_Mo_run 4 = .ok (.iload_n 1, 1) := by decide +kernel
theorem d_Mo_run_5 : decode b_Mo_run 5 = .ok (.sipush 1000, 3) := by decide +kernel
theorem d_Mo_run_8 : decode b_Mo_run 8 = .ok (.if_icmp .le 5, 3) := by decide +kernel
theorem d_Mo_run_13 : decode b_Mo_run 13 = .ok (.iconst 0, 1) := by decide +kernel
theorem d_Mo_run_14 : decode b_Mo_run 14 = .ok (.istore_n 2, 1) := by decide +kernel
theorem d_Mo_run_15 : decode b_Mo_run 15 = .ok (.iload_n 2, 1) := by decide +kernel
theorem d_Mo_run_16 : decode b_Mo_run 16 = .ok (.iload_n 1, 1) := by decide +kernel
theorem d_Mo_run_17 : decode b_Mo_run 17 = .ok (.if_icmp .ge 19, 3) := by decide +kernel
theorem d_Mo_run_36 : decode b_Mo_run 36 = .ok (.iload_n 2, 1) := by decide +kernel
theorem d_Mo_run_37 : decode b_Mo_run 37 = .ok (.ireturn, 1) := by decide +kernel
theorem d_Mo_run_20 : decode b_Mo_run 20 = .ok (.aload_n 0, 1) := by decide +kernel
theorem d_Mo_run_21 : decode b_Mo_run 21 = .ok (.invokevirtual 466, 3) := by decide +kernel
theorem d_Mo_run_24 : decode b_Mo_run 24 = .ok (.iconst (-1), 1) := by decide +kernel
theorem d_Mo_run_25 : decode b_Mo_run 25 = .ok (.if_icmp .eq 5, 3) := by decide +kernel
theorem d_Mo_run_30 : decode b_Mo_run 30 = .ok (.iinc 2 1, 3) := by decide +kernel
theorem d_Mo_run_33 : decode b_Mo_run 33 = .ok (.goto (-18), 3) := by decide +kernel
theorem d_Mo_run_28 : decode b_Mo_run 28 = .ok (.iload_n 2, 1) := by decide +kernel
theorem d_Mo_run_29 : decode b_Mo_run 29 = .ok (.ireturn, 1) := by decide +kernel
theorem d_Mo_look_0 : decode b_Mo_look 0 = .ok (.iload_n 1, 1) := by decide +kernel
theorem d_Mo_look_1 : decode b_Mo_look 1 = .ok (.iload_n 2, 1) := by decide +kernel
theorem d_Mo_look_2 : decode b_Mo_look 2 = .ok (.invokestatic 461, 3) := by decide +kernel
theorem d_Mo_look_5 : decode b_Mo_look 5 = .ok (.lstore 4, 2) := by decide +kernel
theorem d_Mo_look_7 : decode b_Mo_look 7 = .ok (.lload 4, 2) := by decide +kernel
theorem d_Mo_look_9 : decode b_Mo_look 9 = .ok (.invokestatic 77, 3) := by decide +kernel
theorem d_Mo_look_12 : decode b_Mo_look 12 = .ok (.ifCond .eq 7, 3) := by decide +kernel
theorem d_Mo_look_19 : decode b_Mo_look 19 = .ok (.aload_n 0, 1) := by decide +kernel
theorem d_Mo_look_20 : decode b_Mo_look 20 = .ok (.lload 4, 2) := by decide +kernel
theorem d_Mo_look_22 : decode b_Mo_look 22 = .ok (.iload_n 3, 1) := by decide +kernel
theorem d_Mo_look_23 : decode b_Mo_look 23 = .ok (.iconst 1, 1) := by decide +kernel
theorem d_Mo_look_24 : decode b_Mo_look 24 = .ok (.if_icmp .ne 7, 3) := by decide +kernel
theorem d_Mo_look_31 : decode b_Mo_look 31 = .ok (.iload_n 3, 1) := by decide +kernel
theorem d_Mo_look_32 : decode b_Mo_look 32 = .ok (.iconst 2, 1) := by decide +kernel
theorem d_Mo_look_33 : decode b_Mo_look 33 = .ok (.if_icmp .ne 7, 3) := by decide +kernel
theorem d_Mo_look_40 : decode b_Mo_look 40 = .ok (.iconst 0, 1) := by decide +kernel
theorem d_Mo_look_41 : decode b_Mo_look 41 = .ok (.invokevirtual 85, 3) := by decide +kernel
theorem d_Mo_look_44 : decode b_Mo_look 44 = .ok (.lstore 6, 2) := by decide +kernel
theorem d_Mo_look_46 : decode b_Mo_look 46 = .ok (.lload 6, 2) := by decide +kernel
theorem d_Mo_look_48 : decode b_Mo_look 48 = .ok (.lconst 0, 1) := by decide +kernel
theorem d_Mo_look_49 : decode b_Mo_look 49 = .ok (.lcmp, 1) := by decide +kernel
theorem d_Mo_look_50 : decode b_Mo_look 50 = .ok (.ifCond .ge 15, 3) := by decide +kernel
theorem d_Mo_look_65 : decode b_Mo_look 65 = .ok (.lload 6, 2) := by decide +kernel
theorem d_Mo_look_67 : decode b_Mo_look 67 = .ok (.lreturn, 1) := by decide +kernel
theorem d_Mo_look_53 : decode b_Mo_look 53 = .ok (.ldc2_w 469, 3) := by decide +kernel
theorem d_Mo_look_56 : decode b_Mo_look 56 = .ok (.aload_n 0, 1) := by decide +kernel
theorem d_Mo_look_57 : decode b_Mo_look 57 = .ok (.getfield 68, 3) := by decide +kernel
theorem d_Mo_look_60 : decode b_Mo_look 60 = .ok (.i2l, 1) := by decide +kernel
theorem d_Mo_look_61 : decode b_Mo_look 61 = .ok (.lsub, 1) := by decide +kernel
theorem d_Mo_look_62 : decode b_Mo_look 62 = .ok (.goto 5, 3) := by decide +kernel
theorem d_Mo_look_36 : decode b_Mo_look 36 = .ok (.iconst 2, 1) := by decide +kernel
theorem d_Mo_look_37 : decode b_Mo_look 37 = .ok (.goto 4, 3) := by decide +kernel
theorem d_Mo_look_27 : decode b_Mo_look 27 = .ok (.iconst 1, 1) := by decide +kernel
theorem d_Mo_look_28 : decode b_Mo_look 28 = .ok (.goto 13, 3) := by decide +kernel
theorem d_Mo_look_15 : decode b_Mo_look 15 = .ok (.ldc2_w 71, 3) := by decide +kernel
theorem d_Mo_look_18 : decode b_Mo_look 18 = .ok (.lreturn, 1) := by decide +kernel
