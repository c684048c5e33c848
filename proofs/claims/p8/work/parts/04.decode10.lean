theorem d_Mo_string_86 : decode b_Mo_string 86 = .ok (.aload_n 0, 1) := by decide +kernel
theorem d_Mo_string_87 : decode b_Mo_string 87 = .ok (.getfield 14, 3) := by decide +kernel
theorem d_Mo_string_90 : decode b_Mo_string 90 = .ok (.bipush 6, 2) := by decide +kernel
theorem d_Mo_string_92 : decode b_Mo_string 92 = .ok (.laload, 1) := by decide +kernel
theorem d_Mo_string_93 : decode b_Mo_string 93 = .ok (.iload_n 2, 1) := by decide +kernel
theorem d_Mo_string_94 : decode b_Mo_string 94 = .ok (.iconst 0, 1) := by decide +kernel
theorem d_Mo_string_95 : decode b_Mo_string 95 = .ok (.invokevirtual 434, 3) := by decide +kernel
theorem d_Mo_string_98 : decode b_Mo_string 98 = .ok (.goto 9, 3) := by decide +kernel
theorem d_Mo_string_74 : decode b_Mo_string 74 = .ok (.iconst 1, 1) := by decide +kernel
theorem d_Mo_string_75 : decode b_Mo_string 75 = .ok (.goto 4, 3) := by decide +kernel
theorem d_Mo_string_53 : decode b_Mo_string 53 = .ok (.iload_n 1, 1) := by decide +kernel
theorem d_Mo_string_54 : decode b_Mo_string 54 = .ok (.sipush 174, 3) := by decide +kernel
theorem d_Mo_string_57 : decode b_Mo_string 57 = .ok (.if_icmp .ne 7, 3) := by decide +kernel
theorem d_Mo_string_64 : decode b_Mo_string 64 = .ok (.iconst 0, 1) := by decide +kernel
theorem d_Mo_string_26 : decode b_Mo_string 26 = .ok (.iload_n 1, 1) := by decide +kernel
theorem d_Mo_string_27 : decode b_Mo_string 27 = .ok (.sipush 166, 3) := by decide +kernel
theorem d_Mo_string_30 : decode b_Mo_string 30 = .ok (.if_icmp .eq 10, 3) := by decide +kernel
theorem d_Mo_string_33 : decode b_Mo_string 33 = .ok (.iload_n 1, 1) := by decide +kernel
theorem d_Mo_string_34 : decode b_Mo_string 34 = .ok (.sipush 172, 3) := by decide +kernel
theorem d_Mo_string_37 : decode b_Mo_string 37 = .ok (.if_icmp .ne 7, 3) := by decide +kernel
theorem d_Mo_string_44 : decode b_Mo_string 44 = .ok (.iconst 0, 1) := by decide +kernel
theorem d_Mo_string_7 : decode b_Mo_string 7 = .ok (.aload_n 0, 1) := by decide +kernel
theorem d_Mo_string_8 : decode b_Mo_string 8 = .ok (.getfield 14, 3) := by decide +kernel
theorem d_Mo_string_11 : decode b_Mo_string 11 = .ok (.iconst 1, 1) := by decide +kernel
theorem d_Mo_string_12 : decode b_Mo_string 12 = .ok (.laload, 1) := by decide +kernel
theorem d_Mo_string_13 : decode b_Mo_string 13 = .ok (.lconst 0, 1) := by decide +kernel
theorem d_Mo_string_14 : decode b_Mo_string 14 = .ok (.lcmp, 1) := by decide +kernel
theorem d_Mo_string_15 : decode b_Mo_string 15 = .ok (.ifCond .ne 4, 3) := by decide +kernel
theorem d_Mo_string_18 : decode b_Mo_string 18 = .ok (.return_, 1) := by decide +kernel
theorem d_Mo_first_177 : decode b_Mo_first 177 = .ok (.invokevirtual 268, 3) := by decide +kernel
theorem d_Mo_first_180 : decode b_Mo_first 180 = .ok (.goto 235, 3) := by decide +kernel
theorem d_Mo_first_127 : decode b_Mo_first 127 = .ok (.iload_n 1, 1) := by decide +kernel
theorem d_Mo_first_128 : decode b_Mo_first 128 = .ok (.sipush 153, 3) := by decide +kernel
theorem d_Mo_first_131 : decode b_Mo_first 131 = .ok (.if_icmp .gt 11, 3) := by decide +kernel
theorem d_Mo_first_134 : decode b_Mo_first 134 = .ok (.aload_n 0, 1) := by decide +kernel
theorem d_Mo_first_135 : decode b_Mo_first 135 = .ok (.iload_n 1, 1) := by decide +kernel
theorem d_Mo_turn_0 : decode b_Mo_turn 0 = .ok (.aload_n 0, 1) := by decide +kernel
theorem d_Mo_turn_1 : decode b_Mo_turn 1 = .ok (.invokevirtual 235, 3) := by decide +kernel
theorem d_Mo_turn_4 : decode b_Mo_turn 4 = .ok (.istore_n 2, 1) := by decide +kernel
theorem d_Mo_turn_5 : decode b_Mo_turn 5 = .ok (.iload_n 1, 1) := by decide +kernel
theorem d_Mo_turn_6 : decode b_Mo_turn 6 = .ok (.bipush 8, 2) := by decide +kernel
theorem d_Mo_turn_8 : decode b_Mo_turn 8 = .ok (.irem, 1) := by decide +kernel
theorem d_Mo_turn_9 : decode b_Mo_turn 9 = .ok (.aload_n 0, 1) := by decide +kernel
theorem d_Mo_turn_10 : decode b_Mo_turn 10 = .ok (.iconst 1, 1) := by decide +kernel
theorem d_Mo_turn_11 : decode b_Mo_turn 11 = .ok (.invokevirtual 157, 3) := by decide +kernel
theorem d_Mo_turn_14 : decode b_Mo_turn 14 = .ok (.iadd, 1) := by decide +kernel
theorem d_Mo_turn_15 : decode b_Mo_turn 15 = .ok (.istore_n 3, 1) := by decide +kernel
theorem d_Mo_turn_16 : decode b_Mo_turn 16 = .ok (.iload_n 1, 1) := by decide +kernel
theorem d_Mo_turn_17 : decode b_Mo_turn 17 = .ok (.sipush 152, 3) := by decide +kernel
theorem d_Mo_turn_20 : decode b_Mo_turn 20 = .ok (.if_icmp .ne 24, 3) := by decide +kernel
theorem d_Mo_turn_44 : decode b_Mo_turn 44 = .ok (.iload_n 1, 1) := by decide +kernel
theorem d_Mo_turn_45 : decode b_Mo_turn 45 = .ok (.sipush 153, 3) := by decide +kernel
theorem d_Mo_turn_48 : decode b_Mo_turn 48 = .ok (.if_icmp .ne 32, 3) := by decide +kernel
theorem d_Mo_turn_80 : decode b_Mo_turn 80 = .ok (.iload_n 3, 1) := by decide +kernel
theorem d_Mo_turn_81 : decode b_Mo_turn 81 = .ok (.ifCond .eq 39, 3) := by decide +kernel
theorem d_Mo_turn_120 : decode b_Mo_turn 120 = .ok (.return_, 1) := by decide +kernel
theorem d_Mo_turn_84 : decode b_Mo_turn 84 = .ok (.aload_n 0, 1) := by decide +kernel
theorem d_Mo_turn_85 : decode b_Mo_turn 85 = .ok (.getfield 14, 3) := by decide +kernel
theorem d_Mo_turn_88 : decode b_Mo_turn 88 = .ok (.iconst 0, 1) := by decide +kernel
theorem d_Mo_turn_89 : decode b_Mo_turn 89 = .ok (.laload, 1) := by decide +kernel
theorem d_Mo_turn_90 : decode b_Mo_turn 90 = .ok (.iload_n 2, 1) := by decide +kernel
theorem d_Mo_turn_91 : decode b_Mo_turn 91 = .ok (.invokestatic 180, 3) := by decide +kernel
theorem d_Mo_turn_94 : decode b_Mo_turn 94 = .ok (.lstore 4, 2) := by decide +kernel
theorem d_Mo_turn_96 : decode b_Mo_turn 96 = .ok (.aload_n 0, 1) := by decide +kernel
theorem d_Mo_turn_97 : decode b_Mo_turn 97 = .ok (.iconst 0, 1) := by decide +kernel
theorem d_Mo_turn_98 : decode b_Mo_turn 98 = .ok (.iload_n 2, 1) := by decide +kernel
theorem d_Mo_turn_99 : decode b_Mo_turn 99 = .ok (.aload_n 0, 1) := by decide +kernel
theorem d_Mo_turn_100 : decode b_Mo_turn 100 = .ok (.getfield 14, 3) := by decide +kernel
theorem d_Mo_turn_103 : decode b_Mo_turn 103 = .ok (.iload_n 3, 1) := by decide +kernel
theorem d_Mo_turn_104 : decode b_Mo_turn 104 = .ok (.laload, 1) := by decide +kernel
theorem d_Mo_turn_105 : decode b_Mo_turn 105 = .ok (.iload_n 2, 1) := by decide +kernel
theorem d_Mo_turn_106 : decode b_Mo_turn 106 = .ok (.invokestatic 180, 3) := by decide +kernel
theorem d_Mo_turn_109 : decode b_Mo_turn 109 = .ok (.invokevirtual 189, 3) := by decide +kernel
theorem d_Mo_turn_112 : decode b_Mo_turn 112 = .ok (.aload_n 0, 1) := by decide +kernel
theorem d_Mo_turn_113 : decode b_Mo_turn 113 = .ok (.iload_n 3, 1) := by decide +kernel
theorem d_Mo_turn_114 : decode b_Mo_turn 114 = .ok (.iload_n 2, 1) := by decide +kernel
theorem d_Mo_turn_115 : decode b_Mo_turn 115 = .ok (.lload 4, 2) := by decide +kernel
theorem d_Mo_turn_117 : decode b_Mo_turn 117 = .ok (.invokevirtual 189, 3) := by decide +kernel
theorem d_Mo_turn_51 : decode b_Mo_turn 51 = .ok (.aload_n 0, 1) := by decide +kernel
theorem d_Mo_turn_52 : decode b_Mo_turn 52 = .ok (.iconst 2, 1) := by decide +kernel
theorem d_Mo_turn_53 : decode b_Mo_turn 53 = .ok (.iload_n 2, 1) := by decide +kernel
theorem d_Mo_turn_54 : decode b_Mo_turn 54 = .ok (.aload_n 0, 1) := by decide +kernel
theorem d_Mo_turn_55 : decode b_Mo_turn 55 = .ok (.getfield 14, 3) := by decide +kernel
theorem d_Mo_turn_58 : decode b_Mo_turn 58 = .ok (.iconst 0, 1) := by decide +kernel
theorem d_Mo_turn_59 : decode b_Mo_turn 59 = .ok (.laload, 1) := by decide +kernel
theorem d_Mo_turn_60 : decode b_Mo_turn 60 = .ok (.iload_n 2, 1) := by decide +kernel
theorem d_Mo_turn_61 : decode b_Mo_turn 61 = .ok (.invokestatic 212, 3) := by decide +kernel
theorem d_Mo_turn_64 : decode b_Mo_turn 64 = .ok (.ifCond .eq 9, 3) := by decide +kernel
theorem d_Mo_turn_73 : decode b_Mo_turn 73 = .ok (.lconst 0, 1) := by decide +kernel
theorem d_Mo_turn_74 : decode b_Mo_turn 74 = .ok (.invokevirtual 189, 3) := by decide +kernel
theorem d_Mo_turn_77 : decode b_Mo_turn 77 = .ok (.goto 43, 3) := by decide +kernel
theorem d_Mo_turn_67 : decode b_Mo_turn 67 = .ok (.ldc2_w 71, 3) := by decide +kernel
theorem d_Mo_turn_70 : decode b_Mo_turn 70 = .ok (.goto 4, 3) := by decide +kernel
theorem d_Mo_turn_23 : decode b_Mo_turn 23 = .ok (.aload_n 0, 1) := by decide +kernel
theorem d_Mo_turn_24 : decode b_Mo_turn 24 = .ok (.iconst 0, 1) := by decide +kernel
theorem d_Mo_turn_25 : decode b_Mo_turn 25 = .ok (.iload_n 2, 1) := by decide +kernel
theorem d_Mo_turn_26 : decode b_Mo_turn 26 = .ok (.aload_n 0, 1) := by decide +kernel
theorem d_Mo_turn_27 : decode b_Mo_turn 27 = .ok (.getfield 14, 3) := by decide +kernel
theorem d_Mo_turn_30 : decode b_Mo_turn 30 = .ok (.iconst 0, 1) := by decide +kernel
theorem d_Mo_turn_31 : decode b_Mo_turn 31 = .ok (.laload, 1) := by decide +kernel
theorem d_Mo_turn_32 : decode b_Mo_turn 32 = .ok (.iload_n 2, 1) := by decide +kernel
theorem d_Mo_turn_33 : decode b_Mo_turn 33 = .ok (.iconst 2, 1) := by decide +kernel
theorem d_Mo_turn_34 : decode b_Mo_turn 34 = .ok (.idiv, 1) := by decide +kernel
theorem d_Mo_turn_35 : decode b_Mo_turn 35 = .ok (.invokestatic 118, 3) := by decide +kernel
theorem d_Mo_turn_38 : decode b_Mo_turn 38 = .ok (.invokevirtual 189, 3) := by decide +kernel
theorem d_Mo_turn_41 : decode b_Mo_turn 41 = .ok (.goto 79, 3) := by decide +kernel
theorem d_Mo_first_136 : decode b_Mo_first 136 = .ok (.invokevirtual 265, 3) := by decide +kernel
theorem d_Mo_first_139 : decode b_Mo_first 139 = .ok (.goto 276, 3) := by decide +kernel
theorem d_Mo_first_104 : decode b_Mo_first 104 = .ok (.iload_n 1, 1) := by decide +kernel
theorem d_Mo_first_105 : decode b_Mo_first 105 = .ok (.sipush 139, 3) := by decide +kernel
theorem d_Mo_first_108 : decode b_Mo_first 108 = .ok (.if_icmp .gt 12, 3) := by decide +kernel
theorem d_Mo_first_111 : decode b_Mo_first 111 = .ok (.aload_n 0, 1) := by decide +kernel
theorem d_Mo_first_112 : decode b_Mo_first 112 = .ok (.iload_n 1, 1) := by decide +kernel
theorem d_Mo_first_113 : decode b_Mo_first 113 = .ok (.iload_n 2, 1) := by decide +kernel
theorem d_Mo_move_0 : decode b_Mo_move 0 = .ok (.aload_n 0, 1) := by decide +kernel
theorem d_Mo_move_1 : decode b_Mo_move 1 = .ok (.invokevirtual 335, 3) := by decide +kernel
theorem d_Mo_move_4 : decode b_Mo_move 4 = .ok (.aload_n 0, 1) := by decide +kernel
theorem d_Mo_move_5 : decode b_Mo_move 5 = .ok (.iload_n 2, 1) := by decide +kernel
theorem d_Mo_move_6 : decode b_Mo_move 6 = .ok (.invokevirtual 341, 3) := by decide +kernel
theorem d_Mo_move_9 : decode b_Mo_move 9 = .ok (.lstore_n 3, 1) := by decide +kernel
theorem d_Mo_move_10 : decode b_Mo_move 10 = .ok (.iload_n 1, 1) := by decide +kernel
theorem d_Mo_move_11 : decode b_Mo_move 11 = .ok (.sipush 134, 3) := by decide +kernel
theorem d_Mo_move_14 : decode b_Mo_move 14 = .ok (.if_icmp .ge 20, 3) := by decide +kernel
theorem d_Mo_move_34 : decode b_Mo_move 34 = .ok (.iload_n 1, 1) := by decide +kernel
theorem d_Mo_move_35 : decode b_Mo_move 35 = .ok (.sipush 136, 3) := by decide +kernel
theorem d_Mo_move_38 : decode b_Mo_move 38 = .ok (.if_icmp .ge 27, 3) := by decide +kernel
theorem d_Mo_move_65 : decode b_Mo_move 65 = .ok (.iload_n 1, 1) := by decide +kernel
theorem d_Mo_move_66 : decode b_Mo_move 66 = .ok (.sipush 138, 3) := by decide +kernel
theorem d_Mo_move_69 : decode b_Mo_move 69 = .ok (.if_icmp .ge 19, 3) := by decide +kernel
theorem d_Mo_move_88 : decode b_Mo_move 88 = .ok (.aload_n 0, 1) := by decide +kernel
theorem d_Mo_move_89 : decode b_Mo_move 89 = .ok (.iload_n 2, 1) := by decide +kernel
theorem d_Mo_move_90 : decode b_Mo_move 90 = .ok (.aload_n 0, 1) := by decide +kernel
theorem d_Mo_move_91 : decode b_Mo_move 91 = .ok (.iload_n 2, 1) := by decide +kernel
theorem d_Mo_move_92 : decode b_Mo_move 92 = .ok (.iconst 0, 1) := by decide +kernel
theorem d_Mo_move_93 : decode b_Mo_move 93 = .ok (.invokevirtual 338, 3) := by decide +kernel
theorem d_Mo_move_96 : decode b_Mo_move 96 = .ok (.invokevirtual 344, 3) := by decide +kernel
theorem d_Mo_move_99 : decode b_Mo_move 99 = .ok (.return_, 1) := by decide +kernel
theorem d_Mo_move_72 : decode b_Mo_move 72 = .ok (.aload_n 0, 1) := by decide +kernel
theorem d_Mo_move_73 : decode b_Mo_move 73 = .ok (.iload_n 2, 1) := by decide +kernel
theorem d_Mo_move_74 : decode b_Mo_move 74 = .ok (.iconst 1, 1) := by decide +kernel
theorem d_Mo_move_75 : decode b_Mo_move 75 = .ok (.invokevirtual 338, 3) := by decide +kernel
theorem d_Mo_move_78 : decode b_Mo_move 78 = .ok (.pop2, 1) := by decide +kernel
theorem d_Mo_move_79 : decode b_Mo_move 79 = .ok (.aload_n 0, 1) := by decide +kernel
theorem d_Mo_move_80 : decode b_Mo_move 80 = .ok (.iload_n 2, 1) := by decide +kernel
theorem d_Mo_move_81 : decode b_Mo_move 81 = .ok (.lload_n 3, 1) := by decide +kernel
theorem d_Mo_move_82 : decode b_Mo_move 82 = .ok (.invokevirtual 348, 3) := by decide +kernel
theorem d_Mo_move_85 : decode b_Mo_move 85 = .ok (.goto 14, 3) := by decide +kernel
theorem d_Mo_move_41 : decode b_Mo_move 41 = .ok (.aload_n 0, 1) := by decide +kernel
theorem d_Mo_move_42 : decode b_Mo_move 42 = .ok (.iload_n 2, 1) := by decide +kernel
theorem d_Mo_move_43 : decode b_Mo_move 43 = .ok (.iconst 1, 1) := by decide +kernel
theorem d_Mo_move_44 : decode b_Mo_move 44 = .ok (.invokevirtual 338, 3) := by decide +kernel
theorem d_Mo_move_47 : decode b_Mo_move 47 = .ok (.lstore 5, 2) := by decide +kernel
theorem d_Mo_move_49 : decode b_Mo_move 49 = .ok (.aload_n 0, 1) := by decide +kernel
theorem d_Mo_move_50 : decode b_Mo_move 50 = .ok (.iload_n 2, 1) := by decide +kernel
theorem d_Mo_move_51 : decode b_Mo_move 51 = .ok (.lload_n 3, 1) := by decide +kernel
theorem d_Mo_move_52 : decode b_Mo_move 52 = .ok (.invokevirtual 348, 3) := by decide +kernel
theorem d_Mo_move_55 : decode b_Mo_move 55 = .ok (.aload_n 0, 1) := by decide +kernel
theorem d_Mo_move_56 : decode b_Mo_move 56 = .ok (.iload_n 2, 1) := by decide +kernel
theorem d_Mo_move_57 : decode b_Mo_move 57 = .ok (.lload 5, 2) := by decide +kernel
theorem d_Mo_move_59 : decode b_Mo_move 59 = .ok (.invokevirtual 344, 3) := by decide +kernel
theorem d_Mo_move_62 : decode b_Mo_move 62 = .ok (.goto 37, 3) := by decide +kernel
theorem d_Mo_move_17 : decode b_Mo_move 17 = .ok (.aload_n 0, 1) := by decide +kernel
theorem d_Mo_move_18 : decode b_Mo_move 18 = .ok (.aload_n 0, 1) := by decide +kernel
theorem d_Mo_move_19 : decode b_Mo_move 19 = .ok (.iload_n 2, 1) := by decide +kernel
theorem d_Mo_move_20 : decode b_Mo_move 20 = .ok (.iconst 0, 1) := by decide +kernel
theorem d_Mo_move_21 : decode b_Mo_move 21 = .ok (.invokevirtual 338, 3) := by decide +kernel
theorem d_Mo_move_24 : decode b_Mo_move 24 = .ok (.lload_n 3, 1) := by decide +kernel
theorem d_Mo_move_25 : decode b_Mo_move 25 = .ok (.land, 1) := by decide +kernel
theorem d_Mo_move_26 : decode b_Mo_move 26 = .ok (.iload_n 2, 1) := by decide +kernel
theorem d_Mo_move_27 : decode b_Mo_move 27 = .ok (.invokevirtual 222, 3) := by decide +kernel
theorem d_Mo_move_30 : decode b_Mo_move 30 = .ok (.pop2, 1) := by decide +kernel
theorem d_Mo_move_31 : decode b_Mo_move 31 = .ok (.goto 68, 3) := by decide +kernel
theorem d_Mo_first_114 : decode b_Mo_first 114 = .ok (.invokevirtual 262, 3) := by decide +kernel
theorem d_Mo_first_117 : decode b_Mo_first 117 = .ok (.goto 298, 3) := by decide +kernel
theorem d_Mo_first_48 : decode b_Mo_first 48 = .ok (.iload_n 1, 1) := by decide +kernel
theorem d_Mo_first_49 : decode b_Mo_first 49 = .ok (.bipush 127, 2) := by decide +kernel
theorem d_Mo_first_51 : decode b_Mo_first 51 = .ok (.if_icmp .gt 16, 3) := by decide +kernel
theorem d_Mo_first_54 : decode b_Mo_first 54 = .ok (.aload_n 0, 1) := by decide +kernel
theorem d_Mo_first_55 : decode b_Mo_first 55 = .ok (.aload_n 0, 1) := by decide +kernel
theorem d_Mo_first_56 : decode b_Mo_first 56 = .ok (.iload_n 1, 1) := by decide +kernel
theorem d_Mo_holds_0 : decode b_Mo_holds 0 = .ok (.aload_n 0, 1) := by decide +kernel
theorem d_Mo_holds_1 : decode b_Mo_holds 1 = .ok (.getfield 21, 3) := by decide +kernel
theorem d_Mo_holds_4 : decode b_Mo_holds 4 = .ok (.iconst 4, 1) := by decide +kernel
theorem d_Mo_holds_5 : decode b_Mo_holds 5 = .ok (.baload, 1) := by decide +kernel
theorem d_Mo_holds_6 : decode b_Mo_holds 6 = .ok (.aload_n 0, 1) := by decide +kernel
theorem d_Mo_holds_7 : decode b_Mo_holds 7 = .ok (.getfield 21, 3) := by decide +kernel
theorem d_Mo_holds_10 : decode b_Mo_holds 10 = .ok (.bipush 6, 2) := by decide +kernel
theorem d_Mo_holds_12 : decode b_Mo_holds 12 = .ok (.baload, 1) := by decide +kernel
theorem d_Mo_holds_13 : decode b_Mo_holds 13 = .ok (.if_icmp .eq 7, 3) := by decide +kernel
theorem d_Mo_holds_20 : decode b_Mo_holds 20 = .ok (.iconst 0, 1) := by decide +kernel
theorem d_Mo_holds_21 : decode b_Mo_holds 21 = .ok (.istore_n 2, 1) := by decide +kernel
theorem d_Mo_holds_22 : decode b_Mo_holds 22 = .ok (.iload_n 1, 1) := by decide +kernel
theorem d_Mo_holds_23 : decode b_Mo_holds 23 = .ok (.iconst 2, 1) := by decide +kernel
theorem d_Mo_holds_24 : decode b_Mo_holds 24 = .ok (.idiv, 1) := by decide +kernel
theorem d_Mo_holds_25 : decode b_Mo_holds 25 = .ok (.bipush 8, 2) := by decide +kernel
theorem d_Mo_holds_27 : decode b_Mo_holds 27 = .ok (.irem, 1) := by decide +kernel
theorem d_Mo_holds_28 : decode b_Mo_holds 28 = .ok (.istore_n 3, 1) := by decide +kernel
theorem d_Mo_holds_29 : decode b_Mo_holds 29 = .ok (.iload_n 3, 1) := by decide +kernel
theorem d_Mo_holds_30 : decode b_Mo_holds 30 = .ok (.ifCond .ne 13, 3) := by decide +kernel
theorem d_Mo_holds_43 : decode b_Mo_holds 43 = .ok (.iload_n 3, 1) := by decide +kernel
theorem d_Mo_holds_44 : decode b_Mo_holds 44 = .ok (.iconst 1, 1) := by decide +kernel
theorem d_Mo_holds_45 : decode b_Mo_holds 45 = .ok (.if_icmp .ne 12, 3) := by decide +kernel
theorem d_Mo_holds_57 : decode b_Mo_holds 57 = .ok (.iload_n 3, 1) := by decide +kernel
theorem d_Mo_holds_58 : decode b_Mo_holds 58 = .ok (.iconst 2, 1) := by decide +kernel
theorem d_Mo_holds_59 : decode b_Mo_holds 59 = .ok (.if_icmp .ne 12, 3) := by decide +kernel
theorem d_Mo_holds_71 : decode b_Mo_holds 71 = .ok (.iload_n 3, 1) := by decide +kernel
theorem d_Mo_holds_72 : decode b_Mo_holds 72 = .ok (.iconst 3, 1) := by decide +kernel
theorem d_Mo_holds_73 : decode b_Mo_holds 73 = .ok (.if_icmp .ne 29, 3) := by decide +kernel
theorem d_Mo_holds_102 : decode b_Mo_holds 102 = .ok (.iload_n 3, 1) := by decide +kernel
theorem d_Mo_holds_103 : decode b_Mo_holds 103 = .ok (.iconst 4, 1) := by decide +kernel
theorem d_Mo_holds_104 : decode b_Mo_holds 104 = .ok (.if_icmp .ne 12, 3) := by decide +kernel
theorem d_Mo_holds_116 : decode b_Mo_holds 116 = .ok (.iload_n 3, 1) := by decide +kernel
theorem d_Mo_holds_117 : decode b_Mo_holds 117 = .ok (.iconst 5, 1) := by decide +kernel
theorem d_Mo_holds_118 : decode b_Mo_holds 118 = .ok (.if_icmp .ne 12, 3) := by decide +kernel
theorem d_Mo_holds_130 : decode b_Mo_holds 130 = .ok (.iload_n 3, 1) := by decide +kernel
theorem d_Mo_holds_131 : decode b_Mo_holds 131 = .ok (.bipush 6, 2) := by decide +kernel
theorem d_Mo_holds_133 : decode b_Mo_holds 133 = .ok (.if_icmp .ne 7, 3) := by decide +kernel
theorem d_Mo_holds_140 : decode b_Mo_holds 140 = .ok (.iload_n 2, 1) := by decide +kernel
theorem d_Mo_holds_141 : decode b_Mo_holds 141 = .ok (.ifCond .ne 12, 3) := by decide +kernel
theorem d_Mo_holds_153 : decode b_Mo_holds 153 = .ok (.iconst 1, 1) := by decide +kernel
theorem d_Mo_holds_154 : decode b_Mo_holds 154 = .ok (.goto 4, 3) := by decide +kernel
theorem d_Mo_holds_158 : decode b_Mo_holds 158 = .ok (.istore 4, 2) := by decide +kernel
theorem d_Mo_holds_160 : decode b_Mo_holds 160 = .ok (.iload_n 1, 1) := by decide +kernel
theorem d_Mo_holds_161 : decode b_Mo_holds 161 = .ok (.iconst 2, 1) := by decide +kernel
theorem d_Mo_holds_162 : decode b_Mo_holds 162 = .ok (.irem, 1) := by decide +kernel
theorem d_Mo_holds_163 : decode b_Mo_holds 163 = .ok (.ifCond .ne 8, 3) := by decide +kernel
theorem d_Mo_holds_171 : decode b_Mo_holds 171 = .ok (.iload 4, 2) := by decide +kernel
theorem d_Mo_holds_173 : decode b_Mo_holds 173 = .ok (.ifCond .ne 7, 3) := by decide +kernel
theorem d_Mo_holds_180 : decode b_Mo_holds 180 = .ok (.iconst 0, 1) := by decide +kernel
theorem d_Mo_holds_181 : decode b_Mo_holds 181 = .ok (.ireturn, 1) := by decide +kernel
theorem d_Mo_holds_176 : decode b_Mo_holds 176 = .ok (.iconst 1, 1) := by decide +kernel
theorem d_Mo_holds_177 : decode b_Mo_holds 177 = .ok (.goto 4, 3) := by decide +kernel
theorem d_Mo_holds_166 : decode b_Mo_holds 166 = .ok (.iload 4, 2) := by decide +kernel
theorem d_Mo_holds_168 : decode b_Mo_holds 168 = .ok (.goto 13, 3) := by decide +kernel
theorem d_Mo_holds_144 : decode b_Mo_holds 144 = .ok (.aload_n 0, 1) := by decide +kernel
theorem d_Mo_holds_145 : decode b_Mo_holds 145 = .ok (.getfield 21, 3) := by decide +kernel
theorem d_Mo_holds_148 : decode b_Mo_holds 148 = .ok (.iconst 3, 1) := by decide +kernel
theorem d_Mo_holds_149 : decode b_Mo_holds 149 = .ok (.baload, 1) := by decide +kernel
theorem d_Mo_holds_150 : decode b_Mo_holds 150 = .ok (.ifCond .eq 7, 3) := by decide +kernel
theorem d_Mo_holds_157 : decode b_Mo_holds 157 = .ok (.iconst 0, 1) := by decide +kernel
theorem d_Mo_holds_136 : decode b_Mo_holds 136 = .ok (.iload_n 2, 1) := by decide +kernel
theorem d_Mo_holds_137 : decode b_Mo_holds 137 = .ok (.goto 21, 3) := by decide +kernel
theorem d_Mo_holds_121 : decode b_Mo_holds 121 = .ok (.aload_n 0, 1) := by decide +kernel
theorem d_Mo_holds_122 : decode b_Mo_holds 122 = .ok (.getfield 21, 3) := by decide +kernel
theorem d_Mo_holds_125 : decode b_Mo_holds 125 = .ok (.iconst 1, 1) := by decide +kernel
theorem d_Mo_holds_126 : decode b_Mo_holds 126 = .ok (.baload, 1) := by decide +kernel
theorem d_Mo_holds_127 : decode b_Mo_holds 127 = .ok (.goto 31, 3) := by decide +kernel
theorem d_Mo_holds_107 : decode b_Mo_holds 107 = .ok (.aload_n 0, 1) := by decide +kernel
theorem d_Mo_holds_108 : decode b_Mo_holds 108 = .ok (.getfield 21, 3) := by decide +kernel
theorem d_Mo_holds_111 : decode b_Mo_holds 111 = .ok (.iconst 4, 1) := by decide +kernel
theorem d_Mo_holds_112 : decode b_Mo_holds 112 = .ok (.baload, 1) := by decide +kernel
theorem d_Mo_holds_113 : decode b_Mo_holds 113 = .ok (.goto 45, 3) := by decide +kernel
theorem d_Mo_holds_76 : decode b_Mo_holds 76 = .ok (.aload_n 0, 1) := by decide +kernel
theorem d_Mo_holds_77 : decode b_Mo_holds 77 = .ok (.getfield 21, 3) := by decide +kernel
theorem d_Mo_holds_80 : decode b_Mo_holds 80 = .ok (.iconst 0, 1) := by decide +kernel
theorem d_Mo_holds_81 : decode b_Mo_holds 81 = .ok (.baload, 1) := by decide +kernel
theorem d_Mo_holds_82 : decode b_Mo_holds 82 = .ok (.ifCond .ne 12, 3) := by decide +kernel
theorem d_Mo_holds_94 : decode b_Mo_holds 94 = .ok (.iconst 1, 1) := by decide +kernel
theorem d_Mo_holds_95 : decode b_Mo_holds 95 = .ok (.goto 63, 3) := by decide +kernel
theorem d_Mo_holds_85 : decode b_Mo_holds 85 = .ok (.aload_n 0, 1) := by decide +kernel
theorem d_Mo_holds_86 : decode b_Mo_holds 86 = .ok (.getfield 21, 3) := by decide +kernel
theorem d_Mo_holds_89 : decode b_Mo_holds 89 = .ok (.iconst 3, 1) := by decide +kernel
theorem d_Mo_holds_90 : decode b_Mo_holds 90 = .ok (.baload, 1) := by decide +kernel
theorem d_Mo_holds_91 : decode b_Mo_holds 91 = .ok (.ifCond .eq 7, 3) := by decide +kernel
theorem d_Mo_holds_98 : decode b_Mo_holds 98 = .ok (.iconst 0, 1) := by decide +kernel
theorem d_Mo_holds_99 : decode b_Mo_holds 99 = .ok (.goto 59, 3) := by decide +kernel
theorem d_Mo_holds_62 : decode b_Mo_holds 62 = .ok (.aload_n 0, 1) := by decide +kernel
theorem d_Mo_holds_63 : decode b_Mo_holds 63 = .ok (.getfield 21, 3) := by decide +kernel
theorem d_Mo_holds_66 : decode b_Mo_holds 66 = .ok (.iconst 3, 1) := by decide +kernel
theorem d_Mo_holds_67 : decode b_Mo_holds 67 = .ok (.baload, 1) := by decide +kernel
theorem d_Mo_holds_68 : decode b_Mo_holds 68 = .ok (.goto 90, 3) := by decide +kernel
theorem d_Mo_holds_48 : decode b_Mo_holds 48 = .ok (.aload_n 0, 1) := by decide +kernel
theorem d_Mo_holds_49 : decode b_Mo_holds 49 = .ok (.getfield 21, 3) := by decide +kernel
theorem d_Mo_holds_52 : decode b_Mo_holds 52 = .ok (.iconst 0, 1) := by decide +kernel
theorem d_Mo_holds_53 : decode b_Mo_holds 53 = .ok (.baload, 1) := by decide +kernel
theorem d_Mo_holds_54 : decode b_Mo_holds 54 = .ok (.goto 104, 3) := by decide +kernel
theorem d_Mo_holds_33 : decode b_Mo_holds 33 = .ok (.aload_n 0, 1) := by decide +kernel
theorem d_Mo_holds_34 : decode b_Mo_holds 34 = .ok (.getfield 21, 3) := by decide +kernel
theorem d_Mo_holds_37 : decode b_Mo_holds 37 = .ok (.bipush 6, 2) := by decide +kernel
theorem d_Mo_holds_39 : decode b_Mo_holds 39 = .ok (.baload, 1) := by decide +kernel
theorem d_Mo_holds_40 : decode b_Mo_holds 40 = .ok (.goto 118, 3) := by decide +kernel
theorem d_Mo_holds_16 : decode b_Mo_holds 16 = .ok (.iconst 1, 1) := by decide +kernel
theorem d_Mo_holds_17 : decode b_Mo_holds 17 = .ok (.goto 4, 3) := by decide +kernel
theorem d_Mo_first_57 : decode b_Mo_first 57 = .ok (.invokevirtual 252, 3) := by decide +kernel
theorem d_Mo_first_60 : decode b_Mo_first 60 = .ok (.iconst 1, 1) := by decide +kernel
theorem d_Mo_branch_0 : decode b_Mo_branch 0 = .ok (.aload_n 0, 1) := by decide +kernel
theorem d_Mo_branch_1 : decode b_Mo_branch 1 = .ok (.getfield 127, 3) := by decide +kernel
theorem d_Mo_branch_4 : decode b_Mo_branch 4 = .ok (.ifCond .eq 9, 3) := by decide +kernel
theorem d_Mo_branch_13 : decode b_Mo_branch 13 = .ok (.aload_n 0, 1) := by decide +kernel
theorem d_Mo_branch_14 : decode b_Mo_branch 14 = .ok (.iload_n 2, 1) := by decide +kernel
theorem d_Mo_branch_15 : decode b_Mo_branch 15 = .ok (.invokevirtual 373, 3) := by decide +kernel
theorem d_Mo_branch_18 : decode b_Mo_branch 18 = .ok (.lstore_n 3, 1) := by decide +kernel
theorem d_Mo_branch_19 : decode b_Mo_branch 19 = .ok (.iload_n 1, 1) := by decide +kernel
theorem d_Mo_branch_20 : decode b_Mo_branch 20 = .ok (.ifCond .eq 21, 3) := by decide +kernel
theorem d_Mo_branch_41 : decode b_Mo_branch 41 = .ok (.return_, 1) := by decide +kernel
theorem d_Mo_branch_23 : decode b_Mo_branch 23 = .ok (.aload_n 0, 1) := by decide +kernel
theorem d_Mo_branch_24 : decode b_Mo_branch 24 = .ok (.getfield 28, 3) := by decide +kernel
theorem d_Mo_branch_27 : decode b_Mo_branch 27 = .ok (.iconst (-1), 1) := by decide +kernel
theorem d_Mo_branch_28 : decode b_Mo_branch 28 = .ok (.if_icmp .ne 13, 3) := by decide +kernel
theorem d_Mo_branch_31 : decode b_Mo_branch 31 = .ok (.aload_n 0, 1) := by decide +kernel
theorem d_Mo_branch_32 : decode b_Mo_branch 32 = .ok (.aload_n 0, 1) := by decide +kernel
theorem d_Mo_branch_33 : decode b_Mo_branch 33 = .ok (.getfield 173, 3) := by decide +kernel
theorem d_Mo_branch_36 : decode b_Mo_branch 36 = .ok (.lload_n 3, 1) := by decide +kernel
theorem d_Mo_branch_37 : decode b_Mo_branch 37 = .ok (.ladd, 1) := by decide +kernel
theorem d_Mo_branch_38 : decode b_Mo_branch 38 = .ok (.invokevirtual 431, 3) := by decide +kernel
theorem d_Mo_branch_7 : decode b_Mo_branch 7 = .ok (.aload_n 0, 1) := by decide +kernel
theorem d_Mo_branch_8 : decode b_Mo_branch 8 = .ok (.bipush 6, 2) := by decide +kernel
theorem d_Mo_branch_10 : decode b_Mo_branch 10 = .ok (.invokevirtual 81, 3) := by decide +kernel
theorem d_Mo_first_61 : decode b_Mo_first 61 = .ok (.invokevirtual 255, 3) := by decide +kernel
theorem d_Mo_first_64 : decode b_Mo_first 64 = .ok (.goto 351, 3) := by decide +kernel
theorem d_Mo_first_28 : decode b_Mo_first 28 = .ok (.iload_n 1, 1) := by decide +kernel
theorem d_Mo_first_29 : decode b_Mo_first 29 = .ok (.bipush 95, 2) := by decide +kernel
theorem d_Mo_first_31 : decode b_Mo_first 31 = .ok (.if_icmp .gt 11, 3) := by decide +kernel
theorem d_Mo_first_34 : decode b_Mo_first 34 = .ok (.aload_n 0, 1) := by decide +kernel
theorem d_Mo_first_35 : decode b_Mo_first 35 = .ok (.iload_n 1, 1) := by decide +kernel
theorem d_Mo_shortStack_0 : decode b_Mo_shortStack 0 = .ok (.iload_n 1, 1) := by decide +kernel
theorem d_Mo_shortStack_1 : decode b_Mo_shortStack 1 = .ok (.bipush 8, 2) := by decide +kernel
theorem d_Mo_shortStack_3 : decode b_Mo_shortStack 3 = .ok (.irem, 1) := by decide +kernel
theorem d_Mo_shortStack_4 : decode b_Mo_shortStack 4 = .ok (.aload_n 0, 1) := by decide +kernel
theorem d_Mo_shortStack_5 : decode b_Mo_shortStack 5 = .ok (.iconst 1, 1) := by decide +kernel
theorem d_Mo_shortStack_6 : decode b_Mo_shortStack 6 = .ok (.invokevirtual 157, 3) := by decide +kernel
theorem d_Mo_shortStack_9 : decode b_Mo_shortStack 9 = .ok (.iadd, 1) := by decide +kernel
theorem d_Mo_shortStack_10 : decode b_Mo_shortStack 10 = .ok (.istore_n 2, 1) := by decide +kernel
theorem d_Mo_shortStack_11 : decode b_Mo_shortStack 11 = .ok (.iload_n 1, 1) := by decide +kernel
theorem d_Mo_shortStack_12 : decode b_Mo_shortStack 12 = .ok (.bipush 88, 2) := by decide +kernel
theorem d_Mo_shortStack_14 : decode b_Mo_shortStack 14 = .ok (.if_icmp .ge 20, 3) := by decide +kernel
theorem d_Mo_shortStack_34 : decode b_Mo_shortStack 34 = .ok (.aload_n 0, 1) := by decide +kernel
theorem d_Mo_shortStack_35 : decode b_Mo_shortStack 35 = .ok (.iload_n 2, 1) := by decide +kernel
theorem d_Mo_shortStack_36 : decode b_Mo_shortStack 36 = .ok (.aload_n 0, 1) := by decide +kernel
theorem d_Mo_shortStack_37 : decode b_Mo_shortStack 37 = .ok (.invokevirtual 307, 3) := by decide +kernel
theorem d_Mo_shortStack_40 : decode b_Mo_shortStack 40 = .ok (.aload_n 0, 1) := by decide +kernel
theorem d_Mo_shortStack_41 : decode b_Mo_shortStack 41 = .ok (.aload_n 0, 1) := by decide +kernel
theorem d_Mo_shortStack_42 : decode b_Mo_shortStack 42 = .ok (.invokevirtual 307, 3) := by decide +kernel
theorem d_Mo_shortStack_45 : decode b_Mo_shortStack 45 = .ok (.invokevirtual 313, 3) := by decide +kernel
theorem d_Mo_shortStack_48 : decode b_Mo_shortStack 48 = .ok (.invokevirtual 189, 3) := by decide +kernel
theorem d_Mo_shortStack_51 : decode b_Mo_shortStack 51 = .ok (.return_, 1) := by decide +kernel
theorem d_Mo_shortStack_17 : decode b_Mo_shortStack 17 = .ok (.aload_n 0, 1) := by decide +kernel
theorem d_Mo_shortStack_18 : decode b_Mo_shortStack 18 = .ok (.aload_n 0, 1) := by decide +kernel
theorem d_Mo_shortStack_19 : decode b_Mo_shortStack 19 = .ok (.getfield 14, 3) := by decide +kernel
theorem d_Mo_shortStack_22 : decode b_Mo_shortStack 22 = .ok (.iload_n 2, 1) := by decide +kernel
theorem d_Mo_shortStack_23 : decode b_Mo_shortStack 23 = .ok (.laload, 1) := by decide +kernel
theorem d_Mo_shortStack_24 : decode b_Mo_shortStack 24 = .ok (.aload_n 0, 1) := by decide +kernel
theorem d_Mo_shortStack_25 : decode b_Mo_shortStack 25 = .ok (.invokevirtual 307, 3) := by decide +kernel
theorem d_Mo_shortStack_28 : decode b_Mo_shortStack 28 = .ok (.invokevirtual 310, 3) := by decide +kernel
theorem d_Mo_shortStack_31 : decode b_Mo_shortStack 31 = .ok (.goto 20, 3) := by decide +kernel
theorem d_Mo_first_36 : decode b_Mo_first 36 = .ok (.invokevirtual 249, 3) := by decide +kernel
theorem d_Mo_first_39 : decode b_Mo_first 39 = .ok (.goto 376, 3) := by decide +kernel
theorem d_Mo_first_6 : decode b_Mo_first 6 = .ok (.aload_n 0, 1) := by decide +kernel
theorem d_Mo_first_7 : decode b_Mo_first 7 = .ok (.iload_n 1, 1) := by decide +kernel
theorem d_Mo_first_8 : decode b_Mo_first 8 = .ok (.bipush 8, 2) := by decide +kernel
theorem d_Mo_first_10 : decode b_Mo_first 10 = .ok (.idiv, 1) := by decide +kernel
theorem d_Mo_first_11 : decode b_Mo_first 11 = .ok (.iload_n 1, 1) := by decide +kernel
theorem d_Mo_first_12 : decode b_Mo_first 12 = .ok (.bipush 8, 2) := by decide +kernel
theorem d_Mo_first_14 : decode b_Mo_first 14 = .ok (.irem, 1) := by decide +kernel
theorem d_Mo_first_15 : decode b_Mo_first 15 = .ok (.iload_n 2, 1) := by decide +kernel
theorem d_Mo_arithmetic_0 : decode b_Mo_arithmetic 0 = .ok (.iload_n 2, 1) := by decide +kernel
theorem d_Mo_arithmetic_1 : decode b_Mo_arithmetic 1 = .ok (.iconst 5, 1) := by decide +kernel
theorem d_Mo_arithmetic_2 : decode b_Mo_arithmetic 2 = .ok (.if_icmp .le 12, 3) := by decide +kernel
theorem d_Mo_arithmetic_14 : decode b_Mo_arithmetic 14 = .ok (.iload_n 2, 1) := by decide +kernel
theorem d_Mo_arithmetic_15 : decode b_Mo_arithmetic 15 = .ok (.iconst 3, 1) := by decide +kernel
theorem d_Mo_arithmetic_16 : decode b_Mo_arithmetic 16 = .ok (.if_icmp .le 50, 3) := by decide +kernel
theorem d_Mo_arithmetic_66 : decode b_Mo_arithmetic 66 = .ok (.iload_n 2, 1) := by decide +kernel
theorem d_Mo_arithmetic_67 : decode b_Mo_arithmetic 67 = .ok (.iconst 2, 1) := by decide +kernel
theorem d_Mo_arithmetic_68 : decode b_Mo_arithmetic 68 = .ok (.if_icmp .ge 56, 3) := by decide +kernel
theorem d_Mo_arithmetic_124 : decode b_Mo_arithmetic 124 = .ok (.aload_n 0, 1) := by decide +kernel
theorem d_Mo_arithmetic_125 : decode b_Mo_arithmetic 125 = .ok (.invokevirtual 335, 3) := by decide +kernel
theorem d_Mo_arithmetic_128 : decode b_Mo_arithmetic 128 = .ok (.aload_n 0, 1) := by decide +kernel
theorem d_Mo_arithmetic_129 : decode b_Mo_arithmetic 129 = .ok (.iload_n 1, 1) := by decide +kernel
theorem d_Mo_arithmetic_130 : decode b_Mo_arithmetic 130 = .ok (.aload_n 0, 1) := by decide +kernel
theorem d_Mo_arithmetic_131 : decode b_Mo_arithmetic 131 = .ok (.iload_n 3, 1) := by decide +kernel
theorem d_Mo_arithmetic_132 : decode b_Mo_arithmetic 132 = .ok (.invokevirtual 341, 3) := by decide +kernel
theorem d_Mo_arithmetic_135 : decode b_Mo_arithmetic 135 = .ok (.aload_n 0, 1) := by decide +kernel
theorem d_Mo_arithmetic_136 : decode b_Mo_arithmetic 136 = .ok (.iload_n 3, 1) := by decide +kernel
theorem d_Mo_arithmetic_137 : decode b_Mo_arithmetic 137 = .ok (.iconst 0, 1) := by decide +kernel
theorem d_Mo_arithmetic_138 : decode b_Mo_arithmetic 138 = .ok (.invokevirtual 338, 3) := by decide +kernel
theorem d_Mo_arithmetic_141 : decode b_Mo_arithmetic 141 = .ok (.iload_n 3, 1) := by decide +kernel
theorem d_Mo_arithmetic_142 : decode b_Mo_arithmetic 142 = .ok (.invokevirtual 376, 3) := by decide +kernel
theorem d_Mo_arithmetic_145 : decode b_Mo_arithmetic 145 = .ok (.lstore 4, 2) := by decide +kernel
theorem d_Mo_arithmetic_147 : decode b_Mo_arithmetic 147 = .ok (.iload_n 1, 1) := by decide +kernel
theorem d_Mo_arithmetic_148 : decode b_Mo_arithmetic 148 = .ok (.bipush 7, 2) := by decide +kernel
theorem d_Mo_arithmetic_150 : decode b_Mo_arithmetic 150 = .ok (.if_icmp .eq 10, 3) := by decide +kernel
theorem d_Mo_arithmetic_160 : decode b_Mo_arithmetic 160 = .ok (.return_, 1) := by decide +kernel
theorem d_Mo_arithmetic_153 : decode b_Mo_arithmetic 153 = .ok (.aload_n 0, 1) := by decide +kernel
theorem d_Mo_arithmetic_154 : decode b_Mo_arithmetic 154 = .ok (.iload_n 3, 1) := by decide +kernel
theorem d_Mo_arithmetic_155 : decode b_Mo_arithmetic 155 = .ok (.lload 4, 2) := by decide +kernel
theorem d_Mo_arithmetic_157 : decode b_Mo_arithmetic 157 = .ok (.invokevirtual 344, 3) := by decide +kernel
theorem d_Mo_arithmetic_71 : decode b_Mo_arithmetic 71 = .ok (.aload_n 0, 1) := by decide +kernel
theorem d_Mo_arithmetic_72 : decode b_Mo_arithmetic 72 = .ok (.invokevirtual 335, 3) := by decide +kernel
theorem d_Mo_arithmetic_75 : decode b_Mo_arithmetic 75 = .ok (.aload_n 0, 1) := by decide +kernel
theorem d_Mo_arithmetic_76 : decode b_Mo_arithmetic 76 = .ok (.iload_n 3, 1) := by decide +kernel
theorem d_Mo_arithmetic_77 : decode b_Mo_arithmetic 77 = .ok (.iload_n 1, 1) := by decide +kernel
theorem d_Mo_arithmetic_78 : decode b_Mo_arithmetic 78 = .ok (.bipush 7, 2) := by decide +kernel
theorem d_Mo_arithmetic_80 : decode b_Mo_arithmetic 80 = .ok (.if_icmp .ne 7, 3) := by decide +kernel
theorem d_Mo_arithmetic_87 : decode b_Mo_arithmetic 87 = .ok (.iconst 1, 1) := by decide +kernel
theorem d_Mo_arithmetic_88 : decode b_Mo_arithmetic 88 = .ok (.invokevirtual 338, 3) := by decide +kernel
theorem d_Mo_arithmetic_91 : decode b_Mo_arithmetic 91 = .ok (.lstore 4, 2) := by decide +kernel
theorem d_Mo_arithmetic_93 : decode b_Mo_arithmetic 93 = .ok (.aload_n 0, 1) := by decide +kernel
theorem d_Mo_arithmetic_94 : decode b_Mo_arithmetic 94 = .ok (.iload_n 1, 1) := by decide +kernel
theorem d_Mo_arithmetic_95 : decode b_Mo_arithmetic 95 = .ok (.lload 4, 2) := by decide +kernel
theorem d_Mo_arithmetic_97 : decode b_Mo_arithmetic 97 = .ok (.aload_n 0, 1) := by decide +kernel
theorem d_Mo_arithmetic_98 : decode b_Mo_arithmetic 98 = .ok (.iload_n 3, 1) := by decide +kernel
theorem d_Mo_arithmetic_99 : decode b_Mo_arithmetic 99 = .ok (.invokevirtual 341, 3) := by decide +kernel
theorem d_Mo_arithmetic_102 : decode b_Mo_arithmetic 102 = .ok (.iload_n 3, 1) := by decide +kernel
theorem d_Mo_arithmetic_103 : decode b_Mo_arithmetic 103 = .ok (.invokevirtual 376, 3) := by decide +kernel
theorem d_Mo_arithmetic_106 : decode b_Mo_arithmetic 106 = .ok (.lstore 6, 2) := by decide +kernel
theorem d_Mo_arithmetic_108 : decode b_Mo_arithmetic 108 = .ok (.iload_n 1, 1) := by decide +kernel
theorem d_Mo_arithmetic_109 : decode b_Mo_arithmetic 109 = .ok (.bipush 7, 2) := by decide +kernel
theorem d_Mo_arithmetic_111 : decode b_Mo_arithmetic 111 = .ok (.if_icmp .eq 10, 3) := by decide +kernel
theorem d_Mo_arithmetic_121 : decode b_Mo_arithmetic 121 = .ok (.goto 39, 3) := by decide +kernel
theorem d_Mo_arithmetic_114 : decode b_Mo_arithmetic 114 = .ok (.aload_n 0, 1) := by decide +kernel
theorem d_Mo_arithmetic_115 : decode b_Mo_arithmetic 115 = .ok (.iload_n 3, 1) := by decide +kernel
theorem d_Mo_arithmetic_116 : decode b_Mo_arithmetic 116 = .ok (.lload 6, 2) := by decide +kernel
theorem d_Mo_arithmetic_118 : decode b_Mo_arithmetic 118 = .ok (.invokevirtual 348, 3) := by decide +kernel
theorem d_Mo_arithmetic_83 : decode b_Mo_arithmetic 83 = .ok (.iconst 0, 1) := by decide +kernel
theorem d_Mo_arithmetic_84 : decode b_Mo_arithmetic 84 = .ok (.goto 4, 3) := by decide +kernel
theorem d_Mo_arithmetic_19 : decode b_Mo_arithmetic 19 = .ok (.aload_n 0, 1) := by decide +kernel
theorem d_Mo_arithmetic_20 : decode b_Mo_arithmetic 20 = .ok (.iload_n 3, 1) := by decide +kernel
theorem d_Mo_arithmetic_21 : decode b_Mo_arithmetic 21 = .ok (.invokestatic 370, 3) := by decide +kernel
theorem d_Mo_arithmetic_24 : decode b_Mo_arithmetic 24 = .ok (.invokevirtual 373, 3) := by decide +kernel
theorem d_Mo_arithmetic_27 : decode b_Mo_arithmetic 27 = .ok (.lstore 4, 2) := by decide +kernel
theorem d_Mo_arithmetic_29 : decode b_Mo_arithmetic 29 = .ok (.aload_n 0, 1) := by decide +kernel
theorem d_Mo_arithmetic_30 : decode b_Mo_arithmetic 30 = .ok (.iload_n 1, 1) := by decide +kernel
theorem d_Mo_arithmetic_31 : decode b_Mo_arithmetic 31 = .ok (.aload_n 0, 1) := by decide +kernel
theorem d_Mo_arithmetic_32 : decode b_Mo_arithmetic 32 = .ok (.iconst 0, 1) := by decide +kernel
theorem d_Mo_arithmetic_33 : decode b_Mo_arithmetic 33 = .ok (.iload_n 3, 1) := by decide +kernel
theorem d_Mo_arithmetic_34 : decode b_Mo_arithmetic 34 = .ok (.invokevirtual 185, 3) := by decide +kernel
theorem d_Mo_arithmetic_37 : decode b_Mo_arithmetic 37 = .ok (.lload 4, 2) := by decide +kernel
theorem d_Mo_arithmetic_39 : decode b_Mo_arithmetic 39 = .ok (.iload_n 3, 1) := by decide +kernel
theorem d_Mo_arithmetic_40 : decode b_Mo_arithmetic 40 = .ok (.invokestatic 180, 3) := by decide +kernel
theorem d_Mo_arithmetic_43 : decode b_Mo_arithmetic 43 = .ok (.iload_n 3, 1) := by decide +kernel
theorem d_Mo_arithmetic_44 : decode b_Mo_arithmetic 44 = .ok (.invokevirtual 376, 3) := by decide +kernel
theorem d_Mo_arithmetic_47 : decode b_Mo_arithmetic 47 = .ok (.lstore 6, 2) := by decide +kernel
theorem d_Mo_arithmetic_49 : decode b_Mo_arithmetic 49 = .ok (.iload_n 1, 1) := by decide +kernel
theorem d_Mo_arithmetic_50 : decode b_Mo_arithmetic 50 = .ok (.bipush 7, 2) := by decide +kernel
theorem d_Mo_arithmetic_52 : decode b_Mo_arithmetic 52 = .ok (.if_icmp .eq 11, 3) := by decide +kernel
theorem d_Mo_arithmetic_63 : decode b_Mo_arithmetic 63 = .ok (.goto 97, 3) := by decide +kernel
theorem d_Mo_arithmetic_55 : decode b_Mo_arithmetic 55 = .ok (.aload_n 0, 1) := by decide +kernel
theorem d_Mo_arithmetic_56 : decode b_Mo_arithmetic 56 = .ok (.iconst 0, 1) := by decide +kernel
theorem d_Mo_arithmetic_57 : decode b_Mo_arithmetic 57 = .ok (.iload_n 3, 1) := by decide +kernel
theorem d_Mo_arithmetic_58 : decode b_Mo_arithmetic 58 = .ok (.lload 6, 2) := by decide +kernel
theorem d_Mo_arithmetic_60 : decode b_Mo_arithmetic 60 = .ok (.invokevirtual 189, 3) := by decide +kernel
theorem d_Mo_arithmetic_5 : decode b_Mo_arithmetic 5 = .ok (.aload_n 0, 1) := by decide +kernel
theorem d_Mo_arithmetic_6 : decode b_Mo_arithmetic 6 = .ok (.bipush 6, 2) := by decide +kernel
theorem d_Mo_arithmetic_8 : decode b_Mo_arithmetic 8 = .ok (.invokevirtual 81, 3) := by decide +kernel
theorem d_Mo_arithmetic_11 : decode b_Mo_arithmetic 11 = .ok (.goto 149, 3) := by decide +kernel
theorem d_Mo_first_16 : decode b_Mo_first 16 = .ok (.invokevirtual 245, 3) := by decide +kernel
theorem d_Mo_first_19 : decode b_Mo_first 19 = .ok (.goto 396, 3) := by decide +kernel
theorem d_Mo_step_153 : decode b_Mo_step 153 = .ok (.invokevirtual 242, 3) := by decide +kernel
theorem d_Mo_step_145 : decode b_Mo_step 145 = .ok (.iconst 1, 1) := by decide +kernel
theorem d_Mo_step_146 : decode b_Mo_step 146 = .ok (.goto 7, 3) := by decide +kernel
theorem d_Mo_step_103 : decode b_Mo_step 103 = .ok (.aload_n 0, 1) := by decide +kernel
theorem d_Mo_step_104 : decode b_Mo_step 104 = .ok (.aload_n 0, 1) := by decide +kernel
theorem d_Mo_step_105 : decode b_Mo_step 105 = .ok (.getfield 133, 3) := by decide +kernel
theorem d_Mo_step_108 : decode b_Mo_step 108 = .ok (.aload_n 0, 1) := by decide +kernel
theorem d_Mo_step_109 : decode b_Mo_step 109 = .ok (.getfield 133, 3) := by decide +kernel
theorem d_Mo_step_112 : decode b_Mo_step 112 = .ok (.iconst 1, 1) := by decide +kernel
theorem d_Mo_step_113 : decode b_Mo_step 113 = .ok (.iand, 1) := by decide +kernel
theorem d_Mo_step_114 : decode b_Mo_step 114 = .ok (.ifCond .ne 7, 3) := by decide +kernel
theorem d_Mo_step_121 : decode b_Mo_step 121 = .ok (.aload_n 0, 1) := by decide +kernel
theorem d_Mo_step_122 : decode b_Mo_step 122 = .ok (.invokevirtual 235, 3) := by decide +kernel
theorem d_Mo_second_0 : decode b_Mo_second 0 = .ok (.iload_n 1, 1) := by decide +kernel
theorem d_Mo_second_1 : decode b_Mo_second 1 = .ok (.bipush 64, 2) := by decide +kernel
theorem d_Mo_second_3 : decode b_Mo_second 3 = .ok (.if_icmp .lt 54, 3) := by decide +kernel
theorem d_Mo_second_57 : decode b_Mo_second 57 = .ok (.iload_n 1, 1) := by decide +kernel
theorem d_Mo_second_58 : decode b_Mo_second 58 = .ok (.sipush 128, 3) := by decide +kernel
theorem d_Mo_second_61 : decode b_Mo_second 61 = .ok (.if_icmp .lt 23, 3) := by decide +kernel
theorem d_Mo_second_84 : decode b_Mo_second 84 = .ok (.iload_n 1, 1) := by decide +kernel
theorem d_Mo_second_85 : decode b_Mo_second 85 = .ok (.sipush 144, 3) := by decide +kernel
theorem d_Mo_second_88 : decode b_Mo_second 88 = .ok (.if_icmp .lt 42, 3) := by decide +kernel
theorem d_Mo_second_130 : decode b_Mo_second 130 = .ok (.iload_n 1, 1) := by decide +kernel
theorem d_Mo_second_131 : decode b_Mo_second 131 = .ok (.sipush 200, 3) := by decide +kernel
theorem d_Mo_second_134 : decode b_Mo_second 134 = .ok (.if_icmp .lt 27, 3) := by decide +kernel
theorem d_Mo_second_161 : decode b_Mo_second 161 = .ok (.iload_n 1, 1) := by decide +kernel
theorem d_Mo_second_162 : decode b_Mo_second 162 = .ok (.iconst 5, 1) := by decide +kernel
theorem d_Mo_second_163 : decode b_Mo_second 163 = .ok (.if_icmp .eq 9, 3) := by decide +kernel
theorem d_Mo_second_172 : decode b_Mo_second 172 = .ok (.aload_n 0, 1) := by decide +kernel
theorem d_Mo_second_173 : decode b_Mo_second 173 = .ok (.iload_n 1, 1) := by decide +kernel
theorem d_Mo_second_174 : decode b_Mo_second 174 = .ok (.iconst 5, 1) := by decide +kernel
theorem d_Mo_second_175 : decode b_Mo_second 175 = .ok (.if_icmp .ne 7, 3) := by decide +kernel
theorem d_Mo_second_182 : decode b_Mo_second 182 = .ok (.iconst 0, 1) := by decide +kernel
theorem d_Mo_system_0 : decode b_Mo_system 0 = .ok (.iload_n 1, 1) := by decide +kernel
theorem d_Mo_system_1 : decode b_Mo_system 1 = .ok (.ifCond .eq 61, 3) := by decide +kernel
theorem d_Mo_system_62 : decode b_Mo_system 62 = .ok (.aload_n 0, 1) := by decide +kernel
theorem d_Mo_system_63 : decode b_Mo_system 63 = .ok (.getfield 48, 3) := by decide +kernel
theorem d_Mo_system_66 : decode b_Mo_system 66 = .ok (.ifCond .ne 15, 3) := by decide +kernel
theorem d_Mo_system_81 : decode b_Mo_system 81 = .ok (.aload_n 0, 1) := by decide +kernel
theorem d_Mo_system_82 : decode b_Mo_system 82 = .ok (.bipush 13, 2) := by decide +kernel
theorem d_Mo_system_84 : decode b_Mo_system 84 = .ok (.invokevirtual 81, 3) := by decide +kernel
theorem d_Mo_system_87 : decode b_Mo_system 87 = .ok (.goto 29, 3) := by decide +kernel
theorem d_Mo_system_116 : decode b_Mo_system 116 = .ok (.return_, 1) := by decide +kernel
theorem d_Mo_system_69 : decode b_Mo_system 69 = .ok (.aload_n 0, 1) := by decide +kernel
theorem d_Mo_system_70 : decode b_Mo_system 70 = .ok (.getfield 14, 3) := by decide +kernel
theorem d_Mo_system_73 : decode b_Mo_system 73 = .ok (.iconst 1, 1) := by decide +kernel
theorem d_Mo_system_74 : decode b_Mo_system 74 = .ok (.laload, 1) := by decide +kernel
theorem d_Mo_system_75 : decode b_Mo_system 75 = .ok (.invokestatic 77, 3) := by decide +kernel
theorem d_Mo_system_78 : decode b_Mo_system 78 = .ok (.ifCond .eq 12, 3) := by decide +kernel
theorem d_Mo_system_90 : decode b_Mo_system 90 = .ok (.aload_n 0, 1) := by decide +kernel
theorem d_Mo_system_91 : decode b_Mo_system 91 = .ok (.aload_n 0, 1) := by decide +kernel
theorem d_Mo_system_92 : decode b_Mo_system 92 = .ok (.getfield 14, 3) := by decide +kernel
theorem d_Mo_system_95 : decode b_Mo_system 95 = .ok (.iconst 1, 1) := by decide +kernel
theorem d_Mo_system_96 : decode b_Mo_system 96 = .ok (.laload, 1) := by decide +kernel
theorem d_Mo_system_97 : decode b_Mo_system 97 = .ok (.putfield 173, 3) := by decide +kernel
theorem d_Mo_system_100 : decode b_Mo_system 100 = .ok (.aload_n 0, 1) := by decide +kernel
theorem d_Mo_system_101 : decode b_Mo_system 101 = .ok (.aload_n 0, 1) := by decide +kernel
theorem d_Mo_system_102 : decode b_Mo_system 102 = .ok (.getfield 14, 3) := by decide +kernel
theorem d_Mo_system_105 : decode b_Mo_system 105 = .ok (.bipush 11, 2) := by decide +kernel
theorem d_Mo_system_107 : decode b_Mo_system 107 = .ok (.laload, 1) := by decide +kernel
theorem d_Mo_system_108 : decode b_Mo_system 108 = .ok (.invokevirtual 316, 3) := by decide +kernel
theorem d_Mo_system_111 : decode b_Mo_system 111 = .ok (.aload_n 0, 1) := by decide +kernel
theorem d_Mo_system_112 : decode b_Mo_system 112 = .ok (.iconst 1, 1) := by decide +kernel
theorem d_Mo_system_113 : decode b_Mo_system 113 = .ok (.putfield 48, 3) := by decide +kernel
theorem d_Mo_system_4 : decode b_Mo_system 4 = .ok (.aload_n 0, 1) := by decide +kernel
theorem d_Mo_system_5 : decode b_Mo_system 5 = .ok (.getfield 14, 3) := by decide +kernel
theorem d_Mo_system_8 : decode b_Mo_system 8 = .ok (.iconst 1, 1) := by decide +kernel
theorem d_Mo_system_9 : decode b_Mo_system 9 = .ok (.aload_n 0, 1) := by decide +kernel
theorem d_Mo_system_10 : decode b_Mo_system 10 = .ok (.getfield 173, 3) := by decide +kernel
theorem d_Mo_system_13 : decode b_Mo_system 13 = .ok (.lastore, 1) := by decide +kernel
theorem d_Mo_system_14 : decode b_Mo_system 14 = .ok (.aload_n 0, 1) := by decide +kernel
theorem d_Mo_system_15 : decode b_Mo_system 15 = .ok (.getfield 14, 3) := by decide +kernel
theorem d_Mo_system_18 : decode b_Mo_system 18 = .ok (.bipush 11, 2) := by decide +kernel
theorem d_Mo_system_20 : decode b_Mo_system 20 = .ok (.aload_n 0, 1) := by decide +kernel
theorem d_Mo_system_21 : decode b_Mo_system 21 = .ok (.invokevirtual 304, 3) := by decide +kernel
theorem d_Mo_system_24 : decode b_Mo_system 24 = .ok (.ldc2_w 73, 3) := by decide +kernel
theorem d_Mo_system_27 : decode b_Mo_system 27 = .ok (.lor, 1) := by decide +kernel
theorem d_Mo_system_28 : decode b_Mo_system 28 = .ok (.lastore, 1) := by decide +kernel
theorem d_Mo_system_29 : decode b_Mo_system 29 = .ok (.aload_n 0, 1) := by decide +kernel
theorem d_Mo_system_30 : decode b_Mo_system 30 = .ok (.aload_n 0, 1) := by decide +kernel
theorem d_Mo_system_31 : decode b_Mo_system 31 = .ok (.getfield 445, 3) := by decide +kernel
theorem d_Mo_system_34 : decode b_Mo_system 34 = .ok (.putfield 173, 3) := by decide +kernel
theorem d_Mo_system_37 : decode b_Mo_system 37 = .ok (.aload_n 0, 1) := by decide +kernel
theorem d_Mo_system_38 : decode b_Mo_system 38 = .ok (.aload_n 0, 1) := by decide +kernel
theorem d_Mo_system_39 : decode b_Mo_system 39 = .ok (.invokevirtual 304, 3) := by decide +kernel
theorem d_Mo_system_42 : decode b_Mo_system 42 = .ok (.aload_n 0, 1) := by decide +kernel
theorem d_Mo_system_43 : decode b_Mo_system 43 = .ok (.getfield 448, 3) := by decide +kernel
theorem d_Mo_system_46 : decode b_Mo_system 46 = .ok (.ldc2_w 71, 3) := by decide +kernel
theorem d_Mo_system_49 : decode b_Mo_system 49 = .ok (.lxor, 1) := by decide +kernel
theorem d_Mo_system_50 : decode b_Mo_system 50 = .ok (.land, 1) := by decide +kernel
theorem d_Mo_system_51 : decode b_Mo_system 51 = .ok (.invokevirtual 316, 3) := by decide +kernel
theorem d_Mo_system_54 : decode b_Mo_system 54 = .ok (.aload_n 0, 1) := by decide +kernel
theorem d_Mo_system_55 : decode b_Mo_system 55 = .ok (.iconst 0, 1) := by decide +kernel
theorem d_Mo_system_56 : decode b_Mo_system 56 = .ok (.putfield 48, 3) := by decide +kernel
theorem d_Mo_system_59 : decode b_Mo_system 59 = .ok (.goto 57, 3) := by decide +kernel
theorem d_Mo_second_183 : decode b_Mo_second 183 = .ok (.invokevirtual 354, 3) := by decide +kernel
theorem d_Mo_second_186 : decode b_Mo_second 186 = .ok (.goto 216, 3) := by decide +kernel
theorem d_Mo_second_402 : decode b_Mo_second 402 = .ok (.return_, 1) := by decide +kernel
theorem d_Mo_second_178 : decode b_Mo_second 178 = .ok (.iconst 1, 1) := by decide +kernel
theorem d_Mo_second_179 : decode b_Mo_second 179 = .ok (.goto 4, 3) := by decide +kernel
theorem d_Mo_second_166 : decode b_Mo_second 166 = .ok (.iload_n 1, 1) := by decide +kernel
theorem d_Mo_second_167 : decode b_Mo_second 167 = .ok (.bipush 7, 2) := by decide +kernel
theorem d_Mo_second_169 : decode b_Mo_second 169 = .ok (.if_icmp .ne 20, 3) := by decide +kernel
theorem d_Mo_second_189 : decode b_Mo_second 189 = .ok (.iload_n 1, 1) := by decide +kernel
theorem d_Mo_second_190 : decode b_Mo_second 190 = .ok (.sipush 163, 3) := by decide +kernel
theorem d_Mo_second_193 : decode b_Mo_second 193 = .ok (.if_icmp .eq 31, 3) := by decide +kernel
theorem d_Mo_second_224 : decode b_Mo_second 224 = .ok (.aload_n 0, 1) := by decide +kernel
theorem d_Mo_second_225 : decode b_Mo_second 225 = .ok (.iload_n 1, 1) := by decide +kernel
theorem d_Mo_bit_0 : decode b_Mo_bit 0 = .ok (.aload_n 0, 1) := by decide +kernel
theorem d_Mo_bit_1 : decode b_Mo_bit 1 = .ok (.invokevirtual 235, 3) := by decide +kernel
theorem d_Mo_bit_4 : decode b_Mo_bit 4 = .ok (.istore_n 2, 1) := by decide +kernel
theorem d_Mo_bit_5 : decode b_Mo_bit 5 = .ok (.aload_n 0, 1) := by decide +kernel
theorem d_Mo_bit_6 : decode b_Mo_bit 6 = .ok (.invokevirtual 167, 3) := by decide +kernel
theorem d_Mo_bit_9 : decode b_Mo_bit 9 = .ok (.iload_n 1, 1) := by decide +kernel
theorem d_Mo_bit_10 : decode b_Mo_bit 10 = .ok (.sipush 186, 3) := by decide +kernel
theorem d_Mo_bit_13 : decode b_Mo_bit 13 = .ok (.if_icmp .ne 17, 3) := by decide +kernel
theorem d_Mo_bit_30 : decode b_Mo_bit 30 = .ok (.aload_n 0, 1) := by decide +kernel
theorem d_Mo_bit_31 : decode b_Mo_bit 31 = .ok (.invokevirtual 170, 3) := by decide +kernel
theorem d_Mo_bit_34 : decode b_Mo_bit 34 = .ok (.iload_n 1, 1) := by decide +kernel
theorem d_Mo_bit_35 : decode b_Mo_bit 35 = .ok (.sipush 186, 3) := by decide +kernel
theorem d_Mo_bit_38 : decode b_Mo_bit 38 = .ok (.if_icmp .ne 11, 3) := by decide +kernel
theorem d_Mo_bit_49 : decode b_Mo_bit 49 = .ok (.aload_n 0, 1) := by decide +kernel
theorem d_Mo_bit_50 : decode b_Mo_bit 50 = .ok (.iload_n 2, 1) := by decide +kernel
theorem d_Mo_bit_51 : decode b_Mo_bit 51 = .ok (.invokevirtual 341, 3) := by decide +kernel
theorem d_Mo_bit_54 : decode b_Mo_bit 54 = .ok (.iload_n 2, 1) := by decide +kernel
theorem d_Mo_bit_55 : decode b_Mo_bit 55 = .ok (.invokestatic 118, 3) := by decide +kernel
theorem d_Mo_bit_58 : decode b_Mo_bit 58 = .ok (.lstore_n 3, 1) := by decide +kernel
theorem d_Mo_bit_59 : decode b_Mo_bit 59 = .ok (.aload_n 0, 1) := by decide +kernel
theorem d_Mo_bit_60 : decode b_Mo_bit 60 = .ok (.aload_n 0, 1) := by decide +kernel
theorem d_Mo_bit_61 : decode b_Mo_bit 61 = .ok (.getfield 111, 3) := by decide +kernel
theorem d_Mo_bit_64 : decode b_Mo_bit 64 = .ok (.aload_n 0, 1) := by decide +kernel
theorem d_Mo_bit_65 : decode b_Mo_bit 65 = .ok (.getfield 108, 3) := by decide +kernel
theorem d_Mo_bit_68 : decode b_Mo_bit 68 = .ok (.i2l, 1) := by decide +kernel
theorem d_Mo_bit_69 : decode b_Mo_bit 69 = .ok (.ladd, 1) := by decide +kernel
theorem d_Mo_bit_70 : decode b_Mo_bit 70 = .ok (.putfield 173, 3) := by decide +kernel
theorem d_Mo_bit_73 : decode b_Mo_bit 73 = .ok (.iload_n 1, 1) := by decide +kernel
theorem d_Mo_bit_74 : decode b_Mo_bit 74 = .ok (.sipush 186, 3) := by decide +kernel
theorem d_Mo_bit_77 : decode b_Mo_bit 77 = .ok (.if_icmp .ne 12, 3) := by decide +kernel
theorem d_Mo_bit_89 : decode b_Mo_bit 89 = .ok (.iload_n 1, 1) := by decide +kernel
theorem d_Mo_bit_90 : decode b_Mo_bit 90 = .ok (.sipush 163, 3) := by decide +kernel
theorem d_Mo_bit_93 : decode b_Mo_bit 93 = .ok (.isub, 1) := by decide +kernel
theorem d_Mo_bit_94 : decode b_Mo_bit 94 = .ok (.bipush 8, 2) := by decide +kernel
theorem d_Mo_bit_96 : decode b_Mo_bit 96 = .ok (.idiv, 1) := by decide +kernel
theorem d_Mo_bit_97 : decode b_Mo_bit 97 = .ok (.istore 5, 2) := by decide +kernel
theorem d_Mo_bit_99 : decode b_Mo_bit 99 = .ok (.lload_n 3, 1) := by decide +kernel
theorem d_Mo_bit_100 : decode b_Mo_bit 100 = .ok (.ldc2_w 60, 3) := by decide +kernel
theorem d_Mo_bit_103 : decode b_Mo_bit 103 = .ok (.iload_n 2, 1) := by decide +kernel
theorem d_Mo_bit_104 : decode b_Mo_bit 104 = .ok (.i2l, 1) := by decide +kernel
theorem d_Mo_bit_105 : decode b_Mo_bit 105 = .ok (.lmul, 1) := by decide +kernel
theorem d_Ma_floorMod_0 : decode b_Ma_floorMod 0 = .ok (.lload_n 0, 1) := by decide +kernel
theorem d_Ma_floorMod_1 : decode b_Ma_floorMod 1 = .ok (.lload_n 2, 1) := by decide +kernel
theorem d_Ma_floorMod_2 : decode b_Ma_floorMod 2 = .ok (.lrem, 1) := by decide +kernel
theorem d_Ma_floorMod_3 : decode b_Ma_floorMod 3 = .ok (.lstore 4, 2) := by decide +kernel
theorem d_Ma_floorMod_5 : decode b_Ma_floorMod 5 = .ok (.lload_n 0, 1) := by decide +kernel
theorem d_Ma_floorMod_6 : decode b_Ma_floorMod 6 = .ok (.lload_n 2, 1) := by decide +kernel
theorem d_Ma_floorMod_7 : decode b_Ma_floorMod 7 = .ok (.lxor, 1) := by decide +kernel
theorem d_Ma_floorMod_8 : decode b_Ma_floorMod 8 = .ok (.lconst 0, 1) := by decide +kernel
theorem d_Ma_floorMod_9 : decode b_Ma_floorMod 9 = .ok (.lcmp, 1) := by decide +kernel
theorem d_Ma_floorMod_10 : decode b_Ma_floorMod 10 = .ok (.ifCond .ge 15, 3) := by decide +kernel
theorem d_Ma_floorMod_25 : decode b_Ma_floorMod 25 = .ok (.lload 4, 2) := by decide +kernel
theorem d_Ma_floorMod_27 : decode b_Ma_floorMod 27 = .ok (.lreturn, 1) := by decide +kernel
theorem d_Ma_floorMod_13 : decode b_Ma_floorMod 13 = .ok (.lload 4, 2) := by decide +kernel
theorem d_Ma_floorMod_15 : decode b_Ma_floorMod 15 = .ok (.lconst 0, 1) := by decide +kernel
theorem d_Ma_floorMod_16 : decode b_Ma_floorMod 16 = .ok (.lcmp, 1) := by decide +kernel
theorem d_Ma_floorMod_17 : decode b_Ma_floorMod 17 = .ok (.ifCond .eq 8, 3) := by decide +kernel
theorem d_Ma_floorMod_20 : decode b_Ma_floorMod 20 = .ok (.lload 4, 2) := by decide +kernel
theorem d_Ma_floorMod_22 : decode b_Ma_floorMod 22 = .ok (.lload_n 2, 1) := by decide +kernel
theorem d_Ma_floorMod_23 : decode b_Ma_floorMod 23 = .ok (.ladd, 1) := by decide +kernel
theorem d_Ma_floorMod_24 : decode b_Ma_floorMod 24 = .ok (.lreturn, 1) := by decide +kernel
theorem d_Mo_bit_106 : decode b_Mo_bit 106 = .ok (.invokestatic 422, 3) := by decide +kernel
theorem d_Mo_bit_109 : decode b_Mo_bit 109 = .ok (.l2i, 1) := by decide +kernel
theorem d_Mo_bit_110 : decode b_Mo_bit 110 = .ok (.istore 6, 2) := by decide +kernel
theorem d_Mo_bit_112 : decode b_Mo_bit 112 = .ok (.iload_n 1, 1) := by decide +kernel
theorem d_Mo_bit_113 : decode b_Mo_bit 113 = .ok (.sipush 186, 3) := by decide +kernel
theorem d_Mo_bit_116 : decode b_Mo_bit 116 = .ok (.if_icmp .eq 25, 3) := by decide +kernel
theorem d_Mo_bit_141 : decode b_Mo_bit 141 = .ok (.aload_n 0, 1) := by decide +kernel
theorem d_Mo_bit_142 : decode b_Mo_bit 142 = .ok (.iload_n 2, 1) := by decide +kernel
theorem d_Mo_bit_143 : decode b_Mo_bit 143 = .ok (.iload 5, 2) := by decide +kernel
theorem d_Mo_bit_145 : decode b_Mo_bit 145 = .ok (.ifCond .ne 7, 3) := by decide +kernel
theorem d_Mo_bit_152 : decode b_Mo_bit 152 = .ok (.iconst 1, 1) := by decide +kernel
theorem d_Mo_bit_153 : decode b_Mo_bit 153 = .ok (.invokevirtual 338, 3) := by decide +kernel
theorem d_Mo_bit_156 : decode b_Mo_bit 156 = .ok (.lstore 7, 2) := by decide +kernel
theorem d_Mo_bit_158 : decode b_Mo_bit 158 = .ok (.aload_n 0, 1) := by decide +kernel
theorem d_Mo_bit_159 : decode b_Mo_bit 159 = .ok (.getfield 21, 3) := by decide +kernel
theorem d_Mo_bit_162 : decode b_Mo_bit 162 = .ok (.iconst 0, 1) := by decide +kernel
theorem d_Mo_bit_163 : decode b_Mo_bit 163 = .ok (.lload 7, 2) := by decide +kernel
theorem d_Mo_bit_165 : decode b_Mo_bit 165 = .ok (.iload 6, 2) := by decide +kernel
theorem d_Mo_bit_167 : decode b_Mo_bit 167 = .ok (.lushr, 1) := by decide +kernel
theorem d_Mo_bit_168 : decode b_Mo_bit 168 = .ok (.lconst 1, 1) := by decide +kernel
theorem d_Mo_bit_169 : decode b_Mo_bit 169 = .ok (.land, 1) := by decide +kernel
theorem d_Mo_bit_170 : decode b_Mo_bit 170 = .ok (.lconst 1, 1) := by decide +kernel
theorem d_Mo_bit_171 : decode b_Mo_bit 171 = .ok (.lcmp, 1) := by decide +kernel
theorem d_Mo_bit_172 : decode b_Mo_bit 172 = .ok (.ifCond .ne 7, 3) := by decide +kernel
theorem d_Mo_bit_179 : decode b_Mo_bit 179 = .ok (.iconst 0, 1) := by decide +kernel
theorem d_Mo_bit_180 : decode b_Mo_bit 180 = .ok (.bastore, 1) := by decide +kernel
theorem d_Mo_bit_181 : decode b_Mo_bit 181 = .ok (.lconst 1, 1) := by decide +kernel
theorem d_Mo_bit_182 : decode b_Mo_bit 182 = .ok (.iload 6, 2) := by decide +kernel
theorem d_Mo_bit_184 : decode b_Mo_bit 184 = .ok (.lshl, 1) := by decide +kernel
theorem d_Mo_bit_185 : decode b_Mo_bit 185 = .ok (.lstore 9, 2) := by decide +kernel
theorem d_Mo_bit_187 : decode b_Mo_bit 187 = .ok (.iload 5, 2) := by decide +kernel
theorem d_Mo_bit_189 : decode b_Mo_bit 189 = .ok (.iconst 1, 1) := by decide +kernel
theorem d_Mo_bit_190 : decode b_Mo_bit 190 = .ok (.if_icmp .ne 13, 3) := by decide +kernel
theorem d_Mo_bit_203 : decode b_Mo_bit 203 = .ok (.iload 5, 2) := by decide +kernel
theorem d_Mo_bit_205 : decode b_Mo_bit 205 = .ok (.iconst 2, 1) := by decide +kernel
theorem d_Mo_bit_206 : decode b_Mo_bit 206 = .ok (.if_icmp .ne 17, 3) := by decide +kernel
theorem d_Mo_bit_223 : decode b_Mo_bit 223 = .ok (.iload 5, 2) := by decide +kernel
theorem d_Mo_bit_225 : decode b_Mo_bit 225 = .ok (.iconst 3, 1) := by decide +kernel
theorem d_Mo_bit_226 : decode b_Mo_bit 226 = .ok (.if_icmp .ne 13, 3) := by decide +kernel
theorem d_Mo_bit_239 : decode b_Mo_bit 239 = .ok (.aload_n 0, 1) := by decide +kernel
theorem d_Mo_bit_240 : decode b_Mo_bit 240 = .ok (.bipush 6, 2) := by decide +kernel
theorem d_Mo_bit_242 : decode b_Mo_bit 242 = .ok (.invokevirtual 219, 3) := by decide +kernel
theorem d_Mo_bit_245 : decode b_Mo_bit 245 = .ok (.aload_n 0, 1) := by decide +kernel
theorem d_Mo_bit_246 : decode b_Mo_bit 246 = .ok (.iconst 4, 1) := by decide +kernel
theorem d_Mo_bit_247 : decode b_Mo_bit 247 = .ok (.invokevirtual 219, 3) := by decide +kernel
theorem d_Mo_bit_250 : decode b_Mo_bit 250 = .ok (.aload_n 0, 1) := by decide +kernel
theorem d_Mo_bit_251 : decode b_Mo_bit 251 = .ok (.iconst 2, 1) := by decide +kernel
theorem d_Mo_bit_252 : decode b_Mo_bit 252 = .ok (.invokevirtual 219, 3) := by decide +kernel
theorem d_Mo_bit_255 : decode b_Mo_bit 255 = .ok (.aload_n 0, 1) := by decide +kernel
theorem d_Mo_bit_256 : decode b_Mo_bit 256 = .ok (.iconst 1, 1) := by decide +kernel
theorem d_Mo_bit_257 : decode b_Mo_bit 257 = .ok (.invokevirtual 219, 3) := by decide +kernel
theorem d_Mo_bit_260 : decode b_Mo_bit 260 = .ok (.return_, 1) := by decide +kernel
theorem d_Mo_bit_229 : decode b_Mo_bit 229 = .ok (.aload_n 0, 1) := by decide +kernel
theorem d_Mo_bit_230 : decode b_Mo_bit 230 = .ok (.iload_n 2, 1) := by decide +kernel
theorem d_Mo_bit_231 : decode b_Mo_bit 231 = .ok (.lload 7, 2) := by decide +kernel
theorem d_Mo_bit_233 : decode b_Mo_bit 233 = .ok (.lload 9, 2) := by decide +kernel
theorem d_Mo_bit_235 : decode b_Mo_bit 235 = .ok (.lxor, 1) := by decide +kernel
theorem d_Mo_bit_236 : decode b_Mo_bit 236 = .ok (.invokevirtual 348, 3) := by decide +kernel
theorem d_Mo_bit_209 : decode b_Mo_bit 209 = .ok (.aload_n 0, 1) := by decide +kernel
theorem d_Mo_bit_210 : decode b_Mo_bit 210 = .ok (.iload_n 2, 1) := by decide +kernel
theorem d_Mo_bit_211 : decode b_Mo_bit 211 = .ok (.lload 7, 2) := by decide +kernel
theorem d_Mo_bit_213 : decode b_Mo_bit 213 = .ok (.lload 9, 2) := by decide +kernel
theorem d_Mo_bit_215 : decode b_Mo_bit 215 = .ok (.ldc2_w 71, 3) := by decide +kernel
theorem d_Mo_bit_218 : decode b_Mo_bit 218 = .ok (.lxor, 1) := by decide +kernel
theorem d_Mo_bit_219 : decode b_Mo_bit 219 = .ok (.land, 1) := by decide +kernel
theorem d_Mo_bit_220 : decode b_Mo_bit 220 = .ok (.invokevirtual 348, 3) := by decide +kernel
theorem d_Mo_bit_193 : decode b_Mo_bit 193 = .ok (.aload_n 0, 1) := by decide +kernel
theorem d_Mo_bit_194 : decode b_Mo_bit 194 = .ok (.iload_n 2, 1) := by decide +kernel
theorem d_Mo_bit_195 : decode b_Mo_bit 195 = .ok (.lload 7, 2) := by decide +kernel
theorem d_Mo_bit_197 : decode b_Mo_bit 197 = .ok (.lload 9, 2) := by decide +kernel
theorem d_Mo_bit_199 : decode b_Mo_bit 199 = .ok (.lor, 1) := by decide +kernel
theorem d_Mo_bit_200 : decode b_Mo_bit 200 = .ok (.invokevirtual 348, 3) := by decide +kernel
theorem d_Mo_bit_175 : decode b_Mo_bit 175 = .ok (.iconst 1, 1) := by decide +kernel
theorem d_Mo_bit_176 : decode b_Mo_bit 176 = .ok (.goto 4, 3) := by decide +kernel
theorem d_Mo_bit_148 : decode b_Mo_bit 148 = .ok (.iconst 0, 1) := by decide +kernel
theorem d_Mo_bit_149 : decode b_Mo_bit 149 = .ok (.goto 4, 3) := by decide +kernel
theorem d_Mo_bit_119 : decode b_Mo_bit 119 = .ok (.aload_n 0, 1) := by decide +kernel
theorem d_Mo_bit_120 : decode b_Mo_bit 120 = .ok (.dup, 1) := by decide +kernel
theorem d_Mo_bit_121 : decode b_Mo_bit 121 = .ok (.getfield 154, 3) := by decide +kernel
theorem d_Mo_bit_124 : decode b_Mo_bit 124 = .ok (.iload_n 2, 1) := by decide +kernel
theorem d_Mo_bit_125 : decode b_Mo_bit 125 = .ok (.i2l, 1) := by decide +kernel
theorem d_Mo_bit_126 : decode b_Mo_bit 126 = .ok (.lload_n 3, 1) := by decide +kernel
theorem d_Mo_bit_127 : decode b_Mo_bit 127 = .ok (.ldc2_w 60, 3) := by decide +kernel
theorem d_Mo_bit_130 : decode b_Mo_bit 130 = .ok (.iload_n 2, 1) := by decide +kernel
theorem d_Mo_bit_131 : decode b_Mo_bit 131 = .ok (.i2l, 1) := by decide +kernel
theorem d_Mo_bit_132 : decode b_Mo_bit 132 = .ok (.lmul, 1) := by decide +kernel
theorem d_Mo_bit_133 : decode b_Mo_bit 133 = .ok (.invokestatic 428, 3) := by decide +kernel
theorem d_Mo_bit_136 : decode b_Mo_bit 136 = .ok (.lmul, 1) := by decide +kernel
theorem d_Mo_bit_137 : decode b_Mo_bit 137 = .ok (.ladd, 1) := by decide +kernel
theorem d_Mo_bit_138 : decode b_Mo_bit 138 = .ok (.putfield 154, 3) := by decide +kernel
theorem d_Mo_bit_80 : decode b_Mo_bit 80 = .ok (.aload_n 0, 1) := by decide +kernel
theorem d_Mo_bit_81 : decode b_Mo_bit 81 = .ok (.getfield 139, 3) := by decide +kernel
theorem d_Mo_bit_84 : decode b_Mo_bit 84 = .ok (.iconst 4, 1) := by decide +kernel
theorem d_Mo_bit_85 : decode b_Mo_bit 85 = .ok (.isub, 1) := by decide +kernel
theorem d_Mo_bit_86 : decode b_Mo_bit 86 = .ok (.goto 11, 3) := by decide +kernel
theorem d_Mo_bit_41 : decode b_Mo_bit 41 = .ok (.aload_n 0, 1) := by decide +kernel
theorem d_Mo_bit_42 : decode b_Mo_bit 42 = .ok (.invokevirtual 114, 3) := by decide +kernel
theorem d_Mo_bit_45 : decode b_Mo_bit 45 = .ok (.i2l, 1) := by decide +kernel
theorem d_Mo_bit_46 : decode b_Mo_bit 46 = .ok (.goto 12, 3) := by decide +kernel
theorem d_Mo_bit_16 : decode b_Mo_bit 16 = .ok (.aload_n 0, 1) := by decide +kernel
theorem d_Mo_bit_17 : decode b_Mo_bit 17 = .ok (.getfield 139, 3) := by decide +kernel
theorem d_Mo_bit_20 : decode b_Mo_bit 20 = .ok (.iconst 4, 1) := by decide +kernel
theorem d_Mo_bit_21 : decode b_Mo_bit 21 = .ok (.if_icmp .ge 9, 3) := by decide +kernel
theorem d_Mo_bit_24 : decode b_Mo_bit 24 = .ok (.aload_n 0, 1) := by decide +kernel
theorem d_Mo_bit_25 : decode b_Mo_bit 25 = .ok (.bipush 6, 2) := by decide +kernel
theorem d_Mo_bit_27 : decode b_Mo_bit 27 = .ok (.invokevirtual 81, 3) := by decide +kernel
theorem d_Mo_second_226 : decode b_Mo_second 226 = .ok (.invokevirtual 358, 3) := by decide +kernel
theorem d_Mo_second_229 : decode b_Mo_second 229 = .ok (.goto 173, 3) := by decide +kernel
theorem d_Mo_second_196 : decode b_Mo_second 196 = .ok (.iload_n 1, 1) := by decide +kernel
theorem d_Mo_second_197 : decode b_Mo_second 197 = .ok (.sipush 171, 3) := by decide +kernel
theorem d_Mo_second_200 : decode b_Mo_second 200 = .ok (.if_icmp .eq 24, 3) := by decide +kernel
theorem d_Mo_second_203 : decode b_Mo_second 203 = .ok (.iload_n 1, 1) := by decide +kernel
theorem d_Mo_second_204 : decode b_Mo_second 204 = .ok (.sipush 179, 3) := by decide +kernel
theorem d_Mo_second_207 : decode b_Mo_second 207 = .ok (.if_icmp .eq 17, 3) := by decide +kernel
theorem d_Mo_second_210 : decode b_Mo_second 210 = .ok (.iload_n 1, 1) := by decide +kernel
theorem d_Mo_second_211 : decode b_Mo_second 211 = .ok (.sipush 187, 3) := by decide +kernel
theorem d_Mo_second_214 : decode b_Mo_second 214 = .ok (.if_icmp .eq 10, 3) := by decide +kernel
theorem d_Mo_second_217 : decode b_Mo_second 217 = .ok (.iload_n 1, 1) := by decide +kernel
theorem d_Mo_second_218 : decode b_Mo_second 218 = .ok (.sipush 186, 3) := by decide +kernel
theorem d_Mo_second_221 : decode b_Mo_second 221 = .ok (.if_icmp .ne 11, 3) := by decide +kernel
theorem d_Mo_second_232 : decode b_Mo_second 232 = .ok (.iload_n 1, 1) := by decide +kernel
theorem d_Mo_second_233 : decode b_Mo_second 233 = .ok (.sipush 175, 3) := by decide +kernel
theorem d_Mo_second_236 : decode b_Mo_second 236 = .ok (.if_icmp .ne 11, 3) := by decide +kernel
theorem d_Mo_second_247 : decode b_Mo_second 247 = .ok (.iload_n 1, 1) := by decide +kernel
theorem d_Mo_second_248 : decode b_Mo_second 248 = .ok (.sipush 176, 3) := by decide +kernel
theorem d_Mo_second_251 : decode b_Mo_second 251 = .ok (.if_icmp .eq 10, 3) := by decide +kernel
theorem d_Mo_second_261 : decode b_Mo_second 261 = .ok (.aload_n 0, 1) := by decide +kernel
theorem d_Mo_second_262 : decode b_Mo_second 262 = .ok (.iload_n 2, 1) := by decide +kernel
theorem d_Mo_compareAndChange_0 : decode b_Mo_compareAndChange 0 = .ok (.aload_n 0, 1) := by decide +kernel
theorem d_Mo_compareAndChange_1 : decode b_Mo_compareAndChange 1 = .ok (.invokevirtual 335, 3) := by decide +kernel
theorem d_Mo_compareAndChange_4 : decode b_Mo_compareAndChange 4 = .ok (.aload_n 0, 1) := by decide +kernel
theorem d_Mo_compareAndChange_5 : decode b_Mo_compareAndChange 5 = .ok (.iload_n 1, 1) := by decide +kernel
theorem d_Mo_compareAndChange_6 : decode b_Mo_compareAndChange 6 = .ok (.iconst 1, 1) := by decide +kernel
theorem d_Mo_compareAndChange_7 : decode b_Mo_compareAndChange 7 = .ok (.invokevirtual 338, 3) := by decide +kernel
theorem d_Mo_compareAndChange_10 : decode b_Mo_compareAndChange 10 = .ok (.lstore_n 2, 1) := by decide +kernel
theorem d_Mo_compareAndChange_11 : decode b_Mo_compareAndChange 11 = .ok (.aload_n 0, 1) := by decide +kernel
theorem d_Mo_compareAndChange_12 : decode b_Mo_compareAndChange 12 = .ok (.aload_n 0, 1) := by decide +kernel
theorem d_Mo_compareAndChange_13 : decode b_Mo_compareAndChange 13 = .ok (.iconst 0, 1) := by decide +kernel
theorem d_Mo_compareAndChange_14 : decode b_Mo_compareAndChange 14 = .ok (.iload_n 1, 1) := by decide +kernel
theorem d_Mo_compareAndChange_15 : decode b_Mo_compareAndChange 15 = .ok (.invokevirtual 185, 3) := by decide +kernel
theorem d_Mo_compareAndChange_18 : decode b_Mo_compareAndChange 18 = .ok (.lload_n 2, 1) := by decide +kernel
theorem d_Mo_compareAndChange_19 : decode b_Mo_compareAndChange 19 = .ok (.iconst 0, 1) := by decide +kernel
theorem d_Mo_compareAndChange_20 : decode b_Mo_compareAndChange 20 = .ok (.iconst 1, 1) := by decide +kernel
theorem d_Mo_compareAndChange_21 : decode b_Mo_compareAndChange 21 = .ok (.iload_n 1, 1) := by decide +kernel
theorem d_Mo_compareAndChange_22 : decode b_Mo_compareAndChange 22 = .ok (.invokevirtual 225, 3) := by decide +kernel
theorem d_Mo_compareAndChange_25 : decode b_Mo_compareAndChange 25 = .ok (.pop2, 1) := by decide +kernel
theorem d_Mo_compareAndChange_26 : decode b_Mo_compareAndChange 26 = .ok (.aload_n 0, 1) := by decide +kernel
theorem d_Mo_compareAndChange_27 : decode b_Mo_compareAndChange 27 = .ok (.getfield 21, 3) := by decide +kernel
theorem d_Mo_compareAndChange_30 : decode b_Mo_compareAndChange 30 = .ok (.iconst 3, 1) := by decide +kernel
theorem d_Mo_compareAndChange_31 : decode b_Mo_compareAndChange 31 = .ok (.baload, 1) := by decide +kernel
theorem d_Mo_compareAndChange_32 : decode b_Mo_compareAndChange 32 = .ok (.ifCond .eq 16, 3) := by decide +kernel
theorem d_Mo_compareAndChange_48 : decode b_Mo_compareAndChange 48 = .ok (.aload_n 0, 1) := by decide +kernel
theorem d_Mo_compareAndChange_49 : decode b_Mo_compareAndChange 49 = .ok (.iload_n 1, 1) := by decide +kernel
theorem d_Mo_compareAndChange_50 : decode b_Mo_compareAndChange 50 = .ok (.lload_n 2, 1) := by decide +kernel
theorem d_Mo_compareAndChange_51 : decode b_Mo_compareAndChange 51 = .ok (.invokevirtual 348, 3) := by decide +kernel
theorem d_Mo_compareAndChange_54 : decode b_Mo_compareAndChange 54 = .ok (.aload_n 0, 1) := by decide +kernel
theorem d_Mo_compareAndChange_55 : decode b_Mo_compareAndChange 55 = .ok (.iconst 0, 1) := by decide +kernel
theorem d_Mo_compareAndChange_56 : decode b_Mo_compareAndChange 56 = .ok (.iload_n 1, 1) := by decide +kernel
theorem d_Mo_compareAndChange_57 : decode b_Mo_compareAndChange 57 = .ok (.lload_n 2, 1) := by decide +kernel
theorem d_Mo_compareAndChange_58 : decode b_Mo_compareAndChange 58 = .ok (.invokevirtual 189, 3) := by decide +kernel
theorem d_Mo_compareAndChange_61 : decode b_Mo_compareAndChange 61 = .ok (.return_, 1) := by decide +kernel
theorem d_Mo_compareAndChange_35 : decode b_Mo_compareAndChange 35 = .ok (.aload_n 0, 1) := by decide +kernel
theorem d_Mo_compareAndChange_36 : decode b_Mo_compareAndChange 36 = .ok (.iload_n 1, 1) := by decide +kernel
theorem d_Mo_compareAndChange_37 : decode b_Mo_compareAndChange 37 = .ok (.aload_n 0, 1) := by decide +kernel
theorem d_Mo_compareAndChange_38 : decode b_Mo_compareAndChange 38 = .ok (.iload_n 1, 1) := by decide +kernel
theorem d_Mo_compareAndChange_39 : decode b_Mo_compareAndChange 39 = .ok (.invokevirtual 341, 3) := by decide +kernel
theorem d_Mo_compareAndChange_42 : decode b_Mo_compareAndChange 42 = .ok (.invokevirtual 348, 3) := by decide +kernel
theorem d_Mo_compareAndChange_45 : decode b_Mo_compareAndChange 45 = .ok (.goto 16, 3) := by decide +kernel
theorem d_Mo_second_263 : decode b_Mo_second 263 = .ok (.invokevirtual 361, 3) := by decide +kernel
theorem d_Mo_second_266 : decode b_Mo_second 266 = .ok (.goto 136, 3) := by decide +kernel
theorem d_Mo_second_254 : decode b_Mo_second 254 = .ok (.iload_n 1, 1) := by decide +kernel
theorem d_Mo_second_255 : decode b_Mo_second 255 = .ok (.sipush 177, 3) := by decide +kernel
theorem d_Mo_second_258 : decode b_Mo_second 258 = .ok (.if_icmp .ne 11, 3) := by decide +kernel
theorem d_Mo_second_269 : decode b_Mo_second 269 = .ok (.iload_n 1, 1) := by decide +kernel
theorem d_Mo_second_270 : decode b_Mo_second 270 = .ok (.sipush 182, 3) := by decide +kernel
theorem d_Mo_second_273 : decode b_Mo_second 273 = .ok (.if_icmp .eq 10, 3) := by decide +kernel
theorem d_Mo_second_283 : decode b_Mo_second 283 = .ok (.aload_n 0, 1) := by decide +kernel
theorem d_Mo_second_284 : decode b_Mo_second 284 = .ok (.invokevirtual 335, 3) := by decide +kernel
theorem d_Mo_second_287 : decode b_Mo_second 287 = .ok (.aload_n 0, 1) := by decide +kernel
theorem d_Mo_second_288 : decode b_Mo_second 288 = .ok (.aload_n 0, 1) := by decide +kernel
theorem d_Mo_second_289 : decode b_Mo_second 289 = .ok (.invokevirtual 235, 3) := by decide +kernel
theorem d_Mo_second_292 : decode b_Mo_second 292 = .ok (.aload_n 0, 1) := by decide +kernel
theorem d_Mo_second_293 : decode b_Mo_second 293 = .ok (.iload_n 1, 1) := by decide +kernel
theorem d_Mo_second_294 : decode b_Mo_second 294 = .ok (.sipush 182, 3) := by decide +kernel
theorem d_Mo_second_297 : decode b_Mo_second 297 = .ok (.if_icmp .ne 7, 3) := by decide +kernel
theorem d_Mo_second_304 : decode b_Mo_second 304 = .ok (.iconst 2, 1) := by decide +kernel
theorem d_Mo_second_305 : decode b_Mo_second 305 = .ok (.iconst 0, 1) := by decide +kernel
theorem d_Mo_second_306 : decode b_Mo_second 306 = .ok (.invokevirtual 338, 3) := by decide +kernel
theorem d_Mo_second_309 : decode b_Mo_second 309 = .ok (.invokevirtual 344, 3) := by decide +kernel
theorem d_Mo_second_312 : decode b_Mo_second 312 = .ok (.goto 90, 3) := by decide +kernel
theorem d_Mo_second_300 : decode b_Mo_second 300 = .ok (.iconst 1, 1) := by decide +kernel
theorem d_Mo_second_301 : decode b_Mo_second 301 = .ok (.goto 4, 3) := by decide +kernel
theorem d_Mo_second_276 : decode b_Mo_second 276 = .ok (.iload_n 1, 1) := by decide +kernel
theorem d_Mo_second_277 : decode b_Mo_second 277 = .ok (.sipush 183, 3) := by decide +kernel
theorem d_Mo_second_280 : decode b_Mo_second 280 = .ok (.if_icmp .ne 35, 3) := by decide +kernel
theorem d_Mo_second_315 : decode b_Mo_second 315 = .ok (.iload_n 1, 1) := by decide +kernel
theorem d_Mo_second_316 : decode b_Mo_second 316 = .ok (.sipush 190, 3) := by decide +kernel
theorem d_Mo_second_319 : decode b_Mo_second 319 = .ok (.if_icmp .eq 10, 3) := by decide +kernel
theorem d_Mo_second_329 : decode b_Mo_second 329 = .ok (.aload_n 0, 1) := by decide +kernel
theorem d_Mo_second_330 : decode b_Mo_second 330 = .ok (.aload_n 0, 1) := by decide +kernel
theorem d_Mo_second_331 : decode b_Mo_second 331 = .ok (.invokevirtual 235, 3) := by decide +kernel
theorem d_Mo_second_334 : decode b_Mo_second 334 = .ok (.iload_n 1, 1) := by decide +kernel
theorem d_Mo_second_335 : decode b_Mo_second 335 = .ok (.sipush 190, 3) := by decide +kernel
theorem d_Mo_second_338 : decode b_Mo_second 338 = .ok (.if_icmp .ne 7, 3) := by decide +kernel
theorem d_Mo_second_345 : decode b_Mo_second 345 = .ok (.iconst 2, 1) := by decide +kernel
theorem d_Mo_second_346 : decode b_Mo_second 346 = .ok (.invokevirtual 289, 3) := by decide +kernel
theorem d_Mo_second_349 : decode b_Mo_second 349 = .ok (.goto 53, 3) := by decide +kernel
theorem d_Mo_second_341 : decode b_Mo_second 341 = .ok (.iconst 1, 1) := by decide +kernel
theorem d_Mo_second_342 : decode b_Mo_second 342 = .ok (.goto 4, 3) := by decide +kernel
theorem d_Mo_second_322 : decode b_Mo_second 322 = .ok (.iload_n 1, 1) := by decide +kernel
theorem d_Mo_second_323 : decode b_Mo_second 323 = .ok (.sipush 191, 3) := by decide +kernel
theorem d_Mo_second_326 : decode b_Mo_second 326 = .ok (.if_icmp .ne 26, 3) := by decide +kernel
theorem d_Mo_second_352 : decode b_Mo_second 352 = .ok (.iload_n 1, 1) := by decide +kernel
theorem d_Mo_second_353 : decode b_Mo_second 353 = .ok (.sipush 188, 3) := by decide +kernel
theorem d_Mo_second_356 : decode b_Mo_second 356 = .ok (.if_icmp .eq 10, 3) := by decide +kernel
theorem d_Mo_second_366 : decode b_Mo_second 366 = .ok (.aload_n 0, 1) := by decide +kernel
theorem d_Mo_second_367 : decode b_Mo_second 367 = .ok (.iload_n 1, 1) := by decide +kernel
theorem d_Mo_scan_0 : decode b_Mo_scan 0 = .ok (.aload_n 0, 1) := by decide +kernel
theorem d_Mo_scan_1 : decode b_Mo_scan 1 = .ok (.invokevirtual 335, 3) := by decide +kernel
theorem d_Mo_scan_4 : decode b_Mo_scan 4 = .ok (.aload_n 0, 1) := by decide +kernel
theorem d_Mo_scan_5 : decode b_Mo_scan 5 = .ok (.aload_n 0, 1) := by decide +kernel
theorem d_Mo_scan_6 : decode b_Mo_scan 6 = .ok (.invokevirtual 235, 3) := by decide +kernel
theorem d_Mo_scan_9 : decode b_Mo_scan 9 = .ok (.iconst 0, 1) := by decide +kernel
theorem d_Mo_scan_10 : decode b_Mo_scan 10 = .ok (.invokevirtual 338, 3) := by decide +kernel
theorem d_Mo_scan_13 : decode b_Mo_scan 13 = .ok (.lstore_n 2, 1) := by decide +kernel
theorem d_Mo_scan_14 : decode b_Mo_scan 14 = .ok (.iconst (-1), 1) := by decide +kernel
theorem d_Mo_scan_15 : decode b_Mo_scan 15 = .ok (.istore 4, 2) := by decide +kernel
theorem d_Mo_scan_17 : decode b_Mo_scan 17 = .ok (.iconst (-1), 1) := by decide +kernel
theorem d_Mo_scan_18 : decode b_Mo_scan 18 = .ok (.istore 5, 2) := by decide +kernel
theorem d_Mo_scan_20 : decode b_Mo_scan 20 = .ok (.iconst 0, 1) := by decide +kernel
theorem d_Mo_scan_21 : decode b_Mo_scan 21 = .ok (.istore 6, 2) := by decide +kernel
theorem d_Mo_scan_23 : decode b_Mo_scan 23 = .ok (.iload 6, 2) := by decide +kernel
theorem d_Mo_scan_25 : decode b_Mo_scan 25 = .ok (.bipush 64, 2) := by decide +kernel
theorem d_Mo_scan_27 : decode b_Mo_scan 27 = .ok (.if_icmp .ge 37, 3) := by decide +kernel
theorem d_Mo_scan_64 : decode b_Mo_scan 64 = .ok (.iconst 0, 1) := by decide +kernel
theorem d_Mo_scan_65 : decode b_Mo_scan 65 = .ok (.istore 6, 2) := by decide +kernel
theorem d_Mo_scan_67 : decode b_Mo_scan 67 = .ok (.iload 6, 2) := by decide +kernel
theorem d_Mo_scan_69 : decode b_Mo_scan 69 = .ok (.bipush 7, 2) := by decide +kernel
theorem d_Mo_scan_71 : decode b_Mo_scan 71 = .ok (.if_icmp .ge 21, 3) := by decide +kernel
theorem d_Mo_scan_92 : decode b_Mo_scan 92 = .ok (.aload_n 0, 1) := by decide +kernel
theorem d_Mo_scan_93 : decode b_Mo_scan 93 = .ok (.getfield 21, 3) := by decide +kernel
theorem d_Mo_scan_96 : decode b_Mo_scan 96 = .ok (.iconst 3, 1) := by decide +kernel
theorem d_Mo_scan_97 : decode b_Mo_scan 97 = .ok (.iload 4, 2) := by decide +kernel
theorem d_Mo_scan_99 : decode b_Mo_scan 99 = .ok (.iconst (-1), 1) := by decide +kernel
theorem d_Mo_scan_100 : decode b_Mo_scan 100 = .ok (.if_icmp .ne 7, 3) := by decide +kernel
theorem d_Mo_scan_107 : decode b_Mo_scan 107 = .ok (.iconst 0, 1) := by decide +kernel
theorem d_Mo_scan_108 : decode b_Mo_scan 108 = .ok (.bastore, 1) := by decide +kernel
theorem d_Mo_scan_109 : decode b_Mo_scan 109 = .ok (.iload 4, 2) := by decide +kernel
theorem d_Mo_scan_111 : decode b_Mo_scan 111 = .ok (.iconst (-1), 1) := by decide +kernel
theorem d_Mo_scan_112 : decode b_Mo_scan 112 = .ok (.if_icmp .eq 27, 3) := by decide +kernel
theorem d_Mo_scan_139 : decode b_Mo_scan 139 = .ok (.return_, 1) := by decide +kernel
theorem d_Mo_scan_115 : decode b_Mo_scan 115 = .ok (.aload_n 0, 1) := by decide +kernel
theorem d_Mo_scan_116 : decode b_Mo_scan 116 = .ok (.aload_n 0, 1) := by decide +kernel
theorem d_Mo_scan_117 : decode b_Mo_scan 117 = .ok (.invokevirtual 235, 3) := by decide +kernel
theorem d_Mo_scan_120 : decode b_Mo_scan 120 = .ok (.iload_n 1, 1) := by decide +kernel
theorem d_Mo_scan_121 : decode b_Mo_scan 121 = .ok (.sipush 188, 3) := by decide +kernel
theorem d_Mo_scan_124 : decode b_Mo_scan 124 = .ok (.if_icmp .ne 9, 3) := by decide +kernel
theorem d_Mo_scan_133 : decode b_Mo_scan 133 = .ok (.iload 5, 2) := by decide +kernel
theorem d_Mo_scan_135 : decode b_Mo_scan 135 = .ok (.i2l, 1) := by decide +kernel
theorem d_Mo_scan_136 : decode b_Mo_scan 136 = .ok (.invokevirtual 344, 3) := by decide +kernel
theorem d_Mo_scan_127 : decode b_Mo_scan 127 = .ok (.iload 4, 2) := by decide +kernel
theorem d_Mo_scan_129 : decode b_Mo_scan 129 = .ok (.i2l, 1) := by decide +kernel
theorem d_Mo_scan_130 : decode b_Mo_scan 130 = .ok (.goto 6, 3) := by decide +kernel
theorem d_Mo_scan_103 : decode b_Mo_scan 103 = .ok (.iconst 1, 1) := by decide +kernel
theorem d_Mo_scan_104 : decode b_Mo_scan 104 = .ok (.goto 4, 3) := by decide +kernel
theorem d_Mo_scan_74 : decode b_Mo_scan 74 = .ok (.iload 6, 2) := by decide +kernel
theorem d_Mo_scan_76 : decode b_Mo_scan 76 = .ok (.iconst 5, 1) := by decide +kernel
theorem d_Mo_scan_77 : decode b_Mo_scan 77 = .ok (.if_icmp .eq 9, 3) := by decide +kernel
theorem d_Mo_scan_86 : decode b_Mo_scan 86 = .ok (.iinc 6 1, 3) := by decide +kernel
theorem d_Mo_scan_89 : decode b_Mo_scan 89 = .ok (.goto (-22), 3) := by decide +kernel
theorem d_Mo_scan_80 : decode b_Mo_scan 80 = .ok (.aload_n 0, 1) := by decide +kernel
theorem d_Mo_scan_81 : decode b_Mo_scan 81 = .ok (.iload 6, 2) := by decide +kernel
theorem d_Mo_scan_83 : decode b_Mo_scan 83 = .ok (.invokevirtual 219, 3) := by decide +kernel
theorem d_Mo_scan_30 : decode b_Mo_scan 30 = .ok (.lload_n 2, 1) := by decide +kernel
theorem d_Mo_scan_31 : decode b_Mo_scan 31 = .ok (.iload 6, 2) := by decide +kernel
theorem d_Mo_scan_33 : decode b_Mo_scan 33 = .ok (.lushr, 1) := by decide +kernel
theorem d_Mo_scan_34 : decode b_Mo_scan 34 = .ok (.lconst 1, 1) := by decide +kernel
theorem d_Mo_scan_35 : decode b_Mo_scan 35 = .ok (.land, 1) := by decide +kernel
theorem d_Mo_scan_36 : decode b_Mo_scan 36 = .ok (.lconst 0, 1) := by decide +kernel
theorem d_Mo_scan_37 : decode b_Mo_scan 37 = .ok (.lcmp, 1) := by decide +kernel
theorem d_Mo_scan_38 : decode b_Mo_scan 38 = .ok (.ifCond .ne 6, 3) := by decide +kernel
theorem d_Mo_scan_44 : decode b_Mo_scan 44 = .ok (.iload 6, 2) := by decide +kernel
theorem d_Mo_scan_46 : decode b_Mo_scan 46 = .ok (.istore 5, 2) := by decide +kernel
theorem d_Mo_scan_48 : decode b_Mo_scan 48 = .ok (.iload 4, 2) := by decide +kernel
