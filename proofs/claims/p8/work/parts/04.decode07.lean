theorem d_Mo_e_29 : decode b_Mo_e 29 = .ok (.iload_n 1, 1) := by decide +kernel
theorem d_Mo_e_30 : decode b_Mo_e 30 = .ok (.iload_n 2, 1) := by decide +kernel
theorem d_Mo_e_31 : decode b_Mo_e 31 = .ok (.aload_n 0, 1) := by decide +kernel
theorem d_Mo_ofStack_0 : decode b_Mo_ofStack 0 = .ok (.aload_n 0, 1) := by decide +kernel
theorem d_Mo_ofStack_1 : decode b_Mo_ofStack 1 = .ok (.getfield 145, 3) := by decide +kernel
theorem d_Mo_ofStack_4 : decode b_Mo_ofStack 4 = .ok (.iconst 4, 1) := by decide +kernel
theorem d_Mo_ofStack_5 : decode b_Mo_ofStack 5 = .ok (.if_icmp .eq 11, 3) := by decide +kernel
theorem d_Mo_ofStack_16 : decode b_Mo_ofStack 16 = .ok (.iconst 1, 1) := by decide +kernel
theorem d_Mo_ofStack_17 : decode b_Mo_ofStack 17 = .ok (.goto 4, 3) := by decide +kernel
theorem d_Mo_ofStack_21 : decode b_Mo_ofStack 21 = .ok (.ireturn, 1) := by decide +kernel
theorem d_Mo_ofStack_8 : decode b_Mo_ofStack 8 = .ok (.aload_n 0, 1) := by decide +kernel
theorem d_Mo_ofStack_9 : decode b_Mo_ofStack 9 = .ok (.getfield 145, 3) := by decide +kernel
theorem d_Mo_ofStack_12 : decode b_Mo_ofStack 12 = .ok (.iconst 5, 1) := by decide +kernel
theorem d_Mo_ofStack_13 : decode b_Mo_ofStack 13 = .ok (.if_icmp .ne 7, 3) := by decide +kernel
theorem d_Mo_ofStack_20 : decode b_Mo_ofStack 20 = .ok (.iconst 0, 1) := by decide +kernel
theorem d_Mo_e_32 : decode b_Mo_e 32 = .ok (.invokevirtual 197, 3) := by decide +kernel
theorem d_Mo_e_35 : decode b_Mo_e 35 = .ok (.invokevirtual 95, 3) := by decide +kernel
theorem d_Mo_e_38 : decode b_Mo_e 38 = .ok (.aload_n 0, 1) := by decide +kernel
theorem d_Mo_e_39 : decode b_Mo_e 39 = .ok (.getfield 28, 3) := by decide +kernel
theorem d_Mo_e_42 : decode b_Mo_e 42 = .ok (.iconst (-1), 1) := by decide +kernel
theorem d_Mo_e_43 : decode b_Mo_e 43 = .ok (.if_icmp .ne 11, 3) := by decide +kernel
theorem d_Mo_e_54 : decode b_Mo_e 54 = .ok (.lconst 0, 1) := by decide +kernel
theorem d_Mo_e_55 : decode b_Mo_e 55 = .ok (.lreturn, 1) := by decide +kernel
theorem d_Mo_e_46 : decode b_Mo_e 46 = .ok (.aload_n 0, 1) := by decide +kernel
theorem d_Mo_e_47 : decode b_Mo_e 47 = .ok (.iload_n 1, 1) := by decide +kernel
theorem d_Mo_held_0 : decode b_Mo_held 0 = .ok (.lconst 0, 1) := by decide +kernel
theorem d_Mo_held_1 : decode b_Mo_held 1 = .ok (.lstore_n 2, 1) := by decide +kernel
theorem d_Mo_held_2 : decode b_Mo_held 2 = .ok (.iconst 0, 1) := by decide +kernel
theorem d_Mo_held_3 : decode b_Mo_held 3 = .ok (.istore 4, 2) := by decide +kernel
theorem d_Mo_held_5 : decode b_Mo_held 5 = .ok (.iload 4, 2) := by decide +kernel
theorem d_Mo_held_7 : decode b_Mo_held 7 = .ok (.iload_n 1, 1) := by decide +kernel
theorem d_Mo_held_8 : decode b_Mo_held 8 = .ok (.if_icmp .ge 30, 3) := by decide +kernel
theorem d_Mo_held_38 : decode b_Mo_held 38 = .ok (.lload_n 2, 1) := by decide +kernel
theorem d_Mo_held_39 : decode b_Mo_held 39 = .ok (.lreturn, 1) := by decide +kernel
theorem d_Mo_held_11 : decode b_Mo_held 11 = .ok (.lload_n 2, 1) := by decide +kernel
theorem d_Mo_held_12 : decode b_Mo_held 12 = .ok (.aload_n 0, 1) := by decide +kernel
theorem d_Mo_held_13 : decode b_Mo_held 13 = .ok (.aload_n 0, 1) := by decide +kernel
theorem d_Mo_held_14 : decode b_Mo_held 14 = .ok (.getfield 39, 3) := by decide +kernel
theorem d_Mo_held_17 : decode b_Mo_held 17 = .ok (.iload 4, 2) := by decide +kernel
theorem d_Mo_held_19 : decode b_Mo_held 19 = .ok (.laload, 1) := by decide +kernel
theorem d_Mo_held_20 : decode b_Mo_held 20 = .ok (.invokevirtual 44, 3) := by decide +kernel
theorem d_Mo_held_23 : decode b_Mo_held 23 = .ok (.i2l, 1) := by decide +kernel
theorem d_Mo_held_24 : decode b_Mo_held 24 = .ok (.bipush 8, 2) := by decide +kernel
theorem d_Mo_held_26 : decode b_Mo_held 26 = .ok (.iload 4, 2) := by decide +kernel
theorem d_Mo_held_28 : decode b_Mo_held 28 = .ok (.imul, 1) := by decide +kernel
theorem d_Mo_held_29 : decode b_Mo_held 29 = .ok (.lshl, 1) := by decide +kernel
theorem d_Mo_held_30 : decode b_Mo_held 30 = .ok (.lor, 1) := by decide +kernel
theorem d_Mo_held_31 : decode b_Mo_held 31 = .ok (.lstore_n 2, 1) := by decide +kernel
theorem d_Mo_held_32 : decode b_Mo_held 32 = .ok (.iinc 4 1, 3) := by decide +kernel
theorem d_Mo_held_35 : decode b_Mo_held 35 = .ok (.goto (-30), 3) := by decide +kernel
theorem d_Mo_e_48 : decode b_Mo_e 48 = .ok (.invokevirtual 99, 3) := by decide +kernel
theorem d_Mo_e_51 : decode b_Mo_e 51 = .ok (.goto 4, 3) := by decide +kernel
theorem d_Mo_e_8 : decode b_Mo_e 8 = .ok (.aload_n 0, 1) := by decide +kernel
theorem d_Mo_e_9 : decode b_Mo_e 9 = .ok (.aload_n 0, 1) := by decide +kernel
theorem d_Mo_e_10 : decode b_Mo_e 10 = .ok (.getfield 142, 3) := by decide +kernel
theorem d_Mo_e_13 : decode b_Mo_e 13 = .ok (.aload_n 0, 1) := by decide +kernel
theorem d_Mo_e_14 : decode b_Mo_e 14 = .ok (.iconst 1, 1) := by decide +kernel
theorem d_Mo_e_15 : decode b_Mo_e 15 = .ok (.invokevirtual 157, 3) := by decide +kernel
theorem d_Mo_e_18 : decode b_Mo_e 18 = .ok (.iadd, 1) := by decide +kernel
theorem d_Mo_e_19 : decode b_Mo_e 19 = .ok (.iload_n 1, 1) := by decide +kernel
theorem d_Mo_get8_0 : decode b_Mo_get8 0 = .ok (.aload_n 0, 1) := by decide +kernel
theorem d_Mo_get8_1 : decode b_Mo_get8 1 = .ok (.iload_n 1, 1) := by decide +kernel
theorem d_Mo_get8_2 : decode b_Mo_get8 2 = .ok (.iload_n 2, 1) := by decide +kernel
theorem d_Mo_isHigh_0 : decode b_Mo_isHigh 0 = .ok (.iload_n 2, 1) := by decide +kernel
theorem d_Mo_isHigh_1 : decode b_Mo_isHigh 1 = .ok (.iconst 1, 1) := by decide +kernel
theorem d_Mo_isHigh_2 : decode b_Mo_isHigh 2 = .ok (.if_icmp .ne 25, 3) := by decide +kernel
theorem d_Mo_isHigh_27 : decode b_Mo_isHigh 27 = .ok (.iconst 0, 1) := by decide +kernel
theorem d_Mo_isHigh_28 : decode b_Mo_isHigh 28 = .ok (.ireturn, 1) := by decide +kernel
theorem d_Mo_isHigh_5 : decode b_Mo_isHigh 5 = .ok (.aload_n 0, 1) := by decide +kernel
theorem d_Mo_isHigh_6 : decode b_Mo_isHigh 6 = .ok (.getfield 121, 3) := by decide +kernel
theorem d_Mo_isHigh_9 : decode b_Mo_isHigh 9 = .ok (.ifCond .ne 18, 3) := by decide +kernel
theorem d_Mo_isHigh_12 : decode b_Mo_isHigh 12 = .ok (.iload_n 1, 1) := by decide +kernel
theorem d_Mo_isHigh_13 : decode b_Mo_isHigh 13 = .ok (.iconst 4, 1) := by decide +kernel
theorem d_Mo_isHigh_14 : decode b_Mo_isHigh 14 = .ok (.if_icmp .lt 13, 3) := by decide +kernel
theorem d_Mo_isHigh_17 : decode b_Mo_isHigh 17 = .ok (.iload_n 1, 1) := by decide +kernel
theorem d_Mo_isHigh_18 : decode b_Mo_isHigh 18 = .ok (.bipush 8, 2) := by decide +kernel
theorem d_Mo_isHigh_20 : decode b_Mo_isHigh 20 = .ok (.if_icmp .ge 7, 3) := by decide +kernel
theorem d_Mo_isHigh_23 : decode b_Mo_isHigh 23 = .ok (.iconst 1, 1) := by decide +kernel
theorem d_Mo_isHigh_24 : decode b_Mo_isHigh 24 = .ok (.goto 4, 3) := by decide +kernel
theorem d_Mo_get8_3 : decode b_Mo_get8 3 = .ok (.invokevirtual 176, 3) := by decide +kernel
theorem d_Mo_get8_6 : decode b_Mo_get8 6 = .ok (.ifCond .eq 21, 3) := by decide +kernel
theorem d_Mo_get8_27 : decode b_Mo_get8 27 = .ok (.aload_n 0, 1) := by decide +kernel
theorem d_Mo_get8_28 : decode b_Mo_get8 28 = .ok (.getfield 14, 3) := by decide +kernel
theorem d_Mo_get8_31 : decode b_Mo_get8 31 = .ok (.iload_n 1, 1) := by decide +kernel
theorem d_Mo_get8_32 : decode b_Mo_get8 32 = .ok (.laload, 1) := by decide +kernel
theorem d_Mo_get8_33 : decode b_Mo_get8 33 = .ok (.iload_n 2, 1) := by decide +kernel
theorem d_Mo_get8_34 : decode b_Mo_get8 34 = .ok (.invokestatic 180, 3) := by decide +kernel
theorem d_Mo_get8_37 : decode b_Mo_get8 37 = .ok (.lreturn, 1) := by decide +kernel
theorem d_Mo_get8_9 : decode b_Mo_get8 9 = .ok (.aload_n 0, 1) := by decide +kernel
theorem d_Mo_get8_10 : decode b_Mo_get8 10 = .ok (.getfield 14, 3) := by decide +kernel
theorem d_Mo_get8_13 : decode b_Mo_get8 13 = .ok (.iload_n 1, 1) := by decide +kernel
theorem d_Mo_get8_14 : decode b_Mo_get8 14 = .ok (.iconst 4, 1) := by decide +kernel
theorem d_Mo_get8_15 : decode b_Mo_get8 15 = .ok (.isub, 1) := by decide +kernel
theorem d_Mo_get8_16 : decode b_Mo_get8 16 = .ok (.laload, 1) := by decide +kernel
theorem d_Mo_get8_17 : decode b_Mo_get8 17 = .ok (.bipush 8, 2) := by decide +kernel
theorem d_Mo_get8_19 : decode b_Mo_get8 19 = .ok (.lushr, 1) := by decide +kernel
theorem d_Mo_get8_20 : decode b_Mo_get8 20 = .ok (.ldc2_w 106, 3) := by decide +kernel
theorem d_Mo_get8_23 : decode b_Mo_get8 23 = .ok (.land, 1) := by decide +kernel
theorem d_Mo_get8_24 : decode b_Mo_get8 24 = .ok (.goto 13, 3) := by decide +kernel
theorem d_Mo_e_20 : decode b_Mo_e 20 = .ok (.invokevirtual 185, 3) := by decide +kernel
theorem d_Mo_e_23 : decode b_Mo_e 23 = .ok (.lreturn, 1) := by decide +kernel
theorem d_Mo_group_49 : decode b_Mo_group 49 = .ok (.invokevirtual 338, 3) := by decide +kernel
theorem d_Mo_group_52 : decode b_Mo_group 52 = .ok (.lload_n 3, 1) := by decide +kernel
theorem d_Mo_group_53 : decode b_Mo_group 53 = .ok (.iload_n 2, 1) := by decide +kernel
theorem d_Mo_reckon_0 : decode b_Mo_reckon 0 = .ok (.iload_n 1, 1) := by decide +kernel
theorem d_Mo_reckon_1 : decode b_Mo_reckon 1 = .ok (.iconst 1, 1) := by decide +kernel
theorem d_Mo_reckon_2 : decode b_Mo_reckon 2 = .ok (.if_icmp .ne 14, 3) := by decide +kernel
theorem d_Mo_reckon_16 : decode b_Mo_reckon 16 = .ok (.iload_n 1, 1) := by decide +kernel
theorem d_Mo_reckon_17 : decode b_Mo_reckon 17 = .ok (.iconst 4, 1) := by decide +kernel
theorem d_Mo_reckon_18 : decode b_Mo_reckon 18 = .ok (.if_icmp .ne 14, 3) := by decide +kernel
theorem d_Mo_reckon_32 : decode b_Mo_reckon 32 = .ok (.iload_n 1, 1) := by decide +kernel
theorem d_Mo_reckon_33 : decode b_Mo_reckon 33 = .ok (.bipush 6, 2) := by decide +kernel
theorem d_Mo_reckon_35 : decode b_Mo_reckon 35 = .ok (.if_icmp .ne 14, 3) := by decide +kernel
theorem d_Mo_reckon_49 : decode b_Mo_reckon 49 = .ok (.iload_n 1, 1) := by decide +kernel
theorem d_Mo_reckon_50 : decode b_Mo_reckon 50 = .ok (.iconst 3, 1) := by decide +kernel
theorem d_Mo_reckon_51 : decode b_Mo_reckon 51 = .ok (.if_icmp .eq 14, 3) := by decide +kernel
theorem d_Mo_reckon_65 : decode b_Mo_reckon 65 = .ok (.iconst 1, 1) := by decide +kernel
theorem d_Mo_reckon_66 : decode b_Mo_reckon 66 = .ok (.goto 4, 3) := by decide +kernel
theorem d_Mo_reckon_70 : decode b_Mo_reckon 70 = .ok (.istore 7, 2) := by decide +kernel
theorem d_Mo_reckon_72 : decode b_Mo_reckon 72 = .ok (.aload_n 0, 1) := by decide +kernel
theorem d_Mo_reckon_73 : decode b_Mo_reckon 73 = .ok (.lload_n 2, 1) := by decide +kernel
theorem d_Mo_reckon_74 : decode b_Mo_reckon 74 = .ok (.lload 4, 2) := by decide +kernel
theorem d_Mo_reckon_76 : decode b_Mo_reckon 76 = .ok (.iload_n 1, 1) := by decide +kernel
theorem d_Mo_reckon_77 : decode b_Mo_reckon 77 = .ok (.iconst 2, 1) := by decide +kernel
theorem d_Mo_reckon_78 : decode b_Mo_reckon 78 = .ok (.if_icmp .eq 8, 3) := by decide +kernel
theorem d_Mo_reckon_86 : decode b_Mo_reckon 86 = .ok (.aload_n 0, 1) := by decide +kernel
theorem d_Mo_reckon_87 : decode b_Mo_reckon 87 = .ok (.getfield 21, 3) := by decide +kernel
theorem d_Mo_reckon_90 : decode b_Mo_reckon 90 = .ok (.iconst 0, 1) := by decide +kernel
theorem d_Mo_reckon_91 : decode b_Mo_reckon 91 = .ok (.baload, 1) := by decide +kernel
theorem d_Mo_reckon_92 : decode b_Mo_reckon 92 = .ok (.ifCond .eq 7, 3) := by decide +kernel
theorem d_Mo_reckon_99 : decode b_Mo_reckon 99 = .ok (.iconst 0, 1) := by decide +kernel
theorem d_Mo_reckon_100 : decode b_Mo_reckon 100 = .ok (.iload 7, 2) := by decide +kernel
theorem d_Mo_reckon_102 : decode b_Mo_reckon 102 = .ok (.iload 6, 2) := by decide +kernel
theorem d_Mo_add_0 : decode b_Mo_add 0 = .ok (.lconst 0, 1) := by decide +kernel
theorem d_Mo_add_1 : decode b_Mo_add 1 = .ok (.lstore 8, 2) := by decide +kernel
theorem d_Mo_add_3 : decode b_Mo_add 3 = .ok (.iload 5, 2) := by decide +kernel
theorem d_Mo_add_5 : decode b_Mo_add 5 = .ok (.ifCond .eq 7, 3) := by decide +kernel
theorem d_Mo_add_12 : decode b_Mo_add 12 = .ok (.iconst 0, 1) := by decide +kernel
theorem d_Mo_add_13 : decode b_Mo_add 13 = .ok (.istore 10, 2) := by decide +kernel
theorem d_Mo_add_15 : decode b_Mo_add 15 = .ok (.iconst 0, 1) := by decide +kernel
theorem d_Mo_add_16 : decode b_Mo_add 16 = .ok (.istore 11, 2) := by decide +kernel
theorem d_Mo_add_18 : decode b_Mo_add 18 = .ok (.iconst 0, 1) := by decide +kernel
theorem d_Mo_add_19 : decode b_Mo_add 19 = .ok (.istore 12, 2) := by decide +kernel
theorem d_Mo_add_21 : decode b_Mo_add 21 = .ok (.iload 12, 2) := by decide +kernel
theorem d_Mo_add_23 : decode b_Mo_add 23 = .ok (.bipush 8, 2) := by decide +kernel
theorem d_Mo_add_25 : decode b_Mo_add 25 = .ok (.iload 7, 2) := by decide +kernel
theorem d_Mo_add_27 : decode b_Mo_add 27 = .ok (.imul, 1) := by decide +kernel
theorem d_Mo_add_28 : decode b_Mo_add 28 = .ok (.if_icmp .ge 121, 3) := by decide +kernel
theorem d_Mo_add_149 : decode b_Mo_add 149 = .ok (.aload_n 0, 1) := by decide +kernel
theorem d_Mo_add_150 : decode b_Mo_add 150 = .ok (.getfield 21, 3) := by decide +kernel
theorem d_Mo_add_153 : decode b_Mo_add 153 = .ok (.iconst 0, 1) := by decide +kernel
theorem d_Mo_add_154 : decode b_Mo_add 154 = .ok (.iload 10, 2) := by decide +kernel
theorem d_Mo_add_156 : decode b_Mo_add 156 = .ok (.iconst 1, 1) := by decide +kernel
theorem d_Mo_add_157 : decode b_Mo_add 157 = .ok (.if_icmp .ne 7, 3) := by decide +kernel
theorem d_Mo_add_164 : decode b_Mo_add 164 = .ok (.iconst 0, 1) := by decide +kernel
theorem d_Mo_add_165 : decode b_Mo_add 165 = .ok (.bastore, 1) := by decide +kernel
theorem d_Mo_add_166 : decode b_Mo_add 166 = .ok (.aload_n 0, 1) := by decide +kernel
theorem d_Mo_add_167 : decode b_Mo_add 167 = .ok (.getfield 21, 3) := by decide +kernel
theorem d_Mo_add_170 : decode b_Mo_add 170 = .ok (.bipush 6, 2) := by decide +kernel
theorem d_Mo_add_172 : decode b_Mo_add 172 = .ok (.iload 10, 2) := by decide +kernel
theorem d_Mo_add_174 : decode b_Mo_add 174 = .ok (.iload 11, 2) := by decide +kernel
theorem d_Mo_add_176 : decode b_Mo_add 176 = .ok (.if_icmp .eq 7, 3) := by decide +kernel
theorem d_Mo_add_183 : decode b_Mo_add 183 = .ok (.iconst 0, 1) := by decide +kernel
theorem d_Mo_add_184 : decode b_Mo_add 184 = .ok (.bastore, 1) := by decide +kernel
theorem d_Mo_add_185 : decode b_Mo_add 185 = .ok (.aload_n 0, 1) := by decide +kernel
theorem d_Mo_add_186 : decode b_Mo_add 186 = .ok (.lload 8, 2) := by decide +kernel
theorem d_Mo_add_188 : decode b_Mo_add 188 = .ok (.iload 7, 2) := by decide +kernel
theorem d_Mo_result_0 : decode b_Mo_result 0 = .ok (.iconst 1, 1) := by decide +kernel
theorem d_Mo_result_1 : decode b_Mo_result 1 = .ok (.istore 4, 2) := by decide +kernel
theorem d_Mo_result_3 : decode b_Mo_result 3 = .ok (.iconst 0, 1) := by decide +kernel
theorem d_Mo_result_4 : decode b_Mo_result 4 = .ok (.istore 5, 2) := by decide +kernel
theorem d_Mo_result_6 : decode b_Mo_result 6 = .ok (.iconst 0, 1) := by decide +kernel
theorem d_Mo_result_7 : decode b_Mo_result 7 = .ok (.istore 6, 2) := by decide +kernel
theorem d_Mo_result_9 : decode b_Mo_result 9 = .ok (.iload 6, 2) := by decide +kernel
theorem d_Mo_result_11 : decode b_Mo_result 11 = .ok (.bipush 8, 2) := by decide +kernel
theorem d_Mo_result_13 : decode b_Mo_result 13 = .ok (.iload_n 3, 1) := by decide +kernel
theorem d_Mo_result_14 : decode b_Mo_result 14 = .ok (.imul, 1) := by decide +kernel
theorem d_Mo_result_15 : decode b_Mo_result 15 = .ok (.if_icmp .ge 32, 3) := by decide +kernel
theorem d_Mo_result_47 : decode b_Mo_result 47 = .ok (.iconst 0, 1) := by decide +kernel
theorem d_Mo_result_48 : decode b_Mo_result 48 = .ok (.istore 6, 2) := by decide +kernel
theorem d_Mo_result_50 : decode b_Mo_result 50 = .ok (.iload 6, 2) := by decide +kernel
theorem d_Mo_result_52 : decode b_Mo_result 52 = .ok (.bipush 8, 2) := by decide +kernel
theorem d_Mo_result_54 : decode b_Mo_result 54 = .ok (.if_icmp .ge 21, 3) := by decide +kernel
theorem d_Mo_result_75 : decode b_Mo_result 75 = .ok (.aload_n 0, 1) := by decide +kernel
theorem d_Mo_result_76 : decode b_Mo_result 76 = .ok (.getfield 21, 3) := by decide +kernel
theorem d_Mo_result_79 : decode b_Mo_result 79 = .ok (.iconst 3, 1) := by decide +kernel
theorem d_Mo_result_80 : decode b_Mo_result 80 = .ok (.iload 4, 2) := by decide +kernel
theorem d_Mo_result_82 : decode b_Mo_result 82 = .ok (.bastore, 1) := by decide +kernel
theorem d_Mo_result_83 : decode b_Mo_result 83 = .ok (.aload_n 0, 1) := by decide +kernel
theorem d_Mo_result_84 : decode b_Mo_result 84 = .ok (.getfield 21, 3) := by decide +kernel
theorem d_Mo_result_87 : decode b_Mo_result 87 = .ok (.iconst 4, 1) := by decide +kernel
theorem d_Mo_result_88 : decode b_Mo_result 88 = .ok (.lload_n 1, 1) := by decide +kernel
theorem d_Mo_result_89 : decode b_Mo_result 89 = .ok (.iload_n 3, 1) := by decide +kernel
theorem d_Mo_top_0 : decode b_Mo_top 0 = .ok (.lload_n 0, 1) := by decide +kernel
theorem d_Mo_top_1 : decode b_Mo_top 1 = .ok (.bipush 8, 2) := by decide +kernel
theorem d_Mo_top_3 : decode b_Mo_top 3 = .ok (.iload_n 2, 1) := by decide +kernel
theorem d_Mo_top_4 : decode b_Mo_top 4 = .ok (.imul, 1) := by decide +kernel
theorem d_Mo_top_5 : decode b_Mo_top 5 = .ok (.iconst 1, 1) := by decide +kernel
theorem d_Mo_top_6 : decode b_Mo_top 6 = .ok (.isub, 1) := by decide +kernel
theorem d_Mo_top_7 : decode b_Mo_top 7 = .ok (.lushr, 1) := by decide +kernel
theorem d_Mo_top_8 : decode b_Mo_top 8 = .ok (.lconst 1, 1) := by decide +kernel
theorem d_Mo_top_9 : decode b_Mo_top 9 = .ok (.land, 1) := by decide +kernel
theorem d_Mo_top_10 : decode b_Mo_top 10 = .ok (.lconst 1, 1) := by decide +kernel
theorem d_Mo_top_11 : decode b_Mo_top 11 = .ok (.lcmp, 1) := by decide +kernel
theorem d_Mo_top_12 : decode b_Mo_top 12 = .ok (.ifCond .ne 7, 3) := by decide +kernel
theorem d_Mo_top_19 : decode b_Mo_top 19 = .ok (.iconst 0, 1) := by decide +kernel
theorem d_Mo_top_20 : decode b_Mo_top 20 = .ok (.ireturn, 1) := by decide +kernel
theorem d_Mo_top_15 : decode b_Mo_top 15 = .ok (.iconst 1, 1) := by decide +kernel
theorem d_Mo_top_16 : decode b_Mo_top 16 = .ok (.goto 4, 3) := by decide +kernel
theorem d_Mo_result_90 : decode b_Mo_result 90 = .ok (.invokestatic 212, 3) := by decide +kernel
theorem d_Mo_result_93 : decode b_Mo_result 93 = .ok (.bastore, 1) := by decide +kernel
theorem d_Mo_result_94 : decode b_Mo_result 94 = .ok (.aload_n 0, 1) := by decide +kernel
theorem d_Mo_result_95 : decode b_Mo_result 95 = .ok (.getfield 21, 3) := by decide +kernel
theorem d_Mo_result_98 : decode b_Mo_result 98 = .ok (.iconst 1, 1) := by decide +kernel
theorem d_Mo_result_99 : decode b_Mo_result 99 = .ok (.iload 5, 2) := by decide +kernel
theorem d_Mo_result_101 : decode b_Mo_result 101 = .ok (.iconst 2, 1) := by decide +kernel
theorem d_Mo_result_102 : decode b_Mo_result 102 = .ok (.irem, 1) := by decide +kernel
theorem d_Mo_result_103 : decode b_Mo_result 103 = .ok (.ifCond .ne 7, 3) := by decide +kernel
theorem d_Mo_result_110 : decode b_Mo_result 110 = .ok (.iconst 0, 1) := by decide +kernel
theorem d_Mo_result_111 : decode b_Mo_result 111 = .ok (.bastore, 1) := by decide +kernel
theorem d_Mo_result_112 : decode b_Mo_result 112 = .ok (.return_, 1) := by decide +kernel
theorem d_Mo_result_106 : decode b_Mo_result 106 = .ok (.iconst 1, 1) := by decide +kernel
theorem d_Mo_result_107 : decode b_Mo_result 107 = .ok (.goto 4, 3) := by decide +kernel
theorem d_Mo_result_57 : decode b_Mo_result 57 = .ok (.iload 5, 2) := by decide +kernel
theorem d_Mo_result_59 : decode b_Mo_result 59 = .ok (.lload_n 1, 1) := by decide +kernel
theorem d_Mo_result_60 : decode b_Mo_result 60 = .ok (.iload 6, 2) := by decide +kernel
theorem d_Mo_result_62 : decode b_Mo_result 62 = .ok (.lushr, 1) := by decide +kernel
theorem d_Mo_result_63 : decode b_Mo_result 63 = .ok (.lconst 1, 1) := by decide +kernel
theorem d_Mo_result_64 : decode b_Mo_result 64 = .ok (.land, 1) := by decide +kernel
theorem d_Mo_result_65 : decode b_Mo_result 65 = .ok (.l2i, 1) := by decide +kernel
theorem d_Mo_result_66 : decode b_Mo_result 66 = .ok (.iadd, 1) := by decide +kernel
theorem d_Mo_result_67 : decode b_Mo_result 67 = .ok (.istore 5, 2) := by decide +kernel
theorem d_Mo_result_69 : decode b_Mo_result 69 = .ok (.iinc 6 1, 3) := by decide +kernel
theorem d_Mo_result_72 : decode b_Mo_result 72 = .ok (.goto (-22), 3) := by decide +kernel
theorem d_Mo_result_18 : decode b_Mo_result 18 = .ok (.iload 4, 2) := by decide +kernel
theorem d_Mo_result_20 : decode b_Mo_result 20 = .ok (.ifCond .eq 18, 3) := by decide +kernel
theorem d_Mo_result_38 : decode b_Mo_result 38 = .ok (.iconst 0, 1) := by decide +kernel
theorem d_Mo_result_39 : decode b_Mo_result 39 = .ok (.istore 4, 2) := by decide +kernel
theorem d_Mo_result_41 : decode b_Mo_result 41 = .ok (.iinc 6 1, 3) := by decide +kernel
theorem d_Mo_result_44 : decode b_Mo_result 44 = .ok (.goto (-35), 3) := by decide +kernel
theorem d_Mo_result_23 : decode b_Mo_result 23 = .ok (.lload_n 1, 1) := by decide +kernel
theorem d_Mo_result_24 : decode b_Mo_result 24 = .ok (.iload 6, 2) := by decide +kernel
theorem d_Mo_result_26 : decode b_Mo_result 26 = .ok (.lushr, 1) := by decide +kernel
theorem d_Mo_result_27 : decode b_Mo_result 27 = .ok (.lconst 1, 1) := by decide +kernel
theorem d_Mo_result_28 : decode b_Mo_result 28 = .ok (.land, 1) := by decide +kernel
theorem d_Mo_result_29 : decode b_Mo_result 29 = .ok (.lconst 0, 1) := by decide +kernel
theorem d_Mo_result_30 : decode b_Mo_result 30 = .ok (.lcmp, 1) := by decide +kernel
theorem d_Mo_result_31 : decode b_Mo_result 31 = .ok (.ifCond .ne 7, 3) := by decide +kernel
theorem d_Mo_result_34 : decode b_Mo_result 34 = .ok (.iconst 1, 1) := by decide +kernel
theorem d_Mo_result_35 : decode b_Mo_result 35 = .ok (.goto 4, 3) := by decide +kernel
theorem d_Mo_add_190 : decode b_Mo_add 190 = .ok (.invokevirtual 216, 3) := by decide +kernel
theorem d_Mo_add_193 : decode b_Mo_add 193 = .ok (.lload 8, 2) := by decide +kernel
theorem d_Mo_add_195 : decode b_Mo_add 195 = .ok (.lreturn, 1) := by decide +kernel
theorem d_Mo_add_179 : decode b_Mo_add 179 = .ok (.iconst 1, 1) := by decide +kernel
theorem d_Mo_add_180 : decode b_Mo_add 180 = .ok (.goto 4, 3) := by decide +kernel
theorem d_Mo_add_160 : decode b_Mo_add 160 = .ok (.iconst 1, 1) := by decide +kernel
theorem d_Mo_add_161 : decode b_Mo_add 161 = .ok (.goto 4, 3) := by decide +kernel
theorem d_Mo_add_31 : decode b_Mo_add 31 = .ok (.lload_n 1, 1) := by decide +kernel
theorem d_Mo_add_32 : decode b_Mo_add 32 = .ok (.iload 12, 2) := by decide +kernel
theorem d_Mo_add_34 : decode b_Mo_add 34 = .ok (.lushr, 1) := by decide +kernel
theorem d_Mo_add_35 : decode b_Mo_add 35 = .ok (.lconst 1, 1) := by decide +kernel
theorem d_Mo_add_36 : decode b_Mo_add 36 = .ok (.land, 1) := by decide +kernel
theorem d_Mo_add_37 : decode b_Mo_add 37 = .ok (.l2i, 1) := by decide +kernel
theorem d_Mo_add_38 : decode b_Mo_add 38 = .ok (.istore 13, 2) := by decide +kernel
theorem d_Mo_add_40 : decode b_Mo_add 40 = .ok (.lload_n 3, 1) := by decide +kernel
theorem d_Mo_add_41 : decode b_Mo_add 41 = .ok (.iload 12, 2) := by decide +kernel
theorem d_Mo_add_43 : decode b_Mo_add 43 = .ok (.lushr, 1) := by decide +kernel
theorem d_Mo_add_44 : decode b_Mo_add 44 = .ok (.lconst 1, 1) := by decide +kernel
theorem d_Mo_add_45 : decode b_Mo_add 45 = .ok (.land, 1) := by decide +kernel
theorem d_Mo_add_46 : decode b_Mo_add 46 = .ok (.l2i, 1) := by decide +kernel
theorem d_Mo_add_47 : decode b_Mo_add 47 = .ok (.istore 14, 2) := by decide +kernel
theorem d_Mo_add_49 : decode b_Mo_add 49 = .ok (.iload 10, 2) := by decide +kernel
theorem d_Mo_add_51 : decode b_Mo_add 51 = .ok (.istore 11, 2) := by decide +kernel
theorem d_Mo_add_53 : decode b_Mo_add 53 = .ok (.iload 6, 2) := by decide +kernel
theorem d_Mo_add_55 : decode b_Mo_add 55 = .ok (.ifCond .eq 14, 3) := by decide +kernel
theorem d_Mo_add_69 : decode b_Mo_add 69 = .ok (.iload 13, 2) := by decide +kernel
theorem d_Mo_add_71 : decode b_Mo_add 71 = .ok (.iload 14, 2) := by decide +kernel
theorem d_Mo_add_73 : decode b_Mo_add 73 = .ok (.iadd, 1) := by decide +kernel
theorem d_Mo_add_74 : decode b_Mo_add 74 = .ok (.iload 10, 2) := by decide +kernel
theorem d_Mo_add_76 : decode b_Mo_add 76 = .ok (.iadd, 1) := by decide +kernel
theorem d_Mo_add_77 : decode b_Mo_add 77 = .ok (.istore 15, 2) := by decide +kernel
theorem d_Mo_add_79 : decode b_Mo_add 79 = .ok (.iload 6, 2) := by decide +kernel
theorem d_Mo_add_81 : decode b_Mo_add 81 = .ok (.ifCond .eq 16, 3) := by decide +kernel
theorem d_Mo_add_97 : decode b_Mo_add 97 = .ok (.iload 15, 2) := by decide +kernel
theorem d_Mo_add_99 : decode b_Mo_add 99 = .ok (.iconst 2, 1) := by decide +kernel
theorem d_Mo_add_100 : decode b_Mo_add 100 = .ok (.idiv, 1) := by decide +kernel
theorem d_Mo_add_101 : decode b_Mo_add 101 = .ok (.istore 10, 2) := by decide +kernel
theorem d_Mo_add_103 : decode b_Mo_add 103 = .ok (.iload 15, 2) := by decide +kernel
theorem d_Mo_add_105 : decode b_Mo_add 105 = .ok (.iconst 1, 1) := by decide +kernel
theorem d_Mo_add_106 : decode b_Mo_add 106 = .ok (.iand, 1) := by decide +kernel
theorem d_Mo_add_107 : decode b_Mo_add 107 = .ok (.iconst 1, 1) := by decide +kernel
theorem d_Mo_add_108 : decode b_Mo_add 108 = .ok (.if_icmp .ne 12, 3) := by decide +kernel
theorem d_Mo_add_120 : decode b_Mo_add 120 = .ok (.iload 12, 2) := by decide +kernel
theorem d_Mo_add_122 : decode b_Mo_add 122 = .ok (.iconst 3, 1) := by decide +kernel
theorem d_Mo_add_123 : decode b_Mo_add 123 = .ok (.if_icmp .ne 20, 3) := by decide +kernel
theorem d_Mo_add_143 : decode b_Mo_add 143 = .ok (.iinc 12 1, 3) := by decide +kernel
theorem d_Mo_add_146 : decode b_Mo_add 146 = .ok (.goto (-125), 3) := by decide +kernel
theorem d_Mo_add_126 : decode b_Mo_add 126 = .ok (.aload_n 0, 1) := by decide +kernel
theorem d_Mo_add_127 : decode b_Mo_add 127 = .ok (.getfield 21, 3) := by decide +kernel
theorem d_Mo_add_130 : decode b_Mo_add 130 = .ok (.iconst 2, 1) := by decide +kernel
theorem d_Mo_add_131 : decode b_Mo_add 131 = .ok (.iload 10, 2) := by decide +kernel
theorem d_Mo_add_133 : decode b_Mo_add 133 = .ok (.iconst 1, 1) := by decide +kernel
theorem d_Mo_add_134 : decode b_Mo_add 134 = .ok (.if_icmp .ne 7, 3) := by decide +kernel
theorem d_Mo_add_141 : decode b_Mo_add 141 = .ok (.iconst 0, 1) := by decide +kernel
theorem d_Mo_add_142 : decode b_Mo_add 142 = .ok (.bastore, 1) := by decide +kernel
theorem d_Mo_add_137 : decode b_Mo_add 137 = .ok (.iconst 1, 1) := by decide +kernel
theorem d_Mo_add_138 : decode b_Mo_add 138 = .ok (.goto 4, 3) := by decide +kernel
theorem d_Mo_add_111 : decode b_Mo_add 111 = .ok (.lload 8, 2) := by decide +kernel
theorem d_Mo_add_113 : decode b_Mo_add 113 = .ok (.lconst 1, 1) := by decide +kernel
theorem d_Mo_add_114 : decode b_Mo_add 114 = .ok (.iload 12, 2) := by decide +kernel
theorem d_Mo_add_116 : decode b_Mo_add 116 = .ok (.lshl, 1) := by decide +kernel
theorem d_Mo_add_117 : decode b_Mo_add 117 = .ok (.lor, 1) := by decide +kernel
theorem d_Mo_add_118 : decode b_Mo_add 118 = .ok (.lstore 8, 2) := by decide +kernel
theorem d_Mo_add_84 : decode b_Mo_add 84 = .ok (.iload 15, 2) := by decide +kernel
theorem d_Mo_add_86 : decode b_Mo_add 86 = .ok (.ifCond .ge 7, 3) := by decide +kernel
theorem d_Mo_add_93 : decode b_Mo_add 93 = .ok (.iconst 0, 1) := by decide +kernel
theorem d_Mo_add_94 : decode b_Mo_add 94 = .ok (.goto 7, 3) := by decide +kernel
theorem d_Mo_add_89 : decode b_Mo_add 89 = .ok (.iconst 1, 1) := by decide +kernel
theorem d_Mo_add_90 : decode b_Mo_add 90 = .ok (.goto 11, 3) := by decide +kernel
theorem d_Mo_add_58 : decode b_Mo_add 58 = .ok (.iload 13, 2) := by decide +kernel
theorem d_Mo_add_60 : decode b_Mo_add 60 = .ok (.iload 14, 2) := by decide +kernel
theorem d_Mo_add_62 : decode b_Mo_add 62 = .ok (.isub, 1) := by decide +kernel
theorem d_Mo_add_63 : decode b_Mo_add 63 = .ok (.iload 10, 2) := by decide +kernel
theorem d_Mo_add_65 : decode b_Mo_add 65 = .ok (.isub, 1) := by decide +kernel
theorem d_Mo_add_66 : decode b_Mo_add 66 = .ok (.goto 11, 3) := by decide +kernel
theorem d_Mo_add_8 : decode b_Mo_add 8 = .ok (.iconst 1, 1) := by decide +kernel
theorem d_Mo_add_9 : decode b_Mo_add 9 = .ok (.goto 4, 3) := by decide +kernel
theorem d_Mo_reckon_104 : decode b_Mo_reckon 104 = .ok (.invokevirtual 225, 3) := by decide +kernel
theorem d_Mo_reckon_107 : decode b_Mo_reckon 107 = .ok (.lreturn, 1) := by decide +kernel
theorem d_Mo_reckon_95 : decode b_Mo_reckon 95 = .ok (.iconst 1, 1) := by decide +kernel
theorem d_Mo_reckon_96 : decode b_Mo_reckon 96 = .ok (.goto 4, 3) := by decide +kernel
theorem d_Mo_reckon_81 : decode b_Mo_reckon 81 = .ok (.iload_n 1, 1) := by decide +kernel
theorem d_Mo_reckon_82 : decode b_Mo_reckon 82 = .ok (.iconst 3, 1) := by decide +kernel
theorem d_Mo_reckon_83 : decode b_Mo_reckon 83 = .ok (.if_icmp .ne 16, 3) := by decide +kernel
theorem d_Mo_reckon_54 : decode b_Mo_reckon 54 = .ok (.iload_n 1, 1) := by decide +kernel
theorem d_Mo_reckon_55 : decode b_Mo_reckon 55 = .ok (.iconst 5, 1) := by decide +kernel
theorem d_Mo_reckon_56 : decode b_Mo_reckon 56 = .ok (.if_icmp .eq 9, 3) := by decide +kernel
theorem d_Mo_reckon_59 : decode b_Mo_reckon 59 = .ok (.iload_n 1, 1) := by decide +kernel
theorem d_Mo_reckon_60 : decode b_Mo_reckon 60 = .ok (.bipush 7, 2) := by decide +kernel
theorem d_Mo_reckon_62 : decode b_Mo_reckon 62 = .ok (.if_icmp .ne 7, 3) := by decide +kernel
theorem d_Mo_reckon_69 : decode b_Mo_reckon 69 = .ok (.iconst 0, 1) := by decide +kernel
theorem d_Mo_reckon_38 : decode b_Mo_reckon 38 = .ok (.aload_n 0, 1) := by decide +kernel
theorem d_Mo_reckon_39 : decode b_Mo_reckon 39 = .ok (.lload_n 2, 1) := by decide +kernel
theorem d_Mo_reckon_40 : decode b_Mo_reckon 40 = .ok (.lload 4, 2) := by decide +kernel
theorem d_Mo_reckon_42 : decode b_Mo_reckon 42 = .ok (.lxor, 1) := by decide +kernel
theorem d_Mo_reckon_43 : decode b_Mo_reckon 43 = .ok (.iload 6, 2) := by decide +kernel
theorem d_Mo_logic_0 : decode b_Mo_logic 0 = .ok (.aload_n 0, 1) := by decide +kernel
theorem d_Mo_logic_1 : decode b_Mo_logic 1 = .ok (.getfield 21, 3) := by decide +kernel
theorem d_Mo_logic_4 : decode b_Mo_logic 4 = .ok (.iconst 0, 1) := by decide +kernel
theorem d_Mo_logic_5 : decode b_Mo_logic 5 = .ok (.iconst 0, 1) := by decide +kernel
theorem d_Mo_logic_6 : decode b_Mo_logic 6 = .ok (.bastore, 1) := by decide +kernel
theorem d_Mo_logic_7 : decode b_Mo_logic 7 = .ok (.aload_n 0, 1) := by decide +kernel
theorem d_Mo_logic_8 : decode b_Mo_logic 8 = .ok (.getfield 21, 3) := by decide +kernel
theorem d_Mo_logic_11 : decode b_Mo_logic 11 = .ok (.bipush 6, 2) := by decide +kernel
theorem d_Mo_logic_13 : decode b_Mo_logic 13 = .ok (.iconst 0, 1) := by decide +kernel
theorem d_Mo_logic_14 : decode b_Mo_logic 14 = .ok (.bastore, 1) := by decide +kernel
theorem d_Mo_logic_15 : decode b_Mo_logic 15 = .ok (.aload_n 0, 1) := by decide +kernel
theorem d_Mo_logic_16 : decode b_Mo_logic 16 = .ok (.iconst 2, 1) := by decide +kernel
theorem d_Mo_leave_0 : decode b_Mo_leave 0 = .ok (.aload_n 0, 1) := by decide +kernel
theorem d_Mo_leave_1 : decode b_Mo_leave 1 = .ok (.getfield 21, 3) := by decide +kernel
theorem d_Mo_leave_4 : decode b_Mo_leave 4 = .ok (.iload_n 1, 1) := by decide +kernel
theorem d_Mo_leave_5 : decode b_Mo_leave 5 = .ok (.aload_n 0, 1) := by decide +kernel
theorem d_Mo_leave_6 : decode b_Mo_leave 6 = .ok (.iload_n 1, 1) := by decide +kernel
theorem d_Mo_undefinedBit_0 : decode b_Mo_undefinedBit 0 = .ok (.aload_n 0, 1) := by decide +kernel
theorem d_Mo_undefinedBit_1 : decode b_Mo_undefinedBit 1 = .ok (.getfield 205, 3) := by decide +kernel
theorem d_Mo_undefinedBit_4 : decode b_Mo_undefinedBit 4 = .ok (.iload_n 1, 1) := by decide +kernel
theorem d_Mo_undefinedBit_5 : decode b_Mo_undefinedBit 5 = .ok (.ifCond .ne 7, 3) := by decide +kernel
theorem d_Mo_undefinedBit_12 : decode b_Mo_undefinedBit 12 = .ok (.iload_n 1, 1) := by decide +kernel
theorem d_Mo_undefinedBit_13 : decode b_Mo_undefinedBit 13 = .ok (.iconst 1, 1) := by decide +kernel
theorem d_Mo_undefinedBit_14 : decode b_Mo_undefinedBit 14 = .ok (.if_icmp .ne 7, 3) := by decide +kernel
theorem d_Mo_undefinedBit_21 : decode b_Mo_undefinedBit 21 = .ok (.iload_n 1, 1) := by decide +kernel
theorem d_Mo_undefinedBit_22 : decode b_Mo_undefinedBit 22 = .ok (.iconst 2, 1) := by decide +kernel
theorem d_Mo_undefinedBit_23 : decode b_Mo_undefinedBit 23 = .ok (.if_icmp .ne 7, 3) := by decide +kernel
theorem d_Mo_undefinedBit_30 : decode b_Mo_undefinedBit 30 = .ok (.iload_n 1, 1) := by decide +kernel
theorem d_Mo_undefinedBit_31 : decode b_Mo_undefinedBit 31 = .ok (.iconst 3, 1) := by decide +kernel
theorem d_Mo_undefinedBit_32 : decode b_Mo_undefinedBit 32 = .ok (.if_icmp .ne 8, 3) := by decide +kernel
theorem d_Mo_undefinedBit_40 : decode b_Mo_undefinedBit 40 = .ok (.iload_n 1, 1) := by decide +kernel
theorem d_Mo_undefinedBit_41 : decode b_Mo_undefinedBit 41 = .ok (.iconst 4, 1) := by decide +kernel
theorem d_Mo_undefinedBit_42 : decode b_Mo_undefinedBit 42 = .ok (.if_icmp .ne 8, 3) := by decide +kernel
theorem d_Mo_undefinedBit_50 : decode b_Mo_undefinedBit 50 = .ok (.iload_n 1, 1) := by decide +kernel
theorem d_Mo_undefinedBit_51 : decode b_Mo_undefinedBit 51 = .ok (.iconst 5, 1) := by decide +kernel
theorem d_Mo_undefinedBit_52 : decode b_Mo_undefinedBit 52 = .ok (.if_icmp .ne 8, 3) := by decide +kernel
theorem d_Mo_undefinedBit_60 : decode b_Mo_undefinedBit 60 = .ok (.bipush 11, 2) := by decide +kernel
theorem d_Mo_undefinedBit_62 : decode b_Mo_undefinedBit 62 = .ok (.lushr, 1) := by decide +kernel
theorem d_Mo_undefinedBit_63 : decode b_Mo_undefinedBit 63 = .ok (.lconst 1, 1) := by decide +kernel
theorem d_Mo_undefinedBit_64 : decode b_Mo_undefinedBit 64 = .ok (.land, 1) := by decide +kernel
theorem d_Mo_undefinedBit_65 : decode b_Mo_undefinedBit 65 = .ok (.lconst 1, 1) := by decide +kernel
theorem d_Mo_undefinedBit_66 : decode b_Mo_undefinedBit 66 = .ok (.lcmp, 1) := by decide +kernel
theorem d_Mo_undefinedBit_67 : decode b_Mo_undefinedBit 67 = .ok (.ifCond .ne 7, 3) := by decide +kernel
theorem d_Mo_undefinedBit_74 : decode b_Mo_undefinedBit 74 = .ok (.iconst 0, 1) := by decide +kernel
theorem d_Mo_undefinedBit_75 : decode b_Mo_undefinedBit 75 = .ok (.ireturn, 1) := by decide +kernel
theorem d_Mo_undefinedBit_70 : decode b_Mo_undefinedBit 70 = .ok (.iconst 1, 1) := by decide +kernel
theorem d_Mo_undefinedBit_71 : decode b_Mo_undefinedBit 71 = .ok (.goto 4, 3) := by decide +kernel
theorem d_Mo_undefinedBit_55 : decode b_Mo_undefinedBit 55 = .ok (.bipush 10, 2) := by decide +kernel
theorem d_Mo_undefinedBit_57 : decode b_Mo_undefinedBit 57 = .ok (.goto 5, 3) := by decide +kernel
theorem d_Mo_undefinedBit_45 : decode b_Mo_undefinedBit 45 = .ok (.bipush 7, 2) := by decide +kernel
theorem d_Mo_undefinedBit_47 : decode b_Mo_undefinedBit 47 = .ok (.goto 15, 3) := by decide +kernel
theorem d_Mo_undefinedBit_35 : decode b_Mo_undefinedBit 35 = .ok (.bipush 6, 2) := by decide +kernel
theorem d_Mo_undefinedBit_37 : decode b_Mo_undefinedBit 37 = .ok (.goto 25, 3) := by decide +kernel
theorem d_Mo_undefinedBit_26 : decode b_Mo_undefinedBit 26 = .ok (.iconst 4, 1) := by decide +kernel
theorem d_Mo_undefinedBit_27 : decode b_Mo_undefinedBit 27 = .ok (.goto 35, 3) := by decide +kernel
theorem d_Mo_undefinedBit_17 : decode b_Mo_undefinedBit 17 = .ok (.iconst 2, 1) := by decide +kernel
theorem d_Mo_undefinedBit_18 : decode b_Mo_undefinedBit 18 = .ok (.goto 44, 3) := by decide +kernel
theorem d_Mo_undefinedBit_8 : decode b_Mo_undefinedBit 8 = .ok (.iconst 0, 1) := by decide +kernel
theorem d_Mo_undefinedBit_9 : decode b_Mo_undefinedBit 9 = .ok (.goto 53, 3) := by decide +kernel
theorem d_Mo_leave_7 : decode b_Mo_leave 7 = .ok (.invokevirtual 208, 3) := by decide +kernel
theorem d_Mo_leave_10 : decode b_Mo_leave 10 = .ok (.bastore, 1) := by decide +kernel
theorem d_Mo_leave_11 : decode b_Mo_leave 11 = .ok (.return_, 1) := by decide +kernel
theorem d_Mo_logic_17 : decode b_Mo_logic 17 = .ok (.invokevirtual 219, 3) := by decide +kernel
theorem d_Mo_logic_20 : decode b_Mo_logic 20 = .ok (.aload_n 0, 1) := by decide +kernel
theorem d_Mo_logic_21 : decode b_Mo_logic 21 = .ok (.lload_n 1, 1) := by decide +kernel
theorem d_Mo_logic_22 : decode b_Mo_logic 22 = .ok (.iload_n 3, 1) := by decide +kernel
theorem d_Mo_logic_23 : decode b_Mo_logic 23 = .ok (.invokevirtual 216, 3) := by decide +kernel
theorem d_Mo_logic_26 : decode b_Mo_logic 26 = .ok (.lload_n 1, 1) := by decide +kernel
theorem d_Mo_logic_27 : decode b_Mo_logic 27 = .ok (.lreturn, 1) := by decide +kernel
theorem d_Mo_reckon_45 : decode b_Mo_reckon 45 = .ok (.invokevirtual 222, 3) := by decide +kernel
theorem d_Mo_reckon_48 : decode b_Mo_reckon 48 = .ok (.lreturn, 1) := by decide +kernel
theorem d_Mo_reckon_21 : decode b_Mo_reckon 21 = .ok (.aload_n 0, 1) := by decide +kernel
theorem d_Mo_reckon_22 : decode b_Mo_reckon 22 = .ok (.lload_n 2, 1) := by decide +kernel
theorem d_Mo_reckon_23 : decode b_Mo_reckon 23 = .ok (.lload 4, 2) := by decide +kernel
theorem d_Mo_reckon_25 : decode b_Mo_reckon 25 = .ok (.land, 1) := by decide +kernel
theorem d_Mo_reckon_26 : decode b_Mo_reckon 26 = .ok (.iload 6, 2) := by decide +kernel
theorem d_Mo_reckon_28 : decode b_Mo_reckon 28 = .ok (.invokevirtual 222, 3) := by decide +kernel
theorem d_Mo_reckon_31 : decode b_Mo_reckon 31 = .ok (.lreturn, 1) := by decide +kernel
theorem d_Mo_reckon_5 : decode b_Mo_reckon 5 = .ok (.aload_n 0, 1) := by decide +kernel
theorem d_Mo_reckon_6 : decode b_Mo_reckon 6 = .ok (.lload_n 2, 1) := by decide +kernel
theorem d_Mo_reckon_7 : decode b_Mo_reckon 7 = .ok (.lload 4, 2) := by decide +kernel
theorem d_Mo_reckon_9 : decode b_Mo_reckon 9 = .ok (.lor, 1) := by decide +kernel
theorem d_Mo_reckon_10 : decode b_Mo_reckon 10 = .ok (.iload 6, 2) := by decide +kernel
theorem d_Mo_reckon_12 : decode b_Mo_reckon 12 = .ok (.invokevirtual 222, 3) := by decide +kernel
theorem d_Mo_reckon_15 : decode b_Mo_reckon 15 = .ok (.lreturn, 1) := by decide +kernel
theorem d_Mo_group_54 : decode b_Mo_group 54 = .ok (.invokevirtual 376, 3) := by decide +kernel
theorem d_Mo_group_57 : decode b_Mo_group 57 = .ok (.lstore 5, 2) := by decide +kernel
theorem d_Mo_group_59 : decode b_Mo_group 59 = .ok (.aload_n 0, 1) := by decide +kernel
theorem d_Mo_group_60 : decode b_Mo_group 60 = .ok (.getfield 139, 3) := by decide +kernel
theorem d_Mo_group_63 : decode b_Mo_group 63 = .ok (.bipush 7, 2) := by decide +kernel
theorem d_Mo_group_65 : decode b_Mo_group 65 = .ok (.if_icmp .eq 10, 3) := by decide +kernel
theorem d_Mo_group_75 : decode b_Mo_group 75 = .ok (.return_, 1) := by decide +kernel
theorem d_Mo_group_68 : decode b_Mo_group 68 = .ok (.aload_n 0, 1) := by decide +kernel
theorem d_Mo_group_69 : decode b_Mo_group 69 = .ok (.iload_n 2, 1) := by decide +kernel
theorem d_Mo_group_70 : decode b_Mo_group 70 = .ok (.lload 5, 2) := by decide +kernel
theorem d_Mo_setE_0 : decode b_Mo_setE 0 = .ok (.aload_n 0, 1) := by decide +kernel
theorem d_Mo_setE_1 : decode b_Mo_setE 1 = .ok (.getfield 136, 3) := by decide +kernel
theorem d_Mo_setE_4 : decode b_Mo_setE 4 = .ok (.iconst 3, 1) := by decide +kernel
theorem d_Mo_setE_5 : decode b_Mo_setE 5 = .ok (.if_icmp .ne 22, 3) := by decide +kernel
theorem d_Mo_setE_27 : decode b_Mo_setE 27 = .ok (.aload_n 0, 1) := by decide +kernel
theorem d_Mo_setE_28 : decode b_Mo_setE 28 = .ok (.lload_n 2, 1) := by decide +kernel
theorem d_Mo_setE_29 : decode b_Mo_setE 29 = .ok (.iload_n 1, 1) := by decide +kernel
theorem d_Mo_hold_0 : decode b_Mo_hold 0 = .ok (.iconst 0, 1) := by decide +kernel
theorem d_Mo_hold_1 : decode b_Mo_hold 1 = .ok (.istore 4, 2) := by decide +kernel
theorem d_Mo_hold_3 : decode b_Mo_hold 3 = .ok (.iload 4, 2) := by decide +kernel
theorem d_Mo_hold_5 : decode b_Mo_hold 5 = .ok (.iload_n 3, 1) := by decide +kernel
theorem d_Mo_hold_6 : decode b_Mo_hold 6 = .ok (.if_icmp .ge 64, 3) := by decide +kernel
theorem d_Mo_hold_70 : decode b_Mo_hold 70 = .ok (.return_, 1) := by decide +kernel
theorem d_Mo_hold_9 : decode b_Mo_hold 9 = .ok (.aload_n 0, 1) := by decide +kernel
theorem d_Mo_hold_10 : decode b_Mo_hold 10 = .ok (.getfield 28, 3) := by decide +kernel
theorem d_Mo_hold_13 : decode b_Mo_hold 13 = .ok (.iconst (-1), 1) := by decide +kernel
theorem d_Mo_hold_14 : decode b_Mo_hold 14 = .ok (.if_icmp .ne 56, 3) := by decide +kernel
theorem d_Mo_hold_17 : decode b_Mo_hold 17 = .ok (.aload_n 0, 1) := by decide +kernel
theorem d_Mo_hold_18 : decode b_Mo_hold 18 = .ok (.getfield 32, 3) := by decide +kernel
theorem d_Mo_hold_21 : decode b_Mo_hold 21 = .ok (.aload_n 0, 1) := by decide +kernel
theorem d_Mo_hold_22 : decode b_Mo_hold 22 = .ok (.getfield 103, 3) := by decide +kernel
theorem d_Mo_hold_25 : decode b_Mo_hold 25 = .ok (.aload_n 0, 1) := by decide +kernel
theorem d_Mo_hold_26 : decode b_Mo_hold 26 = .ok (.getfield 39, 3) := by decide +kernel
theorem d_Mo_hold_29 : decode b_Mo_hold 29 = .ok (.iload 4, 2) := by decide +kernel
theorem d_Mo_hold_31 : decode b_Mo_hold 31 = .ok (.laload, 1) := by decide +kernel
theorem d_Mo_hold_32 : decode b_Mo_hold 32 = .ok (.lastore, 1) := by decide +kernel
theorem d_Mo_hold_33 : decode b_Mo_hold 33 = .ok (.aload_n 0, 1) := by decide +kernel
theorem d_Mo_hold_34 : decode b_Mo_hold 34 = .ok (.getfield 35, 3) := by decide +kernel
theorem d_Mo_hold_37 : decode b_Mo_hold 37 = .ok (.aload_n 0, 1) := by decide +kernel
theorem d_Mo_hold_38 : decode b_Mo_hold 38 = .ok (.getfield 103, 3) := by decide +kernel
theorem d_Mo_hold_41 : decode b_Mo_hold 41 = .ok (.lload_n 1, 1) := by decide +kernel
theorem d_Mo_hold_42 : decode b_Mo_hold 42 = .ok (.bipush 8, 2) := by decide +kernel
theorem d_Mo_hold_44 : decode b_Mo_hold 44 = .ok (.iload 4, 2) := by decide +kernel
theorem d_Mo_hold_46 : decode b_Mo_hold 46 = .ok (.imul, 1) := by decide +kernel
theorem d_Mo_hold_47 : decode b_Mo_hold 47 = .ok (.lushr, 1) := by decide +kernel
theorem d_Mo_hold_48 : decode b_Mo_hold 48 = .ok (.ldc2_w 106, 3) := by decide +kernel
theorem d_Mo_hold_51 : decode b_Mo_hold 51 = .ok (.land, 1) := by decide +kernel
theorem d_Mo_hold_52 : decode b_Mo_hold 52 = .ok (.l2i, 1) := by decide +kernel
theorem d_Mo_hold_53 : decode b_Mo_hold 53 = .ok (.iastore, 1) := by decide +kernel
theorem d_Mo_hold_54 : decode b_Mo_hold 54 = .ok (.aload_n 0, 1) := by decide +kernel
theorem d_Mo_hold_55 : decode b_Mo_hold 55 = .ok (.dup, 1) := by decide +kernel
theorem d_Mo_hold_56 : decode b_Mo_hold 56 = .ok (.getfield 103, 3) := by decide +kernel
theorem d_Mo_hold_59 : decode b_Mo_hold 59 = .ok (.iconst 1, 1) := by decide +kernel
theorem d_Mo_hold_60 : decode b_Mo_hold 60 = .ok (.iadd, 1) := by decide +kernel
theorem d_Mo_hold_61 : decode b_Mo_hold 61 = .ok (.putfield 103, 3) := by decide +kernel
theorem d_Mo_hold_64 : decode b_Mo_hold 64 = .ok (.iinc 4 1, 3) := by decide +kernel
theorem d_Mo_hold_67 : decode b_Mo_hold 67 = .ok (.goto (-64), 3) := by decide +kernel
theorem d_Mo_setE_30 : decode b_Mo_setE 30 = .ok (.invokevirtual 201, 3) := by decide +kernel
theorem d_Mo_setE_33 : decode b_Mo_setE 33 = .ok (.return_, 1) := by decide +kernel
theorem d_Mo_setE_8 : decode b_Mo_setE 8 = .ok (.aload_n 0, 1) := by decide +kernel
theorem d_Mo_setE_9 : decode b_Mo_setE 9 = .ok (.aload_n 0, 1) := by decide +kernel
theorem d_Mo_setE_10 : decode b_Mo_setE 10 = .ok (.getfield 142, 3) := by decide +kernel
theorem d_Mo_setE_13 : decode b_Mo_setE 13 = .ok (.aload_n 0, 1) := by decide +kernel
theorem d_Mo_setE_14 : decode b_Mo_setE 14 = .ok (.iconst 1, 1) := by decide +kernel
theorem d_Mo_setE_15 : decode b_Mo_setE 15 = .ok (.invokevirtual 157, 3) := by decide +kernel
theorem d_Mo_setE_18 : decode b_Mo_setE 18 = .ok (.iadd, 1) := by decide +kernel
theorem d_Mo_setE_19 : decode b_Mo_setE 19 = .ok (.iload_n 1, 1) := by decide +kernel
theorem d_Mo_setE_20 : decode b_Mo_setE 20 = .ok (.lload_n 2, 1) := by decide +kernel
theorem d_Mo_put8_0 : decode b_Mo_put8 0 = .ok (.aload_n 0, 1) := by decide +kernel
theorem d_Mo_put8_1 : decode b_Mo_put8 1 = .ok (.getfield 28, 3) := by decide +kernel
theorem d_Mo_put8_4 : decode b_Mo_put8 4 = .ok (.iconst (-1), 1) := by decide +kernel
theorem d_Mo_put8_5 : decode b_Mo_put8 5 = .ok (.if_icmp .eq 4, 3) := by decide +kernel
theorem d_Mo_put8_9 : decode b_Mo_put8 9 = .ok (.aload_n 0, 1) := by decide +kernel
theorem d_Mo_put8_10 : decode b_Mo_put8 10 = .ok (.iload_n 1, 1) := by decide +kernel
theorem d_Mo_put8_11 : decode b_Mo_put8 11 = .ok (.iload_n 2, 1) := by decide +kernel
theorem d_Mo_put8_12 : decode b_Mo_put8 12 = .ok (.invokevirtual 176, 3) := by decide +kernel
theorem d_Mo_put8_15 : decode b_Mo_put8 15 = .ok (.ifCond .eq 35, 3) := by decide +kernel
theorem d_Mo_put8_50 : decode b_Mo_put8 50 = .ok (.iload_n 2, 1) := by decide +kernel
theorem d_Mo_put8_51 : decode b_Mo_put8 51 = .ok (.iconst 3, 1) := by decide +kernel
theorem d_Mo_put8_52 : decode b_Mo_put8 52 = .ok (.if_icmp .le 17, 3) := by decide +kernel
theorem d_Mo_put8_69 : decode b_Mo_put8 69 = .ok (.aload_n 0, 1) := by decide +kernel
theorem d_Mo_put8_70 : decode b_Mo_put8 70 = .ok (.getfield 14, 3) := by decide +kernel
theorem d_Mo_put8_73 : decode b_Mo_put8 73 = .ok (.iload_n 1, 1) := by decide +kernel
theorem d_Mo_put8_74 : decode b_Mo_put8 74 = .ok (.aload_n 0, 1) := by decide +kernel
theorem d_Mo_put8_75 : decode b_Mo_put8 75 = .ok (.getfield 14, 3) := by decide +kernel
theorem d_Mo_put8_78 : decode b_Mo_put8 78 = .ok (.iload_n 1, 1) := by decide +kernel
theorem d_Mo_put8_79 : decode b_Mo_put8 79 = .ok (.laload, 1) := by decide +kernel
theorem d_Mo_put8_80 : decode b_Mo_put8 80 = .ok (.ldc2_w 71, 3) := by decide +kernel
theorem d_Mo_put8_83 : decode b_Mo_put8 83 = .ok (.iload_n 2, 1) := by decide +kernel
theorem d_Mo_put8_84 : decode b_Mo_put8 84 = .ok (.invokestatic 180, 3) := by decide +kernel
theorem d_Mo_put8_87 : decode b_Mo_put8 87 = .ok (.ldc2_w 71, 3) := by decide +kernel
theorem d_Mo_put8_90 : decode b_Mo_put8 90 = .ok (.lxor, 1) := by decide +kernel
theorem d_Mo_put8_91 : decode b_Mo_put8 91 = .ok (.land, 1) := by decide +kernel
theorem d_Mo_put8_92 : decode b_Mo_put8 92 = .ok (.lload_n 3, 1) := by decide +kernel
theorem d_Mo_put8_93 : decode b_Mo_put8 93 = .ok (.iload_n 2, 1) := by decide +kernel
theorem d_Mo_put8_94 : decode b_Mo_put8 94 = .ok (.invokestatic 180, 3) := by decide +kernel
theorem d_Mo_put8_97 : decode b_Mo_put8 97 = .ok (.lor, 1) := by decide +kernel
theorem d_Mo_put8_98 : decode b_Mo_put8 98 = .ok (.lastore, 1) := by decide +kernel
theorem d_Mo_put8_99 : decode b_Mo_put8 99 = .ok (.return_, 1) := by decide +kernel
theorem d_Mo_put8_55 : decode b_Mo_put8 55 = .ok (.aload_n 0, 1) := by decide +kernel
theorem d_Mo_put8_56 : decode b_Mo_put8 56 = .ok (.getfield 14, 3) := by decide +kernel
theorem d_Mo_put8_59 : decode b_Mo_put8 59 = .ok (.iload_n 1, 1) := by decide +kernel
theorem d_Mo_put8_60 : decode b_Mo_put8 60 = .ok (.lload_n 3, 1) := by decide +kernel
theorem d_Mo_put8_61 : decode b_Mo_put8 61 = .ok (.iload_n 2, 1) := by decide +kernel
theorem d_Mo_put8_62 : decode b_Mo_put8 62 = .ok (.invokestatic 180, 3) := by decide +kernel
theorem d_Mo_put8_65 : decode b_Mo_put8 65 = .ok (.lastore, 1) := by decide +kernel
theorem d_Mo_put8_66 : decode b_Mo_put8 66 = .ok (.goto 33, 3) := by decide +kernel
theorem d_Mo_put8_18 : decode b_Mo_put8 18 = .ok (.aload_n 0, 1) := by decide +kernel
theorem d_Mo_put8_19 : decode b_Mo_put8 19 = .ok (.getfield 14, 3) := by decide +kernel
theorem d_Mo_put8_22 : decode b_Mo_put8 22 = .ok (.iload_n 1, 1) := by decide +kernel
theorem d_Mo_put8_23 : decode b_Mo_put8 23 = .ok (.iconst 4, 1) := by decide +kernel
theorem d_Mo_put8_24 : decode b_Mo_put8 24 = .ok (.isub, 1) := by decide +kernel
theorem d_Mo_put8_25 : decode b_Mo_put8 25 = .ok (.aload_n 0, 1) := by decide +kernel
theorem d_Mo_put8_26 : decode b_Mo_put8 26 = .ok (.getfield 14, 3) := by decide +kernel
theorem d_Mo_put8_29 : decode b_Mo_put8 29 = .ok (.iload_n 1, 1) := by decide +kernel
theorem d_Mo_put8_30 : decode b_Mo_put8 30 = .ok (.iconst 4, 1) := by decide +kernel
theorem d_Mo_put8_31 : decode b_Mo_put8 31 = .ok (.isub, 1) := by decide +kernel
theorem d_Mo_put8_32 : decode b_Mo_put8 32 = .ok (.laload, 1) := by decide +kernel
theorem d_Mo_put8_33 : decode b_Mo_put8 33 = .ok (.ldc2_w 183, 3) := by decide +kernel
theorem d_Mo_put8_36 : decode b_Mo_put8 36 = .ok (.land, 1) := by decide +kernel
theorem d_Mo_put8_37 : decode b_Mo_put8 37 = .ok (.lload_n 3, 1) := by decide +kernel
theorem d_Mo_put8_38 : decode b_Mo_put8 38 = .ok (.iconst 1, 1) := by decide +kernel
theorem d_Mo_put8_39 : decode b_Mo_put8 39 = .ok (.invokestatic 180, 3) := by decide +kernel
theorem d_Mo_put8_42 : decode b_Mo_put8 42 = .ok (.bipush 8, 2) := by decide +kernel
theorem d_Mo_put8_44 : decode b_Mo_put8 44 = .ok (.lshl, 1) := by decide +kernel
theorem d_Mo_put8_45 : decode b_Mo_put8 45 = .ok (.lor, 1) := by decide +kernel
theorem d_Mo_put8_46 : decode b_Mo_put8 46 = .ok (.lastore, 1) := by decide +kernel
theorem d_Mo_put8_47 : decode b_Mo_put8 47 = .ok (.goto 52, 3) := by decide +kernel
theorem d_Mo_put8_8 : decode b_Mo_put8 8 = .ok (.return_, 1) := by decide +kernel
theorem d_Mo_setE_21 : decode b_Mo_setE 21 = .ok (.invokevirtual 189, 3) := by decide +kernel
theorem d_Mo_setE_24 : decode b_Mo_setE 24 = .ok (.goto 9, 3) := by decide +kernel
theorem d_Mo_group_72 : decode b_Mo_group 72 = .ok (.invokevirtual 348, 3) := by decide +kernel
theorem d_Mo_group_44 : decode b_Mo_group 44 = .ok (.iconst 0, 1) := by decide +kernel
theorem d_Mo_group_45 : decode b_Mo_group 45 = .ok (.goto 4, 3) := by decide +kernel
theorem d_Mo_group_12 : decode b_Mo_group 12 = .ok (.iconst 1, 1) := by decide +kernel
theorem d_Mo_group_13 : decode b_Mo_group 13 = .ok (.goto 7, 3) := by decide +kernel
theorem d_Mo_first_91 : decode b_Mo_first 91 = .ok (.invokevirtual 259, 3) := by decide +kernel
theorem d_Mo_first_94 : decode b_Mo_first 94 = .ok (.goto 321, 3) := by decide +kernel
theorem d_Mo_first_415 : decode b_Mo_first 415 = .ok (.return_, 1) := by decide +kernel
theorem d_Mo_first_74 : decode b_Mo_first 74 = .ok (.iload_n 1, 1) := by decide +kernel
theorem d_Mo_first_75 : decode b_Mo_first 75 = .ok (.sipush 129, 3) := by decide +kernel
theorem d_Mo_first_78 : decode b_Mo_first 78 = .ok (.if_icmp .eq 10, 3) := by decide +kernel
theorem d_Mo_first_81 : decode b_Mo_first 81 = .ok (.iload_n 1, 1) := by decide +kernel
theorem d_Mo_first_82 : decode b_Mo_first 82 = .ok (.sipush 131, 3) := by decide +kernel
theorem d_Mo_first_85 : decode b_Mo_first 85 = .ok (.if_icmp .ne 12, 3) := by decide +kernel
theorem d_Mo_first_97 : decode b_Mo_first 97 = .ok (.iload_n 1, 1) := by decide +kernel
theorem d_Mo_first_98 : decode b_Mo_first 98 = .ok (.sipush 132, 3) := by decide +kernel
theorem d_Mo_first_101 : decode b_Mo_first 101 = .ok (.if_icmp .lt 19, 3) := by decide +kernel
theorem d_Mo_first_120 : decode b_Mo_first 120 = .ok (.iload_n 1, 1) := by decide +kernel
theorem d_Mo_first_121 : decode b_Mo_first 121 = .ok (.sipush 144, 3) := by decide +kernel
theorem d_Mo_first_124 : decode b_Mo_first 124 = .ok (.if_icmp .lt 18, 3) := by decide +kernel
theorem d_Mo_first_142 : decode b_Mo_first 142 = .ok (.iload_n 1, 1) := by decide +kernel
theorem d_Mo_first_143 : decode b_Mo_first 143 = .ok (.sipush 164, 3) := by decide +kernel
theorem d_Mo_first_146 : decode b_Mo_first 146 = .ok (.if_icmp .lt 37, 3) := by decide +kernel
theorem d_Mo_first_183 : decode b_Mo_first 183 = .ok (.iload_n 1, 1) := by decide +kernel
theorem d_Mo_first_184 : decode b_Mo_first 184 = .ok (.sipush 176, 3) := by decide +kernel
theorem d_Mo_first_187 : decode b_Mo_first 187 = .ok (.if_icmp .lt 18, 3) := by decide +kernel
theorem d_Mo_first_205 : decode b_Mo_first 205 = .ok (.iload_n 1, 1) := by decide +kernel
theorem d_Mo_first_206 : decode b_Mo_first 206 = .ok (.sipush 192, 3) := by decide +kernel
theorem d_Mo_first_209 : decode b_Mo_first 209 = .ok (.if_icmp .eq 24, 3) := by decide +kernel
theorem d_Mo_first_233 : decode b_Mo_first 233 = .ok (.aload_n 0, 1) := by decide +kernel
theorem d_Mo_first_234 : decode b_Mo_first 234 = .ok (.iload_n 1, 1) := by decide +kernel
theorem d_Mo_first_235 : decode b_Mo_first 235 = .ok (.iload_n 2, 1) := by decide +kernel
theorem d_Mo_shift_0 : decode b_Mo_shift 0 = .ok (.aload_n 0, 1) := by decide +kernel
theorem d_Mo_shift_1 : decode b_Mo_shift 1 = .ok (.invokevirtual 167, 3) := by decide +kernel
theorem d_Mo_shift_4 : decode b_Mo_shift 4 = .ok (.aload_n 0, 1) := by decide +kernel
theorem d_Mo_shift_5 : decode b_Mo_shift 5 = .ok (.getfield 139, 3) := by decide +kernel
theorem d_Mo_shift_8 : decode b_Mo_shift 8 = .ok (.bipush 6, 2) := by decide +kernel
theorem d_Mo_shift_10 : decode b_Mo_shift 10 = .ok (.if_icmp .ne 9, 3) := by decide +kernel
theorem d_Mo_shift_19 : decode b_Mo_shift 19 = .ok (.aload_n 0, 1) := by decide +kernel
theorem d_Mo_shift_20 : decode b_Mo_shift 20 = .ok (.invokevirtual 170, 3) := by decide +kernel
theorem d_Mo_shift_23 : decode b_Mo_shift 23 = .ok (.iload_n 1, 1) := by decide +kernel
theorem d_Mo_shift_24 : decode b_Mo_shift 24 = .ok (.sipush 208, 3) := by decide +kernel
theorem d_Mo_shift_27 : decode b_Mo_shift 27 = .ok (.if_icmp .ge 10, 3) := by decide +kernel
theorem d_Mo_shift_37 : decode b_Mo_shift 37 = .ok (.iload_n 1, 1) := by decide +kernel
theorem d_Mo_shift_38 : decode b_Mo_shift 38 = .ok (.sipush 210, 3) := by decide +kernel
theorem d_Mo_shift_41 : decode b_Mo_shift 41 = .ok (.if_icmp .ge 7, 3) := by decide +kernel
theorem d_Mo_shift_48 : decode b_Mo_shift 48 = .ok (.aload_n 0, 1) := by decide +kernel
theorem d_Mo_shift_49 : decode b_Mo_shift 49 = .ok (.getfield 14, 3) := by decide +kernel
theorem d_Mo_shift_52 : decode b_Mo_shift 52 = .ok (.iconst 1, 1) := by decide +kernel
theorem d_Mo_shift_53 : decode b_Mo_shift 53 = .ok (.laload, 1) := by decide +kernel
theorem d_Mo_shift_54 : decode b_Mo_shift 54 = .ok (.ldc2_w 106, 3) := by decide +kernel
theorem d_Mo_shift_57 : decode b_Mo_shift 57 = .ok (.land, 1) := by decide +kernel
theorem d_Mo_shift_58 : decode b_Mo_shift 58 = .ok (.l2i, 1) := by decide +kernel
theorem d_Mo_shift_59 : decode b_Mo_shift 59 = .ok (.istore_n 3, 1) := by decide +kernel
theorem d_Mo_shift_60 : decode b_Mo_shift 60 = .ok (.aload_n 0, 1) := by decide +kernel
theorem d_Mo_shift_61 : decode b_Mo_shift 61 = .ok (.aload_n 0, 1) := by decide +kernel
theorem d_Mo_shift_62 : decode b_Mo_shift 62 = .ok (.getfield 111, 3) := by decide +kernel
theorem d_Mo_shift_65 : decode b_Mo_shift 65 = .ok (.aload_n 0, 1) := by decide +kernel
theorem d_Mo_shift_66 : decode b_Mo_shift 66 = .ok (.getfield 108, 3) := by decide +kernel
theorem d_Mo_shift_69 : decode b_Mo_shift 69 = .ok (.i2l, 1) := by decide +kernel
theorem d_Mo_shift_70 : decode b_Mo_shift 70 = .ok (.ladd, 1) := by decide +kernel
theorem d_Mo_shift_71 : decode b_Mo_shift 71 = .ok (.putfield 173, 3) := by decide +kernel
theorem d_Mo_shift_74 : decode b_Mo_shift 74 = .ok (.iload_n 3, 1) := by decide +kernel
theorem d_Mo_shift_75 : decode b_Mo_shift 75 = .ok (.iload_n 2, 1) := by decide +kernel
theorem d_Mo_shift_76 : decode b_Mo_shift 76 = .ok (.bipush 8, 2) := by decide +kernel
theorem d_Mo_shift_78 : decode b_Mo_shift 78 = .ok (.if_icmp .ne 8, 3) := by decide +kernel
theorem d_Mo_shift_86 : decode b_Mo_shift 86 = .ok (.bipush 32, 2) := by decide +kernel
theorem d_Mo_shift_88 : decode b_Mo_shift 88 = .ok (.irem, 1) := by decide +kernel
theorem d_Mo_shift_89 : decode b_Mo_shift 89 = .ok (.istore 4, 2) := by decide +kernel
theorem d_Mo_shift_91 : decode b_Mo_shift 91 = .ok (.aload_n 0, 1) := by decide +kernel
theorem d_Mo_shift_92 : decode b_Mo_shift 92 = .ok (.iload_n 2, 1) := by decide +kernel
theorem d_Mo_shift_93 : decode b_Mo_shift 93 = .ok (.iconst 1, 1) := by decide +kernel
theorem d_Mo_shift_94 : decode b_Mo_shift 94 = .ok (.invokevirtual 338, 3) := by decide +kernel
theorem d_Mo_shift_97 : decode b_Mo_shift 97 = .ok (.lstore 5, 2) := by decide +kernel
theorem d_Mo_shift_99 : decode b_Mo_shift 99 = .ok (.aload_n 0, 1) := by decide +kernel
theorem d_Mo_shift_100 : decode b_Mo_shift 100 = .ok (.getfield 28, 3) := by decide +kernel
theorem d_Mo_shift_103 : decode b_Mo_shift 103 = .ok (.iconst (-1), 1) := by decide +kernel
theorem d_Mo_shift_104 : decode b_Mo_shift 104 = .ok (.if_icmp .eq 4, 3) := by decide +kernel
theorem d_Mo_shift_108 : decode b_Mo_shift 108 = .ok (.lload 5, 2) := by decide +kernel
theorem d_Mo_shift_110 : decode b_Mo_shift 110 = .ok (.lstore 7, 2) := by decide +kernel
theorem d_Mo_shift_112 : decode b_Mo_shift 112 = .ok (.iload 4, 2) := by decide +kernel
theorem d_Mo_shift_114 : decode b_Mo_shift 114 = .ok (.ifCond .le 34, 3) := by decide +kernel
theorem d_Mo_shift_148 : decode b_Mo_shift 148 = .ok (.aload_n 0, 1) := by decide +kernel
theorem d_Mo_shift_149 : decode b_Mo_shift 149 = .ok (.iload_n 2, 1) := by decide +kernel
theorem d_Mo_shift_150 : decode b_Mo_shift 150 = .ok (.lload 7, 2) := by decide +kernel
theorem d_Mo_shift_152 : decode b_Mo_shift 152 = .ok (.invokevirtual 348, 3) := by decide +kernel
theorem d_Mo_shift_155 : decode b_Mo_shift 155 = .ok (.return_, 1) := by decide +kernel
theorem d_Mo_shift_117 : decode b_Mo_shift 117 = .ok (.aload_n 0, 1) := by decide +kernel
theorem d_Mo_shift_118 : decode b_Mo_shift 118 = .ok (.getfield 139, 3) := by decide +kernel
theorem d_Mo_shift_121 : decode b_Mo_shift 121 = .ok (.iconst 4, 1) := by decide +kernel
theorem d_Mo_shift_122 : decode b_Mo_shift 122 = .ok (.if_icmp .ge 15, 3) := by decide +kernel
theorem d_Mo_shift_137 : decode b_Mo_shift 137 = .ok (.aload_n 0, 1) := by decide +kernel
theorem d_Mo_shift_138 : decode b_Mo_shift 138 = .ok (.lload 5, 2) := by decide +kernel
theorem d_Mo_shift_140 : decode b_Mo_shift 140 = .ok (.iload 4, 2) := by decide +kernel
theorem d_Mo_shift_142 : decode b_Mo_shift 142 = .ok (.iload_n 2, 1) := by decide +kernel
theorem d_Mo_shifted_0 : decode b_Mo_shifted 0 = .ok (.lload_n 1, 1) := by decide +kernel
theorem d_Mo_shifted_1 : decode b_Mo_shifted 1 = .ok (.lstore 5, 2) := by decide +kernel
theorem d_Mo_shifted_3 : decode b_Mo_shifted 3 = .ok (.lload_n 1, 1) := by decide +kernel
theorem d_Mo_shifted_4 : decode b_Mo_shifted 4 = .ok (.iload 4, 2) := by decide +kernel
theorem d_Mo_shifted_6 : decode b_Mo_shifted 6 = .ok (.invokestatic 212, 3) := by decide +kernel
theorem d_Mo_shifted_9 : decode b_Mo_shifted 9 = .ok (.istore 7, 2) := by decide +kernel
theorem d_Mo_shifted_11 : decode b_Mo_shifted 11 = .ok (.iconst 0, 1) := by decide +kernel
theorem d_Mo_shifted_12 : decode b_Mo_shifted 12 = .ok (.istore 8, 2) := by decide +kernel
theorem d_Mo_shifted_14 : decode b_Mo_shifted 14 = .ok (.iload 8, 2) := by decide +kernel
theorem d_Mo_shifted_16 : decode b_Mo_shifted 16 = .ok (.iload_n 3, 1) := by decide +kernel
theorem d_Mo_shifted_17 : decode b_Mo_shifted 17 = .ok (.if_icmp .ge 58, 3) := by decide +kernel
theorem d_Mo_shifted_75 : decode b_Mo_shifted 75 = .ok (.aload_n 0, 1) := by decide +kernel
theorem d_Mo_shifted_76 : decode b_Mo_shifted 76 = .ok (.getfield 21, 3) := by decide +kernel
theorem d_Mo_shifted_79 : decode b_Mo_shifted 79 = .ok (.iconst 0, 1) := by decide +kernel
theorem d_Mo_shifted_80 : decode b_Mo_shifted 80 = .ok (.aload_n 0, 1) := by decide +kernel
theorem d_Mo_shifted_81 : decode b_Mo_shifted 81 = .ok (.getfield 412, 3) := by decide +kernel
theorem d_Mo_shifted_84 : decode b_Mo_shifted 84 = .ok (.bastore, 1) := by decide +kernel
theorem d_Mo_shifted_85 : decode b_Mo_shifted 85 = .ok (.iload_n 3, 1) := by decide +kernel
theorem d_Mo_shifted_86 : decode b_Mo_shifted 86 = .ok (.bipush 8, 2) := by decide +kernel
theorem d_Mo_shifted_88 : decode b_Mo_shifted 88 = .ok (.iload 4, 2) := by decide +kernel
theorem d_Mo_shifted_90 : decode b_Mo_shifted 90 = .ok (.imul, 1) := by decide +kernel
theorem d_Mo_shifted_91 : decode b_Mo_shifted 91 = .ok (.if_icmp .le 17, 3) := by decide +kernel
theorem d_Mo_shifted_108 : decode b_Mo_shifted 108 = .ok (.aload_n 0, 1) := by decide +kernel
theorem d_Mo_shifted_109 : decode b_Mo_shifted 109 = .ok (.getfield 21, 3) := by decide +kernel
theorem d_Mo_shifted_112 : decode b_Mo_shifted 112 = .ok (.bipush 6, 2) := by decide +kernel
theorem d_Mo_shifted_114 : decode b_Mo_shifted 114 = .ok (.aload_n 0, 1) := by decide +kernel
theorem d_Mo_shifted_115 : decode b_Mo_shifted 115 = .ok (.getfield 139, 3) := by decide +kernel
theorem d_Mo_shifted_118 : decode b_Mo_shifted 118 = .ok (.iconst 4, 1) := by decide +kernel
theorem d_Mo_shifted_119 : decode b_Mo_shifted 119 = .ok (.if_icmp .ne 25, 3) := by decide +kernel
theorem d_Mo_shifted_144 : decode b_Mo_shifted 144 = .ok (.aload_n 0, 1) := by decide +kernel
theorem d_Mo_shifted_145 : decode b_Mo_shifted 145 = .ok (.getfield 139, 3) := by decide +kernel
theorem d_Mo_shifted_148 : decode b_Mo_shifted 148 = .ok (.iconst 5, 1) := by decide +kernel
theorem d_Mo_shifted_149 : decode b_Mo_shifted 149 = .ok (.if_icmp .ne 12, 3) := by decide +kernel
theorem d_Mo_shifted_161 : decode b_Mo_shifted 161 = .ok (.iconst 0, 1) := by decide +kernel
theorem d_Mo_shifted_162 : decode b_Mo_shifted 162 = .ok (.bastore, 1) := by decide +kernel
theorem d_Mo_shifted_163 : decode b_Mo_shifted 163 = .ok (.iload_n 3, 1) := by decide +kernel
theorem d_Mo_shifted_164 : decode b_Mo_shifted 164 = .ok (.iconst 1, 1) := by decide +kernel
theorem d_Mo_shifted_165 : decode b_Mo_shifted 165 = .ok (.if_icmp .eq 9, 3) := by decide +kernel
theorem d_Mo_shifted_174 : decode b_Mo_shifted 174 = .ok (.aload_n 0, 1) := by decide +kernel
theorem d_Mo_shifted_175 : decode b_Mo_shifted 175 = .ok (.iconst 2, 1) := by decide +kernel
theorem d_Mo_shifted_176 : decode b_Mo_shifted 176 = .ok (.invokevirtual 219, 3) := by decide +kernel
theorem d_Mo_shifted_179 : decode b_Mo_shifted 179 = .ok (.aload_n 0, 1) := by decide +kernel
theorem d_Mo_shifted_180 : decode b_Mo_shifted 180 = .ok (.lload 5, 2) := by decide +kernel
theorem d_Mo_shifted_182 : decode b_Mo_shifted 182 = .ok (.iload 4, 2) := by decide +kernel
theorem d_Mo_shifted_184 : decode b_Mo_shifted 184 = .ok (.invokevirtual 216, 3) := by decide +kernel
theorem d_Mo_shifted_187 : decode b_Mo_shifted 187 = .ok (.lload 5, 2) := by decide +kernel
theorem d_Mo_shifted_189 : decode b_Mo_shifted 189 = .ok (.lreturn, 1) := by decide +kernel
theorem d_Mo_shifted_168 : decode b_Mo_shifted 168 = .ok (.aload_n 0, 1) := by decide +kernel
theorem d_Mo_shifted_169 : decode b_Mo_shifted 169 = .ok (.bipush 6, 2) := by decide +kernel
theorem d_Mo_shifted_171 : decode b_Mo_shifted 171 = .ok (.invokevirtual 219, 3) := by decide +kernel
theorem d_Mo_shifted_152 : decode b_Mo_shifted 152 = .ok (.iload 7, 2) := by decide +kernel
theorem d_Mo_shifted_154 : decode b_Mo_shifted 154 = .ok (.ifCond .eq 7, 3) := by decide +kernel
theorem d_Mo_shifted_157 : decode b_Mo_shifted 157 = .ok (.iconst 1, 1) := by decide +kernel
theorem d_Mo_shifted_158 : decode b_Mo_shifted 158 = .ok (.goto 4, 3) := by decide +kernel
theorem d_Mo_shifted_122 : decode b_Mo_shifted 122 = .ok (.lload 5, 2) := by decide +kernel
theorem d_Mo_shifted_124 : decode b_Mo_shifted 124 = .ok (.iload 4, 2) := by decide +kernel
theorem d_Mo_shifted_126 : decode b_Mo_shifted 126 = .ok (.invokestatic 212, 3) := by decide +kernel
theorem d_Mo_shifted_129 : decode b_Mo_shifted 129 = .ok (.aload_n 0, 1) := by decide +kernel
theorem d_Mo_shifted_130 : decode b_Mo_shifted 130 = .ok (.getfield 412, 3) := by decide +kernel
theorem d_Mo_shifted_133 : decode b_Mo_shifted 133 = .ok (.if_icmp .eq 7, 3) := by decide +kernel
theorem d_Mo_shifted_140 : decode b_Mo_shifted 140 = .ok (.iconst 0, 1) := by decide +kernel
theorem d_Mo_shifted_141 : decode b_Mo_shifted 141 = .ok (.goto 21, 3) := by decide +kernel
theorem d_Mo_shifted_136 : decode b_Mo_shifted 136 = .ok (.iconst 1, 1) := by decide +kernel
theorem d_Mo_shifted_137 : decode b_Mo_shifted 137 = .ok (.goto 25, 3) := by decide +kernel
theorem d_Mo_shifted_94 : decode b_Mo_shifted 94 = .ok (.aload_n 0, 1) := by decide +kernel
theorem d_Mo_shifted_95 : decode b_Mo_shifted 95 = .ok (.getfield 139, 3) := by decide +kernel
theorem d_Mo_shifted_98 : decode b_Mo_shifted 98 = .ok (.bipush 7, 2) := by decide +kernel
theorem d_Mo_shifted_100 : decode b_Mo_shifted 100 = .ok (.if_icmp .eq 8, 3) := by decide +kernel
theorem d_Mo_shifted_103 : decode b_Mo_shifted 103 = .ok (.aload_n 0, 1) := by decide +kernel
theorem d_Mo_shifted_104 : decode b_Mo_shifted 104 = .ok (.iconst 0, 1) := by decide +kernel
theorem d_Mo_shifted_105 : decode b_Mo_shifted 105 = .ok (.invokevirtual 219, 3) := by decide +kernel
theorem d_Mo_shifted_20 : decode b_Mo_shifted 20 = .ok (.aload_n 0, 1) := by decide +kernel
theorem d_Mo_shifted_21 : decode b_Mo_shifted 21 = .ok (.getfield 139, 3) := by decide +kernel
theorem d_Mo_shifted_24 : decode b_Mo_shifted 24 = .ok (.iconst 4, 1) := by decide +kernel
theorem d_Mo_shifted_25 : decode b_Mo_shifted 25 = .ok (.if_icmp .ne 15, 3) := by decide +kernel
theorem d_Mo_shifted_40 : decode b_Mo_shifted 40 = .ok (.aload_n 0, 1) := by decide +kernel
theorem d_Mo_shifted_41 : decode b_Mo_shifted 41 = .ok (.lload 5, 2) := by decide +kernel
theorem d_Mo_shifted_43 : decode b_Mo_shifted 43 = .ok (.aload_n 0, 1) := by decide +kernel
theorem d_Mo_shifted_44 : decode b_Mo_shifted 44 = .ok (.getfield 139, 3) := by decide +kernel
theorem d_Mo_shifted_47 : decode b_Mo_shifted 47 = .ok (.bipush 7, 2) := by decide +kernel
theorem d_Mo_shifted_49 : decode b_Mo_shifted 49 = .ok (.if_icmp .ne 12, 3) := by decide +kernel
theorem d_Mo_shifted_61 : decode b_Mo_shifted 61 = .ok (.iconst 0, 1) := by decide +kernel
theorem d_Mo_shifted_62 : decode b_Mo_shifted 62 = .ok (.iload 4, 2) := by decide +kernel
theorem d_Mo_rightBy_0 : decode b_Mo_rightBy 0 = .ok (.aload_n 0, 1) := by decide +kernel
theorem d_Mo_rightBy_1 : decode b_Mo_rightBy 1 = .ok (.lload_n 1, 1) := by decide +kernel
theorem d_Mo_rightBy_2 : decode b_Mo_rightBy 2 = .ok (.lconst 1, 1) := by decide +kernel
theorem d_Mo_rightBy_3 : decode b_Mo_rightBy 3 = .ok (.land, 1) := by decide +kernel
theorem d_Mo_rightBy_4 : decode b_Mo_rightBy 4 = .ok (.lconst 1, 1) := by decide +kernel
theorem d_Mo_rightBy_5 : decode b_Mo_rightBy 5 = .ok (.lcmp, 1) := by decide +kernel
theorem d_Mo_rightBy_6 : decode b_Mo_rightBy 6 = .ok (.ifCond .ne 7, 3) := by decide +kernel
theorem d_Mo_rightBy_13 : decode b_Mo_rightBy 13 = .ok (.iconst 0, 1) := by decide +kernel
theorem d_Mo_rightBy_14 : decode b_Mo_rightBy 14 = .ok (.putfield 412, 3) := by decide +kernel
theorem d_Mo_rightBy_17 : decode b_Mo_rightBy 17 = .ok (.lload_n 1, 1) := by decide +kernel
theorem d_Mo_rightBy_18 : decode b_Mo_rightBy 18 = .ok (.iconst 1, 1) := by decide +kernel
theorem d_Mo_rightBy_19 : decode b_Mo_rightBy 19 = .ok (.lushr, 1) := by decide +kernel
theorem d_Mo_rightBy_20 : decode b_Mo_rightBy 20 = .ok (.iload_n 3, 1) := by decide +kernel
theorem d_Mo_rightBy_21 : decode b_Mo_rightBy 21 = .ok (.ifCond .eq 15, 3) := by decide +kernel
theorem d_Mo_rightBy_36 : decode b_Mo_rightBy 36 = .ok (.lconst 0, 1) := by decide +kernel
theorem d_Mo_rightBy_37 : decode b_Mo_rightBy 37 = .ok (.lor, 1) := by decide +kernel
theorem d_Mo_rightBy_38 : decode b_Mo_rightBy 38 = .ok (.lreturn, 1) := by decide +kernel
theorem d_Mo_rightBy_24 : decode b_Mo_rightBy 24 = .ok (.lconst 1, 1) := by decide +kernel
theorem d_Mo_rightBy_25 : decode b_Mo_rightBy 25 = .ok (.bipush 8, 2) := by decide +kernel
theorem d_Mo_rightBy_27 : decode b_Mo_rightBy 27 = .ok (.iload 4, 2) := by decide +kernel
theorem d_Mo_rightBy_29 : decode b_Mo_rightBy 29 = .ok (.imul, 1) := by decide +kernel
theorem d_Mo_rightBy_30 : decode b_Mo_rightBy 30 = .ok (.iconst 1, 1) := by decide +kernel
theorem d_Mo_rightBy_31 : decode b_Mo_rightBy 31 = .ok (.isub, 1) := by decide +kernel
theorem d_Mo_rightBy_32 : decode b_Mo_rightBy 32 = .ok (.lshl, 1) := by decide +kernel
theorem d_Mo_rightBy_33 : decode b_Mo_rightBy 33 = .ok (.goto 4, 3) := by decide +kernel
theorem d_Mo_rightBy_9 : decode b_Mo_rightBy 9 = .ok (.iconst 1, 1) := by decide +kernel
theorem d_Mo_rightBy_10 : decode b_Mo_rightBy 10 = .ok (.goto 4, 3) := by decide +kernel
theorem d_Mo_shifted_64 : decode b_Mo_shifted 64 = .ok (.invokevirtual 419, 3) := by decide +kernel
theorem d_Mo_shifted_67 : decode b_Mo_shifted 67 = .ok (.lstore 5, 2) := by decide +kernel
theorem d_Mo_shifted_69 : decode b_Mo_shifted 69 = .ok (.iinc 8 1, 3) := by decide +kernel
theorem d_Mo_shifted_72 : decode b_Mo_shifted 72 = .ok (.goto (-58), 3) := by decide +kernel
theorem d_Mo_shifted_52 : decode b_Mo_shifted 52 = .ok (.iload 7, 2) := by decide +kernel
theorem d_Mo_shifted_54 : decode b_Mo_shifted 54 = .ok (.ifCond .eq 7, 3) := by decide +kernel
theorem d_Mo_shifted_57 : decode b_Mo_shifted 57 = .ok (.iconst 1, 1) := by decide +kernel
theorem d_Mo_shifted_58 : decode b_Mo_shifted 58 = .ok (.goto 4, 3) := by decide +kernel
theorem d_Mo_shifted_28 : decode b_Mo_shifted 28 = .ok (.aload_n 0, 1) := by decide +kernel
theorem d_Mo_shifted_29 : decode b_Mo_shifted 29 = .ok (.lload 5, 2) := by decide +kernel
theorem d_Mo_shifted_31 : decode b_Mo_shifted 31 = .ok (.iconst 0, 1) := by decide +kernel
theorem d_Mo_shifted_32 : decode b_Mo_shifted 32 = .ok (.iload 4, 2) := by decide +kernel
theorem d_Mo_leftBy_0 : decode b_Mo_leftBy 0 = .ok (.aload_n 0, 1) := by decide +kernel
theorem d_Mo_leftBy_1 : decode b_Mo_leftBy 1 = .ok (.lload_n 1, 1) := by decide +kernel
theorem d_Mo_leftBy_2 : decode b_Mo_leftBy 2 = .ok (.iload 4, 2) := by decide +kernel
theorem d_Mo_leftBy_4 : decode b_Mo_leftBy 4 = .ok (.invokestatic 212, 3) := by decide +kernel
theorem d_Mo_leftBy_7 : decode b_Mo_leftBy 7 = .ok (.putfield 412, 3) := by decide +kernel
theorem d_Mo_leftBy_10 : decode b_Mo_leftBy 10 = .ok (.lload_n 1, 1) := by decide +kernel
theorem d_Mo_leftBy_11 : decode b_Mo_leftBy 11 = .ok (.iconst 1, 1) := by decide +kernel
theorem d_Mo_leftBy_12 : decode b_Mo_leftBy 12 = .ok (.lshl, 1) := by decide +kernel
theorem d_Mo_leftBy_13 : decode b_Mo_leftBy 13 = .ok (.iload 4, 2) := by decide +kernel
theorem d_Mo_leftBy_15 : decode b_Mo_leftBy 15 = .ok (.invokestatic 180, 3) := by decide +kernel
theorem d_Mo_leftBy_18 : decode b_Mo_leftBy 18 = .ok (.iload_n 3, 1) := by decide +kernel
theorem d_Mo_leftBy_19 : decode b_Mo_leftBy 19 = .ok (.ifCond .eq 7, 3) := by decide +kernel
theorem d_Mo_leftBy_26 : decode b_Mo_leftBy 26 = .ok (.lconst 0, 1) := by decide +kernel
theorem d_Mo_leftBy_27 : decode b_Mo_leftBy 27 = .ok (.lor, 1) := by decide +kernel
theorem d_Mo_leftBy_28 : decode b_Mo_leftBy 28 = .ok (.lreturn, 1) := by decide +kernel
theorem d_Mo_leftBy_22 : decode b_Mo_leftBy 22 = .ok (.lconst 1, 1) := by decide +kernel
theorem d_Mo_leftBy_23 : decode b_Mo_leftBy 23 = .ok (.goto 4, 3) := by decide +kernel
theorem d_Mo_shifted_34 : decode b_Mo_shifted 34 = .ok (.invokevirtual 415, 3) := by decide +kernel
theorem d_Mo_shifted_37 : decode b_Mo_shifted 37 = .ok (.goto 30, 3) := by decide +kernel
theorem d_Mo_shift_143 : decode b_Mo_shift 143 = .ok (.invokevirtual 409, 3) := by decide +kernel
theorem d_Mo_shift_146 : decode b_Mo_shift 146 = .ok (.lstore 7, 2) := by decide +kernel
theorem d_Mo_shift_125 : decode b_Mo_shift 125 = .ok (.aload_n 0, 1) := by decide +kernel
theorem d_Mo_shift_126 : decode b_Mo_shift 126 = .ok (.lload 5, 2) := by decide +kernel
theorem d_Mo_shift_128 : decode b_Mo_shift 128 = .ok (.iload 4, 2) := by decide +kernel
theorem d_Mo_shift_130 : decode b_Mo_shift 130 = .ok (.iload_n 2, 1) := by decide +kernel
theorem d_Mo_rotated_0 : decode b_Mo_rotated 0 = .ok (.aload_n 0, 1) := by decide +kernel
theorem d_Mo_rotated_1 : decode b_Mo_rotated 1 = .ok (.getfield 139, 3) := by decide +kernel
theorem d_Mo_rotated_4 : decode b_Mo_rotated 4 = .ok (.iconst 2, 1) := by decide +kernel
theorem d_Mo_rotated_5 : decode b_Mo_rotated 5 = .ok (.irem, 1) := by decide +kernel
theorem d_Mo_rotated_6 : decode b_Mo_rotated 6 = .ok (.ifCond .ne 7, 3) := by decide +kernel
theorem d_Mo_rotated_13 : decode b_Mo_rotated 13 = .ok (.iconst 0, 1) := by decide +kernel
theorem d_Mo_rotated_14 : decode b_Mo_rotated 14 = .ok (.istore 5, 2) := by decide +kernel
theorem d_Mo_rotated_16 : decode b_Mo_rotated 16 = .ok (.aload_n 0, 1) := by decide +kernel
theorem d_Mo_rotated_17 : decode b_Mo_rotated 17 = .ok (.getfield 139, 3) := by decide +kernel
theorem d_Mo_rotated_20 : decode b_Mo_rotated 20 = .ok (.iconst 1, 1) := by decide +kernel
theorem d_Mo_rotated_21 : decode b_Mo_rotated 21 = .ok (.if_icmp .le 21, 3) := by decide +kernel
theorem d_Mo_rotated_42 : decode b_Mo_rotated 42 = .ok (.iload_n 3, 1) := by decide +kernel
theorem d_Mo_rotated_43 : decode b_Mo_rotated 43 = .ok (.istore 6, 2) := by decide +kernel
theorem d_Mo_rotated_45 : decode b_Mo_rotated 45 = .ok (.lload_n 1, 1) := by decide +kernel
theorem d_Mo_rotated_46 : decode b_Mo_rotated 46 = .ok (.lstore 7, 2) := by decide +kernel
theorem d_Mo_rotated_48 : decode b_Mo_rotated 48 = .ok (.iconst 0, 1) := by decide +kernel
theorem d_Mo_rotated_49 : decode b_Mo_rotated 49 = .ok (.istore 9, 2) := by decide +kernel
theorem d_Mo_rotated_51 : decode b_Mo_rotated 51 = .ok (.iload 9, 2) := by decide +kernel
theorem d_Mo_rotated_53 : decode b_Mo_rotated 53 = .ok (.iload 6, 2) := by decide +kernel
theorem d_Mo_rotated_55 : decode b_Mo_rotated 55 = .ok (.if_icmp .ge 105, 3) := by decide +kernel
theorem d_Mo_rotated_160 : decode b_Mo_rotated 160 = .ok (.aload_n 0, 1) := by decide +kernel
theorem d_Mo_rotated_161 : decode b_Mo_rotated 161 = .ok (.getfield 139, 3) := by decide +kernel
theorem d_Mo_rotated_164 : decode b_Mo_rotated 164 = .ok (.ifCond .ne 23, 3) := by decide +kernel
theorem d_Mo_rotated_187 : decode b_Mo_rotated 187 = .ok (.aload_n 0, 1) := by decide +kernel
theorem d_Mo_rotated_188 : decode b_Mo_rotated 188 = .ok (.getfield 139, 3) := by decide +kernel
theorem d_Mo_rotated_191 : decode b_Mo_rotated 191 = .ok (.iconst 1, 1) := by decide +kernel
theorem d_Mo_rotated_192 : decode b_Mo_rotated 192 = .ok (.if_icmp .ne 16, 3) := by decide +kernel
theorem d_Mo_rotated_208 : decode b_Mo_rotated 208 = .ok (.lload 7, 2) := by decide +kernel
theorem d_Mo_rotated_210 : decode b_Mo_rotated 210 = .ok (.bipush 8, 2) := by decide +kernel
theorem d_Mo_rotated_212 : decode b_Mo_rotated 212 = .ok (.iload 4, 2) := by decide +kernel
theorem d_Mo_rotated_214 : decode b_Mo_rotated 214 = .ok (.imul, 1) := by decide +kernel
theorem d_Mo_rotated_215 : decode b_Mo_rotated 215 = .ok (.iconst 2, 1) := by decide +kernel
theorem d_Mo_rotated_216 : decode b_Mo_rotated 216 = .ok (.isub, 1) := by decide +kernel
theorem d_Mo_rotated_217 : decode b_Mo_rotated 217 = .ok (.lushr, 1) := by decide +kernel
theorem d_Mo_rotated_218 : decode b_Mo_rotated 218 = .ok (.lconst 1, 1) := by decide +kernel
theorem d_Mo_rotated_219 : decode b_Mo_rotated 219 = .ok (.land, 1) := by decide +kernel
theorem d_Mo_rotated_220 : decode b_Mo_rotated 220 = .ok (.lconst 1, 1) := by decide +kernel
theorem d_Mo_rotated_221 : decode b_Mo_rotated 221 = .ok (.lcmp, 1) := by decide +kernel
theorem d_Mo_rotated_222 : decode b_Mo_rotated 222 = .ok (.ifCond .ne 7, 3) := by decide +kernel
theorem d_Mo_rotated_229 : decode b_Mo_rotated 229 = .ok (.iconst 0, 1) := by decide +kernel
theorem d_Mo_rotated_230 : decode b_Mo_rotated 230 = .ok (.istore 9, 2) := by decide +kernel
theorem d_Mo_rotated_232 : decode b_Mo_rotated 232 = .ok (.aload_n 0, 1) := by decide +kernel
theorem d_Mo_rotated_233 : decode b_Mo_rotated 233 = .ok (.getfield 21, 3) := by decide +kernel
theorem d_Mo_rotated_236 : decode b_Mo_rotated 236 = .ok (.bipush 6, 2) := by decide +kernel
theorem d_Mo_rotated_238 : decode b_Mo_rotated 238 = .ok (.lload 7, 2) := by decide +kernel
theorem d_Mo_rotated_240 : decode b_Mo_rotated 240 = .ok (.iload 4, 2) := by decide +kernel
theorem d_Mo_rotated_242 : decode b_Mo_rotated 242 = .ok (.invokestatic 212, 3) := by decide +kernel
theorem d_Mo_rotated_245 : decode b_Mo_rotated 245 = .ok (.iload 5, 2) := by decide +kernel
theorem d_Mo_rotated_247 : decode b_Mo_rotated 247 = .ok (.ifCond .eq 12, 3) := by decide +kernel
theorem d_Mo_rotated_259 : decode b_Mo_rotated 259 = .ok (.iload 9, 2) := by decide +kernel
theorem d_Mo_rotated_261 : decode b_Mo_rotated 261 = .ok (.if_icmp .eq 7, 3) := by decide +kernel
theorem d_Mo_rotated_268 : decode b_Mo_rotated 268 = .ok (.iconst 0, 1) := by decide +kernel
theorem d_Mo_rotated_269 : decode b_Mo_rotated 269 = .ok (.bastore, 1) := by decide +kernel
theorem d_Mo_rotated_270 : decode b_Mo_rotated 270 = .ok (.iload_n 3, 1) := by decide +kernel
theorem d_Mo_rotated_271 : decode b_Mo_rotated 271 = .ok (.iconst 1, 1) := by decide +kernel
theorem d_Mo_rotated_272 : decode b_Mo_rotated 272 = .ok (.if_icmp .eq 9, 3) := by decide +kernel
theorem d_Mo_rotated_281 : decode b_Mo_rotated 281 = .ok (.lload 7, 2) := by decide +kernel
theorem d_Mo_rotated_283 : decode b_Mo_rotated 283 = .ok (.lreturn, 1) := by decide +kernel
theorem d_Mo_rotated_275 : decode b_Mo_rotated 275 = .ok (.aload_n 0, 1) := by decide +kernel
theorem d_Mo_rotated_276 : decode b_Mo_rotated 276 = .ok (.bipush 6, 2) := by decide +kernel
theorem d_Mo_rotated_278 : decode b_Mo_rotated 278 = .ok (.invokevirtual 219, 3) := by decide +kernel
theorem d_Mo_rotated_264 : decode b_Mo_rotated 264 = .ok (.iconst 1, 1) := by decide +kernel
theorem d_Mo_rotated_265 : decode b_Mo_rotated 265 = .ok (.goto 4, 3) := by decide +kernel
theorem d_Mo_rotated_250 : decode b_Mo_rotated 250 = .ok (.aload_n 0, 1) := by decide +kernel
theorem d_Mo_rotated_251 : decode b_Mo_rotated 251 = .ok (.getfield 21, 3) := by decide +kernel
theorem d_Mo_rotated_254 : decode b_Mo_rotated 254 = .ok (.iconst 0, 1) := by decide +kernel
theorem d_Mo_rotated_255 : decode b_Mo_rotated 255 = .ok (.baload, 1) := by decide +kernel
theorem d_Mo_rotated_256 : decode b_Mo_rotated 256 = .ok (.goto 5, 3) := by decide +kernel
theorem d_Mo_rotated_225 : decode b_Mo_rotated 225 = .ok (.iconst 1, 1) := by decide +kernel
theorem d_Mo_rotated_226 : decode b_Mo_rotated 226 = .ok (.goto 4, 3) := by decide +kernel
theorem d_Mo_rotated_195 : decode b_Mo_rotated 195 = .ok (.aload_n 0, 1) := by decide +kernel
theorem d_Mo_rotated_196 : decode b_Mo_rotated 196 = .ok (.getfield 21, 3) := by decide +kernel
theorem d_Mo_rotated_199 : decode b_Mo_rotated 199 = .ok (.iconst 0, 1) := by decide +kernel
theorem d_Mo_rotated_200 : decode b_Mo_rotated 200 = .ok (.lload 7, 2) := by decide +kernel
theorem d_Mo_rotated_202 : decode b_Mo_rotated 202 = .ok (.iload 4, 2) := by decide +kernel
theorem d_Mo_rotated_204 : decode b_Mo_rotated 204 = .ok (.invokestatic 212, 3) := by decide +kernel
theorem d_Mo_rotated_207 : decode b_Mo_rotated 207 = .ok (.bastore, 1) := by decide +kernel
theorem d_Mo_rotated_167 : decode b_Mo_rotated 167 = .ok (.aload_n 0, 1) := by decide +kernel
theorem d_Mo_rotated_168 : decode b_Mo_rotated 168 = .ok (.getfield 21, 3) := by decide +kernel
theorem d_Mo_rotated_171 : decode b_Mo_rotated 171 = .ok (.iconst 0, 1) := by decide +kernel
theorem d_Mo_rotated_172 : decode b_Mo_rotated 172 = .ok (.lload 7, 2) := by decide +kernel
theorem d_Mo_rotated_174 : decode b_Mo_rotated 174 = .ok (.lconst 1, 1) := by decide +kernel
theorem d_Mo_rotated_175 : decode b_Mo_rotated 175 = .ok (.land, 1) := by decide +kernel
theorem d_Mo_rotated_176 : decode b_Mo_rotated 176 = .ok (.lconst 1, 1) := by decide +kernel
theorem d_Mo_rotated_177 : decode b_Mo_rotated 177 = .ok (.lcmp, 1) := by decide +kernel
theorem d_Mo_rotated_178 : decode b_Mo_rotated 178 = .ok (.ifCond .ne 7, 3) := by decide +kernel
theorem d_Mo_rotated_185 : decode b_Mo_rotated 185 = .ok (.iconst 0, 1) := by decide +kernel
theorem d_Mo_rotated_186 : decode b_Mo_rotated 186 = .ok (.bastore, 1) := by decide +kernel
theorem d_Mo_rotated_181 : decode b_Mo_rotated 181 = .ok (.iconst 1, 1) := by decide +kernel
theorem d_Mo_rotated_182 : decode b_Mo_rotated 182 = .ok (.goto 4, 3) := by decide +kernel
theorem d_Mo_rotated_58 : decode b_Mo_rotated 58 = .ok (.aload_n 0, 1) := by decide +kernel
theorem d_Mo_rotated_59 : decode b_Mo_rotated 59 = .ok (.getfield 139, 3) := by decide +kernel
theorem d_Mo_rotated_62 : decode b_Mo_rotated 62 = .ok (.iconst 1, 1) := by decide +kernel
theorem d_Mo_rotated_63 : decode b_Mo_rotated 63 = .ok (.if_icmp .le 12, 3) := by decide +kernel
theorem d_Mo_rotated_75 : decode b_Mo_rotated 75 = .ok (.iload 5, 2) := by decide +kernel
theorem d_Mo_rotated_77 : decode b_Mo_rotated 77 = .ok (.ifCond .eq 13, 3) := by decide +kernel
