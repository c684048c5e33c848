theorem d_Mo_stored_1 : decode b_Mo_stored 1 = .ok (.iload_n 1, 1) := by decide +kernel
theorem d_Mo_stored_2 : decode b_Mo_stored 2 = .ok (.i2l, 1) := by decide +kernel
theorem d_Mo_eight_0 : decode b_Mo_eight 0 = .ok (.lconst 0, 1) := by decide +kernel
theorem d_Mo_eight_1 : decode b_Mo_eight 1 = .ok (.lstore_n 3, 1) := by decide +kernel
theorem d_Mo_eight_2 : decode b_Mo_eight 2 = .ok (.iconst 0, 1) := by decide +kernel
theorem d_Mo_eight_3 : decode b_Mo_eight 3 = .ok (.istore 5, 2) := by decide +kernel
theorem d_Mo_eight_5 : decode b_Mo_eight 5 = .ok (.iload 5, 2) := by decide +kernel
theorem d_Mo_eight_7 : decode b_Mo_eight 7 = .ok (.bipush 8, 2) := by decide +kernel
theorem d_Mo_eight_9 : decode b_Mo_eight 9 = .ok (.if_icmp .ge 28, 3) := by decide +kernel
theorem d_Mo_eight_37 : decode b_Mo_eight 37 = .ok (.lload_n 3, 1) := by decide +kernel
theorem d_Mo_eight_38 : decode b_Mo_eight 38 = .ok (.lreturn, 1) := by decide +kernel
theorem d_Mo_eight_12 : decode b_Mo_eight 12 = .ok (.lload_n 3, 1) := by decide +kernel
theorem d_Mo_eight_13 : decode b_Mo_eight 13 = .ok (.aload_n 0, 1) := by decide +kernel
theorem d_Mo_eight_14 : decode b_Mo_eight 14 = .ok (.lload_n 1, 1) := by decide +kernel
theorem d_Mo_eight_15 : decode b_Mo_eight 15 = .ok (.iload 5, 2) := by decide +kernel
theorem d_Mo_eight_17 : decode b_Mo_eight 17 = .ok (.i2l, 1) := by decide +kernel
theorem d_Mo_eight_18 : decode b_Mo_eight 18 = .ok (.ladd, 1) := by decide +kernel
theorem d_Mo_byteAt_0 : decode b_Mo_byteAt 0 = .ok (.lload_n 1, 1) := by decide +kernel
theorem d_Mo_byteAt_1 : decode b_Mo_byteAt 1 = .ok (.lconst 0, 1) := by decide +kernel
theorem d_Mo_byteAt_2 : decode b_Mo_byteAt 2 = .ok (.lcmp, 1) := by decide +kernel
theorem d_Mo_byteAt_3 : decode b_Mo_byteAt 3 = .ok (.ifCond .lt 11, 3) := by decide +kernel
theorem d_Mo_byteAt_14 : decode b_Mo_byteAt 14 = .ok (.iconst 0, 1) := by decide +kernel
theorem d_Mo_byteAt_15 : decode b_Mo_byteAt 15 = .ok (.goto 14, 3) := by decide +kernel
theorem d_Mo_byteAt_29 : decode b_Mo_byteAt 29 = .ok (.ireturn, 1) := by decide +kernel
theorem d_Mo_byteAt_6 : decode b_Mo_byteAt 6 = .ok (.lload_n 1, 1) := by decide +kernel
theorem d_Mo_byteAt_7 : decode b_Mo_byteAt 7 = .ok (.ldc2_w 42, 3) := by decide +kernel
theorem d_Mo_byteAt_10 : decode b_Mo_byteAt 10 = .ok (.lcmp, 1) := by decide +kernel
theorem d_Mo_byteAt_11 : decode b_Mo_byteAt 11 = .ok (.ifCond .lt 7, 3) := by decide +kernel
theorem d_Mo_byteAt_18 : decode b_Mo_byteAt 18 = .ok (.aload_n 0, 1) := by decide +kernel
theorem d_Mo_byteAt_19 : decode b_Mo_byteAt 19 = .ok (.getfield 8, 3) := by decide +kernel
theorem d_Mo_byteAt_22 : decode b_Mo_byteAt 22 = .ok (.lload_n 1, 1) := by decide +kernel
theorem d_Mo_byteAt_23 : decode b_Mo_byteAt 23 = .ok (.l2i, 1) := by decide +kernel
theorem d_Mo_byteAt_24 : decode b_Mo_byteAt 24 = .ok (.baload, 1) := by decide +kernel
theorem d_Mo_byteAt_25 : decode b_Mo_byteAt 25 = .ok (.sipush 255, 3) := by decide +kernel
theorem d_Mo_byteAt_28 : decode b_Mo_byteAt 28 = .ok (.iand, 1) := by decide +kernel
theorem d_Mo_eight_19 : decode b_Mo_eight 19 = .ok (.invokevirtual 44, 3) := by decide +kernel
theorem d_Mo_eight_22 : decode b_Mo_eight 22 = .ok (.i2l, 1) := by decide +kernel
theorem d_Mo_eight_23 : decode b_Mo_eight 23 = .ok (.bipush 8, 2) := by decide +kernel
theorem d_Mo_eight_25 : decode b_Mo_eight 25 = .ok (.iload 5, 2) := by decide +kernel
theorem d_Mo_eight_27 : decode b_Mo_eight 27 = .ok (.imul, 1) := by decide +kernel
theorem d_Mo_eight_28 : decode b_Mo_eight 28 = .ok (.lshl, 1) := by decide +kernel
theorem d_Mo_eight_29 : decode b_Mo_eight 29 = .ok (.lor, 1) := by decide +kernel
theorem d_Mo_eight_30 : decode b_Mo_eight 30 = .ok (.lstore_n 3, 1) := by decide +kernel
theorem d_Mo_eight_31 : decode b_Mo_eight 31 = .ok (.iinc 5 1, 3) := by decide +kernel
theorem d_Mo_eight_34 : decode b_Mo_eight 34 = .ok (.goto (-29), 3) := by decide +kernel
theorem d_Mo_stored_3 : decode b_Mo_stored 3 = .ok (.invokevirtual 62, 3) := by decide +kernel
theorem d_Mo_stored_6 : decode b_Mo_stored 6 = .ok (.lreturn, 1) := by decide +kernel
theorem d_Mo_set_0 : decode b_Mo_set 0 = .ok (.iload_n 2, 1) := by decide +kernel
theorem d_Mo_set_1 : decode b_Mo_set 1 = .ok (.iload_n 3, 1) := by decide +kernel
theorem d_Mo_join_0 : decode b_Mo_join 0 = .ok (.iload_n 0, 1) := by decide +kernel
theorem d_Mo_join_1 : decode b_Mo_join 1 = .ok (.i2l, 1) := by decide +kernel
theorem d_Mo_join_2 : decode b_Mo_join 2 = .ok (.bipush 32, 2) := by decide +kernel
theorem d_Mo_join_4 : decode b_Mo_join 4 = .ok (.lshl, 1) := by decide +kernel
theorem d_Mo_join_5 : decode b_Mo_join 5 = .ok (.iload_n 1, 1) := by decide +kernel
theorem d_Mo_join_6 : decode b_Mo_join 6 = .ok (.i2l, 1) := by decide +kernel
theorem d_Mo_join_7 : decode b_Mo_join 7 = .ok (.ldc2_w 459, 3) := by decide +kernel
theorem d_Mo_join_10 : decode b_Mo_join 10 = .ok (.land, 1) := by decide +kernel
theorem d_Mo_join_11 : decode b_Mo_join 11 = .ok (.lor, 1) := by decide +kernel
theorem d_Mo_join_12 : decode b_Mo_join 12 = .ok (.lreturn, 1) := by decide +kernel
theorem d_Mo_set_2 : decode b_Mo_set 2 = .ok (.invokestatic 461, 3) := by decide +kernel
theorem d_Mo_set_5 : decode b_Mo_set 5 = .ok (.lstore 4, 2) := by decide +kernel
theorem d_Mo_set_7 : decode b_Mo_set 7 = .ok (.iload_n 1, 1) := by decide +kernel
theorem d_Mo_set_8 : decode b_Mo_set 8 = .ok (.ifCond .lt 9, 3) := by decide +kernel
theorem d_Mo_set_17 : decode b_Mo_set 17 = .ok (.iconst 0, 1) := by decide +kernel
theorem d_Mo_set_18 : decode b_Mo_set 18 = .ok (.ireturn, 1) := by decide +kernel
theorem d_Mo_set_11 : decode b_Mo_set 11 = .ok (.iload_n 1, 1) := by decide +kernel
theorem d_Mo_set_12 : decode b_Mo_set 12 = .ok (.bipush 21, 2) := by decide +kernel
theorem d_Mo_set_14 : decode b_Mo_set 14 = .ok (.if_icmp .le 5, 3) := by decide +kernel
theorem d_Mo_set_19 : decode b_Mo_set 19 = .ok (.iload_n 1, 1) := by decide +kernel
theorem d_Mo_set_20 : decode b_Mo_set 20 = .ok (.bipush 16, 2) := by decide +kernel
theorem d_Mo_set_22 : decode b_Mo_set 22 = .ok (.if_icmp .ge 11, 3) := by decide +kernel
theorem d_Mo_set_33 : decode b_Mo_set 33 = .ok (.iload_n 1, 1) := by decide +kernel
theorem d_Mo_set_34 : decode b_Mo_set 34 = .ok (.bipush 16, 2) := by decide +kernel
theorem d_Mo_set_36 : decode b_Mo_set 36 = .ok (.if_icmp .ne 9, 3) := by decide +kernel
theorem d_Mo_set_45 : decode b_Mo_set 45 = .ok (.iload_n 1, 1) := by decide +kernel
theorem d_Mo_set_46 : decode b_Mo_set 46 = .ok (.bipush 17, 2) := by decide +kernel
theorem d_Mo_set_48 : decode b_Mo_set 48 = .ok (.if_icmp .ne 9, 3) := by decide +kernel
theorem d_Mo_set_57 : decode b_Mo_set 57 = .ok (.iload_n 1, 1) := by decide +kernel
theorem d_Mo_set_58 : decode b_Mo_set 58 = .ok (.bipush 18, 2) := by decide +kernel
theorem d_Mo_set_60 : decode b_Mo_set 60 = .ok (.if_icmp .ne 9, 3) := by decide +kernel
theorem d_Mo_set_69 : decode b_Mo_set 69 = .ok (.iload_n 1, 1) := by decide +kernel
theorem d_Mo_set_70 : decode b_Mo_set 70 = .ok (.bipush 19, 2) := by decide +kernel
theorem d_Mo_set_72 : decode b_Mo_set 72 = .ok (.if_icmp .ne 9, 3) := by decide +kernel
theorem d_Mo_set_81 : decode b_Mo_set 81 = .ok (.iload_n 1, 1) := by decide +kernel
theorem d_Mo_set_82 : decode b_Mo_set 82 = .ok (.bipush 20, 2) := by decide +kernel
theorem d_Mo_set_84 : decode b_Mo_set 84 = .ok (.if_icmp .ne 9, 3) := by decide +kernel
theorem d_Mo_set_93 : decode b_Mo_set 93 = .ok (.iload_n 1, 1) := by decide +kernel
theorem d_Mo_set_94 : decode b_Mo_set 94 = .ok (.bipush 21, 2) := by decide +kernel
theorem d_Mo_set_96 : decode b_Mo_set 96 = .ok (.if_icmp .ne 9, 3) := by decide +kernel
theorem d_Mo_set_105 : decode b_Mo_set 105 = .ok (.iconst 1, 1) := by decide +kernel
theorem d_Mo_set_106 : decode b_Mo_set 106 = .ok (.ireturn, 1) := by decide +kernel
theorem d_Mo_set_99 : decode b_Mo_set 99 = .ok (.aload_n 0, 1) := by decide +kernel
theorem d_Mo_set_100 : decode b_Mo_set 100 = .ok (.lload 4, 2) := by decide +kernel
theorem d_Mo_set_102 : decode b_Mo_set 102 = .ok (.putfield 205, 3) := by decide +kernel
theorem d_Mo_set_87 : decode b_Mo_set 87 = .ok (.aload_n 0, 1) := by decide +kernel
theorem d_Mo_set_88 : decode b_Mo_set 88 = .ok (.lload 4, 2) := by decide +kernel
theorem d_Mo_setFlags_0 : decode b_Mo_setFlags 0 = .ok (.aload_n 0, 1) := by decide +kernel
theorem d_Mo_setFlags_1 : decode b_Mo_setFlags 1 = .ok (.getfield 21, 3) := by decide +kernel
theorem d_Mo_setFlags_4 : decode b_Mo_setFlags 4 = .ok (.iconst 0, 1) := by decide +kernel
theorem d_Mo_setFlags_5 : decode b_Mo_setFlags 5 = .ok (.lload_n 1, 1) := by decide +kernel
theorem d_Mo_setFlags_6 : decode b_Mo_setFlags 6 = .ok (.lconst 1, 1) := by decide +kernel
theorem d_Mo_setFlags_7 : decode b_Mo_setFlags 7 = .ok (.land, 1) := by decide +kernel
theorem d_Mo_setFlags_8 : decode b_Mo_setFlags 8 = .ok (.lconst 0, 1) := by decide +kernel
theorem d_Mo_setFlags_9 : decode b_Mo_setFlags 9 = .ok (.lcmp, 1) := by decide +kernel
theorem d_Mo_setFlags_10 : decode b_Mo_setFlags 10 = .ok (.ifCond .eq 7, 3) := by decide +kernel
theorem d_Mo_setFlags_17 : decode b_Mo_setFlags 17 = .ok (.iconst 0, 1) := by decide +kernel
theorem d_Mo_setFlags_18 : decode b_Mo_setFlags 18 = .ok (.bastore, 1) := by decide +kernel
theorem d_Mo_setFlags_19 : decode b_Mo_setFlags 19 = .ok (.aload_n 0, 1) := by decide +kernel
theorem d_Mo_setFlags_20 : decode b_Mo_setFlags 20 = .ok (.getfield 21, 3) := by decide +kernel
theorem d_Mo_setFlags_23 : decode b_Mo_setFlags 23 = .ok (.iconst 1, 1) := by decide +kernel
theorem d_Mo_setFlags_24 : decode b_Mo_setFlags 24 = .ok (.lload_n 1, 1) := by decide +kernel
theorem d_Mo_setFlags_25 : decode b_Mo_setFlags 25 = .ok (.ldc2_w 75, 3) := by decide +kernel
theorem d_Mo_setFlags_28 : decode b_Mo_setFlags 28 = .ok (.land, 1) := by decide +kernel
theorem d_Mo_setFlags_29 : decode b_Mo_setFlags 29 = .ok (.lconst 0, 1) := by decide +kernel
theorem d_Mo_setFlags_30 : decode b_Mo_setFlags 30 = .ok (.lcmp, 1) := by decide +kernel
theorem d_Mo_setFlags_31 : decode b_Mo_setFlags 31 = .ok (.ifCond .eq 7, 3) := by decide +kernel
theorem d_Mo_setFlags_38 : decode b_Mo_setFlags 38 = .ok (.iconst 0, 1) := by decide +kernel
theorem d_Mo_setFlags_39 : decode b_Mo_setFlags 39 = .ok (.bastore, 1) := by decide +kernel
theorem d_Mo_setFlags_40 : decode b_Mo_setFlags 40 = .ok (.aload_n 0, 1) := by decide +kernel
theorem d_Mo_setFlags_41 : decode b_Mo_setFlags 41 = .ok (.getfield 21, 3) := by decide +kernel
theorem d_Mo_setFlags_44 : decode b_Mo_setFlags 44 = .ok (.iconst 2, 1) := by decide +kernel
theorem d_Mo_setFlags_45 : decode b_Mo_setFlags 45 = .ok (.lload_n 1, 1) := by decide +kernel
theorem d_Mo_setFlags_46 : decode b_Mo_setFlags 46 = .ok (.ldc2_w 451, 3) := by decide +kernel
theorem d_Mo_setFlags_49 : decode b_Mo_setFlags 49 = .ok (.land, 1) := by decide +kernel
theorem d_Mo_setFlags_50 : decode b_Mo_setFlags 50 = .ok (.lconst 0, 1) := by decide +kernel
theorem d_Mo_setFlags_51 : decode b_Mo_setFlags 51 = .ok (.lcmp, 1) := by decide +kernel
theorem d_Mo_setFlags_52 : decode b_Mo_setFlags 52 = .ok (.ifCond .eq 7, 3) := by decide +kernel
theorem d_Mo_setFlags_59 : decode b_Mo_setFlags 59 = .ok (.iconst 0, 1) := by decide +kernel
theorem d_Mo_setFlags_60 : decode b_Mo_setFlags 60 = .ok (.bastore, 1) := by decide +kernel
theorem d_Mo_setFlags_61 : decode b_Mo_setFlags 61 = .ok (.aload_n 0, 1) := by decide +kernel
theorem d_Mo_setFlags_62 : decode b_Mo_setFlags 62 = .ok (.getfield 21, 3) := by decide +kernel
theorem d_Mo_setFlags_65 : decode b_Mo_setFlags 65 = .ok (.iconst 3, 1) := by decide +kernel
theorem d_Mo_setFlags_66 : decode b_Mo_setFlags 66 = .ok (.lload_n 1, 1) := by decide +kernel
theorem d_Mo_setFlags_67 : decode b_Mo_setFlags 67 = .ok (.ldc2_w 453, 3) := by decide +kernel
theorem d_Mo_setFlags_70 : decode b_Mo_setFlags 70 = .ok (.land, 1) := by decide +kernel
theorem d_Mo_setFlags_71 : decode b_Mo_setFlags 71 = .ok (.lconst 0, 1) := by decide +kernel
theorem d_Mo_setFlags_72 : decode b_Mo_setFlags 72 = .ok (.lcmp, 1) := by decide +kernel
theorem d_Mo_setFlags_73 : decode b_Mo_setFlags 73 = .ok (.ifCond .eq 7, 3) := by decide +kernel
theorem d_Mo_setFlags_80 : decode b_Mo_setFlags 80 = .ok (.iconst 0, 1) := by decide +kernel
theorem d_Mo_setFlags_81 : decode b_Mo_setFlags 81 = .ok (.bastore, 1) := by decide +kernel
theorem d_Mo_setFlags_82 : decode b_Mo_setFlags 82 = .ok (.aload_n 0, 1) := by decide +kernel
theorem d_Mo_setFlags_83 : decode b_Mo_setFlags 83 = .ok (.getfield 21, 3) := by decide +kernel
theorem d_Mo_setFlags_86 : decode b_Mo_setFlags 86 = .ok (.iconst 4, 1) := by decide +kernel
theorem d_Mo_setFlags_87 : decode b_Mo_setFlags 87 = .ok (.lload_n 1, 1) := by decide +kernel
theorem d_Mo_setFlags_88 : decode b_Mo_setFlags 88 = .ok (.ldc2_w 66, 3) := by decide +kernel
theorem d_Mo_setFlags_91 : decode b_Mo_setFlags 91 = .ok (.land, 1) := by decide +kernel
theorem d_Mo_setFlags_92 : decode b_Mo_setFlags 92 = .ok (.lconst 0, 1) := by decide +kernel
theorem d_Mo_setFlags_93 : decode b_Mo_setFlags 93 = .ok (.lcmp, 1) := by decide +kernel
theorem d_Mo_setFlags_94 : decode b_Mo_setFlags 94 = .ok (.ifCond .eq 7, 3) := by decide +kernel
theorem d_Mo_setFlags_101 : decode b_Mo_setFlags 101 = .ok (.iconst 0, 1) := by decide +kernel
theorem d_Mo_setFlags_102 : decode b_Mo_setFlags 102 = .ok (.bastore, 1) := by decide +kernel
theorem d_Mo_setFlags_103 : decode b_Mo_setFlags 103 = .ok (.aload_n 0, 1) := by decide +kernel
theorem d_Mo_setFlags_104 : decode b_Mo_setFlags 104 = .ok (.getfield 21, 3) := by decide +kernel
theorem d_Mo_setFlags_107 : decode b_Mo_setFlags 107 = .ok (.iconst 5, 1) := by decide +kernel
theorem d_Mo_setFlags_108 : decode b_Mo_setFlags 108 = .ok (.lload_n 1, 1) := by decide +kernel
theorem d_Mo_setFlags_109 : decode b_Mo_setFlags 109 = .ok (.ldc2_w 455, 3) := by decide +kernel
theorem d_Mo_setFlags_112 : decode b_Mo_setFlags 112 = .ok (.land, 1) := by decide +kernel
theorem d_Mo_setFlags_113 : decode b_Mo_setFlags 113 = .ok (.lconst 0, 1) := by decide +kernel
theorem d_Mo_setFlags_114 : decode b_Mo_setFlags 114 = .ok (.lcmp, 1) := by decide +kernel
theorem d_Mo_setFlags_115 : decode b_Mo_setFlags 115 = .ok (.ifCond .eq 7, 3) := by decide +kernel
theorem d_Mo_setFlags_122 : decode b_Mo_setFlags 122 = .ok (.iconst 0, 1) := by decide +kernel
theorem d_Mo_setFlags_123 : decode b_Mo_setFlags 123 = .ok (.bastore, 1) := by decide +kernel
theorem d_Mo_setFlags_124 : decode b_Mo_setFlags 124 = .ok (.aload_n 0, 1) := by decide +kernel
theorem d_Mo_setFlags_125 : decode b_Mo_setFlags 125 = .ok (.getfield 21, 3) := by decide +kernel
theorem d_Mo_setFlags_128 : decode b_Mo_setFlags 128 = .ok (.bipush 6, 2) := by decide +kernel
theorem d_Mo_setFlags_130 : decode b_Mo_setFlags 130 = .ok (.lload_n 1, 1) := by decide +kernel
theorem d_Mo_setFlags_131 : decode b_Mo_setFlags 131 = .ok (.ldc2_w 457, 3) := by decide +kernel
theorem d_Mo_setFlags_134 : decode b_Mo_setFlags 134 = .ok (.land, 1) := by decide +kernel
theorem d_Mo_setFlags_135 : decode b_Mo_setFlags 135 = .ok (.lconst 0, 1) := by decide +kernel
theorem d_Mo_setFlags_136 : decode b_Mo_setFlags 136 = .ok (.lcmp, 1) := by decide +kernel
theorem d_Mo_setFlags_137 : decode b_Mo_setFlags 137 = .ok (.ifCond .eq 7, 3) := by decide +kernel
theorem d_Mo_setFlags_144 : decode b_Mo_setFlags 144 = .ok (.iconst 0, 1) := by decide +kernel
theorem d_Mo_setFlags_145 : decode b_Mo_setFlags 145 = .ok (.bastore, 1) := by decide +kernel
theorem d_Mo_setFlags_146 : decode b_Mo_setFlags 146 = .ok (.return_, 1) := by decide +kernel
theorem d_Mo_setFlags_140 : decode b_Mo_setFlags 140 = .ok (.iconst 1, 1) := by decide +kernel
theorem d_Mo_setFlags_141 : decode b_Mo_setFlags 141 = .ok (.goto 4, 3) := by decide +kernel
theorem d_Mo_setFlags_118 : decode b_Mo_setFlags 118 = .ok (.iconst 1, 1) := by decide +kernel
theorem d_Mo_setFlags_119 : decode b_Mo_setFlags 119 = .ok (.goto 4, 3) := by decide +kernel
theorem d_Mo_setFlags_97 : decode b_Mo_setFlags 97 = .ok (.iconst 1, 1) := by decide +kernel
theorem d_Mo_setFlags_98 : decode b_Mo_setFlags 98 = .ok (.goto 4, 3) := by decide +kernel
theorem d_Mo_setFlags_76 : decode b_Mo_setFlags 76 = .ok (.iconst 1, 1) := by decide +kernel
theorem d_Mo_setFlags_77 : decode b_Mo_setFlags 77 = .ok (.goto 4, 3) := by decide +kernel
theorem d_Mo_setFlags_55 : decode b_Mo_setFlags 55 = .ok (.iconst 1, 1) := by decide +kernel
theorem d_Mo_setFlags_56 : decode b_Mo_setFlags 56 = .ok (.goto 4, 3) := by decide +kernel
theorem d_Mo_setFlags_34 : decode b_Mo_setFlags 34 = .ok (.iconst 1, 1) := by decide +kernel
theorem d_Mo_setFlags_35 : decode b_Mo_setFlags 35 = .ok (.goto 4, 3) := by decide +kernel
theorem d_Mo_setFlags_13 : decode b_Mo_setFlags 13 = .ok (.iconst 1, 1) := by decide +kernel
theorem d_Mo_setFlags_14 : decode b_Mo_setFlags 14 = .ok (.goto 4, 3) := by decide +kernel
theorem d_Mo_set_90 : decode b_Mo_set 90 = .ok (.invokevirtual 316, 3) := by decide +kernel
theorem d_Mo_set_75 : decode b_Mo_set 75 = .ok (.aload_n 0, 1) := by decide +kernel
theorem d_Mo_set_76 : decode b_Mo_set 76 = .ok (.lload 4, 2) := by decide +kernel
theorem d_Mo_set_78 : decode b_Mo_set 78 = .ok (.putfield 448, 3) := by decide +kernel
theorem d_Mo_set_63 : decode b_Mo_set 63 = .ok (.aload_n 0, 1) := by decide +kernel
theorem d_Mo_set_64 : decode b_Mo_set 64 = .ok (.lload 4, 2) := by decide +kernel
theorem d_Mo_set_66 : decode b_Mo_set 66 = .ok (.putfield 445, 3) := by decide +kernel
theorem d_Mo_set_51 : decode b_Mo_set 51 = .ok (.aload_n 0, 1) := by decide +kernel
theorem d_Mo_set_52 : decode b_Mo_set 52 = .ok (.lload 4, 2) := by decide +kernel
theorem d_Mo_set_54 : decode b_Mo_set 54 = .ok (.putfield 52, 3) := by decide +kernel
theorem d_Mo_set_39 : decode b_Mo_set 39 = .ok (.aload_n 0, 1) := by decide +kernel
theorem d_Mo_set_40 : decode b_Mo_set 40 = .ok (.lload 4, 2) := by decide +kernel
theorem d_Mo_set_42 : decode b_Mo_set 42 = .ok (.putfield 111, 3) := by decide +kernel
theorem d_Mo_set_25 : decode b_Mo_set 25 = .ok (.aload_n 0, 1) := by decide +kernel
theorem d_Mo_set_26 : decode b_Mo_set 26 = .ok (.getfield 14, 3) := by decide +kernel
theorem d_Mo_set_29 : decode b_Mo_set 29 = .ok (.iload_n 1, 1) := by decide +kernel
theorem d_Mo_set_30 : decode b_Mo_set 30 = .ok (.lload 4, 2) := by decide +kernel
theorem d_Mo_set_32 : decode b_Mo_set 32 = .ok (.lastore, 1) := by decide +kernel
theorem d_Mo_get_0 : decode b_Mo_get 0 = .ok (.iload_n 1, 1) := by decide +kernel
theorem d_Mo_get_1 : decode b_Mo_get 1 = .ok (.ifCond .lt 9, 3) := by decide +kernel
theorem d_Mo_get_10 : decode b_Mo_get 10 = .ok (.lconst 0, 1) := by decide +kernel
theorem d_Mo_get_11 : decode b_Mo_get 11 = .ok (.lreturn, 1) := by decide +kernel
theorem d_Mo_get_4 : decode b_Mo_get 4 = .ok (.iload_n 1, 1) := by decide +kernel
theorem d_Mo_get_5 : decode b_Mo_get 5 = .ok (.bipush 24, 2) := by decide +kernel
theorem d_Mo_get_7 : decode b_Mo_get 7 = .ok (.if_icmp .le 5, 3) := by decide +kernel
theorem d_Mo_get_12 : decode b_Mo_get 12 = .ok (.iload_n 1, 1) := by decide +kernel
theorem d_Mo_get_13 : decode b_Mo_get 13 = .ok (.bipush 16, 2) := by decide +kernel
theorem d_Mo_get_15 : decode b_Mo_get 15 = .ok (.if_icmp .ge 10, 3) := by decide +kernel
theorem d_Mo_get_25 : decode b_Mo_get 25 = .ok (.iload_n 1, 1) := by decide +kernel
theorem d_Mo_get_26 : decode b_Mo_get 26 = .ok (.tableswitch 87 16 23 #[46, 51, 56, 61, 66, 71, 76, 81], 46) := by decide +kernel
theorem d_Mo_get_72 : decode b_Mo_get 72 = .ok (.aload_n 0, 1) := by decide +kernel
theorem d_Mo_get_73 : decode b_Mo_get 73 = .ok (.getfield 111, 3) := by decide +kernel
theorem d_Mo_get_76 : decode b_Mo_get 76 = .ok (.lreturn, 1) := by decide +kernel
theorem d_Mo_get_77 : decode b_Mo_get 77 = .ok (.aload_n 0, 1) := by decide +kernel
theorem d_Mo_get_78 : decode b_Mo_get 78 = .ok (.getfield 52, 3) := by decide +kernel
theorem d_Mo_get_81 : decode b_Mo_get 81 = .ok (.lreturn, 1) := by decide +kernel
theorem d_Mo_get_82 : decode b_Mo_get 82 = .ok (.aload_n 0, 1) := by decide +kernel
theorem d_Mo_get_83 : decode b_Mo_get 83 = .ok (.getfield 445, 3) := by decide +kernel
theorem d_Mo_get_86 : decode b_Mo_get 86 = .ok (.lreturn, 1) := by decide +kernel
theorem d_Mo_get_87 : decode b_Mo_get 87 = .ok (.aload_n 0, 1) := by decide +kernel
theorem d_Mo_get_88 : decode b_Mo_get 88 = .ok (.getfield 448, 3) := by decide +kernel
theorem d_Mo_get_91 : decode b_Mo_get 91 = .ok (.lreturn, 1) := by decide +kernel
theorem d_Mo_get_92 : decode b_Mo_get 92 = .ok (.aload_n 0, 1) := by decide +kernel
theorem d_Mo_flags_0 : decode b_Mo_flags 0 = .ok (.aload_n 0, 1) := by decide +kernel
theorem d_Mo_flags_1 : decode b_Mo_flags 1 = .ok (.getfield 21, 3) := by decide +kernel
theorem d_Mo_flags_4 : decode b_Mo_flags 4 = .ok (.iconst 0, 1) := by decide +kernel
theorem d_Mo_flags_5 : decode b_Mo_flags 5 = .ok (.baload, 1) := by decide +kernel
theorem d_Mo_flags_6 : decode b_Mo_flags 6 = .ok (.ifCond .eq 7, 3) := by decide +kernel
theorem d_Mo_flags_13 : decode b_Mo_flags 13 = .ok (.lconst 0, 1) := by decide +kernel
theorem d_Mo_flags_14 : decode b_Mo_flags 14 = .ok (.aload_n 0, 1) := by decide +kernel
theorem d_Mo_flags_15 : decode b_Mo_flags 15 = .ok (.getfield 21, 3) := by decide +kernel
theorem d_Mo_flags_18 : decode b_Mo_flags 18 = .ok (.iconst 1, 1) := by decide +kernel
theorem d_Mo_flags_19 : decode b_Mo_flags 19 = .ok (.baload, 1) := by decide +kernel
theorem d_Mo_flags_20 : decode b_Mo_flags 20 = .ok (.ifCond .eq 9, 3) := by decide +kernel
theorem d_Mo_flags_29 : decode b_Mo_flags 29 = .ok (.lconst 0, 1) := by decide +kernel
theorem d_Mo_flags_30 : decode b_Mo_flags 30 = .ok (.ladd, 1) := by decide +kernel
theorem d_Mo_flags_31 : decode b_Mo_flags 31 = .ok (.aload_n 0, 1) := by decide +kernel
theorem d_Mo_flags_32 : decode b_Mo_flags 32 = .ok (.getfield 21, 3) := by decide +kernel
theorem d_Mo_flags_35 : decode b_Mo_flags 35 = .ok (.iconst 2, 1) := by decide +kernel
theorem d_Mo_flags_36 : decode b_Mo_flags 36 = .ok (.baload, 1) := by decide +kernel
theorem d_Mo_flags_37 : decode b_Mo_flags 37 = .ok (.ifCond .eq 9, 3) := by decide +kernel
theorem d_Mo_flags_46 : decode b_Mo_flags 46 = .ok (.lconst 0, 1) := by decide +kernel
theorem d_Mo_flags_47 : decode b_Mo_flags 47 = .ok (.ladd, 1) := by decide +kernel
theorem d_Mo_flags_48 : decode b_Mo_flags 48 = .ok (.aload_n 0, 1) := by decide +kernel
theorem d_Mo_flags_49 : decode b_Mo_flags 49 = .ok (.getfield 21, 3) := by decide +kernel
theorem d_Mo_flags_52 : decode b_Mo_flags 52 = .ok (.iconst 3, 1) := by decide +kernel
theorem d_Mo_flags_53 : decode b_Mo_flags 53 = .ok (.baload, 1) := by decide +kernel
theorem d_Mo_flags_54 : decode b_Mo_flags 54 = .ok (.ifCond .eq 9, 3) := by decide +kernel
theorem d_Mo_flags_63 : decode b_Mo_flags 63 = .ok (.lconst 0, 1) := by decide +kernel
theorem d_Mo_flags_64 : decode b_Mo_flags 64 = .ok (.ladd, 1) := by decide +kernel
theorem d_Mo_flags_65 : decode b_Mo_flags 65 = .ok (.aload_n 0, 1) := by decide +kernel
theorem d_Mo_flags_66 : decode b_Mo_flags 66 = .ok (.getfield 21, 3) := by decide +kernel
theorem d_Mo_flags_69 : decode b_Mo_flags 69 = .ok (.iconst 4, 1) := by decide +kernel
theorem d_Mo_flags_70 : decode b_Mo_flags 70 = .ok (.baload, 1) := by decide +kernel
theorem d_Mo_flags_71 : decode b_Mo_flags 71 = .ok (.ifCond .eq 9, 3) := by decide +kernel
theorem d_Mo_flags_80 : decode b_Mo_flags 80 = .ok (.lconst 0, 1) := by decide +kernel
theorem d_Mo_flags_81 : decode b_Mo_flags 81 = .ok (.ladd, 1) := by decide +kernel
theorem d_Mo_flags_82 : decode b_Mo_flags 82 = .ok (.aload_n 0, 1) := by decide +kernel
theorem d_Mo_flags_83 : decode b_Mo_flags 83 = .ok (.getfield 21, 3) := by decide +kernel
theorem d_Mo_flags_86 : decode b_Mo_flags 86 = .ok (.iconst 5, 1) := by decide +kernel
theorem d_Mo_flags_87 : decode b_Mo_flags 87 = .ok (.baload, 1) := by decide +kernel
theorem d_Mo_flags_88 : decode b_Mo_flags 88 = .ok (.ifCond .eq 9, 3) := by decide +kernel
theorem d_Mo_flags_97 : decode b_Mo_flags 97 = .ok (.lconst 0, 1) := by decide +kernel
theorem d_Mo_flags_98 : decode b_Mo_flags 98 = .ok (.ladd, 1) := by decide +kernel
theorem d_Mo_flags_99 : decode b_Mo_flags 99 = .ok (.aload_n 0, 1) := by decide +kernel
theorem d_Mo_flags_100 : decode b_Mo_flags 100 = .ok (.getfield 21, 3) := by decide +kernel
theorem d_Mo_flags_103 : decode b_Mo_flags 103 = .ok (.bipush 6, 2) := by decide +kernel
theorem d_Mo_flags_105 : decode b_Mo_flags 105 = .ok (.baload, 1) := by decide +kernel
theorem d_Mo_flags_106 : decode b_Mo_flags 106 = .ok (.ifCond .eq 9, 3) := by decide +kernel
theorem d_Mo_flags_115 : decode b_Mo_flags 115 = .ok (.lconst 0, 1) := by decide +kernel
theorem d_Mo_flags_116 : decode b_Mo_flags 116 = .ok (.ladd, 1) := by decide +kernel
theorem d_Mo_flags_117 : decode b_Mo_flags 117 = .ok (.lreturn, 1) := by decide +kernel
theorem d_Mo_flags_109 : decode b_Mo_flags 109 = .ok (.ldc2_w 457, 3) := by decide +kernel
theorem d_Mo_flags_112 : decode b_Mo_flags 112 = .ok (.goto 4, 3) := by decide +kernel
theorem d_Mo_flags_91 : decode b_Mo_flags 91 = .ok (.ldc2_w 455, 3) := by decide +kernel
theorem d_Mo_flags_94 : decode b_Mo_flags 94 = .ok (.goto 4, 3) := by decide +kernel
theorem d_Mo_flags_74 : decode b_Mo_flags 74 = .ok (.ldc2_w 66, 3) := by decide +kernel
theorem d_Mo_flags_77 : decode b_Mo_flags 77 = .ok (.goto 4, 3) := by decide +kernel
theorem d_Mo_flags_57 : decode b_Mo_flags 57 = .ok (.ldc2_w 453, 3) := by decide +kernel
theorem d_Mo_flags_60 : decode b_Mo_flags 60 = .ok (.goto 4, 3) := by decide +kernel
theorem d_Mo_flags_40 : decode b_Mo_flags 40 = .ok (.ldc2_w 451, 3) := by decide +kernel
theorem d_Mo_flags_43 : decode b_Mo_flags 43 = .ok (.goto 4, 3) := by decide +kernel
theorem d_Mo_flags_23 : decode b_Mo_flags 23 = .ok (.ldc2_w 75, 3) := by decide +kernel
theorem d_Mo_flags_26 : decode b_Mo_flags 26 = .ok (.goto 4, 3) := by decide +kernel
theorem d_Mo_flags_9 : decode b_Mo_flags 9 = .ok (.lconst 1, 1) := by decide +kernel
theorem d_Mo_flags_10 : decode b_Mo_flags 10 = .ok (.goto 4, 3) := by decide +kernel
theorem d_Mo_get_93 : decode b_Mo_get 93 = .ok (.invokevirtual 304, 3) := by decide +kernel
theorem d_Mo_get_96 : decode b_Mo_get 96 = .ok (.lreturn, 1) := by decide +kernel
theorem d_Mo_get_97 : decode b_Mo_get 97 = .ok (.aload_n 0, 1) := by decide +kernel
theorem d_Mo_get_98 : decode b_Mo_get 98 = .ok (.getfield 205, 3) := by decide +kernel
theorem d_Mo_get_101 : decode b_Mo_get 101 = .ok (.lreturn, 1) := by decide +kernel
theorem d_Mo_get_102 : decode b_Mo_get 102 = .ok (.aload_n 0, 1) := by decide +kernel
theorem d_Mo_get_103 : decode b_Mo_get 103 = .ok (.getfield 89, 3) := by decide +kernel
theorem d_Mo_get_106 : decode b_Mo_get 106 = .ok (.lreturn, 1) := by decide +kernel
theorem d_Mo_get_107 : decode b_Mo_get 107 = .ok (.aload_n 0, 1) := by decide +kernel
theorem d_Mo_get_108 : decode b_Mo_get 108 = .ok (.getfield 92, 3) := by decide +kernel
theorem d_Mo_get_111 : decode b_Mo_get 111 = .ok (.i2l, 1) := by decide +kernel
theorem d_Mo_get_112 : decode b_Mo_get 112 = .ok (.lreturn, 1) := by decide +kernel
theorem d_Mo_get_113 : decode b_Mo_get 113 = .ok (.aload_n 0, 1) := by decide +kernel
theorem d_Mo_get_114 : decode b_Mo_get 114 = .ok (.getfield 48, 3) := by decide +kernel
theorem d_Mo_get_117 : decode b_Mo_get 117 = .ok (.ifCond .eq 9, 3) := by decide +kernel
theorem d_Mo_get_126 : decode b_Mo_get 126 = .ok (.lconst 0, 1) := by decide +kernel
theorem d_Mo_get_127 : decode b_Mo_get 127 = .ok (.lreturn, 1) := by decide +kernel
theorem d_Mo_get_120 : decode b_Mo_get 120 = .ok (.ldc2_w 464, 3) := by decide +kernel
theorem d_Mo_get_123 : decode b_Mo_get 123 = .ok (.goto 4, 3) := by decide +kernel
theorem d_Mo_get_18 : decode b_Mo_get 18 = .ok (.aload_n 0, 1) := by decide +kernel
theorem d_Mo_get_19 : decode b_Mo_get 19 = .ok (.getfield 14, 3) := by decide +kernel
theorem d_Mo_get_22 : decode b_Mo_get 22 = .ok (.iload_n 1, 1) := by decide +kernel
theorem d_Mo_get_23 : decode b_Mo_get 23 = .ok (.laload, 1) := by decide +kernel
theorem d_Mo_get_24 : decode b_Mo_get 24 = .ok (.lreturn, 1) := by decide +kernel
theorem d_Mo_level_0 : decode b_Mo_level 0 = .ok (.aload_n 0, 1) := by decide +kernel
theorem d_Mo_level_1 : decode b_Mo_level 1 = .ok (.iload_n 1, 1) := by decide +kernel
theorem d_Mo_level_2 : decode b_Mo_level 2 = .ok (.putfield 48, 3) := by decide +kernel
theorem d_Mo_level_5 : decode b_Mo_level 5 = .ok (.return_, 1) := by decide +kernel
theorem d_Mo_step_0 : decode b_Mo_step 0 = .ok (.aload_n 0, 1) := by decide +kernel
theorem d_Mo_step_1 : decode b_Mo_step 1 = .ok (.iconst (-1), 1) := by decide +kernel
theorem d_Mo_step_2 : decode b_Mo_step 2 = .ok (.putfield 28, 3) := by decide +kernel
theorem d_Mo_step_5 : decode b_Mo_step 5 = .ok (.aload_n 0, 1) := by decide +kernel
theorem d_Mo_step_6 : decode b_Mo_step 6 = .ok (.iconst 0, 1) := by decide +kernel
theorem d_Mo_step_7 : decode b_Mo_step 7 = .ok (.putfield 103, 3) := by decide +kernel
theorem d_Mo_step_10 : decode b_Mo_step 10 = .ok (.aload_n 0, 1) := by decide +kernel
theorem d_Mo_step_11 : decode b_Mo_step 11 = .ok (.aload_n 0, 1) := by decide +kernel
theorem d_Mo_step_12 : decode b_Mo_step 12 = .ok (.getfield 48, 3) := by decide +kernel
theorem d_Mo_step_15 : decode b_Mo_step 15 = .ok (.putfield 229, 3) := by decide +kernel
theorem d_Mo_step_18 : decode b_Mo_step 18 = .ok (.iconst 0, 1) := by decide +kernel
theorem d_Mo_step_19 : decode b_Mo_step 19 = .ok (.istore_n 1, 1) := by decide +kernel
theorem d_Mo_step_20 : decode b_Mo_step 20 = .ok (.iload_n 1, 1) := by decide +kernel
theorem d_Mo_step_21 : decode b_Mo_step 21 = .ok (.bipush 16, 2) := by decide +kernel
theorem d_Mo_step_23 : decode b_Mo_step 23 = .ok (.if_icmp .ge 21, 3) := by decide +kernel
theorem d_Mo_step_44 : decode b_Mo_step 44 = .ok (.iconst 0, 1) := by decide +kernel
theorem d_Mo_step_45 : decode b_Mo_step 45 = .ok (.istore_n 1, 1) := by decide +kernel
theorem d_Mo_step_46 : decode b_Mo_step 46 = .ok (.iload_n 1, 1) := by decide +kernel
theorem d_Mo_step_47 : decode b_Mo_step 47 = .ok (.bipush 7, 2) := by decide +kernel
theorem d_Mo_step_49 : decode b_Mo_step 49 = .ok (.if_icmp .ge 21, 3) := by decide +kernel
theorem d_Mo_step_70 : decode b_Mo_step 70 = .ok (.aload_n 0, 1) := by decide +kernel
theorem d_Mo_open_0 : decode b_Mo_open 0 = .ok (.aload_n 0, 1) := by decide +kernel
theorem d_Mo_open_1 : decode b_Mo_open 1 = .ok (.iconst 0, 1) := by decide +kernel
theorem d_Mo_open_2 : decode b_Mo_open 2 = .ok (.putfield 108, 3) := by decide +kernel
theorem d_Mo_open_5 : decode b_Mo_open 5 = .ok (.aload_n 0, 1) := by decide +kernel
theorem d_Mo_open_6 : decode b_Mo_open 6 = .ok (.iconst 0, 1) := by decide +kernel
theorem d_Mo_open_7 : decode b_Mo_open 7 = .ok (.putfield 121, 3) := by decide +kernel
theorem d_Mo_open_10 : decode b_Mo_open 10 = .ok (.aload_n 0, 1) := by decide +kernel
theorem d_Mo_open_11 : decode b_Mo_open 11 = .ok (.iconst 0, 1) := by decide +kernel
theorem d_Mo_open_12 : decode b_Mo_open 12 = .ok (.putfield 124, 3) := by decide +kernel
theorem d_Mo_open_15 : decode b_Mo_open 15 = .ok (.aload_n 0, 1) := by decide +kernel
theorem d_Mo_open_16 : decode b_Mo_open 16 = .ok (.iconst 0, 1) := by decide +kernel
theorem d_Mo_open_17 : decode b_Mo_open 17 = .ok (.putfield 127, 3) := by decide +kernel
theorem d_Mo_open_20 : decode b_Mo_open 20 = .ok (.aload_n 0, 1) := by decide +kernel
theorem d_Mo_fetch_0 : decode b_Mo_fetch 0 = .ok (.aload_n 0, 1) := by decide +kernel
theorem d_Mo_fetch_1 : decode b_Mo_fetch 1 = .ok (.getfield 28, 3) := by decide +kernel
theorem d_Mo_fetch_4 : decode b_Mo_fetch 4 = .ok (.iconst (-1), 1) := by decide +kernel
theorem d_Mo_fetch_5 : decode b_Mo_fetch 5 = .ok (.if_icmp .ne 18, 3) := by decide +kernel
theorem d_Mo_fetch_23 : decode b_Mo_fetch 23 = .ok (.aload_n 0, 1) := by decide +kernel
theorem d_Mo_fetch_24 : decode b_Mo_fetch 24 = .ok (.aload_n 0, 1) := by decide +kernel
theorem d_Mo_fetch_25 : decode b_Mo_fetch 25 = .ok (.getfield 111, 3) := by decide +kernel
theorem d_Mo_fetch_28 : decode b_Mo_fetch 28 = .ok (.aload_n 0, 1) := by decide +kernel
theorem d_Mo_fetch_29 : decode b_Mo_fetch 29 = .ok (.getfield 108, 3) := by decide +kernel
theorem d_Mo_fetch_32 : decode b_Mo_fetch 32 = .ok (.i2l, 1) := by decide +kernel
theorem d_Mo_fetch_33 : decode b_Mo_fetch 33 = .ok (.ladd, 1) := by decide +kernel
theorem d_Mo_fetch_34 : decode b_Mo_fetch 34 = .ok (.iconst 1, 1) := by decide +kernel
theorem d_Mo_fetch_35 : decode b_Mo_fetch 35 = .ok (.iconst 2, 1) := by decide +kernel
theorem d_Mo_fetch_36 : decode b_Mo_fetch 36 = .ok (.iconst 0, 1) := by decide +kernel
theorem d_Mo_lookUp_0 : decode b_Mo_lookUp 0 = .ok (.iconst 0, 1) := by decide +kernel
theorem d_Mo_lookUp_1 : decode b_Mo_lookUp 1 = .ok (.istore 6, 2) := by decide +kernel
theorem d_Mo_lookUp_3 : decode b_Mo_lookUp 3 = .ok (.iload 6, 2) := by decide +kernel
theorem d_Mo_lookUp_5 : decode b_Mo_lookUp 5 = .ok (.iload_n 3, 1) := by decide +kernel
theorem d_Mo_lookUp_6 : decode b_Mo_lookUp 6 = .ok (.if_icmp .ge 101, 3) := by decide +kernel
theorem d_Mo_lookUp_107 : decode b_Mo_lookUp 107 = .ok (.return_, 1) := by decide +kernel
theorem d_Mo_lookUp_9 : decode b_Mo_lookUp 9 = .ok (.aload_n 0, 1) := by decide +kernel
theorem d_Mo_lookUp_10 : decode b_Mo_lookUp 10 = .ok (.getfield 28, 3) := by decide +kernel
theorem d_Mo_lookUp_13 : decode b_Mo_lookUp 13 = .ok (.iconst (-1), 1) := by decide +kernel
theorem d_Mo_lookUp_14 : decode b_Mo_lookUp 14 = .ok (.if_icmp .ne 93, 3) := by decide +kernel
theorem d_Mo_lookUp_17 : decode b_Mo_lookUp 17 = .ok (.lload_n 1, 1) := by decide +kernel
theorem d_Mo_lookUp_18 : decode b_Mo_lookUp 18 = .ok (.iload 6, 2) := by decide +kernel
theorem d_Mo_lookUp_20 : decode b_Mo_lookUp 20 = .ok (.i2l, 1) := by decide +kernel
theorem d_Mo_lookUp_21 : decode b_Mo_lookUp 21 = .ok (.ladd, 1) := by decide +kernel
theorem d_Mo_isWrong_0 : decode b_Mo_isWrong 0 = .ok (.lload_n 0, 1) := by decide +kernel
theorem d_Mo_isWrong_1 : decode b_Mo_isWrong 1 = .ok (.bipush 47, 2) := by decide +kernel
theorem d_Mo_isWrong_3 : decode b_Mo_isWrong 3 = .ok (.lushr, 1) := by decide +kernel
theorem d_Mo_isWrong_4 : decode b_Mo_isWrong 4 = .ok (.lconst 1, 1) := by decide +kernel
theorem d_Mo_isWrong_5 : decode b_Mo_isWrong 5 = .ok (.land, 1) := by decide +kernel
theorem d_Mo_isWrong_6 : decode b_Mo_isWrong 6 = .ok (.lconst 1, 1) := by decide +kernel
theorem d_Mo_isWrong_7 : decode b_Mo_isWrong 7 = .ok (.lcmp, 1) := by decide +kernel
theorem d_Mo_isWrong_8 : decode b_Mo_isWrong 8 = .ok (.ifCond .ne 7, 3) := by decide +kernel
theorem d_Mo_isWrong_15 : decode b_Mo_isWrong 15 = .ok (.iconst 0, 1) := by decide +kernel
theorem d_Mo_isWrong_16 : decode b_Mo_isWrong 16 = .ok (.istore_n 2, 1) := by decide +kernel
theorem d_Mo_isWrong_17 : decode b_Mo_isWrong 17 = .ok (.iconst 0, 1) := by decide +kernel
theorem d_Mo_isWrong_18 : decode b_Mo_isWrong 18 = .ok (.istore_n 3, 1) := by decide +kernel
theorem d_Mo_isWrong_19 : decode b_Mo_isWrong 19 = .ok (.bipush 48, 2) := by decide +kernel
theorem d_Mo_isWrong_21 : decode b_Mo_isWrong 21 = .ok (.istore 4, 2) := by decide +kernel
theorem d_Mo_isWrong_23 : decode b_Mo_isWrong 23 = .ok (.iload 4, 2) := by decide +kernel
theorem d_Mo_isWrong_25 : decode b_Mo_isWrong 25 = .ok (.bipush 64, 2) := by decide +kernel
theorem d_Mo_isWrong_27 : decode b_Mo_isWrong 27 = .ok (.if_icmp .ge 39, 3) := by decide +kernel
theorem d_Mo_isWrong_66 : decode b_Mo_isWrong 66 = .ok (.iload_n 3, 1) := by decide +kernel
theorem d_Mo_isWrong_67 : decode b_Mo_isWrong 67 = .ok (.ireturn, 1) := by decide +kernel
theorem d_Mo_isWrong_30 : decode b_Mo_isWrong 30 = .ok (.iload_n 3, 1) := by decide +kernel
theorem d_Mo_isWrong_31 : decode b_Mo_isWrong 31 = .ok (.ifCond .ne 23, 3) := by decide +kernel
theorem d_Mo_isWrong_54 : decode b_Mo_isWrong 54 = .ok (.iconst 1, 1) := by decide +kernel
theorem d_Mo_isWrong_55 : decode b_Mo_isWrong 55 = .ok (.goto 4, 3) := by decide +kernel
theorem d_Mo_isWrong_59 : decode b_Mo_isWrong 59 = .ok (.istore_n 3, 1) := by decide +kernel
theorem d_Mo_isWrong_60 : decode b_Mo_isWrong 60 = .ok (.iinc 4 1, 3) := by decide +kernel
theorem d_Mo_isWrong_63 : decode b_Mo_isWrong 63 = .ok (.goto (-40), 3) := by decide +kernel
theorem d_Mo_isWrong_34 : decode b_Mo_isWrong 34 = .ok (.lload_n 0, 1) := by decide +kernel
theorem d_Mo_isWrong_35 : decode b_Mo_isWrong 35 = .ok (.iload 4, 2) := by decide +kernel
theorem d_Mo_isWrong_37 : decode b_Mo_isWrong 37 = .ok (.lushr, 1) := by decide +kernel
theorem d_Mo_isWrong_38 : decode b_Mo_isWrong 38 = .ok (.lconst 1, 1) := by decide +kernel
theorem d_Mo_isWrong_39 : decode b_Mo_isWrong 39 = .ok (.land, 1) := by decide +kernel
theorem d_Mo_isWrong_40 : decode b_Mo_isWrong 40 = .ok (.lconst 1, 1) := by decide +kernel
theorem d_Mo_isWrong_41 : decode b_Mo_isWrong 41 = .ok (.lcmp, 1) := by decide +kernel
theorem d_Mo_isWrong_42 : decode b_Mo_isWrong 42 = .ok (.ifCond .ne 7, 3) := by decide +kernel
theorem d_Mo_isWrong_49 : decode b_Mo_isWrong 49 = .ok (.iconst 0, 1) := by decide +kernel
theorem d_Mo_isWrong_50 : decode b_Mo_isWrong 50 = .ok (.iload_n 2, 1) := by decide +kernel
theorem d_Mo_isWrong_51 : decode b_Mo_isWrong 51 = .ok (.if_icmp .eq 7, 3) := by decide +kernel
theorem d_Mo_isWrong_58 : decode b_Mo_isWrong 58 = .ok (.iconst 0, 1) := by decide +kernel
theorem d_Mo_isWrong_45 : decode b_Mo_isWrong 45 = .ok (.iconst 1, 1) := by decide +kernel
theorem d_Mo_isWrong_46 : decode b_Mo_isWrong 46 = .ok (.goto 4, 3) := by decide +kernel
theorem d_Mo_isWrong_11 : decode b_Mo_isWrong 11 = .ok (.iconst 1, 1) := by decide +kernel
theorem d_Mo_isWrong_12 : decode b_Mo_isWrong 12 = .ok (.goto 4, 3) := by decide +kernel
theorem d_Mo_lookUp_22 : decode b_Mo_lookUp 22 = .ok (.invokestatic 77, 3) := by decide +kernel
theorem d_Mo_lookUp_25 : decode b_Mo_lookUp 25 = .ok (.ifCond .eq 20, 3) := by decide +kernel
theorem d_Mo_lookUp_45 : decode b_Mo_lookUp 45 = .ok (.aload_n 0, 1) := by decide +kernel
theorem d_Mo_lookUp_46 : decode b_Mo_lookUp 46 = .ok (.getfield 39, 3) := by decide +kernel
theorem d_Mo_lookUp_49 : decode b_Mo_lookUp 49 = .ok (.iload 6, 2) := by decide +kernel
theorem d_Mo_lookUp_51 : decode b_Mo_lookUp 51 = .ok (.aload_n 0, 1) := by decide +kernel
theorem d_Mo_lookUp_52 : decode b_Mo_lookUp 52 = .ok (.lload_n 1, 1) := by decide +kernel
theorem d_Mo_lookUp_53 : decode b_Mo_lookUp 53 = .ok (.iload 6, 2) := by decide +kernel
theorem d_Mo_lookUp_55 : decode b_Mo_lookUp 55 = .ok (.i2l, 1) := by decide +kernel
theorem d_Mo_lookUp_56 : decode b_Mo_lookUp 56 = .ok (.ladd, 1) := by decide +kernel
theorem d_Mo_lookUp_57 : decode b_Mo_lookUp 57 = .ok (.iload 4, 2) := by decide +kernel
theorem d_Mo_find_0 : decode b_Mo_find 0 = .ok (.iload_n 3, 1) := by decide +kernel
theorem d_Mo_find_1 : decode b_Mo_find 1 = .ok (.iconst 1, 1) := by decide +kernel
theorem d_Mo_find_2 : decode b_Mo_find 2 = .ok (.if_icmp .ne 7, 3) := by decide +kernel
theorem d_Mo_find_9 : decode b_Mo_find 9 = .ok (.iconst 0, 1) := by decide +kernel
theorem d_Mo_find_10 : decode b_Mo_find 10 = .ok (.aload_n 0, 1) := by decide +kernel
theorem d_Mo_find_11 : decode b_Mo_find 11 = .ok (.getfield 48, 3) := by decide +kernel
theorem d_Mo_find_14 : decode b_Mo_find 14 = .ok (.ifCond .eq 7, 3) := by decide +kernel
theorem d_Mo_find_21 : decode b_Mo_find 21 = .ok (.iconst 0, 1) := by decide +kernel
theorem d_Mo_find_22 : decode b_Mo_find 22 = .ok (.iadd, 1) := by decide +kernel
theorem d_Mo_find_23 : decode b_Mo_find 23 = .ok (.iload_n 3, 1) := by decide +kernel
theorem d_Mo_find_24 : decode b_Mo_find 24 = .ok (.iconst 2, 1) := by decide +kernel
theorem d_Mo_find_25 : decode b_Mo_find 25 = .ok (.if_icmp .ne 8, 3) := by decide +kernel
theorem d_Mo_find_33 : decode b_Mo_find 33 = .ok (.iconst 0, 1) := by decide +kernel
theorem d_Mo_find_34 : decode b_Mo_find 34 = .ok (.iadd, 1) := by decide +kernel
theorem d_Mo_find_35 : decode b_Mo_find 35 = .ok (.istore 4, 2) := by decide +kernel
theorem d_Mo_find_37 : decode b_Mo_find 37 = .ok (.aload_n 0, 1) := by decide +kernel
theorem d_Mo_find_38 : decode b_Mo_find 38 = .ok (.getfield 52, 3) := by decide +kernel
theorem d_Mo_find_41 : decode b_Mo_find 41 = .ok (.bipush 12, 2) := by decide +kernel
theorem d_Mo_find_43 : decode b_Mo_find 43 = .ok (.bipush 51, 2) := by decide +kernel
theorem d_Mo_bits_0 : decode b_Mo_bits 0 = .ok (.lload_n 0, 1) := by decide +kernel
theorem d_Mo_bits_1 : decode b_Mo_bits 1 = .ok (.iload_n 2, 1) := by decide +kernel
theorem d_Mo_bits_2 : decode b_Mo_bits 2 = .ok (.lushr, 1) := by decide +kernel
theorem d_Mo_bits_3 : decode b_Mo_bits 3 = .ok (.lconst 1, 1) := by decide +kernel
theorem d_Mo_bits_4 : decode b_Mo_bits 4 = .ok (.iload_n 3, 1) := by decide +kernel
theorem d_Mo_bits_5 : decode b_Mo_bits 5 = .ok (.iload_n 2, 1) := by decide +kernel
theorem d_Mo_bits_6 : decode b_Mo_bits 6 = .ok (.isub, 1) := by decide +kernel
theorem d_Mo_bits_7 : decode b_Mo_bits 7 = .ok (.iconst 1, 1) := by decide +kernel
theorem d_Mo_bits_8 : decode b_Mo_bits 8 = .ok (.iadd, 1) := by decide +kernel
theorem d_Mo_bits_9 : decode b_Mo_bits 9 = .ok (.lshl, 1) := by decide +kernel
theorem d_Mo_bits_10 : decode b_Mo_bits 10 = .ok (.lconst 1, 1) := by decide +kernel
theorem d_Mo_bits_11 : decode b_Mo_bits 11 = .ok (.lsub, 1) := by decide +kernel
theorem d_Mo_bits_12 : decode b_Mo_bits 12 = .ok (.land, 1) := by decide +kernel
theorem d_Mo_bits_13 : decode b_Mo_bits 13 = .ok (.lreturn, 1) := by decide +kernel
theorem d_Mo_find_45 : decode b_Mo_find 45 = .ok (.invokestatic 56, 3) := by decide +kernel
theorem d_Mo_find_48 : decode b_Mo_find 48 = .ok (.bipush 12, 2) := by decide +kernel
theorem d_Mo_find_50 : decode b_Mo_find 50 = .ok (.lshl, 1) := by decide +kernel
theorem d_Mo_find_51 : decode b_Mo_find 51 = .ok (.lstore 5, 2) := by decide +kernel
theorem d_Mo_find_53 : decode b_Mo_find 53 = .ok (.iconst 1, 1) := by decide +kernel
theorem d_Mo_find_54 : decode b_Mo_find 54 = .ok (.istore 7, 2) := by decide +kernel
theorem d_Mo_find_56 : decode b_Mo_find 56 = .ok (.iconst 1, 1) := by decide +kernel
theorem d_Mo_find_57 : decode b_Mo_find 57 = .ok (.istore 8, 2) := by decide +kernel
theorem d_Mo_find_59 : decode b_Mo_find 59 = .ok (.iconst 1, 1) := by decide +kernel
theorem d_Mo_find_60 : decode b_Mo_find 60 = .ok (.istore 9, 2) := by decide +kernel
theorem d_Mo_find_62 : decode b_Mo_find 62 = .ok (.iconst 3, 1) := by decide +kernel
theorem d_Mo_find_63 : decode b_Mo_find 63 = .ok (.istore 10, 2) := by decide +kernel
theorem d_Mo_find_65 : decode b_Mo_find 65 = .ok (.lconst 0, 1) := by decide +kernel
theorem d_Mo_find_66 : decode b_Mo_find 66 = .ok (.lstore 11, 2) := by decide +kernel
theorem d_Mo_find_68 : decode b_Mo_find 68 = .ok (.iconst 0, 1) := by decide +kernel
theorem d_Mo_find_69 : decode b_Mo_find 69 = .ok (.istore 13, 2) := by decide +kernel
theorem d_Mo_find_71 : decode b_Mo_find 71 = .ok (.iload 13, 2) := by decide +kernel
theorem d_Mo_find_73 : decode b_Mo_find 73 = .ok (.ifCond .ne 223, 3) := by decide +kernel
theorem d_Mo_find_296 : decode b_Mo_find 296 = .ok (.aload_n 0, 1) := by decide +kernel
theorem d_Mo_find_297 : decode b_Mo_find 297 = .ok (.iload 4, 2) := by decide +kernel
theorem d_Mo_find_299 : decode b_Mo_find 299 = .ok (.iconst 1, 1) := by decide +kernel
theorem d_Mo_find_300 : decode b_Mo_find 300 = .ok (.iadd, 1) := by decide +kernel
theorem d_Mo_find_301 : decode b_Mo_find 301 = .ok (.putfield 68, 3) := by decide +kernel
theorem d_Mo_find_304 : decode b_Mo_find 304 = .ok (.iload_n 3, 1) := by decide +kernel
theorem d_Mo_find_305 : decode b_Mo_find 305 = .ok (.iconst 1, 1) := by decide +kernel
theorem d_Mo_find_306 : decode b_Mo_find 306 = .ok (.if_icmp .ne 8, 3) := by decide +kernel
theorem d_Mo_find_314 : decode b_Mo_find 314 = .ok (.aload_n 0, 1) := by decide +kernel
theorem d_Mo_find_315 : decode b_Mo_find 315 = .ok (.getfield 48, 3) := by decide +kernel
theorem d_Mo_find_318 : decode b_Mo_find 318 = .ok (.ifCond .eq 8, 3) := by decide +kernel
theorem d_Mo_find_326 : decode b_Mo_find 326 = .ok (.iload_n 3, 1) := by decide +kernel
theorem d_Mo_find_327 : decode b_Mo_find 327 = .ok (.iconst 2, 1) := by decide +kernel
theorem d_Mo_find_328 : decode b_Mo_find 328 = .ok (.if_icmp .ne 12, 3) := by decide +kernel
theorem d_Mo_find_340 : decode b_Mo_find 340 = .ok (.iload 10, 2) := by decide +kernel
theorem d_Mo_find_342 : decode b_Mo_find 342 = .ok (.iconst 1, 1) := by decide +kernel
theorem d_Mo_find_343 : decode b_Mo_find 343 = .ok (.if_icmp .ne 26, 3) := by decide +kernel
theorem d_Mo_find_369 : decode b_Mo_find 369 = .ok (.lload 5, 2) := by decide +kernel
theorem d_Mo_find_371 : decode b_Mo_find 371 = .ok (.lload_n 1, 1) := by decide +kernel
theorem d_Mo_find_372 : decode b_Mo_find 372 = .ok (.iconst 0, 1) := by decide +kernel
theorem d_Mo_find_373 : decode b_Mo_find 373 = .ok (.bipush 11, 2) := by decide +kernel
theorem d_Mo_find_375 : decode b_Mo_find 375 = .ok (.invokestatic 56, 3) := by decide +kernel
theorem d_Mo_find_378 : decode b_Mo_find 378 = .ok (.ladd, 1) := by decide +kernel
theorem d_Mo_find_379 : decode b_Mo_find 379 = .ok (.lreturn, 1) := by decide +kernel
theorem d_Mo_find_346 : decode b_Mo_find 346 = .ok (.lload 11, 2) := by decide +kernel
theorem d_Mo_find_348 : decode b_Mo_find 348 = .ok (.bipush 21, 2) := by decide +kernel
theorem d_Mo_find_350 : decode b_Mo_find 350 = .ok (.bipush 51, 2) := by decide +kernel
theorem d_Mo_find_352 : decode b_Mo_find 352 = .ok (.invokestatic 56, 3) := by decide +kernel
theorem d_Mo_find_355 : decode b_Mo_find 355 = .ok (.bipush 21, 2) := by decide +kernel
theorem d_Mo_find_357 : decode b_Mo_find 357 = .ok (.lshl, 1) := by decide +kernel
theorem d_Mo_find_358 : decode b_Mo_find 358 = .ok (.lload_n 1, 1) := by decide +kernel
theorem d_Mo_find_359 : decode b_Mo_find 359 = .ok (.iconst 0, 1) := by decide +kernel
theorem d_Mo_find_360 : decode b_Mo_find 360 = .ok (.bipush 20, 2) := by decide +kernel
theorem d_Mo_find_362 : decode b_Mo_find 362 = .ok (.invokestatic 56, 3) := by decide +kernel
theorem d_Mo_find_365 : decode b_Mo_find 365 = .ok (.ladd, 1) := by decide +kernel
theorem d_Mo_find_366 : decode b_Mo_find 366 = .ok (.goto 13, 3) := by decide +kernel
theorem d_Mo_find_331 : decode b_Mo_find 331 = .ok (.iload 9, 2) := by decide +kernel
theorem d_Mo_find_333 : decode b_Mo_find 333 = .ok (.ifCond .ne 7, 3) := by decide +kernel
theorem d_Mo_find_336 : decode b_Mo_find 336 = .ok (.ldc2_w 71, 3) := by decide +kernel
theorem d_Mo_find_339 : decode b_Mo_find 339 = .ok (.lreturn, 1) := by decide +kernel
theorem d_Mo_find_321 : decode b_Mo_find 321 = .ok (.iload 8, 2) := by decide +kernel
theorem d_Mo_find_323 : decode b_Mo_find 323 = .ok (.ifCond .eq 13, 3) := by decide +kernel
theorem d_Mo_find_309 : decode b_Mo_find 309 = .ok (.iload 7, 2) := by decide +kernel
theorem d_Mo_find_311 : decode b_Mo_find 311 = .ok (.ifCond .eq 25, 3) := by decide +kernel
theorem d_Mo_find_76 : decode b_Mo_find 76 = .ok (.aload_n 0, 1) := by decide +kernel
theorem d_Mo_find_77 : decode b_Mo_find 77 = .ok (.lload 5, 2) := by decide +kernel
theorem d_Mo_find_79 : decode b_Mo_find 79 = .ok (.ldc2_w 60, 3) := by decide +kernel
theorem d_Mo_find_82 : decode b_Mo_find 82 = .ok (.lload_n 1, 1) := by decide +kernel
theorem d_Mo_find_83 : decode b_Mo_find 83 = .ok (.bipush 12, 2) := by decide +kernel
theorem d_Mo_find_85 : decode b_Mo_find 85 = .ok (.bipush 9, 2) := by decide +kernel
theorem d_Mo_find_87 : decode b_Mo_find 87 = .ok (.iload 10, 2) := by decide +kernel
theorem d_Mo_find_89 : decode b_Mo_find 89 = .ok (.imul, 1) := by decide +kernel
theorem d_Mo_find_90 : decode b_Mo_find 90 = .ok (.iadd, 1) := by decide +kernel
theorem d_Mo_find_91 : decode b_Mo_find 91 = .ok (.bipush 20, 2) := by decide +kernel
theorem d_Mo_find_93 : decode b_Mo_find 93 = .ok (.bipush 9, 2) := by decide +kernel
theorem d_Mo_find_95 : decode b_Mo_find 95 = .ok (.iload 10, 2) := by decide +kernel
theorem d_Mo_find_97 : decode b_Mo_find 97 = .ok (.imul, 1) := by decide +kernel
theorem d_Mo_find_98 : decode b_Mo_find 98 = .ok (.iadd, 1) := by decide +kernel
theorem d_Mo_find_99 : decode b_Mo_find 99 = .ok (.invokestatic 56, 3) := by decide +kernel
theorem d_Mo_find_102 : decode b_Mo_find 102 = .ok (.lmul, 1) := by decide +kernel
theorem d_Mo_find_103 : decode b_Mo_find 103 = .ok (.ladd, 1) := by decide +kernel
theorem d_Mo_find_104 : decode b_Mo_find 104 = .ok (.invokevirtual 62, 3) := by decide +kernel
theorem d_Mo_find_107 : decode b_Mo_find 107 = .ok (.lstore 11, 2) := by decide +kernel
theorem d_Mo_find_109 : decode b_Mo_find 109 = .ok (.iload 10, 2) := by decide +kernel
theorem d_Mo_find_111 : decode b_Mo_find 111 = .ok (.ifCond .le 18, 3) := by decide +kernel
theorem d_Mo_find_129 : decode b_Mo_find 129 = .ok (.iconst 0, 1) := by decide +kernel
theorem d_Mo_find_130 : decode b_Mo_find 130 = .ok (.istore 14, 2) := by decide +kernel
theorem d_Mo_find_132 : decode b_Mo_find 132 = .ok (.aload_n 0, 1) := by decide +kernel
theorem d_Mo_find_133 : decode b_Mo_find 133 = .ok (.iload 4, 2) := by decide +kernel
theorem d_Mo_find_135 : decode b_Mo_find 135 = .ok (.putfield 68, 3) := by decide +kernel
theorem d_Mo_find_138 : decode b_Mo_find 138 = .ok (.lload 11, 2) := by decide +kernel
theorem d_Mo_find_140 : decode b_Mo_find 140 = .ok (.lconst 1, 1) := by decide +kernel
theorem d_Mo_find_141 : decode b_Mo_find 141 = .ok (.land, 1) := by decide +kernel
theorem d_Mo_find_142 : decode b_Mo_find 142 = .ok (.lconst 0, 1) := by decide +kernel
theorem d_Mo_find_143 : decode b_Mo_find 143 = .ok (.lcmp, 1) := by decide +kernel
theorem d_Mo_find_144 : decode b_Mo_find 144 = .ok (.ifCond .ne 7, 3) := by decide +kernel
theorem d_Mo_find_151 : decode b_Mo_find 151 = .ok (.aload_n 0, 1) := by decide +kernel
theorem d_Mo_find_152 : decode b_Mo_find 152 = .ok (.iload 4, 2) := by decide +kernel
theorem d_Mo_find_154 : decode b_Mo_find 154 = .ok (.bipush 9, 2) := by decide +kernel
theorem d_Mo_find_156 : decode b_Mo_find 156 = .ok (.iadd, 1) := by decide +kernel
theorem d_Mo_find_157 : decode b_Mo_find 157 = .ok (.putfield 68, 3) := by decide +kernel
theorem d_Mo_find_160 : decode b_Mo_find 160 = .ok (.iload 14, 2) := by decide +kernel
theorem d_Mo_find_162 : decode b_Mo_find 162 = .ok (.ifCond .eq 27, 3) := by decide +kernel
theorem d_Mo_find_189 : decode b_Mo_find 189 = .ok (.iload 7, 2) := by decide +kernel
theorem d_Mo_find_191 : decode b_Mo_find 191 = .ok (.ifCond .eq 18, 3) := by decide +kernel
theorem d_Mo_find_209 : decode b_Mo_find 209 = .ok (.iconst 0, 1) := by decide +kernel
theorem d_Mo_find_210 : decode b_Mo_find 210 = .ok (.istore 7, 2) := by decide +kernel
theorem d_Mo_find_212 : decode b_Mo_find 212 = .ok (.iload 8, 2) := by decide +kernel
theorem d_Mo_find_214 : decode b_Mo_find 214 = .ok (.ifCond .eq 18, 3) := by decide +kernel
theorem d_Mo_find_232 : decode b_Mo_find 232 = .ok (.iconst 0, 1) := by decide +kernel
theorem d_Mo_find_233 : decode b_Mo_find 233 = .ok (.istore 8, 2) := by decide +kernel
theorem d_Mo_find_235 : decode b_Mo_find 235 = .ok (.iload 9, 2) := by decide +kernel
theorem d_Mo_find_237 : decode b_Mo_find 237 = .ok (.ifCond .eq 14, 3) := by decide +kernel
theorem d_Mo_find_251 : decode b_Mo_find 251 = .ok (.iconst 0, 1) := by decide +kernel
theorem d_Mo_find_252 : decode b_Mo_find 252 = .ok (.istore 9, 2) := by decide +kernel
theorem d_Mo_find_254 : decode b_Mo_find 254 = .ok (.lload 11, 2) := by decide +kernel
theorem d_Mo_find_256 : decode b_Mo_find 256 = .ok (.bipush 12, 2) := by decide +kernel
theorem d_Mo_find_258 : decode b_Mo_find 258 = .ok (.bipush 51, 2) := by decide +kernel
theorem d_Mo_find_260 : decode b_Mo_find 260 = .ok (.invokestatic 56, 3) := by decide +kernel
theorem d_Mo_find_263 : decode b_Mo_find 263 = .ok (.bipush 12, 2) := by decide +kernel
theorem d_Mo_find_265 : decode b_Mo_find 265 = .ok (.lshl, 1) := by decide +kernel
theorem d_Mo_find_266 : decode b_Mo_find 266 = .ok (.lstore 5, 2) := by decide +kernel
theorem d_Mo_find_268 : decode b_Mo_find 268 = .ok (.iload 14, 2) := by decide +kernel
theorem d_Mo_find_270 : decode b_Mo_find 270 = .ok (.ifCond .ne 8, 3) := by decide +kernel
theorem d_Mo_find_278 : decode b_Mo_find 278 = .ok (.iconst 1, 1) := by decide +kernel
theorem d_Mo_find_279 : decode b_Mo_find 279 = .ok (.goto 4, 3) := by decide +kernel
theorem d_Mo_find_283 : decode b_Mo_find 283 = .ok (.istore 13, 2) := by decide +kernel
theorem d_Mo_find_285 : decode b_Mo_find 285 = .ok (.iload 13, 2) := by decide +kernel
theorem d_Mo_find_287 : decode b_Mo_find 287 = .ok (.ifCond .ne 6, 3) := by decide +kernel
theorem d_Mo_find_293 : decode b_Mo_find 293 = .ok (.goto (-222), 3) := by decide +kernel
theorem d_Mo_find_290 : decode b_Mo_find 290 = .ok (.iinc 10 (-1), 3) := by decide +kernel
theorem d_Mo_find_273 : decode b_Mo_find 273 = .ok (.iload 10, 2) := by decide +kernel
theorem d_Mo_find_275 : decode b_Mo_find 275 = .ok (.ifCond .ne 7, 3) := by decide +kernel
theorem d_Mo_find_282 : decode b_Mo_find 282 = .ok (.iconst 0, 1) := by decide +kernel
theorem d_Mo_find_240 : decode b_Mo_find 240 = .ok (.lload 11, 2) := by decide +kernel
theorem d_Mo_find_242 : decode b_Mo_find 242 = .ok (.lconst 0, 1) := by decide +kernel
theorem d_Mo_find_243 : decode b_Mo_find 243 = .ok (.lcmp, 1) := by decide +kernel
theorem d_Mo_find_244 : decode b_Mo_find 244 = .ok (.ifCond .lt 7, 3) := by decide +kernel
theorem d_Mo_find_247 : decode b_Mo_find 247 = .ok (.iconst 1, 1) := by decide +kernel
theorem d_Mo_find_248 : decode b_Mo_find 248 = .ok (.goto 4, 3) := by decide +kernel
theorem d_Mo_find_217 : decode b_Mo_find 217 = .ok (.lload 11, 2) := by decide +kernel
theorem d_Mo_find_219 : decode b_Mo_find 219 = .ok (.ldc2_w 75, 3) := by decide +kernel
theorem d_Mo_find_222 : decode b_Mo_find 222 = .ok (.land, 1) := by decide +kernel
theorem d_Mo_find_223 : decode b_Mo_find 223 = .ok (.lconst 0, 1) := by decide +kernel
theorem d_Mo_find_224 : decode b_Mo_find 224 = .ok (.lcmp, 1) := by decide +kernel
theorem d_Mo_find_225 : decode b_Mo_find 225 = .ok (.ifCond .eq 7, 3) := by decide +kernel
theorem d_Mo_find_228 : decode b_Mo_find 228 = .ok (.iconst 1, 1) := by decide +kernel
theorem d_Mo_find_229 : decode b_Mo_find 229 = .ok (.goto 4, 3) := by decide +kernel
theorem d_Mo_find_194 : decode b_Mo_find 194 = .ok (.lload 11, 2) := by decide +kernel
theorem d_Mo_find_196 : decode b_Mo_find 196 = .ok (.ldc2_w 73, 3) := by decide +kernel
theorem d_Mo_find_199 : decode b_Mo_find 199 = .ok (.land, 1) := by decide +kernel
theorem d_Mo_find_200 : decode b_Mo_find 200 = .ok (.lconst 0, 1) := by decide +kernel
theorem d_Mo_find_201 : decode b_Mo_find 201 = .ok (.lcmp, 1) := by decide +kernel
theorem d_Mo_find_202 : decode b_Mo_find 202 = .ok (.ifCond .eq 7, 3) := by decide +kernel
theorem d_Mo_find_205 : decode b_Mo_find 205 = .ok (.iconst 1, 1) := by decide +kernel
theorem d_Mo_find_206 : decode b_Mo_find 206 = .ok (.goto 4, 3) := by decide +kernel
theorem d_Mo_find_165 : decode b_Mo_find 165 = .ok (.iload 10, 2) := by decide +kernel
theorem d_Mo_find_167 : decode b_Mo_find 167 = .ok (.iconst 1, 1) := by decide +kernel
theorem d_Mo_find_168 : decode b_Mo_find 168 = .ok (.if_icmp .gt 17, 3) := by decide +kernel
theorem d_Mo_find_185 : decode b_Mo_find 185 = .ok (.ldc2_w 71, 3) := by decide +kernel
theorem d_Mo_find_188 : decode b_Mo_find 188 = .ok (.lreturn, 1) := by decide +kernel
theorem d_Mo_find_171 : decode b_Mo_find 171 = .ok (.lload 11, 2) := by decide +kernel
theorem d_Mo_find_173 : decode b_Mo_find 173 = .ok (.bipush 13, 2) := by decide +kernel
theorem d_Mo_find_175 : decode b_Mo_find 175 = .ok (.bipush 20, 2) := by decide +kernel
theorem d_Mo_find_177 : decode b_Mo_find 177 = .ok (.invokestatic 56, 3) := by decide +kernel
theorem d_Mo_find_180 : decode b_Mo_find 180 = .ok (.lconst 0, 1) := by decide +kernel
theorem d_Mo_find_181 : decode b_Mo_find 181 = .ok (.lcmp, 1) := by decide +kernel
theorem d_Mo_find_182 : decode b_Mo_find 182 = .ok (.ifCond .eq 7, 3) := by decide +kernel
theorem d_Mo_find_147 : decode b_Mo_find 147 = .ok (.ldc2_w 71, 3) := by decide +kernel
theorem d_Mo_find_150 : decode b_Mo_find 150 = .ok (.lreturn, 1) := by decide +kernel
theorem d_Mo_find_114 : decode b_Mo_find 114 = .ok (.lload 11, 2) := by decide +kernel
theorem d_Mo_find_116 : decode b_Mo_find 116 = .ok (.ldc2_w 66, 3) := by decide +kernel
theorem d_Mo_find_119 : decode b_Mo_find 119 = .ok (.land, 1) := by decide +kernel
theorem d_Mo_find_120 : decode b_Mo_find 120 = .ok (.lconst 0, 1) := by decide +kernel
theorem d_Mo_find_121 : decode b_Mo_find 121 = .ok (.lcmp, 1) := by decide +kernel
theorem d_Mo_find_122 : decode b_Mo_find 122 = .ok (.ifCond .eq 7, 3) := by decide +kernel
theorem d_Mo_find_125 : decode b_Mo_find 125 = .ok (.iconst 1, 1) := by decide +kernel
theorem d_Mo_find_126 : decode b_Mo_find 126 = .ok (.goto 4, 3) := by decide +kernel
theorem d_Mo_find_28 : decode b_Mo_find 28 = .ok (.bipush 16, 2) := by decide +kernel
theorem d_Mo_find_30 : decode b_Mo_find 30 = .ok (.goto 4, 3) := by decide +kernel
theorem d_Mo_find_17 : decode b_Mo_find 17 = .ok (.iconst 4, 1) := by decide +kernel
theorem d_Mo_find_18 : decode b_Mo_find 18 = .ok (.goto 4, 3) := by decide +kernel
theorem d_Mo_find_5 : decode b_Mo_find 5 = .ok (.iconst 2, 1) := by decide +kernel
theorem d_Mo_find_6 : decode b_Mo_find 6 = .ok (.goto 4, 3) := by decide +kernel
theorem d_Mo_lookUp_59 : decode b_Mo_lookUp 59 = .ok (.invokevirtual 85, 3) := by decide +kernel
theorem d_Mo_lookUp_62 : decode b_Mo_lookUp 62 = .ok (.lastore, 1) := by decide +kernel
theorem d_Mo_lookUp_63 : decode b_Mo_lookUp 63 = .ok (.aload_n 0, 1) := by decide +kernel
theorem d_Mo_lookUp_64 : decode b_Mo_lookUp 64 = .ok (.getfield 39, 3) := by decide +kernel
theorem d_Mo_lookUp_67 : decode b_Mo_lookUp 67 = .ok (.iload 6, 2) := by decide +kernel
theorem d_Mo_lookUp_69 : decode b_Mo_lookUp 69 = .ok (.laload, 1) := by decide +kernel
theorem d_Mo_lookUp_70 : decode b_Mo_lookUp 70 = .ok (.lconst 0, 1) := by decide +kernel
theorem d_Mo_lookUp_71 : decode b_Mo_lookUp 71 = .ok (.lcmp, 1) := by decide +kernel
theorem d_Mo_lookUp_72 : decode b_Mo_lookUp 72 = .ok (.ifCond .lt 6, 3) := by decide +kernel
theorem d_Mo_lookUp_78 : decode b_Mo_lookUp 78 = .ok (.aload_n 0, 1) := by decide +kernel
theorem d_Mo_lookUp_79 : decode b_Mo_lookUp 79 = .ok (.bipush 14, 2) := by decide +kernel
theorem d_Mo_refuse_0 : decode b_Mo_refuse 0 = .ok (.aload_n 0, 1) := by decide +kernel
theorem d_Mo_refuse_1 : decode b_Mo_refuse 1 = .ok (.getfield 28, 3) := by decide +kernel
theorem d_Mo_refuse_4 : decode b_Mo_refuse 4 = .ok (.iconst (-1), 1) := by decide +kernel
theorem d_Mo_refuse_5 : decode b_Mo_refuse 5 = .ok (.if_icmp .ne 8, 3) := by decide +kernel
theorem d_Mo_refuse_13 : decode b_Mo_refuse 13 = .ok (.return_, 1) := by decide +kernel
theorem d_Mo_refuse_8 : decode b_Mo_refuse 8 = .ok (.aload_n 0, 1) := by decide +kernel
theorem d_Mo_refuse_9 : decode b_Mo_refuse 9 = .ok (.iload_n 1, 1) := by decide +kernel
theorem d_Mo_refuse_10 : decode b_Mo_refuse 10 = .ok (.putfield 28, 3) := by decide +kernel
theorem d_Mo_lookUp_81 : decode b_Mo_lookUp 81 = .ok (.invokevirtual 81, 3) := by decide +kernel
theorem d_Mo_lookUp_84 : decode b_Mo_lookUp 84 = .ok (.aload_n 0, 1) := by decide +kernel
theorem d_Mo_lookUp_85 : decode b_Mo_lookUp 85 = .ok (.lload_n 1, 1) := by decide +kernel
theorem d_Mo_lookUp_86 : decode b_Mo_lookUp 86 = .ok (.iload 6, 2) := by decide +kernel
theorem d_Mo_lookUp_88 : decode b_Mo_lookUp 88 = .ok (.i2l, 1) := by decide +kernel
theorem d_Mo_lookUp_89 : decode b_Mo_lookUp 89 = .ok (.ladd, 1) := by decide +kernel
theorem d_Mo_lookUp_90 : decode b_Mo_lookUp 90 = .ok (.putfield 89, 3) := by decide +kernel
theorem d_Mo_lookUp_93 : decode b_Mo_lookUp 93 = .ok (.aload_n 0, 1) := by decide +kernel
theorem d_Mo_lookUp_94 : decode b_Mo_lookUp 94 = .ok (.aload_n 0, 1) := by decide +kernel
theorem d_Mo_lookUp_95 : decode b_Mo_lookUp 95 = .ok (.getfield 68, 3) := by decide +kernel
theorem d_Mo_lookUp_98 : decode b_Mo_lookUp 98 = .ok (.putfield 92, 3) := by decide +kernel
theorem d_Mo_lookUp_101 : decode b_Mo_lookUp 101 = .ok (.iinc 6 1, 3) := by decide +kernel
theorem d_Mo_lookUp_104 : decode b_Mo_lookUp 104 = .ok (.goto (-101), 3) := by decide +kernel
theorem d_Mo_lookUp_75 : decode b_Mo_lookUp 75 = .ok (.goto 26, 3) := by decide +kernel
theorem d_Mo_lookUp_28 : decode b_Mo_lookUp 28 = .ok (.aload_n 0, 1) := by decide +kernel
theorem d_Mo_lookUp_29 : decode b_Mo_lookUp 29 = .ok (.iload 5, 2) := by decide +kernel
theorem d_Mo_lookUp_31 : decode b_Mo_lookUp 31 = .ok (.ifCond .eq 8, 3) := by decide +kernel
theorem d_Mo_lookUp_39 : decode b_Mo_lookUp 39 = .ok (.bipush 13, 2) := by decide +kernel
theorem d_Mo_lookUp_41 : decode b_Mo_lookUp 41 = .ok (.invokevirtual 81, 3) := by decide +kernel
theorem d_Mo_lookUp_44 : decode b_Mo_lookUp 44 = .ok (.return_, 1) := by decide +kernel
theorem d_Mo_lookUp_34 : decode b_Mo_lookUp 34 = .ok (.bipush 12, 2) := by decide +kernel
theorem d_Mo_lookUp_36 : decode b_Mo_lookUp 36 = .ok (.goto 5, 3) := by decide +kernel
theorem d_Mo_fetch_37 : decode b_Mo_fetch 37 = .ok (.invokevirtual 95, 3) := by decide +kernel
theorem d_Mo_fetch_40 : decode b_Mo_fetch 40 = .ok (.aload_n 0, 1) := by decide +kernel
theorem d_Mo_fetch_41 : decode b_Mo_fetch 41 = .ok (.getfield 28, 3) := by decide +kernel
theorem d_Mo_fetch_44 : decode b_Mo_fetch 44 = .ok (.iconst (-1), 1) := by decide +kernel
theorem d_Mo_fetch_45 : decode b_Mo_fetch 45 = .ok (.if_icmp .eq 5, 3) := by decide +kernel
theorem d_Mo_fetch_50 : decode b_Mo_fetch 50 = .ok (.aload_n 0, 1) := by decide +kernel
theorem d_Mo_fetch_51 : decode b_Mo_fetch 51 = .ok (.dup, 1) := by decide +kernel
