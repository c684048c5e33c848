theorem d_Co_store_0 : decode b_Co_store 0 = .ok (.iload_n 1, 1) := by decide +kernel
theorem d_Co_store_1 : decode b_Co_store 1 = .ok (.ifCond .lt 10, 3) := by decide +kernel
theorem d_Co_store_11 : decode b_Co_store 11 = .ok (.iconst 0, 1) := by decide +kernel
theorem d_Co_store_12 : decode b_Co_store 12 = .ok (.ireturn, 1) := by decide +kernel
theorem d_Co_store_4 : decode b_Co_store 4 = .ok (.iload_n 1, 1) := by decide +kernel
theorem d_Co_store_5 : decode b_Co_store 5 = .ok (.sipush 32760, 3) := by decide +kernel
theorem d_Co_store_8 : decode b_Co_store 8 = .ok (.if_icmp .le 5, 3) := by decide +kernel
theorem d_Co_store_13 : decode b_Co_store 13 = .ok (.iconst 0, 1) := by decide +kernel
theorem d_Co_store_14 : decode b_Co_store 14 = .ok (.istore 4, 2) := by decide +kernel
theorem d_Co_store_16 : decode b_Co_store 16 = .ok (.iload 4, 2) := by decide +kernel
theorem d_Co_store_18 : decode b_Co_store 18 = .ok (.iconst 4, 1) := by decide +kernel
theorem d_Co_store_19 : decode b_Co_store 19 = .ok (.if_icmp .ge 51, 3) := by decide +kernel
theorem d_Co_store_70 : decode b_Co_store 70 = .ok (.iconst 1, 1) := by decide +kernel
theorem d_Co_store_71 : decode b_Co_store 71 = .ok (.ireturn, 1) := by decide +kernel
theorem d_Co_store_22 : decode b_Co_store 22 = .ok (.aload_n 0, 1) := by decide +kernel
theorem d_Co_store_23 : decode b_Co_store 23 = .ok (.getfield 21, 3) := by decide +kernel
theorem d_Co_store_26 : decode b_Co_store 26 = .ok (.iload_n 1, 1) := by decide +kernel
theorem d_Co_store_27 : decode b_Co_store 27 = .ok (.iload 4, 2) := by decide +kernel
theorem d_Co_store_29 : decode b_Co_store 29 = .ok (.iadd, 1) := by decide +kernel
theorem d_Co_store_30 : decode b_Co_store 30 = .ok (.i2l, 1) := by decide +kernel
theorem d_Co_store_31 : decode b_Co_store 31 = .ok (.iload_n 2, 1) := by decide +kernel
theorem d_Co_store_32 : decode b_Co_store 32 = .ok (.bipush 8, 2) := by decide +kernel
theorem d_Co_store_34 : decode b_Co_store 34 = .ok (.iload 4, 2) := by decide +kernel
theorem d_Co_store_36 : decode b_Co_store 36 = .ok (.imul, 1) := by decide +kernel
theorem d_Co_store_37 : decode b_Co_store 37 = .ok (.iushr, 1) := by decide +kernel
theorem d_Co_store_38 : decode b_Co_store 38 = .ok (.i2l, 1) := by decide +kernel
theorem d_Pa_putByte_0 : decode b_Pa_putByte 0 = .ok (.lload_n 1, 1) := by decide +kernel
theorem d_Pa_putByte_1 : decode b_Pa_putByte 1 = .ok (.lconst 0, 1) := by decide +kernel
theorem d_Pa_putByte_2 : decode b_Pa_putByte 2 = .ok (.lcmp, 1) := by decide +kernel
theorem d_Pa_putByte_3 : decode b_Pa_putByte 3 = .ok (.ifCond .lt 11, 3) := by decide +kernel
theorem d_Pa_putByte_14 : decode b_Pa_putByte 14 = .ok (.return_, 1) := by decide +kernel
theorem d_Pa_putByte_6 : decode b_Pa_putByte 6 = .ok (.lload_n 1, 1) := by decide +kernel
theorem d_Pa_putByte_7 : decode b_Pa_putByte 7 = .ok (.ldc2_w 19, 3) := by decide +kernel
theorem d_Pa_putByte_10 : decode b_Pa_putByte 10 = .ok (.lcmp, 1) := by decide +kernel
theorem d_Pa_putByte_11 : decode b_Pa_putByte 11 = .ok (.ifCond .lt 4, 3) := by decide +kernel
theorem d_Pa_putByte_15 : decode b_Pa_putByte 15 = .ok (.lload_n 1, 1) := by decide +kernel
theorem d_Pa_putByte_16 : decode b_Pa_putByte 16 = .ok (.iconst 3, 1) := by decide +kernel
theorem d_Pa_putByte_17 : decode b_Pa_putByte 17 = .ok (.lushr, 1) := by decide +kernel
theorem d_Pa_putByte_18 : decode b_Pa_putByte 18 = .ok (.l2i, 1) := by decide +kernel
theorem d_Pa_putByte_19 : decode b_Pa_putByte 19 = .ok (.istore 5, 2) := by decide +kernel
theorem d_Pa_putByte_21 : decode b_Pa_putByte 21 = .ok (.bipush 8, 2) := by decide +kernel
theorem d_Pa_putByte_23 : decode b_Pa_putByte 23 = .ok (.lload_n 1, 1) := by decide +kernel
theorem d_Pa_putByte_24 : decode b_Pa_putByte 24 = .ok (.ldc2_w 21, 3) := by decide +kernel
theorem d_Pa_putByte_27 : decode b_Pa_putByte 27 = .ok (.land, 1) := by decide +kernel
theorem d_Pa_putByte_28 : decode b_Pa_putByte 28 = .ok (.l2i, 1) := by decide +kernel
theorem d_Pa_putByte_29 : decode b_Pa_putByte 29 = .ok (.imul, 1) := by decide +kernel
theorem d_Pa_putByte_30 : decode b_Pa_putByte 30 = .ok (.istore 6, 2) := by decide +kernel
theorem d_Pa_putByte_32 : decode b_Pa_putByte 32 = .ok (.aload_n 0, 1) := by decide +kernel
theorem d_Pa_putByte_33 : decode b_Pa_putByte 33 = .ok (.getfield 11, 3) := by decide +kernel
theorem d_Pa_putByte_36 : decode b_Pa_putByte 36 = .ok (.iload 5, 2) := by decide +kernel
theorem d_Pa_putByte_38 : decode b_Pa_putByte 38 = .ok (.aload_n 0, 1) := by decide +kernel
theorem d_Pa_putByte_39 : decode b_Pa_putByte 39 = .ok (.getfield 11, 3) := by decide +kernel
theorem d_Pa_putByte_42 : decode b_Pa_putByte 42 = .ok (.iload 5, 2) := by decide +kernel
theorem d_Pa_putByte_44 : decode b_Pa_putByte 44 = .ok (.laload, 1) := by decide +kernel
theorem d_Pa_putByte_45 : decode b_Pa_putByte 45 = .ok (.ldc2_w 23, 3) := by decide +kernel
theorem d_Pa_putByte_48 : decode b_Pa_putByte 48 = .ok (.iload 6, 2) := by decide +kernel
theorem d_Pa_putByte_50 : decode b_Pa_putByte 50 = .ok (.lshl, 1) := by decide +kernel
theorem d_Pa_putByte_51 : decode b_Pa_putByte 51 = .ok (.ldc2_w 25, 3) := by decide +kernel
theorem d_Pa_putByte_54 : decode b_Pa_putByte 54 = .ok (.lxor, 1) := by decide +kernel
theorem d_Pa_putByte_55 : decode b_Pa_putByte 55 = .ok (.land, 1) := by decide +kernel
theorem d_Pa_putByte_56 : decode b_Pa_putByte 56 = .ok (.lload_n 3, 1) := by decide +kernel
theorem d_Pa_putByte_57 : decode b_Pa_putByte 57 = .ok (.ldc2_w 23, 3) := by decide +kernel
theorem d_Pa_putByte_60 : decode b_Pa_putByte 60 = .ok (.land, 1) := by decide +kernel
theorem d_Pa_putByte_61 : decode b_Pa_putByte 61 = .ok (.iload 6, 2) := by decide +kernel
theorem d_Pa_putByte_63 : decode b_Pa_putByte 63 = .ok (.lshl, 1) := by decide +kernel
theorem d_Pa_putByte_64 : decode b_Pa_putByte 64 = .ok (.lor, 1) := by decide +kernel
theorem d_Pa_putByte_65 : decode b_Pa_putByte 65 = .ok (.lastore, 1) := by decide +kernel
theorem d_Pa_putByte_66 : decode b_Pa_putByte 66 = .ok (.return_, 1) := by decide +kernel
theorem d_Co_store_39 : decode b_Co_store 39 = .ok (.invokevirtual 92, 3) := by decide +kernel
theorem d_Co_store_42 : decode b_Co_store 42 = .ok (.aload_n 0, 1) := by decide +kernel
theorem d_Co_store_43 : decode b_Co_store 43 = .ok (.getfield 21, 3) := by decide +kernel
theorem d_Co_store_46 : decode b_Co_store 46 = .ok (.iload_n 1, 1) := by decide +kernel
theorem d_Co_store_47 : decode b_Co_store 47 = .ok (.iconst 4, 1) := by decide +kernel
theorem d_Co_store_48 : decode b_Co_store 48 = .ok (.iadd, 1) := by decide +kernel
theorem d_Co_store_49 : decode b_Co_store 49 = .ok (.iload 4, 2) := by decide +kernel
theorem d_Co_store_51 : decode b_Co_store 51 = .ok (.iadd, 1) := by decide +kernel
theorem d_Co_store_52 : decode b_Co_store 52 = .ok (.i2l, 1) := by decide +kernel
theorem d_Co_store_53 : decode b_Co_store 53 = .ok (.iload_n 3, 1) := by decide +kernel
theorem d_Co_store_54 : decode b_Co_store 54 = .ok (.bipush 8, 2) := by decide +kernel
theorem d_Co_store_56 : decode b_Co_store 56 = .ok (.iload 4, 2) := by decide +kernel
theorem d_Co_store_58 : decode b_Co_store 58 = .ok (.imul, 1) := by decide +kernel
theorem d_Co_store_59 : decode b_Co_store 59 = .ok (.iushr, 1) := by decide +kernel
theorem d_Co_store_60 : decode b_Co_store 60 = .ok (.i2l, 1) := by decide +kernel
theorem d_Co_store_61 : decode b_Co_store 61 = .ok (.invokevirtual 92, 3) := by decide +kernel
theorem d_Co_store_64 : decode b_Co_store 64 = .ok (.iinc 4 1, 3) := by decide +kernel
theorem d_Co_store_67 : decode b_Co_store 67 = .ok (.goto (-51), 3) := by decide +kernel
theorem d_Co_stored_0 : decode b_Co_stored 0 = .ok (.lconst 0, 1) := by decide +kernel
theorem d_Co_stored_1 : decode b_Co_stored 1 = .ok (.lstore_n 2, 1) := by decide +kernel
theorem d_Co_stored_2 : decode b_Co_stored 2 = .ok (.iconst 0, 1) := by decide +kernel
theorem d_Co_stored_3 : decode b_Co_stored 3 = .ok (.istore 4, 2) := by decide +kernel
theorem d_Co_stored_5 : decode b_Co_stored 5 = .ok (.iload 4, 2) := by decide +kernel
theorem d_Co_stored_7 : decode b_Co_stored 7 = .ok (.bipush 8, 2) := by decide +kernel
theorem d_Co_stored_9 : decode b_Co_stored 9 = .ok (.if_icmp .ge 32, 3) := by decide +kernel
theorem d_Co_stored_41 : decode b_Co_stored 41 = .ok (.lload_n 2, 1) := by decide +kernel
theorem d_Co_stored_42 : decode b_Co_stored 42 = .ok (.lreturn, 1) := by decide +kernel
theorem d_Co_stored_12 : decode b_Co_stored 12 = .ok (.lload_n 2, 1) := by decide +kernel
theorem d_Co_stored_13 : decode b_Co_stored 13 = .ok (.aload_n 0, 1) := by decide +kernel
theorem d_Co_stored_14 : decode b_Co_stored 14 = .ok (.getfield 21, 3) := by decide +kernel
theorem d_Co_stored_17 : decode b_Co_stored 17 = .ok (.iload_n 1, 1) := by decide +kernel
theorem d_Co_stored_18 : decode b_Co_stored 18 = .ok (.i2l, 1) := by decide +kernel
theorem d_Co_stored_19 : decode b_Co_stored 19 = .ok (.iload 4, 2) := by decide +kernel
theorem d_Co_stored_21 : decode b_Co_stored 21 = .ok (.i2l, 1) := by decide +kernel
theorem d_Co_stored_22 : decode b_Co_stored 22 = .ok (.ladd, 1) := by decide +kernel
theorem d_Pa_byteAt_0 : decode b_Pa_byteAt 0 = .ok (.lload_n 1, 1) := by decide +kernel
theorem d_Pa_byteAt_1 : decode b_Pa_byteAt 1 = .ok (.lconst 0, 1) := by decide +kernel
theorem d_Pa_byteAt_2 : decode b_Pa_byteAt 2 = .ok (.lcmp, 1) := by decide +kernel
theorem d_Pa_byteAt_3 : decode b_Pa_byteAt 3 = .ok (.ifCond .lt 11, 3) := by decide +kernel
theorem d_Pa_byteAt_14 : decode b_Pa_byteAt 14 = .ok (.iconst 0, 1) := by decide +kernel
theorem d_Pa_byteAt_15 : decode b_Pa_byteAt 15 = .ok (.ireturn, 1) := by decide +kernel
theorem d_Pa_byteAt_6 : decode b_Pa_byteAt 6 = .ok (.lload_n 1, 1) := by decide +kernel
theorem d_Pa_byteAt_7 : decode b_Pa_byteAt 7 = .ok (.ldc2_w 19, 3) := by decide +kernel
theorem d_Pa_byteAt_10 : decode b_Pa_byteAt 10 = .ok (.lcmp, 1) := by decide +kernel
theorem d_Pa_byteAt_11 : decode b_Pa_byteAt 11 = .ok (.ifCond .lt 5, 3) := by decide +kernel
theorem d_Pa_byteAt_16 : decode b_Pa_byteAt 16 = .ok (.bipush 8, 2) := by decide +kernel
theorem d_Pa_byteAt_18 : decode b_Pa_byteAt 18 = .ok (.lload_n 1, 1) := by decide +kernel
theorem d_Pa_byteAt_19 : decode b_Pa_byteAt 19 = .ok (.ldc2_w 21, 3) := by decide +kernel
theorem d_Pa_byteAt_22 : decode b_Pa_byteAt 22 = .ok (.land, 1) := by decide +kernel
theorem d_Pa_byteAt_23 : decode b_Pa_byteAt 23 = .ok (.l2i, 1) := by decide +kernel
theorem d_Pa_byteAt_24 : decode b_Pa_byteAt 24 = .ok (.imul, 1) := by decide +kernel
theorem d_Pa_byteAt_25 : decode b_Pa_byteAt 25 = .ok (.istore_n 3, 1) := by decide +kernel
theorem d_Pa_byteAt_26 : decode b_Pa_byteAt 26 = .ok (.aload_n 0, 1) := by decide +kernel
theorem d_Pa_byteAt_27 : decode b_Pa_byteAt 27 = .ok (.getfield 11, 3) := by decide +kernel
theorem d_Pa_byteAt_30 : decode b_Pa_byteAt 30 = .ok (.lload_n 1, 1) := by decide +kernel
theorem d_Pa_byteAt_31 : decode b_Pa_byteAt 31 = .ok (.iconst 3, 1) := by decide +kernel
theorem d_Pa_byteAt_32 : decode b_Pa_byteAt 32 = .ok (.lushr, 1) := by decide +kernel
theorem d_Pa_byteAt_33 : decode b_Pa_byteAt 33 = .ok (.l2i, 1) := by decide +kernel
theorem d_Pa_byteAt_34 : decode b_Pa_byteAt 34 = .ok (.laload, 1) := by decide +kernel
theorem d_Pa_byteAt_35 : decode b_Pa_byteAt 35 = .ok (.iload_n 3, 1) := by decide +kernel
theorem d_Pa_byteAt_36 : decode b_Pa_byteAt 36 = .ok (.lushr, 1) := by decide +kernel
theorem d_Pa_byteAt_37 : decode b_Pa_byteAt 37 = .ok (.l2i, 1) := by decide +kernel
theorem d_Pa_byteAt_38 : decode b_Pa_byteAt 38 = .ok (.sipush 255, 3) := by decide +kernel
theorem d_Pa_byteAt_41 : decode b_Pa_byteAt 41 = .ok (.iand, 1) := by decide +kernel
theorem d_Pa_byteAt_42 : decode b_Pa_byteAt 42 = .ok (.ireturn, 1) := by decide +kernel
theorem d_Co_stored_23 : decode b_Co_stored 23 = .ok (.invokevirtual 96, 3) := by decide +kernel
theorem d_Co_stored_26 : decode b_Co_stored 26 = .ok (.i2l, 1) := by decide +kernel
theorem d_Co_stored_27 : decode b_Co_stored 27 = .ok (.bipush 8, 2) := by decide +kernel
theorem d_Co_stored_29 : decode b_Co_stored 29 = .ok (.iload 4, 2) := by decide +kernel
theorem d_Co_stored_31 : decode b_Co_stored 31 = .ok (.imul, 1) := by decide +kernel
theorem d_Co_stored_32 : decode b_Co_stored 32 = .ok (.lshl, 1) := by decide +kernel
theorem d_Co_stored_33 : decode b_Co_stored 33 = .ok (.lor, 1) := by decide +kernel
theorem d_Co_stored_34 : decode b_Co_stored 34 = .ok (.lstore_n 2, 1) := by decide +kernel
theorem d_Co_stored_35 : decode b_Co_stored 35 = .ok (.iinc 4 1, 3) := by decide +kernel
theorem d_Co_stored_38 : decode b_Co_stored 38 = .ok (.goto (-33), 3) := by decide +kernel
theorem d_Co_set_0 : decode b_Co_set 0 = .ok (.iload_n 2, 1) := by decide +kernel
theorem d_Co_set_1 : decode b_Co_set 1 = .ok (.iload_n 3, 1) := by decide +kernel
theorem d_Co_joined_0 : decode b_Co_joined 0 = .ok (.iload_n 0, 1) := by decide +kernel
theorem d_Co_joined_1 : decode b_Co_joined 1 = .ok (.i2l, 1) := by decide +kernel
theorem d_Co_joined_2 : decode b_Co_joined 2 = .ok (.bipush 32, 2) := by decide +kernel
theorem d_Co_joined_4 : decode b_Co_joined 4 = .ok (.lshl, 1) := by decide +kernel
theorem d_Co_joined_5 : decode b_Co_joined 5 = .ok (.iload_n 1, 1) := by decide +kernel
theorem d_Co_joined_6 : decode b_Co_joined 6 = .ok (.i2l, 1) := by decide +kernel
theorem d_Co_joined_7 : decode b_Co_joined 7 = .ok (.ldc2_w 166, 3) := by decide +kernel
theorem d_Co_joined_10 : decode b_Co_joined 10 = .ok (.land, 1) := by decide +kernel
theorem d_Co_joined_11 : decode b_Co_joined 11 = .ok (.lor, 1) := by decide +kernel
theorem d_Co_joined_12 : decode b_Co_joined 12 = .ok (.lreturn, 1) := by decide +kernel
theorem d_Co_set_2 : decode b_Co_set 2 = .ok (.invokestatic 100, 3) := by decide +kernel
theorem d_Co_set_5 : decode b_Co_set 5 = .ok (.lstore 4, 2) := by decide +kernel
theorem d_Co_set_7 : decode b_Co_set 7 = .ok (.iload_n 1, 1) := by decide +kernel
theorem d_Co_set_8 : decode b_Co_set 8 = .ok (.ifCond .lt 22, 3) := by decide +kernel
theorem d_Co_set_30 : decode b_Co_set 30 = .ok (.iload_n 1, 1) := by decide +kernel
theorem d_Co_set_31 : decode b_Co_set 31 = .ok (.tableswitch 106 16 21 #[37, 48, 59, 70, 81, 95], 37) := by decide +kernel
theorem d_Co_set_68 : decode b_Co_set 68 = .ok (.aload_n 0, 1) := by decide +kernel
theorem d_Co_set_69 : decode b_Co_set 69 = .ok (.getfield 12, 3) := by decide +kernel
theorem d_Co_set_72 : decode b_Co_set 72 = .ok (.lload 4, 2) := by decide +kernel
theorem d_Co_set_74 : decode b_Co_set 74 = .ok (.putfield 108, 3) := by decide +kernel
theorem d_Co_set_77 : decode b_Co_set 77 = .ok (.iconst 1, 1) := by decide +kernel
theorem d_Co_set_78 : decode b_Co_set 78 = .ok (.ireturn, 1) := by decide +kernel
theorem d_Co_set_79 : decode b_Co_set 79 = .ok (.aload_n 0, 1) := by decide +kernel
theorem d_Co_set_80 : decode b_Co_set 80 = .ok (.getfield 12, 3) := by decide +kernel
theorem d_Co_set_83 : decode b_Co_set 83 = .ok (.lload 4, 2) := by decide +kernel
theorem d_Co_set_85 : decode b_Co_set 85 = .ok (.putfield 112, 3) := by decide +kernel
theorem d_Co_set_88 : decode b_Co_set 88 = .ok (.iconst 1, 1) := by decide +kernel
theorem d_Co_set_89 : decode b_Co_set 89 = .ok (.ireturn, 1) := by decide +kernel
theorem d_Co_set_90 : decode b_Co_set 90 = .ok (.aload_n 0, 1) := by decide +kernel
theorem d_Co_set_91 : decode b_Co_set 91 = .ok (.getfield 12, 3) := by decide +kernel
theorem d_Co_set_94 : decode b_Co_set 94 = .ok (.lload 4, 2) := by decide +kernel
theorem d_Co_set_96 : decode b_Co_set 96 = .ok (.putfield 115, 3) := by decide +kernel
theorem d_Co_set_99 : decode b_Co_set 99 = .ok (.iconst 1, 1) := by decide +kernel
theorem d_Co_set_100 : decode b_Co_set 100 = .ok (.ireturn, 1) := by decide +kernel
theorem d_Co_set_101 : decode b_Co_set 101 = .ok (.aload_n 0, 1) := by decide +kernel
theorem d_Co_set_102 : decode b_Co_set 102 = .ok (.getfield 12, 3) := by decide +kernel
theorem d_Co_set_105 : decode b_Co_set 105 = .ok (.lload 4, 2) := by decide +kernel
theorem d_Co_set_107 : decode b_Co_set 107 = .ok (.putfield 118, 3) := by decide +kernel
theorem d_Co_set_110 : decode b_Co_set 110 = .ok (.iconst 1, 1) := by decide +kernel
theorem d_Co_set_111 : decode b_Co_set 111 = .ok (.ireturn, 1) := by decide +kernel
theorem d_Co_set_112 : decode b_Co_set 112 = .ok (.aload_n 0, 1) := by decide +kernel
theorem d_Co_set_113 : decode b_Co_set 113 = .ok (.getfield 12, 3) := by decide +kernel
theorem d_Co_set_116 : decode b_Co_set 116 = .ok (.iload_n 3, 1) := by decide +kernel
theorem d_Co_set_117 : decode b_Co_set 117 = .ok (.sipush 3285, 3) := by decide +kernel
theorem d_Co_set_120 : decode b_Co_set 120 = .ok (.iand, 1) := by decide +kernel
theorem d_Co_set_121 : decode b_Co_set 121 = .ok (.putfield 121, 3) := by decide +kernel
theorem d_Co_set_124 : decode b_Co_set 124 = .ok (.iconst 1, 1) := by decide +kernel
theorem d_Co_set_125 : decode b_Co_set 125 = .ok (.ireturn, 1) := by decide +kernel
theorem d_Co_set_126 : decode b_Co_set 126 = .ok (.aload_n 0, 1) := by decide +kernel
theorem d_Co_set_127 : decode b_Co_set 127 = .ok (.getfield 12, 3) := by decide +kernel
theorem d_Co_set_130 : decode b_Co_set 130 = .ok (.lload 4, 2) := by decide +kernel
theorem d_Co_set_132 : decode b_Co_set 132 = .ok (.putfield 125, 3) := by decide +kernel
theorem d_Co_set_135 : decode b_Co_set 135 = .ok (.iconst 1, 1) := by decide +kernel
theorem d_Co_set_136 : decode b_Co_set 136 = .ok (.ireturn, 1) := by decide +kernel
theorem d_Co_set_137 : decode b_Co_set 137 = .ok (.iconst 0, 1) := by decide +kernel
theorem d_Co_set_138 : decode b_Co_set 138 = .ok (.ireturn, 1) := by decide +kernel
theorem d_Co_set_11 : decode b_Co_set 11 = .ok (.iload_n 1, 1) := by decide +kernel
theorem d_Co_set_12 : decode b_Co_set 12 = .ok (.bipush 16, 2) := by decide +kernel
theorem d_Co_set_14 : decode b_Co_set 14 = .ok (.if_icmp .ge 16, 3) := by decide +kernel
theorem d_Co_set_17 : decode b_Co_set 17 = .ok (.aload_n 0, 1) := by decide +kernel
theorem d_Co_set_18 : decode b_Co_set 18 = .ok (.getfield 12, 3) := by decide +kernel
theorem d_Co_set_21 : decode b_Co_set 21 = .ok (.getfield 104, 3) := by decide +kernel
theorem d_Co_set_24 : decode b_Co_set 24 = .ok (.iload_n 1, 1) := by decide +kernel
theorem d_Co_set_25 : decode b_Co_set 25 = .ok (.lload 4, 2) := by decide +kernel
theorem d_Co_set_27 : decode b_Co_set 27 = .ok (.lastore, 1) := by decide +kernel
theorem d_Co_set_28 : decode b_Co_set 28 = .ok (.iconst 1, 1) := by decide +kernel
theorem d_Co_set_29 : decode b_Co_set 29 = .ok (.ireturn, 1) := by decide +kernel
theorem d_Co_get_0 : decode b_Co_get 0 = .ok (.iload_n 1, 1) := by decide +kernel
theorem d_Co_get_1 : decode b_Co_get 1 = .ok (.ifCond .lt 19, 3) := by decide +kernel
theorem d_Co_get_20 : decode b_Co_get 20 = .ok (.iload_n 1, 1) := by decide +kernel
theorem d_Co_get_21 : decode b_Co_get 21 = .ok (.tableswitch 135 16 24 #[51, 59, 67, 75, 83, 92, 100, 108, 117], 51) := by decide +kernel
theorem d_Co_get_72 : decode b_Co_get 72 = .ok (.aload_n 0, 1) := by decide +kernel
theorem d_Co_get_73 : decode b_Co_get 73 = .ok (.getfield 12, 3) := by decide +kernel
theorem d_Co_get_76 : decode b_Co_get 76 = .ok (.getfield 108, 3) := by decide +kernel
theorem d_Co_get_79 : decode b_Co_get 79 = .ok (.lreturn, 1) := by decide +kernel
theorem d_Co_get_80 : decode b_Co_get 80 = .ok (.aload_n 0, 1) := by decide +kernel
theorem d_Co_get_81 : decode b_Co_get 81 = .ok (.getfield 12, 3) := by decide +kernel
theorem d_Co_get_84 : decode b_Co_get 84 = .ok (.getfield 112, 3) := by decide +kernel
theorem d_Co_get_87 : decode b_Co_get 87 = .ok (.lreturn, 1) := by decide +kernel
theorem d_Co_get_88 : decode b_Co_get 88 = .ok (.aload_n 0, 1) := by decide +kernel
theorem d_Co_get_89 : decode b_Co_get 89 = .ok (.getfield 12, 3) := by decide +kernel
theorem d_Co_get_92 : decode b_Co_get 92 = .ok (.getfield 115, 3) := by decide +kernel
theorem d_Co_get_95 : decode b_Co_get 95 = .ok (.lreturn, 1) := by decide +kernel
theorem d_Co_get_96 : decode b_Co_get 96 = .ok (.aload_n 0, 1) := by decide +kernel
theorem d_Co_get_97 : decode b_Co_get 97 = .ok (.getfield 12, 3) := by decide +kernel
theorem d_Co_get_100 : decode b_Co_get 100 = .ok (.getfield 118, 3) := by decide +kernel
theorem d_Co_get_103 : decode b_Co_get 103 = .ok (.lreturn, 1) := by decide +kernel
theorem d_Co_get_104 : decode b_Co_get 104 = .ok (.aload_n 0, 1) := by decide +kernel
theorem d_Co_get_105 : decode b_Co_get 105 = .ok (.getfield 12, 3) := by decide +kernel
theorem d_Co_get_108 : decode b_Co_get 108 = .ok (.getfield 121, 3) := by decide +kernel
theorem d_Co_get_111 : decode b_Co_get 111 = .ok (.i2l, 1) := by decide +kernel
theorem d_Co_get_112 : decode b_Co_get 112 = .ok (.lreturn, 1) := by decide +kernel
theorem d_Co_get_113 : decode b_Co_get 113 = .ok (.aload_n 0, 1) := by decide +kernel
theorem d_Co_get_114 : decode b_Co_get 114 = .ok (.getfield 12, 3) := by decide +kernel
theorem d_Co_get_117 : decode b_Co_get 117 = .ok (.getfield 125, 3) := by decide +kernel
theorem d_Co_get_120 : decode b_Co_get 120 = .ok (.lreturn, 1) := by decide +kernel
theorem d_Co_get_121 : decode b_Co_get 121 = .ok (.aload_n 0, 1) := by decide +kernel
theorem d_Co_get_122 : decode b_Co_get 122 = .ok (.getfield 12, 3) := by decide +kernel
theorem d_Co_get_125 : decode b_Co_get 125 = .ok (.getfield 128, 3) := by decide +kernel
theorem d_Co_get_128 : decode b_Co_get 128 = .ok (.lreturn, 1) := by decide +kernel
theorem d_Co_get_129 : decode b_Co_get 129 = .ok (.aload_n 0, 1) := by decide +kernel
theorem d_Co_get_130 : decode b_Co_get 130 = .ok (.getfield 12, 3) := by decide +kernel
theorem d_Co_get_133 : decode b_Co_get 133 = .ok (.getfield 131, 3) := by decide +kernel
theorem d_Co_get_136 : decode b_Co_get 136 = .ok (.i2l, 1) := by decide +kernel
theorem d_Co_get_137 : decode b_Co_get 137 = .ok (.lreturn, 1) := by decide +kernel
theorem d_Co_get_138 : decode b_Co_get 138 = .ok (.aload_n 0, 1) := by decide +kernel
theorem d_Co_get_139 : decode b_Co_get 139 = .ok (.getfield 12, 3) := by decide +kernel
theorem d_Co_get_142 : decode b_Co_get 142 = .ok (.getfield 134, 3) := by decide +kernel
theorem d_Co_get_145 : decode b_Co_get 145 = .ok (.ifCond .eq 9, 3) := by decide +kernel
theorem d_Co_get_154 : decode b_Co_get 154 = .ok (.lconst 0, 1) := by decide +kernel
theorem d_Co_get_155 : decode b_Co_get 155 = .ok (.lreturn, 1) := by decide +kernel
theorem d_Co_get_148 : decode b_Co_get 148 = .ok (.ldc2_w 138, 3) := by decide +kernel
theorem d_Co_get_151 : decode b_Co_get 151 = .ok (.goto 4, 3) := by decide +kernel
theorem d_Co_get_156 : decode b_Co_get 156 = .ok (.lconst 0, 1) := by decide +kernel
theorem d_Co_get_157 : decode b_Co_get 157 = .ok (.lreturn, 1) := by decide +kernel
theorem d_Co_get_4 : decode b_Co_get 4 = .ok (.iload_n 1, 1) := by decide +kernel
theorem d_Co_get_5 : decode b_Co_get 5 = .ok (.bipush 16, 2) := by decide +kernel
theorem d_Co_get_7 : decode b_Co_get 7 = .ok (.if_icmp .ge 13, 3) := by decide +kernel
theorem d_Co_get_10 : decode b_Co_get 10 = .ok (.aload_n 0, 1) := by decide +kernel
theorem d_Co_get_11 : decode b_Co_get 11 = .ok (.getfield 12, 3) := by decide +kernel
theorem d_Co_get_14 : decode b_Co_get 14 = .ok (.getfield 104, 3) := by decide +kernel
theorem d_Co_get_17 : decode b_Co_get 17 = .ok (.iload_n 1, 1) := by decide +kernel
theorem d_Co_get_18 : decode b_Co_get 18 = .ok (.laload, 1) := by decide +kernel
theorem d_Co_get_19 : decode b_Co_get 19 = .ok (.lreturn, 1) := by decide +kernel
theorem d_Co_level_0 : decode b_Co_level 0 = .ok (.aload_n 0, 1) := by decide +kernel
theorem d_Co_level_1 : decode b_Co_level 1 = .ok (.getfield 12, 3) := by decide +kernel
theorem d_Co_level_4 : decode b_Co_level 4 = .ok (.iload_n 1, 1) := by decide +kernel
theorem d_Co_level_5 : decode b_Co_level 5 = .ok (.putfield 134, 3) := by decide +kernel
theorem d_Co_level_8 : decode b_Co_level 8 = .ok (.return_, 1) := by decide +kernel
theorem d_Co_step_0 : decode b_Co_step 0 = .ok (.aload_n 0, 1) := by decide +kernel
theorem d_Co_step_1 : decode b_Co_step 1 = .ok (.getfield 30, 3) := by decide +kernel
theorem d_De_decode_0 : decode b_De_decode 0 = .ok (.aload_n 0, 1) := by decide +kernel
theorem d_De_fetchOpcode_0 : decode b_De_fetchOpcode 0 = .ok (.aload_n 0, 1) := by decide +kernel
theorem d_De_fetchOpcode_1 : decode b_De_fetchOpcode 1 = .ok (.iconst 0, 1) := by decide +kernel
theorem d_De_fetchOpcode_2 : decode b_De_fetchOpcode 2 = .ok (.putfield 65, 3) := by decide +kernel
theorem d_De_fetchOpcode_5 : decode b_De_fetchOpcode 5 = .ok (.aload_n 0, 1) := by decide +kernel
theorem d_De_fetchOpcode_6 : decode b_De_fetchOpcode 6 = .ok (.iconst 0, 1) := by decide +kernel
theorem d_De_fetchOpcode_7 : decode b_De_fetchOpcode 7 = .ok (.putfield 71, 3) := by decide +kernel
theorem d_De_fetchOpcode_10 : decode b_De_fetchOpcode 10 = .ok (.aload_n 0, 1) := by decide +kernel
theorem d_De_fetchOpcode_11 : decode b_De_fetchOpcode 11 = .ok (.iconst 0, 1) := by decide +kernel
theorem d_De_fetchOpcode_12 : decode b_De_fetchOpcode 12 = .ok (.putfield 75, 3) := by decide +kernel
theorem d_De_fetchOpcode_15 : decode b_De_fetchOpcode 15 = .ok (.aload_n 0, 1) := by decide +kernel
theorem d_De_fetchOpcode_16 : decode b_De_fetchOpcode 16 = .ok (.iconst 0, 1) := by decide +kernel
theorem d_De_fetchOpcode_17 : decode b_De_fetchOpcode 17 = .ok (.putfield 78, 3) := by decide +kernel
theorem d_De_fetchOpcode_20 : decode b_De_fetchOpcode 20 = .ok (.iconst 0, 1) := by decide +kernel
theorem d_De_fetchOpcode_21 : decode b_De_fetchOpcode 21 = .ok (.istore_n 1, 1) := by decide +kernel
theorem d_De_fetchOpcode_22 : decode b_De_fetchOpcode 22 = .ok (.iload_n 1, 1) := by decide +kernel
theorem d_De_fetchOpcode_23 : decode b_De_fetchOpcode 23 = .ok (.bipush 15, 2) := by decide +kernel
theorem d_De_fetchOpcode_25 : decode b_De_fetchOpcode 25 = .ok (.if_icmp .gt 42, 3) := by decide +kernel
theorem d_De_fetchOpcode_67 : decode b_De_fetchOpcode 67 = .ok (.aload_n 0, 1) := by decide +kernel
theorem d_De_fetchOpcode_68 : decode b_De_fetchOpcode 68 = .ok (.aload_n 0, 1) := by decide +kernel
theorem d_De_fetchOpcode_69 : decode b_De_fetchOpcode 69 = .ok (.getfield 84, 3) := by decide +kernel
theorem d_De_fetchOpcode_72 : decode b_De_fetchOpcode 72 = .ok (.putfield 23, 3) := by decide +kernel
theorem d_De_fetchOpcode_75 : decode b_De_fetchOpcode 75 = .ok (.aload_n 0, 1) := by decide +kernel
theorem d_De_fetchOpcode_76 : decode b_De_fetchOpcode 76 = .ok (.getfield 23, 3) := by decide +kernel
theorem d_De_fetchOpcode_79 : decode b_De_fetchOpcode 79 = .ok (.bipush 15, 2) := by decide +kernel
theorem d_De_fetchOpcode_81 : decode b_De_fetchOpcode 81 = .ok (.if_icmp .eq 5, 3) := by decide +kernel
theorem d_De_fetchOpcode_86 : decode b_De_fetchOpcode 86 = .ok (.aload_n 0, 1) := by decide +kernel
theorem d_De_fetch_0 : decode b_De_fetch 0 = .ok (.aload_n 0, 1) := by decide +kernel
theorem d_De_fetch_1 : decode b_De_fetch 1 = .ok (.getfield 65, 3) := by decide +kernel
theorem d_De_fetch_4 : decode b_De_fetch 4 = .ok (.bipush 15, 2) := by decide +kernel
theorem d_De_fetch_6 : decode b_De_fetch 6 = .ok (.if_icmp .lt 6, 3) := by decide +kernel
theorem d_De_fetch_12 : decode b_De_fetch 12 = .ok (.aload_n 0, 1) := by decide +kernel
theorem d_De_fetch_13 : decode b_De_fetch 13 = .ok (.getfield 9, 3) := by decide +kernel
theorem d_De_fetch_16 : decode b_De_fetch 16 = .ok (.getfield 60, 3) := by decide +kernel
theorem d_De_fetch_19 : decode b_De_fetch 19 = .ok (.aload_n 0, 1) := by decide +kernel
theorem d_De_fetch_20 : decode b_De_fetch 20 = .ok (.getfield 65, 3) := by decide +kernel
theorem d_De_fetch_23 : decode b_De_fetch 23 = .ok (.i2l, 1) := by decide +kernel
theorem d_De_fetch_24 : decode b_De_fetch 24 = .ok (.ladd, 1) := by decide +kernel
theorem d_De_fetch_25 : decode b_De_fetch 25 = .ok (.lstore_n 1, 1) := by decide +kernel
theorem d_De_fetch_26 : decode b_De_fetch 26 = .ok (.aload_n 0, 1) := by decide +kernel
theorem d_De_fetch_27 : decode b_De_fetch 27 = .ok (.getfield 65, 3) := by decide +kernel
theorem d_De_fetch_30 : decode b_De_fetch 30 = .ok (.ifCond .le 26, 3) := by decide +kernel
theorem d_De_fetch_56 : decode b_De_fetch 56 = .ok (.aload_n 0, 1) := by decide +kernel
theorem d_De_fetch_57 : decode b_De_fetch 57 = .ok (.aload_n 0, 1) := by decide +kernel
theorem d_De_fetch_58 : decode b_De_fetch 58 = .ok (.getfield 15, 3) := by decide +kernel
theorem d_De_fetch_61 : decode b_De_fetch 61 = .ok (.lload_n 1, 1) := by decide +kernel
theorem d_De_fetch_62 : decode b_De_fetch 62 = .ok (.iconst 2, 1) := by decide +kernel
theorem d_Pa_locate_0 : decode b_Pa_locate 0 = .ok (.lload_n 1, 1) := by decide +kernel
theorem d_Pa_isWrong_0 : decode b_Pa_isWrong 0 = .ok (.lload_n 0, 1) := by decide +kernel
theorem d_Pa_isWrong_1 : decode b_Pa_isWrong 1 = .ok (.bipush 47, 2) := by decide +kernel
theorem d_Pa_isWrong_3 : decode b_Pa_isWrong 3 = .ok (.lshr, 1) := by decide +kernel
theorem d_Pa_isWrong_4 : decode b_Pa_isWrong 4 = .ok (.lstore_n 2, 1) := by decide +kernel
theorem d_Pa_isWrong_5 : decode b_Pa_isWrong 5 = .ok (.lload_n 2, 1) := by decide +kernel
theorem d_Pa_isWrong_6 : decode b_Pa_isWrong 6 = .ok (.lconst 0, 1) := by decide +kernel
theorem d_Pa_isWrong_7 : decode b_Pa_isWrong 7 = .ok (.lcmp, 1) := by decide +kernel
theorem d_Pa_isWrong_8 : decode b_Pa_isWrong 8 = .ok (.ifCond .eq 15, 3) := by decide +kernel
theorem d_Pa_isWrong_23 : decode b_Pa_isWrong 23 = .ok (.iconst 0, 1) := by decide +kernel
theorem d_Pa_isWrong_24 : decode b_Pa_isWrong 24 = .ok (.ireturn, 1) := by decide +kernel
theorem d_Pa_isWrong_11 : decode b_Pa_isWrong 11 = .ok (.lload_n 2, 1) := by decide +kernel
theorem d_Pa_isWrong_12 : decode b_Pa_isWrong 12 = .ok (.ldc2_w 25, 3) := by decide +kernel
theorem d_Pa_isWrong_15 : decode b_Pa_isWrong 15 = .ok (.lcmp, 1) := by decide +kernel
theorem d_Pa_isWrong_16 : decode b_Pa_isWrong 16 = .ok (.ifCond .eq 7, 3) := by decide +kernel
theorem d_Pa_isWrong_19 : decode b_Pa_isWrong 19 = .ok (.iconst 1, 1) := by decide +kernel
theorem d_Pa_isWrong_20 : decode b_Pa_isWrong 20 = .ok (.goto 4, 3) := by decide +kernel
theorem d_Pa_locate_1 : decode b_Pa_locate 1 = .ok (.invokestatic 27, 3) := by decide +kernel
theorem d_Pa_locate_4 : decode b_Pa_locate 4 = .ok (.ifCond .eq 7, 3) := by decide +kernel
theorem d_Pa_locate_11 : decode b_Pa_locate 11 = .ok (.aload_n 0, 1) := by decide +kernel
theorem d_Pa_locate_12 : decode b_Pa_locate 12 = .ok (.getfield 15, 3) := by decide +kernel
theorem d_Pa_locate_15 : decode b_Pa_locate 15 = .ok (.getfield 31, 3) := by decide +kernel
theorem d_Pa_locate_18 : decode b_Pa_locate 18 = .ok (.ldc2_w 37, 3) := by decide +kernel
theorem d_Pa_locate_21 : decode b_Pa_locate 21 = .ok (.land, 1) := by decide +kernel
theorem d_Pa_locate_22 : decode b_Pa_locate 22 = .ok (.lstore 4, 2) := by decide +kernel
theorem d_Pa_locate_24 : decode b_Pa_locate 24 = .ok (.ldc2_w 25, 3) := by decide +kernel
theorem d_Pa_locate_27 : decode b_Pa_locate 27 = .ok (.lstore 6, 2) := by decide +kernel
theorem d_Pa_locate_29 : decode b_Pa_locate 29 = .ok (.lconst 0, 1) := by decide +kernel
theorem d_Pa_locate_30 : decode b_Pa_locate 30 = .ok (.lstore 8, 2) := by decide +kernel
theorem d_Pa_locate_32 : decode b_Pa_locate 32 = .ok (.ldc2_w 39, 3) := by decide +kernel
theorem d_Pa_locate_35 : decode b_Pa_locate 35 = .ok (.lstore 10, 2) := by decide +kernel
theorem d_Pa_locate_37 : decode b_Pa_locate 37 = .ok (.bipush 39, 2) := by decide +kernel
theorem d_Pa_locate_39 : decode b_Pa_locate 39 = .ok (.istore 12, 2) := by decide +kernel
theorem d_Pa_locate_41 : decode b_Pa_locate 41 = .ok (.iload 12, 2) := by decide +kernel
theorem d_Pa_locate_43 : decode b_Pa_locate 43 = .ok (.bipush 12, 2) := by decide +kernel
theorem d_Pa_locate_45 : decode b_Pa_locate 45 = .ok (.if_icmp .lt 148, 3) := by decide +kernel
theorem d_Pa_locate_193 : decode b_Pa_locate 193 = .ok (.aload_n 0, 1) := by decide +kernel
theorem d_Pa_locate_194 : decode b_Pa_locate 194 = .ok (.lload 6, 2) := by decide +kernel
theorem d_Pa_locate_196 : decode b_Pa_locate 196 = .ok (.lload 8, 2) := by decide +kernel
theorem d_Pa_locate_198 : decode b_Pa_locate 198 = .ok (.iload_n 3, 1) := by decide +kernel
theorem d_Pa_isForbidden_0 : decode b_Pa_isForbidden 0 = .ok (.iload 5, 2) := by decide +kernel
theorem d_Pa_isForbidden_2 : decode b_Pa_isForbidden 2 = .ok (.iconst 1, 1) := by decide +kernel
theorem d_Pa_isForbidden_3 : decode b_Pa_isForbidden 3 = .ok (.if_icmp .ne 13, 3) := by decide +kernel
theorem d_Pa_isForbidden_16 : decode b_Pa_isForbidden 16 = .ok (.aload_n 0, 1) := by decide +kernel
theorem d_Pa_isForbidden_17 : decode b_Pa_isForbidden 17 = .ok (.getfield 15, 3) := by decide +kernel
theorem d_Pa_isForbidden_20 : decode b_Pa_isForbidden 20 = .ok (.getfield 63, 3) := by decide +kernel
theorem d_Pa_isForbidden_23 : decode b_Pa_isForbidden 23 = .ok (.ifCond .eq 13, 3) := by decide +kernel
theorem d_Pa_isForbidden_36 : decode b_Pa_isForbidden 36 = .ok (.iload 5, 2) := by decide +kernel
theorem d_Pa_isForbidden_38 : decode b_Pa_isForbidden 38 = .ok (.iconst 2, 1) := by decide +kernel
theorem d_Pa_isForbidden_39 : decode b_Pa_isForbidden 39 = .ok (.if_icmp .ne 13, 3) := by decide +kernel
theorem d_Pa_isForbidden_52 : decode b_Pa_isForbidden 52 = .ok (.iconst 0, 1) := by decide +kernel
theorem d_Pa_isForbidden_53 : decode b_Pa_isForbidden 53 = .ok (.ireturn, 1) := by decide +kernel
theorem d_Pa_isForbidden_42 : decode b_Pa_isForbidden 42 = .ok (.lload_n 3, 1) := by decide +kernel
theorem d_Pa_isForbidden_43 : decode b_Pa_isForbidden 43 = .ok (.lconst 0, 1) := by decide +kernel
theorem d_Pa_isForbidden_44 : decode b_Pa_isForbidden 44 = .ok (.lcmp, 1) := by decide +kernel
theorem d_Pa_isForbidden_45 : decode b_Pa_isForbidden 45 = .ok (.ifCond .ge 7, 3) := by decide +kernel
theorem d_Pa_isForbidden_48 : decode b_Pa_isForbidden 48 = .ok (.iconst 1, 1) := by decide +kernel
theorem d_Pa_isForbidden_49 : decode b_Pa_isForbidden 49 = .ok (.goto 4, 3) := by decide +kernel
theorem d_Pa_isForbidden_26 : decode b_Pa_isForbidden 26 = .ok (.lload_n 1, 1) := by decide +kernel
theorem d_Pa_isForbidden_27 : decode b_Pa_isForbidden 27 = .ok (.ldc2_w 67, 3) := by decide +kernel
theorem d_Pa_isForbidden_30 : decode b_Pa_isForbidden 30 = .ok (.land, 1) := by decide +kernel
theorem d_Pa_isForbidden_31 : decode b_Pa_isForbidden 31 = .ok (.lconst 0, 1) := by decide +kernel
theorem d_Pa_isForbidden_32 : decode b_Pa_isForbidden 32 = .ok (.lcmp, 1) := by decide +kernel
theorem d_Pa_isForbidden_33 : decode b_Pa_isForbidden 33 = .ok (.ifCond .eq 15, 3) := by decide +kernel
theorem d_Pa_isForbidden_6 : decode b_Pa_isForbidden 6 = .ok (.lload_n 1, 1) := by decide +kernel
theorem d_Pa_isForbidden_7 : decode b_Pa_isForbidden 7 = .ok (.ldc2_w 61, 3) := by decide +kernel
theorem d_Pa_isForbidden_10 : decode b_Pa_isForbidden 10 = .ok (.land, 1) := by decide +kernel
theorem d_Pa_isForbidden_11 : decode b_Pa_isForbidden 11 = .ok (.lconst 0, 1) := by decide +kernel
theorem d_Pa_isForbidden_12 : decode b_Pa_isForbidden 12 = .ok (.lcmp, 1) := by decide +kernel
theorem d_Pa_isForbidden_13 : decode b_Pa_isForbidden 13 = .ok (.ifCond .eq 35, 3) := by decide +kernel
theorem d_Pa_locate_199 : decode b_Pa_locate 199 = .ok (.invokevirtual 57, 3) := by decide +kernel
theorem d_Pa_locate_202 : decode b_Pa_locate 202 = .ok (.ifCond .eq 10, 3) := by decide +kernel
theorem d_Pa_locate_212 : decode b_Pa_locate 212 = .ok (.lload 4, 2) := by decide +kernel
theorem d_Pa_locate_214 : decode b_Pa_locate 214 = .ok (.lload_n 1, 1) := by decide +kernel
theorem d_Pa_locate_215 : decode b_Pa_locate 215 = .ok (.lload 10, 2) := by decide +kernel
theorem d_Pa_locate_217 : decode b_Pa_locate 217 = .ok (.land, 1) := by decide +kernel
theorem d_Pa_locate_218 : decode b_Pa_locate 218 = .ok (.lor, 1) := by decide +kernel
theorem d_Pa_locate_219 : decode b_Pa_locate 219 = .ok (.lreturn, 1) := by decide +kernel
theorem d_Pa_locate_205 : decode b_Pa_locate 205 = .ok (.aload_n 0, 1) := by decide +kernel
theorem d_Pa_locate_206 : decode b_Pa_locate 206 = .ok (.lconst 1, 1) := by decide +kernel
theorem d_Pa_locate_207 : decode b_Pa_locate 207 = .ok (.iload_n 3, 1) := by decide +kernel
theorem d_Pa_refused_0 : decode b_Pa_refused 0 = .ok (.iload_n 3, 1) := by decide +kernel
theorem d_Pa_refused_1 : decode b_Pa_refused 1 = .ok (.iconst 1, 1) := by decide +kernel
theorem d_Pa_refused_2 : decode b_Pa_refused 2 = .ok (.if_icmp .ne 9, 3) := by decide +kernel
theorem d_Pa_refused_11 : decode b_Pa_refused 11 = .ok (.iload_n 3, 1) := by decide +kernel
theorem d_Pa_refused_12 : decode b_Pa_refused 12 = .ok (.iconst 2, 1) := by decide +kernel
theorem d_Pa_refused_13 : decode b_Pa_refused 13 = .ok (.if_icmp .ne 9, 3) := by decide +kernel
theorem d_Pa_refused_22 : decode b_Pa_refused 22 = .ok (.lconst 0, 1) := by decide +kernel
theorem d_Pa_refused_23 : decode b_Pa_refused 23 = .ok (.lstore 4, 2) := by decide +kernel
theorem d_Pa_refused_25 : decode b_Pa_refused 25 = .ok (.ldc2_w 71, 3) := by decide +kernel
theorem d_Pa_refused_28 : decode b_Pa_refused 28 = .ok (.lload_n 1, 1) := by decide +kernel
theorem d_Pa_refused_29 : decode b_Pa_refused 29 = .ok (.lsub, 1) := by decide +kernel
theorem d_Pa_refused_30 : decode b_Pa_refused 30 = .ok (.lload 4, 2) := by decide +kernel
theorem d_Pa_refused_32 : decode b_Pa_refused 32 = .ok (.lsub, 1) := by decide +kernel
theorem d_Pa_refused_33 : decode b_Pa_refused 33 = .ok (.aload_n 0, 1) := by decide +kernel
theorem d_Pa_refused_34 : decode b_Pa_refused 34 = .ok (.getfield 15, 3) := by decide +kernel
theorem d_Pa_refused_37 : decode b_Pa_refused 37 = .ok (.getfield 63, 3) := by decide +kernel
theorem d_Pa_refused_40 : decode b_Pa_refused 40 = .ok (.ifCond .eq 9, 3) := by decide +kernel
theorem d_Pa_refused_49 : decode b_Pa_refused 49 = .ok (.lconst 0, 1) := by decide +kernel
theorem d_Pa_refused_50 : decode b_Pa_refused 50 = .ok (.lsub, 1) := by decide +kernel
theorem d_Pa_refused_51 : decode b_Pa_refused 51 = .ok (.lreturn, 1) := by decide +kernel
theorem d_Pa_refused_43 : decode b_Pa_refused 43 = .ok (.ldc2_w 67, 3) := by decide +kernel
theorem d_Pa_refused_46 : decode b_Pa_refused 46 = .ok (.goto 4, 3) := by decide +kernel
theorem d_Pa_refused_16 : decode b_Pa_refused 16 = .ok (.ldc2_w 69, 3) := by decide +kernel
theorem d_Pa_refused_19 : decode b_Pa_refused 19 = .ok (.goto 4, 3) := by decide +kernel
theorem d_Pa_refused_5 : decode b_Pa_refused 5 = .ok (.ldc2_w 61, 3) := by decide +kernel
theorem d_Pa_refused_8 : decode b_Pa_refused 8 = .ok (.goto 15, 3) := by decide +kernel
theorem d_Pa_locate_208 : decode b_Pa_locate 208 = .ok (.invokevirtual 43, 3) := by decide +kernel
theorem d_Pa_locate_211 : decode b_Pa_locate 211 = .ok (.lreturn, 1) := by decide +kernel
theorem d_Pa_locate_48 : decode b_Pa_locate 48 = .ok (.lload 4, 2) := by decide +kernel
theorem d_Pa_locate_50 : decode b_Pa_locate 50 = .ok (.lload_n 1, 1) := by decide +kernel
theorem d_Pa_locate_51 : decode b_Pa_locate 51 = .ok (.iload 12, 2) := by decide +kernel
theorem d_Pa_locate_53 : decode b_Pa_locate 53 = .ok (.lushr, 1) := by decide +kernel
theorem d_Pa_locate_54 : decode b_Pa_locate 54 = .ok (.ldc2_w 41, 3) := by decide +kernel
theorem d_Pa_locate_57 : decode b_Pa_locate 57 = .ok (.land, 1) := by decide +kernel
theorem d_Pa_locate_58 : decode b_Pa_locate 58 = .ok (.iconst 3, 1) := by decide +kernel
theorem d_Pa_locate_59 : decode b_Pa_locate 59 = .ok (.lshl, 1) := by decide +kernel
theorem d_Pa_locate_60 : decode b_Pa_locate 60 = .ok (.ladd, 1) := by decide +kernel
theorem d_Pa_locate_61 : decode b_Pa_locate 61 = .ok (.lstore 13, 2) := by decide +kernel
theorem d_Pa_locate_63 : decode b_Pa_locate 63 = .ok (.lload 13, 2) := by decide +kernel
theorem d_Pa_locate_65 : decode b_Pa_locate 65 = .ok (.ldc2_w 19, 3) := by decide +kernel
theorem d_Pa_locate_68 : decode b_Pa_locate 68 = .ok (.lcmp, 1) := by decide +kernel
theorem d_Pa_locate_69 : decode b_Pa_locate 69 = .ok (.ifCond .ge 16, 3) := by decide +kernel
theorem d_Pa_locate_85 : decode b_Pa_locate 85 = .ok (.lconst 0, 1) := by decide +kernel
theorem d_Pa_locate_86 : decode b_Pa_locate 86 = .ok (.lstore 15, 2) := by decide +kernel
theorem d_Pa_locate_88 : decode b_Pa_locate 88 = .ok (.lload 6, 2) := by decide +kernel
theorem d_Pa_locate_90 : decode b_Pa_locate 90 = .ok (.lload 15, 2) := by decide +kernel
theorem d_Pa_locate_92 : decode b_Pa_locate 92 = .ok (.land, 1) := by decide +kernel
theorem d_Pa_locate_93 : decode b_Pa_locate 93 = .ok (.lstore 6, 2) := by decide +kernel
theorem d_Pa_locate_95 : decode b_Pa_locate 95 = .ok (.lload 8, 2) := by decide +kernel
theorem d_Pa_locate_97 : decode b_Pa_locate 97 = .ok (.lload 15, 2) := by decide +kernel
theorem d_Pa_locate_99 : decode b_Pa_locate 99 = .ok (.lor, 1) := by decide +kernel
theorem d_Pa_locate_100 : decode b_Pa_locate 100 = .ok (.lstore 8, 2) := by decide +kernel
theorem d_Pa_locate_102 : decode b_Pa_locate 102 = .ok (.lload 15, 2) := by decide +kernel
theorem d_Pa_locate_104 : decode b_Pa_locate 104 = .ok (.lconst 1, 1) := by decide +kernel
theorem d_Pa_locate_105 : decode b_Pa_locate 105 = .ok (.land, 1) := by decide +kernel
theorem d_Pa_locate_106 : decode b_Pa_locate 106 = .ok (.lconst 0, 1) := by decide +kernel
theorem d_Pa_locate_107 : decode b_Pa_locate 107 = .ok (.lcmp, 1) := by decide +kernel
theorem d_Pa_locate_108 : decode b_Pa_locate 108 = .ok (.ifCond .ne 10, 3) := by decide +kernel
theorem d_Pa_locate_118 : decode b_Pa_locate 118 = .ok (.lload 15, 2) := by decide +kernel
theorem d_Pa_locate_120 : decode b_Pa_locate 120 = .ok (.ldc2_w 37, 3) := by decide +kernel
theorem d_Pa_locate_123 : decode b_Pa_locate 123 = .ok (.land, 1) := by decide +kernel
theorem d_Pa_locate_124 : decode b_Pa_locate 124 = .ok (.lstore 4, 2) := by decide +kernel
theorem d_Pa_locate_126 : decode b_Pa_locate 126 = .ok (.iload 12, 2) := by decide +kernel
theorem d_Pa_locate_128 : decode b_Pa_locate 128 = .ok (.bipush 12, 2) := by decide +kernel
theorem d_Pa_locate_130 : decode b_Pa_locate 130 = .ok (.if_icmp .le 57, 3) := by decide +kernel
theorem d_Pa_locate_187 : decode b_Pa_locate 187 = .ok (.iinc 12 (-9), 3) := by decide +kernel
theorem d_Pa_locate_190 : decode b_Pa_locate 190 = .ok (.goto (-149), 3) := by decide +kernel
theorem d_Pa_locate_133 : decode b_Pa_locate 133 = .ok (.lload 15, 2) := by decide +kernel
theorem d_Pa_locate_135 : decode b_Pa_locate 135 = .ok (.ldc2_w 47, 3) := by decide +kernel
theorem d_Pa_locate_138 : decode b_Pa_locate 138 = .ok (.land, 1) := by decide +kernel
theorem d_Pa_locate_139 : decode b_Pa_locate 139 = .ok (.lconst 0, 1) := by decide +kernel
theorem d_Pa_locate_140 : decode b_Pa_locate 140 = .ok (.lcmp, 1) := by decide +kernel
theorem d_Pa_locate_141 : decode b_Pa_locate 141 = .ok (.ifCond .eq 46, 3) := by decide +kernel
theorem d_Pa_locate_144 : decode b_Pa_locate 144 = .ok (.iload 12, 2) := by decide +kernel
theorem d_Pa_locate_146 : decode b_Pa_locate 146 = .ok (.bipush 21, 2) := by decide +kernel
theorem d_Pa_locate_148 : decode b_Pa_locate 148 = .ok (.if_icmp .gt 14, 3) := by decide +kernel
theorem d_Pa_locate_162 : decode b_Pa_locate 162 = .ok (.aload_n 0, 1) := by decide +kernel
theorem d_Pa_locate_163 : decode b_Pa_locate 163 = .ok (.ldc2_w 51, 3) := by decide +kernel
theorem d_Pa_locate_166 : decode b_Pa_locate 166 = .ok (.iload_n 3, 1) := by decide +kernel
theorem d_Pa_locate_167 : decode b_Pa_locate 167 = .ok (.invokevirtual 43, 3) := by decide +kernel
theorem d_Pa_locate_170 : decode b_Pa_locate 170 = .ok (.lreturn, 1) := by decide +kernel
theorem d_Pa_locate_151 : decode b_Pa_locate 151 = .ok (.lload 15, 2) := by decide +kernel
theorem d_Pa_locate_153 : decode b_Pa_locate 153 = .ok (.ldc2_w 49, 3) := by decide +kernel
theorem d_Pa_locate_156 : decode b_Pa_locate 156 = .ok (.land, 1) := by decide +kernel
theorem d_Pa_locate_157 : decode b_Pa_locate 157 = .ok (.lconst 0, 1) := by decide +kernel
theorem d_Pa_locate_158 : decode b_Pa_locate 158 = .ok (.lcmp, 1) := by decide +kernel
theorem d_Pa_locate_159 : decode b_Pa_locate 159 = .ok (.ifCond .eq 12, 3) := by decide +kernel
theorem d_Pa_locate_171 : decode b_Pa_locate 171 = .ok (.lload 15, 2) := by decide +kernel
theorem d_Pa_locate_173 : decode b_Pa_locate 173 = .ok (.ldc2_w 53, 3) := by decide +kernel
theorem d_Pa_locate_176 : decode b_Pa_locate 176 = .ok (.land, 1) := by decide +kernel
theorem d_Pa_locate_177 : decode b_Pa_locate 177 = .ok (.lstore 4, 2) := by decide +kernel
theorem d_Pa_locate_179 : decode b_Pa_locate 179 = .ok (.ldc2_w 55, 3) := by decide +kernel
theorem d_Pa_locate_182 : decode b_Pa_locate 182 = .ok (.lstore 10, 2) := by decide +kernel
theorem d_Pa_locate_184 : decode b_Pa_locate 184 = .ok (.goto 9, 3) := by decide +kernel
theorem d_Pa_locate_111 : decode b_Pa_locate 111 = .ok (.aload_n 0, 1) := by decide +kernel
theorem d_Pa_locate_112 : decode b_Pa_locate 112 = .ok (.lconst 0, 1) := by decide +kernel
theorem d_Pa_locate_113 : decode b_Pa_locate 113 = .ok (.iload_n 3, 1) := by decide +kernel
theorem d_Pa_locate_114 : decode b_Pa_locate 114 = .ok (.invokevirtual 43, 3) := by decide +kernel
theorem d_Pa_locate_117 : decode b_Pa_locate 117 = .ok (.lreturn, 1) := by decide +kernel
theorem d_Pa_locate_72 : decode b_Pa_locate 72 = .ok (.aload_n 0, 1) := by decide +kernel
theorem d_Pa_locate_73 : decode b_Pa_locate 73 = .ok (.getfield 11, 3) := by decide +kernel
theorem d_Pa_locate_76 : decode b_Pa_locate 76 = .ok (.lload 13, 2) := by decide +kernel
theorem d_Pa_locate_78 : decode b_Pa_locate 78 = .ok (.iconst 3, 1) := by decide +kernel
theorem d_Pa_locate_79 : decode b_Pa_locate 79 = .ok (.lushr, 1) := by decide +kernel
theorem d_Pa_locate_80 : decode b_Pa_locate 80 = .ok (.l2i, 1) := by decide +kernel
theorem d_Pa_locate_81 : decode b_Pa_locate 81 = .ok (.laload, 1) := by decide +kernel
theorem d_Pa_locate_82 : decode b_Pa_locate 82 = .ok (.goto 4, 3) := by decide +kernel
theorem d_Pa_locate_7 : decode b_Pa_locate 7 = .ok (.ldc2_w 25, 3) := by decide +kernel
theorem d_Pa_locate_10 : decode b_Pa_locate 10 = .ok (.lreturn, 1) := by decide +kernel
theorem d_De_fetch_63 : decode b_De_fetch 63 = .ok (.invokevirtual 147, 3) := by decide +kernel
theorem d_De_fetch_66 : decode b_De_fetch 66 = .ok (.putfield 144, 3) := by decide +kernel
theorem d_De_fetch_69 : decode b_De_fetch 69 = .ok (.aload_n 0, 1) := by decide +kernel
theorem d_De_fetch_70 : decode b_De_fetch 70 = .ok (.getfield 144, 3) := by decide +kernel
theorem d_De_fetch_73 : decode b_De_fetch 73 = .ok (.lconst 0, 1) := by decide +kernel
theorem d_De_fetch_74 : decode b_De_fetch 74 = .ok (.lcmp, 1) := by decide +kernel
theorem d_De_fetch_75 : decode b_De_fetch 75 = .ok (.ifCond .ge 18, 3) := by decide +kernel
theorem d_De_fetch_93 : decode b_De_fetch 93 = .ok (.aload_n 0, 1) := by decide +kernel
theorem d_De_fetch_94 : decode b_De_fetch 94 = .ok (.aload_n 0, 1) := by decide +kernel
theorem d_De_fetch_95 : decode b_De_fetch 95 = .ok (.getfield 15, 3) := by decide +kernel
theorem d_De_fetch_98 : decode b_De_fetch 98 = .ok (.aload_n 0, 1) := by decide +kernel
theorem d_De_fetch_99 : decode b_De_fetch 99 = .ok (.getfield 144, 3) := by decide +kernel
theorem d_De_fetch_102 : decode b_De_fetch 102 = .ok (.invokevirtual 154, 3) := by decide +kernel
theorem d_De_fetch_105 : decode b_De_fetch 105 = .ok (.putfield 84, 3) := by decide +kernel
theorem d_De_fetch_108 : decode b_De_fetch 108 = .ok (.aload_n 0, 1) := by decide +kernel
theorem d_De_fetch_109 : decode b_De_fetch 109 = .ok (.dup, 1) := by decide +kernel
theorem d_De_fetch_110 : decode b_De_fetch 110 = .ok (.getfield 65, 3) := by decide +kernel
theorem d_De_fetch_113 : decode b_De_fetch 113 = .ok (.iconst 1, 1) := by decide +kernel
theorem d_De_fetch_114 : decode b_De_fetch 114 = .ok (.iadd, 1) := by decide +kernel
theorem d_De_fetch_115 : decode b_De_fetch 115 = .ok (.putfield 65, 3) := by decide +kernel
theorem d_De_fetch_118 : decode b_De_fetch 118 = .ok (.iconst (-1), 1) := by decide +kernel
theorem d_De_fetch_119 : decode b_De_fetch 119 = .ok (.ireturn, 1) := by decide +kernel
theorem d_De_fetch_78 : decode b_De_fetch 78 = .ok (.aload_n 0, 1) := by decide +kernel
theorem d_De_fetch_79 : decode b_De_fetch 79 = .ok (.getfield 15, 3) := by decide +kernel
theorem d_De_fetch_82 : decode b_De_fetch 82 = .ok (.lload_n 1, 1) := by decide +kernel
theorem d_De_fetch_83 : decode b_De_fetch 83 = .ok (.aload_n 0, 1) := by decide +kernel
theorem d_De_fetch_84 : decode b_De_fetch 84 = .ok (.getfield 144, 3) := by decide +kernel
theorem d_De_fetch_87 : decode b_De_fetch 87 = .ok (.bipush 13, 2) := by decide +kernel
theorem d_Pa_refusal_0 : decode b_Pa_refusal 0 = .ok (.lload_n 3, 1) := by decide +kernel
theorem d_Pa_refusal_1 : decode b_Pa_refusal 1 = .ok (.ldc2_w 25, 3) := by decide +kernel
theorem d_Pa_refusal_4 : decode b_Pa_refusal 4 = .ok (.lcmp, 1) := by decide +kernel
theorem d_Pa_refusal_5 : decode b_Pa_refusal 5 = .ok (.ifCond .ne 6, 3) := by decide +kernel
theorem d_Pa_refusal_11 : decode b_Pa_refusal 11 = .ok (.aload_n 0, 1) := by decide +kernel
theorem d_Pa_refusal_12 : decode b_Pa_refusal 12 = .ok (.getfield 15, 3) := by decide +kernel
theorem d_Pa_refusal_15 : decode b_Pa_refusal 15 = .ok (.lload_n 1, 1) := by decide +kernel
theorem d_Pa_refusal_16 : decode b_Pa_refusal 16 = .ok (.putfield 73, 3) := by decide +kernel
theorem d_Pa_refusal_19 : decode b_Pa_refusal 19 = .ok (.aload_n 0, 1) := by decide +kernel
theorem d_Pa_refusal_20 : decode b_Pa_refusal 20 = .ok (.getfield 15, 3) := by decide +kernel
theorem d_Pa_refusal_23 : decode b_Pa_refusal 23 = .ok (.ldc2_w 71, 3) := by decide +kernel
theorem d_Pa_refusal_26 : decode b_Pa_refusal 26 = .ok (.lload_n 3, 1) := by decide +kernel
theorem d_Pa_refusal_27 : decode b_Pa_refusal 27 = .ok (.lsub, 1) := by decide +kernel
theorem d_Pa_refusal_28 : decode b_Pa_refusal 28 = .ok (.l2i, 1) := by decide +kernel
theorem d_Pa_refusal_29 : decode b_Pa_refusal 29 = .ok (.putfield 76, 3) := by decide +kernel
theorem d_Pa_refusal_32 : decode b_Pa_refusal 32 = .ok (.bipush 14, 2) := by decide +kernel
theorem d_Pa_refusal_34 : decode b_Pa_refusal 34 = .ok (.ireturn, 1) := by decide +kernel
theorem d_Pa_refusal_8 : decode b_Pa_refusal 8 = .ok (.iload 5, 2) := by decide +kernel
theorem d_Pa_refusal_10 : decode b_Pa_refusal 10 = .ok (.ireturn, 1) := by decide +kernel
theorem d_De_fetch_89 : decode b_De_fetch 89 = .ok (.invokevirtual 150, 3) := by decide +kernel
theorem d_De_fetch_92 : decode b_De_fetch 92 = .ok (.ireturn, 1) := by decide +kernel
theorem d_De_fetch_33 : decode b_De_fetch 33 = .ok (.lload_n 1, 1) := by decide +kernel
theorem d_De_fetch_34 : decode b_De_fetch 34 = .ok (.ldc2_w 142, 3) := by decide +kernel
theorem d_De_fetch_37 : decode b_De_fetch 37 = .ok (.land, 1) := by decide +kernel
theorem d_De_fetch_38 : decode b_De_fetch 38 = .ok (.lconst 0, 1) := by decide +kernel
theorem d_De_fetch_39 : decode b_De_fetch 39 = .ok (.lcmp, 1) := by decide +kernel
theorem d_De_fetch_40 : decode b_De_fetch 40 = .ok (.ifCond .eq 16, 3) := by decide +kernel
theorem d_De_fetch_43 : decode b_De_fetch 43 = .ok (.aload_n 0, 1) := by decide +kernel
theorem d_De_fetch_44 : decode b_De_fetch 44 = .ok (.dup, 1) := by decide +kernel
theorem d_De_fetch_45 : decode b_De_fetch 45 = .ok (.getfield 144, 3) := by decide +kernel
theorem d_De_fetch_48 : decode b_De_fetch 48 = .ok (.lconst 1, 1) := by decide +kernel
theorem d_De_fetch_49 : decode b_De_fetch 49 = .ok (.ladd, 1) := by decide +kernel
theorem d_De_fetch_50 : decode b_De_fetch 50 = .ok (.putfield 144, 3) := by decide +kernel
theorem d_De_fetch_53 : decode b_De_fetch 53 = .ok (.goto 40, 3) := by decide +kernel
theorem d_De_fetch_9 : decode b_De_fetch 9 = .ok (.bipush 13, 2) := by decide +kernel
theorem d_De_fetch_11 : decode b_De_fetch 11 = .ok (.ireturn, 1) := by decide +kernel
theorem d_De_fetchOpcode_87 : decode b_De_fetchOpcode 87 = .ok (.invokevirtual 81, 3) := by decide +kernel
theorem d_De_fetchOpcode_90 : decode b_De_fetchOpcode 90 = .ok (.istore_n 1, 1) := by decide +kernel
theorem d_De_fetchOpcode_91 : decode b_De_fetchOpcode 91 = .ok (.aload_n 0, 1) := by decide +kernel
theorem d_De_fetchOpcode_92 : decode b_De_fetchOpcode 92 = .ok (.sipush 256, 3) := by decide +kernel
theorem d_De_fetchOpcode_95 : decode b_De_fetchOpcode 95 = .ok (.aload_n 0, 1) := by decide +kernel
theorem d_De_fetchOpcode_96 : decode b_De_fetchOpcode 96 = .ok (.getfield 84, 3) := by decide +kernel
theorem d_De_fetchOpcode_99 : decode b_De_fetchOpcode 99 = .ok (.iadd, 1) := by decide +kernel
theorem d_De_fetchOpcode_100 : decode b_De_fetchOpcode 100 = .ok (.putfield 23, 3) := by decide +kernel
theorem d_De_fetchOpcode_103 : decode b_De_fetchOpcode 103 = .ok (.iload_n 1, 1) := by decide +kernel
theorem d_De_fetchOpcode_104 : decode b_De_fetchOpcode 104 = .ok (.ireturn, 1) := by decide +kernel
theorem d_De_fetchOpcode_84 : decode b_De_fetchOpcode 84 = .ok (.iconst (-1), 1) := by decide +kernel
theorem d_De_fetchOpcode_85 : decode b_De_fetchOpcode 85 = .ok (.ireturn, 1) := by decide +kernel
theorem d_De_fetchOpcode_28 : decode b_De_fetchOpcode 28 = .ok (.aload_n 0, 1) := by decide +kernel
theorem d_De_fetchOpcode_29 : decode b_De_fetchOpcode 29 = .ok (.invokevirtual 81, 3) := by decide +kernel
theorem d_De_fetchOpcode_32 : decode b_De_fetchOpcode 32 = .ok (.istore_n 2, 1) := by decide +kernel
theorem d_De_fetchOpcode_33 : decode b_De_fetchOpcode 33 = .ok (.iload_n 2, 1) := by decide +kernel
theorem d_De_fetchOpcode_34 : decode b_De_fetchOpcode 34 = .ok (.iconst (-1), 1) := by decide +kernel
theorem d_De_fetchOpcode_35 : decode b_De_fetchOpcode 35 = .ok (.if_icmp .eq 5, 3) := by decide +kernel
theorem d_De_fetchOpcode_40 : decode b_De_fetchOpcode 40 = .ok (.aload_n 0, 1) := by decide +kernel
theorem d_De_fetchOpcode_41 : decode b_De_fetchOpcode 41 = .ok (.getfield 84, 3) := by decide +kernel
theorem d_De_isPrefix_0 : decode b_De_isPrefix 0 = .ok (.iload_n 0, 1) := by decide +kernel
theorem d_De_isPrefix_1 : decode b_De_isPrefix 1 = .ok (.sipush 240, 3) := by decide +kernel
theorem d_De_isPrefix_4 : decode b_De_isPrefix 4 = .ok (.iand, 1) := by decide +kernel
theorem d_De_isPrefix_5 : decode b_De_isPrefix 5 = .ok (.bipush 64, 2) := by decide +kernel
theorem d_De_isPrefix_7 : decode b_De_isPrefix 7 = .ok (.if_icmp .eq 23, 3) := by decide +kernel
theorem d_De_isPrefix_30 : decode b_De_isPrefix 30 = .ok (.iconst 1, 1) := by decide +kernel
theorem d_De_isPrefix_31 : decode b_De_isPrefix 31 = .ok (.goto 4, 3) := by decide +kernel
theorem d_De_isPrefix_35 : decode b_De_isPrefix 35 = .ok (.ireturn, 1) := by decide +kernel
theorem d_De_isPrefix_10 : decode b_De_isPrefix 10 = .ok (.iload_n 0, 1) := by decide +kernel
theorem d_De_isPrefix_11 : decode b_De_isPrefix 11 = .ok (.bipush 102, 2) := by decide +kernel
theorem d_De_isPrefix_13 : decode b_De_isPrefix 13 = .ok (.if_icmp .eq 17, 3) := by decide +kernel
theorem d_De_isPrefix_16 : decode b_De_isPrefix 16 = .ok (.iload_n 0, 1) := by decide +kernel
theorem d_De_isPrefix_17 : decode b_De_isPrefix 17 = .ok (.sipush 242, 3) := by decide +kernel
theorem d_De_isPrefix_20 : decode b_De_isPrefix 20 = .ok (.if_icmp .eq 10, 3) := by decide +kernel
theorem d_De_isPrefix_23 : decode b_De_isPrefix 23 = .ok (.iload_n 0, 1) := by decide +kernel
theorem d_De_isPrefix_24 : decode b_De_isPrefix 24 = .ok (.sipush 243, 3) := by decide +kernel
theorem d_De_isPrefix_27 : decode b_De_isPrefix 27 = .ok (.if_icmp .ne 7, 3) := by decide +kernel
theorem d_De_isPrefix_34 : decode b_De_isPrefix 34 = .ok (.iconst 0, 1) := by decide +kernel
theorem d_De_fetchOpcode_44 : decode b_De_fetchOpcode 44 = .ok (.invokestatic 87, 3) := by decide +kernel
theorem d_De_fetchOpcode_47 : decode b_De_fetchOpcode 47 = .ok (.ifCond .ne 6, 3) := by decide +kernel
theorem d_De_fetchOpcode_53 : decode b_De_fetchOpcode 53 = .ok (.aload_n 0, 1) := by decide +kernel
theorem d_De_fetchOpcode_54 : decode b_De_fetchOpcode 54 = .ok (.aload_n 0, 1) := by decide +kernel
theorem d_De_fetchOpcode_55 : decode b_De_fetchOpcode 55 = .ok (.getfield 84, 3) := by decide +kernel
theorem d_De_takePrefix_0 : decode b_De_takePrefix 0 = .ok (.aload_n 0, 1) := by decide +kernel
theorem d_De_takePrefix_1 : decode b_De_takePrefix 1 = .ok (.iload_n 1, 1) := by decide +kernel
theorem d_De_takePrefix_2 : decode b_De_takePrefix 2 = .ok (.sipush 240, 3) := by decide +kernel
theorem d_De_takePrefix_5 : decode b_De_takePrefix 5 = .ok (.iand, 1) := by decide +kernel
theorem d_De_takePrefix_6 : decode b_De_takePrefix 6 = .ok (.bipush 64, 2) := by decide +kernel
theorem d_De_takePrefix_8 : decode b_De_takePrefix 8 = .ok (.if_icmp .ne 7, 3) := by decide +kernel
theorem d_De_takePrefix_15 : decode b_De_takePrefix 15 = .ok (.iconst 0, 1) := by decide +kernel
theorem d_De_takePrefix_16 : decode b_De_takePrefix 16 = .ok (.putfield 78, 3) := by decide +kernel
theorem d_De_takePrefix_19 : decode b_De_takePrefix 19 = .ok (.iload_n 1, 1) := by decide +kernel
theorem d_De_takePrefix_20 : decode b_De_takePrefix 20 = .ok (.bipush 102, 2) := by decide +kernel
theorem d_De_takePrefix_22 : decode b_De_takePrefix 22 = .ok (.if_icmp .ne 11, 3) := by decide +kernel
theorem d_De_takePrefix_33 : decode b_De_takePrefix 33 = .ok (.aload_n 0, 1) := by decide +kernel
theorem d_De_takePrefix_34 : decode b_De_takePrefix 34 = .ok (.getfield 78, 3) := by decide +kernel
theorem d_De_takePrefix_37 : decode b_De_takePrefix 37 = .ok (.ifCond .ne 8, 3) := by decide +kernel
theorem d_De_takePrefix_45 : decode b_De_takePrefix 45 = .ok (.return_, 1) := by decide +kernel
theorem d_De_takePrefix_40 : decode b_De_takePrefix 40 = .ok (.aload_n 0, 1) := by decide +kernel
theorem d_De_takePrefix_41 : decode b_De_takePrefix 41 = .ok (.iload_n 1, 1) := by decide +kernel
theorem d_De_takePrefix_42 : decode b_De_takePrefix 42 = .ok (.putfield 75, 3) := by decide +kernel
theorem d_De_takePrefix_25 : decode b_De_takePrefix 25 = .ok (.aload_n 0, 1) := by decide +kernel
theorem d_De_takePrefix_26 : decode b_De_takePrefix 26 = .ok (.iconst 1, 1) := by decide +kernel
theorem d_De_takePrefix_27 : decode b_De_takePrefix 27 = .ok (.putfield 71, 3) := by decide +kernel
theorem d_De_takePrefix_30 : decode b_De_takePrefix 30 = .ok (.goto 15, 3) := by decide +kernel
theorem d_De_takePrefix_11 : decode b_De_takePrefix 11 = .ok (.iload_n 1, 1) := by decide +kernel
theorem d_De_takePrefix_12 : decode b_De_takePrefix 12 = .ok (.goto 4, 3) := by decide +kernel
theorem d_De_fetchOpcode_58 : decode b_De_fetchOpcode 58 = .ok (.invokevirtual 90, 3) := by decide +kernel
theorem d_De_fetchOpcode_61 : decode b_De_fetchOpcode 61 = .ok (.iinc 1 1, 3) := by decide +kernel
theorem d_De_fetchOpcode_64 : decode b_De_fetchOpcode 64 = .ok (.goto (-42), 3) := by decide +kernel
theorem d_De_fetchOpcode_50 : decode b_De_fetchOpcode 50 = .ok (.goto 17, 3) := by decide +kernel
theorem d_De_fetchOpcode_38 : decode b_De_fetchOpcode 38 = .ok (.iload_n 2, 1) := by decide +kernel
theorem d_De_fetchOpcode_39 : decode b_De_fetchOpcode 39 = .ok (.ireturn, 1) := by decide +kernel
theorem d_De_decode_1 : decode b_De_decode 1 = .ok (.invokevirtual 19, 3) := by decide +kernel
theorem d_De_decode_4 : decode b_De_decode 4 = .ok (.istore_n 1, 1) := by decide +kernel
theorem d_De_decode_5 : decode b_De_decode 5 = .ok (.iload_n 1, 1) := by decide +kernel
theorem d_De_decode_6 : decode b_De_decode 6 = .ok (.iconst (-1), 1) := by decide +kernel
theorem d_De_decode_7 : decode b_De_decode 7 = .ok (.if_icmp .eq 5, 3) := by decide +kernel
theorem d_De_decode_12 : decode b_De_decode 12 = .ok (.aload_n 0, 1) := by decide +kernel
theorem d_De_decode_13 : decode b_De_decode 13 = .ok (.getfield 23, 3) := by decide +kernel
theorem d_De_decode_16 : decode b_De_decode 16 = .ok (.sipush 256, 3) := by decide +kernel
theorem d_De_decode_19 : decode b_De_decode 19 = .ok (.if_icmp .ge 13, 3) := by decide +kernel
theorem d_De_decode_32 : decode b_De_decode 32 = .ok (.aload_n 0, 1) := by decide +kernel
theorem d_De_decode_33 : decode b_De_decode 33 = .ok (.getfield 23, 3) := by decide +kernel
theorem d_De_decode_36 : decode b_De_decode 36 = .ok (.sipush 256, 3) := by decide +kernel
theorem d_De_decode_39 : decode b_De_decode 39 = .ok (.isub, 1) := by decide +kernel
theorem d_De_formOfTwo_0 : decode b_De_formOfTwo 0 = .ok (.iload_n 0, 1) := by decide +kernel
theorem d_De_formOfTwo_1 : decode b_De_formOfTwo 1 = .ok (.sipush 248, 3) := by decide +kernel
theorem d_De_formOfTwo_4 : decode b_De_formOfTwo 4 = .ok (.iand, 1) := by decide +kernel
theorem d_De_formOfTwo_5 : decode b_De_formOfTwo 5 = .ok (.lookupswitch 74 #[(64, 67), (72, 67), (128, 69), (136, 69), (144, 67), (152, 67), (200, 72)], 67) := by decide +kernel
theorem d_De_formOfTwo_72 : decode b_De_formOfTwo 72 = .ok (.iconst 2, 1) := by decide +kernel
theorem d_De_formOfTwo_73 : decode b_De_formOfTwo 73 = .ok (.ireturn, 1) := by decide +kernel
theorem d_De_formOfTwo_74 : decode b_De_formOfTwo 74 = .ok (.bipush 36, 2) := by decide +kernel
theorem d_De_formOfTwo_76 : decode b_De_formOfTwo 76 = .ok (.ireturn, 1) := by decide +kernel
theorem d_De_formOfTwo_77 : decode b_De_formOfTwo 77 = .ok (.iconst 1, 1) := by decide +kernel
theorem d_De_formOfTwo_78 : decode b_De_formOfTwo 78 = .ok (.ireturn, 1) := by decide +kernel
theorem d_De_formOfTwo_79 : decode b_De_formOfTwo 79 = .ok (.iload_n 0, 1) := by decide +kernel
theorem d_De_formOfTwo_80 : decode b_De_formOfTwo 80 = .ok (.lookupswitch 163 #[(5, 156), (7, 156), (163, 158), (171, 158), (175, 158), (176, 158), (177, 158), (179, 158), (182, 158), (183, 158), (186, 160), (187, 158), (188, 158), (189, 158), (190, 158), (191, 158), (192, 158), (193, 158)], 156) := by decide +kernel
theorem d_De_formOfTwo_236 : decode b_De_formOfTwo 236 = .ok (.iconst 1, 1) := by decide +kernel
theorem d_De_formOfTwo_237 : decode b_De_formOfTwo 237 = .ok (.ireturn, 1) := by decide +kernel
theorem d_De_formOfTwo_238 : decode b_De_formOfTwo 238 = .ok (.iconst 2, 1) := by decide +kernel
theorem d_De_formOfTwo_239 : decode b_De_formOfTwo 239 = .ok (.ireturn, 1) := by decide +kernel
theorem d_De_formOfTwo_240 : decode b_De_formOfTwo 240 = .ok (.bipush 10, 2) := by decide +kernel
theorem d_De_formOfTwo_242 : decode b_De_formOfTwo 242 = .ok (.ireturn, 1) := by decide +kernel
theorem d_De_formOfTwo_243 : decode b_De_formOfTwo 243 = .ok (.iconst 0, 1) := by decide +kernel
theorem d_De_formOfTwo_244 : decode b_De_formOfTwo 244 = .ok (.ireturn, 1) := by decide +kernel
theorem d_De_decode_40 : decode b_De_decode 40 = .ok (.invokestatic 31, 3) := by decide +kernel
theorem d_De_decode_43 : decode b_De_decode 43 = .ok (.istore_n 2, 1) := by decide +kernel
theorem d_De_decode_44 : decode b_De_decode 44 = .ok (.iload_n 2, 1) := by decide +kernel
theorem d_De_decode_45 : decode b_De_decode 45 = .ok (.ifCond .eq 11, 3) := by decide +kernel
theorem d_De_decode_56 : decode b_De_decode 56 = .ok (.bipush 6, 2) := by decide +kernel
theorem d_De_decode_58 : decode b_De_decode 58 = .ok (.ireturn, 1) := by decide +kernel
theorem d_De_decode_48 : decode b_De_decode 48 = .ok (.aload_n 0, 1) := by decide +kernel
theorem d_De_decode_49 : decode b_De_decode 49 = .ok (.iload_n 2, 1) := by decide +kernel
theorem d_De_isToldInSize_0 : decode b_De_isToldInSize 0 = .ok (.aload_n 0, 1) := by decide +kernel
theorem d_De_isToldInSize_1 : decode b_De_isToldInSize 1 = .ok (.getfield 71, 3) := by decide +kernel
theorem d_De_isToldInSize_4 : decode b_De_isToldInSize 4 = .ok (.ifCond .eq 11, 3) := by decide +kernel
theorem d_De_isToldInSize_15 : decode b_De_isToldInSize 15 = .ok (.aload_n 0, 1) := by decide +kernel
theorem d_De_isToldInSize_16 : decode b_De_isToldInSize 16 = .ok (.getfield 23, 3) := by decide +kernel
theorem d_De_isToldInSize_19 : decode b_De_isToldInSize 19 = .ok (.bipush (-8), 2) := by decide +kernel
theorem d_De_isToldInSize_21 : decode b_De_isToldInSize 21 = .ok (.iand, 1) := by decide +kernel
theorem d_De_isToldInSize_22 : decode b_De_isToldInSize 22 = .ok (.sipush 456, 3) := by decide +kernel
theorem d_De_isToldInSize_25 : decode b_De_isToldInSize 25 = .ok (.if_icmp .ne 7, 3) := by decide +kernel
theorem d_De_isToldInSize_32 : decode b_De_isToldInSize 32 = .ok (.iconst 0, 1) := by decide +kernel
theorem d_De_isToldInSize_33 : decode b_De_isToldInSize 33 = .ok (.istore_n 2, 1) := by decide +kernel
theorem d_De_isToldInSize_34 : decode b_De_isToldInSize 34 = .ok (.iload_n 2, 1) := by decide +kernel
theorem d_De_isToldInSize_35 : decode b_De_isToldInSize 35 = .ok (.ifCond .eq 11, 3) := by decide +kernel
theorem d_De_isToldInSize_46 : decode b_De_isToldInSize 46 = .ok (.iconst 1, 1) := by decide +kernel
theorem d_De_isToldInSize_47 : decode b_De_isToldInSize 47 = .ok (.goto 4, 3) := by decide +kernel
theorem d_De_isToldInSize_51 : decode b_De_isToldInSize 51 = .ok (.ireturn, 1) := by decide +kernel
theorem d_De_isToldInSize_38 : decode b_De_isToldInSize 38 = .ok (.aload_n 0, 1) := by decide +kernel
theorem d_De_sizeV_0 : decode b_De_sizeV 0 = .ok (.aload_n 0, 1) := by decide +kernel
theorem d_De_sizeV_1 : decode b_De_sizeV 1 = .ok (.getfield 78, 3) := by decide +kernel
theorem d_De_sizeV_4 : decode b_De_sizeV 4 = .ok (.bipush 8, 2) := by decide +kernel
theorem d_De_sizeV_6 : decode b_De_sizeV 6 = .ok (.iand, 1) := by decide +kernel
theorem d_De_sizeV_7 : decode b_De_sizeV 7 = .ok (.ifCond .eq 8, 3) := by decide +kernel
theorem d_De_sizeV_15 : decode b_De_sizeV 15 = .ok (.aload_n 0, 1) := by decide +kernel
theorem d_De_sizeV_16 : decode b_De_sizeV 16 = .ok (.getfield 71, 3) := by decide +kernel
theorem d_De_sizeV_19 : decode b_De_sizeV 19 = .ok (.ifCond .eq 7, 3) := by decide +kernel
theorem d_De_sizeV_26 : decode b_De_sizeV 26 = .ok (.iconst 4, 1) := by decide +kernel
theorem d_De_sizeV_27 : decode b_De_sizeV 27 = .ok (.ireturn, 1) := by decide +kernel
theorem d_De_sizeV_22 : decode b_De_sizeV 22 = .ok (.iconst 2, 1) := by decide +kernel
theorem d_De_sizeV_23 : decode b_De_sizeV 23 = .ok (.goto 4, 3) := by decide +kernel
theorem d_De_sizeV_10 : decode b_De_sizeV 10 = .ok (.bipush 8, 2) := by decide +kernel
theorem d_De_sizeV_12 : decode b_De_sizeV 12 = .ok (.goto 15, 3) := by decide +kernel
theorem d_De_isToldInSize_39 : decode b_De_isToldInSize 39 = .ok (.invokevirtual 100, 3) := by decide +kernel
theorem d_De_isToldInSize_42 : decode b_De_isToldInSize 42 = .ok (.iconst 2, 1) := by decide +kernel
theorem d_De_isToldInSize_43 : decode b_De_isToldInSize 43 = .ok (.if_icmp .eq 7, 3) := by decide +kernel
theorem d_De_isToldInSize_50 : decode b_De_isToldInSize 50 = .ok (.iconst 0, 1) := by decide +kernel
theorem d_De_isToldInSize_28 : decode b_De_isToldInSize 28 = .ok (.iconst 1, 1) := by decide +kernel
theorem d_De_isToldInSize_29 : decode b_De_isToldInSize 29 = .ok (.goto 4, 3) := by decide +kernel
theorem d_De_isToldInSize_7 : decode b_De_isToldInSize 7 = .ok (.iload_n 1, 1) := by decide +kernel
theorem d_De_isToldInSize_8 : decode b_De_isToldInSize 8 = .ok (.iconst 4, 1) := by decide +kernel
theorem d_De_isToldInSize_9 : decode b_De_isToldInSize 9 = .ok (.iand, 1) := by decide +kernel
theorem d_De_isToldInSize_10 : decode b_De_isToldInSize 10 = .ok (.ifCond .eq 5, 3) := by decide +kernel
theorem d_De_isToldInSize_13 : decode b_De_isToldInSize 13 = .ok (.iconst 0, 1) := by decide +kernel
theorem d_De_isToldInSize_14 : decode b_De_isToldInSize 14 = .ok (.ireturn, 1) := by decide +kernel
theorem d_De_decode_50 : decode b_De_decode 50 = .ok (.invokevirtual 34, 3) := by decide +kernel
theorem d_De_decode_53 : decode b_De_decode 53 = .ok (.ifCond .ne 6, 3) := by decide +kernel
theorem d_De_decode_59 : decode b_De_decode 59 = .ok (.aload_n 0, 1) := by decide +kernel
theorem d_De_decode_60 : decode b_De_decode 60 = .ok (.iconst 3, 1) := by decide +kernel
theorem d_De_decode_61 : decode b_De_decode 61 = .ok (.putfield 38, 3) := by decide +kernel
theorem d_De_decode_64 : decode b_De_decode 64 = .ok (.iload_n 2, 1) := by decide +kernel
theorem d_De_decode_65 : decode b_De_decode 65 = .ok (.iconst 2, 1) := by decide +kernel
theorem d_De_decode_66 : decode b_De_decode 66 = .ok (.iand, 1) := by decide +kernel
theorem d_De_decode_67 : decode b_De_decode 67 = .ok (.ifCond .eq 8, 3) := by decide +kernel
theorem d_De_decode_75 : decode b_De_decode 75 = .ok (.iload_n 1, 1) := by decide +kernel
theorem d_De_decode_76 : decode b_De_decode 76 = .ok (.iconst (-1), 1) := by decide +kernel
theorem d_De_decode_77 : decode b_De_decode 77 = .ok (.if_icmp .ne 16, 3) := by decide +kernel
theorem d_De_decode_93 : decode b_De_decode 93 = .ok (.iload_n 1, 1) := by decide +kernel
theorem d_De_decode_94 : decode b_De_decode 94 = .ok (.iconst (-1), 1) := by decide +kernel
theorem d_De_decode_95 : decode b_De_decode 95 = .ok (.if_icmp .eq 5, 3) := by decide +kernel
theorem d_De_decode_100 : decode b_De_decode 100 = .ok (.aload_n 0, 1) := by decide +kernel
theorem d_De_decode_101 : decode b_De_decode 101 = .ok (.aload_n 0, 1) := by decide +kernel
theorem d_De_decode_102 : decode b_De_decode 102 = .ok (.iload_n 2, 1) := by decide +kernel
theorem d_De_bytesOfNumber_0 : decode b_De_bytesOfNumber 0 = .ok (.iload_n 1, 1) := by decide +kernel
theorem d_De_bytesOfNumber_1 : decode b_De_bytesOfNumber 1 = .ok (.bipush 8, 2) := by decide +kernel
theorem d_De_bytesOfNumber_3 : decode b_De_bytesOfNumber 3 = .ok (.iand, 1) := by decide +kernel
theorem d_De_bytesOfNumber_4 : decode b_De_bytesOfNumber 4 = .ok (.ifCond .eq 5, 3) := by decide +kernel
theorem d_De_bytesOfNumber_9 : decode b_De_bytesOfNumber 9 = .ok (.iload_n 1, 1) := by decide +kernel
theorem d_De_bytesOfNumber_10 : decode b_De_bytesOfNumber 10 = .ok (.bipush 16, 2) := by decide +kernel
theorem d_De_bytesOfNumber_12 : decode b_De_bytesOfNumber 12 = .ok (.iand, 1) := by decide +kernel
theorem d_De_bytesOfNumber_13 : decode b_De_bytesOfNumber 13 = .ok (.ifCond .eq 5, 3) := by decide +kernel
theorem d_De_bytesOfNumber_18 : decode b_De_bytesOfNumber 18 = .ok (.iload_n 1, 1) := by decide +kernel
theorem d_De_bytesOfNumber_19 : decode b_De_bytesOfNumber 19 = .ok (.bipush 32, 2) := by decide +kernel
theorem d_De_bytesOfNumber_21 : decode b_De_bytesOfNumber 21 = .ok (.iand, 1) := by decide +kernel
theorem d_De_bytesOfNumber_22 : decode b_De_bytesOfNumber 22 = .ok (.ifCond .eq 5, 3) := by decide +kernel
theorem d_De_bytesOfNumber_27 : decode b_De_bytesOfNumber 27 = .ok (.iload_n 1, 1) := by decide +kernel
theorem d_De_bytesOfNumber_28 : decode b_De_bytesOfNumber 28 = .ok (.bipush 64, 2) := by decide +kernel
theorem d_De_bytesOfNumber_30 : decode b_De_bytesOfNumber 30 = .ok (.iand, 1) := by decide +kernel
theorem d_De_bytesOfNumber_31 : decode b_De_bytesOfNumber 31 = .ok (.ifCond .eq 8, 3) := by decide +kernel
theorem d_De_bytesOfNumber_39 : decode b_De_bytesOfNumber 39 = .ok (.aload_n 0, 1) := by decide +kernel
theorem d_De_bytesOfNumber_40 : decode b_De_bytesOfNumber 40 = .ok (.getfield 23, 3) := by decide +kernel
theorem d_De_bytesOfNumber_43 : decode b_De_bytesOfNumber 43 = .ok (.sipush 246, 3) := by decide +kernel
theorem d_De_bytesOfNumber_46 : decode b_De_bytesOfNumber 46 = .ok (.if_icmp .eq 13, 3) := by decide +kernel
theorem d_De_bytesOfNumber_59 : decode b_De_bytesOfNumber 59 = .ok (.aload_n 0, 1) := by decide +kernel
theorem d_De_bytesOfNumber_60 : decode b_De_bytesOfNumber 60 = .ok (.getfield 103, 3) := by decide +kernel
theorem d_De_bytesOfNumber_63 : decode b_De_bytesOfNumber 63 = .ok (.ifCond .ne 7, 3) := by decide +kernel
theorem d_De_bytesOfNumber_70 : decode b_De_bytesOfNumber 70 = .ok (.iconst 0, 1) := by decide +kernel
theorem d_De_bytesOfNumber_71 : decode b_De_bytesOfNumber 71 = .ok (.istore_n 2, 1) := by decide +kernel
theorem d_De_bytesOfNumber_72 : decode b_De_bytesOfNumber 72 = .ok (.iload_n 1, 1) := by decide +kernel
theorem d_De_bytesOfNumber_73 : decode b_De_bytesOfNumber 73 = .ok (.sipush 128, 3) := by decide +kernel
theorem d_De_bytesOfNumber_76 : decode b_De_bytesOfNumber 76 = .ok (.iand, 1) := by decide +kernel
theorem d_De_bytesOfNumber_77 : decode b_De_bytesOfNumber 77 = .ok (.ifCond .ne 17, 3) := by decide +kernel
theorem d_De_bytesOfNumber_94 : decode b_De_bytesOfNumber 94 = .ok (.aload_n 0, 1) := by decide +kernel
theorem d_De_bytesOfNumber_95 : decode b_De_bytesOfNumber 95 = .ok (.invokevirtual 100, 3) := by decide +kernel
theorem d_De_bytesOfNumber_98 : decode b_De_bytesOfNumber 98 = .ok (.iconst 4, 1) := by decide +kernel
theorem d_Ma_min_0 : decode b_Ma_min 0 = .ok (.iload_n 0, 1) := by decide +kernel
theorem d_Ma_min_1 : decode b_Ma_min 1 = .ok (.iload_n 1, 1) := by decide +kernel
theorem d_Ma_min_2 : decode b_Ma_min 2 = .ok (.if_icmp .gt 7, 3) := by decide +kernel
theorem d_Ma_min_9 : decode b_Ma_min 9 = .ok (.iload_n 1, 1) := by decide +kernel
theorem d_Ma_min_10 : decode b_Ma_min 10 = .ok (.ireturn, 1) := by decide +kernel
theorem d_Ma_min_5 : decode b_Ma_min 5 = .ok (.iload_n 0, 1) := by decide +kernel
theorem d_Ma_min_6 : decode b_Ma_min 6 = .ok (.goto 4, 3) := by decide +kernel
theorem d_De_bytesOfNumber_99 : decode b_De_bytesOfNumber 99 = .ok (.invokestatic 128, 3) := by decide +kernel
theorem d_De_bytesOfNumber_102 : decode b_De_bytesOfNumber 102 = .ok (.ireturn, 1) := by decide +kernel
theorem d_De_bytesOfNumber_80 : decode b_De_bytesOfNumber 80 = .ok (.iload_n 2, 1) := by decide +kernel
theorem d_De_bytesOfNumber_81 : decode b_De_bytesOfNumber 81 = .ok (.ifCond .eq 22, 3) := by decide +kernel
theorem d_De_bytesOfNumber_103 : decode b_De_bytesOfNumber 103 = .ok (.iload_n 2, 1) := by decide +kernel
theorem d_De_bytesOfNumber_104 : decode b_De_bytesOfNumber 104 = .ok (.ifCond .eq 7, 3) := by decide +kernel
theorem d_De_bytesOfNumber_111 : decode b_De_bytesOfNumber 111 = .ok (.iconst 0, 1) := by decide +kernel
theorem d_De_bytesOfNumber_112 : decode b_De_bytesOfNumber 112 = .ok (.ireturn, 1) := by decide +kernel
theorem d_De_bytesOfNumber_107 : decode b_De_bytesOfNumber 107 = .ok (.iconst 1, 1) := by decide +kernel
theorem d_De_bytesOfNumber_108 : decode b_De_bytesOfNumber 108 = .ok (.goto 4, 3) := by decide +kernel
theorem d_De_bytesOfNumber_84 : decode b_De_bytesOfNumber 84 = .ok (.aload_n 0, 1) := by decide +kernel
theorem d_De_bytesOfNumber_85 : decode b_De_bytesOfNumber 85 = .ok (.getfield 23, 3) := by decide +kernel
theorem d_De_bytesOfNumber_88 : decode b_De_bytesOfNumber 88 = .ok (.sipush 247, 3) := by decide +kernel
theorem d_De_bytesOfNumber_91 : decode b_De_bytesOfNumber 91 = .ok (.if_icmp .ne 12, 3) := by decide +kernel
theorem d_De_bytesOfNumber_66 : decode b_De_bytesOfNumber 66 = .ok (.iconst 1, 1) := by decide +kernel
theorem d_De_bytesOfNumber_67 : decode b_De_bytesOfNumber 67 = .ok (.goto 4, 3) := by decide +kernel
theorem d_De_bytesOfNumber_49 : decode b_De_bytesOfNumber 49 = .ok (.aload_n 0, 1) := by decide +kernel
theorem d_De_bytesOfNumber_50 : decode b_De_bytesOfNumber 50 = .ok (.getfield 23, 3) := by decide +kernel
theorem d_De_bytesOfNumber_53 : decode b_De_bytesOfNumber 53 = .ok (.sipush 247, 3) := by decide +kernel
theorem d_De_bytesOfNumber_56 : decode b_De_bytesOfNumber 56 = .ok (.if_icmp .ne 14, 3) := by decide +kernel
theorem d_De_bytesOfNumber_34 : decode b_De_bytesOfNumber 34 = .ok (.aload_n 0, 1) := by decide +kernel
theorem d_De_bytesOfNumber_35 : decode b_De_bytesOfNumber 35 = .ok (.invokevirtual 100, 3) := by decide +kernel
theorem d_De_bytesOfNumber_38 : decode b_De_bytesOfNumber 38 = .ok (.ireturn, 1) := by decide +kernel
theorem d_De_bytesOfNumber_25 : decode b_De_bytesOfNumber 25 = .ok (.iconst 4, 1) := by decide +kernel
theorem d_De_bytesOfNumber_26 : decode b_De_bytesOfNumber 26 = .ok (.ireturn, 1) := by decide +kernel
theorem d_De_bytesOfNumber_16 : decode b_De_bytesOfNumber 16 = .ok (.iconst 2, 1) := by decide +kernel
theorem d_De_bytesOfNumber_17 : decode b_De_bytesOfNumber 17 = .ok (.ireturn, 1) := by decide +kernel
theorem d_De_bytesOfNumber_7 : decode b_De_bytesOfNumber 7 = .ok (.iconst 1, 1) := by decide +kernel
theorem d_De_bytesOfNumber_8 : decode b_De_bytesOfNumber 8 = .ok (.ireturn, 1) := by decide +kernel
theorem d_De_decode_103 : decode b_De_decode 103 = .ok (.invokevirtual 47, 3) := by decide +kernel
theorem d_De_fetchNumber_0 : decode b_De_fetchNumber 0 = .ok (.aload_n 0, 1) := by decide +kernel
theorem d_De_fetchNumber_1 : decode b_De_fetchNumber 1 = .ok (.lconst 0, 1) := by decide +kernel
theorem d_De_fetchNumber_2 : decode b_De_fetchNumber 2 = .ok (.putfield 53, 3) := by decide +kernel
theorem d_De_fetchNumber_5 : decode b_De_fetchNumber 5 = .ok (.iconst 0, 1) := by decide +kernel
theorem d_De_fetchNumber_6 : decode b_De_fetchNumber 6 = .ok (.istore_n 2, 1) := by decide +kernel
theorem d_De_fetchNumber_7 : decode b_De_fetchNumber 7 = .ok (.iload_n 2, 1) := by decide +kernel
theorem d_De_fetchNumber_8 : decode b_De_fetchNumber 8 = .ok (.iload_n 1, 1) := by decide +kernel
theorem d_De_fetchNumber_9 : decode b_De_fetchNumber 9 = .ok (.if_icmp .ge 40, 3) := by decide +kernel
theorem d_De_fetchNumber_49 : decode b_De_fetchNumber 49 = .ok (.iload_n 1, 1) := by decide +kernel
theorem d_De_fetchNumber_50 : decode b_De_fetchNumber 50 = .ok (.ifCond .le 15, 3) := by decide +kernel
theorem d_De_fetchNumber_65 : decode b_De_fetchNumber 65 = .ok (.iconst (-1), 1) := by decide +kernel
theorem d_De_fetchNumber_66 : decode b_De_fetchNumber 66 = .ok (.ireturn, 1) := by decide +kernel
theorem d_De_fetchNumber_53 : decode b_De_fetchNumber 53 = .ok (.aload_n 0, 1) := by decide +kernel
theorem d_De_fetchNumber_54 : decode b_De_fetchNumber 54 = .ok (.aload_n 0, 1) := by decide +kernel
theorem d_De_fetchNumber_55 : decode b_De_fetchNumber 55 = .ok (.getfield 53, 3) := by decide +kernel
theorem d_De_fetchNumber_58 : decode b_De_fetchNumber 58 = .ok (.iload_n 1, 1) := by decide +kernel
theorem d_Ar_signed_0 : decode b_Ar_signed 0 = .ok (.bipush 64, 2) := by decide +kernel
theorem d_Ar_signed_2 : decode b_Ar_signed 2 = .ok (.bipush 8, 2) := by decide +kernel
theorem d_Ar_signed_4 : decode b_Ar_signed 4 = .ok (.iload_n 2, 1) := by decide +kernel
theorem d_Ar_signed_5 : decode b_Ar_signed 5 = .ok (.imul, 1) := by decide +kernel
theorem d_Ar_signed_6 : decode b_Ar_signed 6 = .ok (.isub, 1) := by decide +kernel
theorem d_Ar_signed_7 : decode b_Ar_signed 7 = .ok (.istore_n 3, 1) := by decide +kernel
theorem d_Ar_signed_8 : decode b_Ar_signed 8 = .ok (.lload_n 0, 1) := by decide +kernel
theorem d_Ar_signed_9 : decode b_Ar_signed 9 = .ok (.iload_n 3, 1) := by decide +kernel
theorem d_Ar_signed_10 : decode b_Ar_signed 10 = .ok (.lshl, 1) := by decide +kernel
theorem d_Ar_signed_11 : decode b_Ar_signed 11 = .ok (.iload_n 3, 1) := by decide +kernel
theorem d_Ar_signed_12 : decode b_Ar_signed 12 = .ok (.lshr, 1) := by decide +kernel
theorem d_Ar_signed_13 : decode b_Ar_signed 13 = .ok (.lreturn, 1) := by decide +kernel
theorem d_De_fetchNumber_59 : decode b_De_fetchNumber 59 = .ok (.invokestatic 134, 3) := by decide +kernel
theorem d_De_fetchNumber_62 : decode b_De_fetchNumber 62 = .ok (.putfield 53, 3) := by decide +kernel
theorem d_De_fetchNumber_12 : decode b_De_fetchNumber 12 = .ok (.aload_n 0, 1) := by decide +kernel
theorem d_De_fetchNumber_13 : decode b_De_fetchNumber 13 = .ok (.invokevirtual 81, 3) := by decide +kernel
theorem d_De_fetchNumber_16 : decode b_De_fetchNumber 16 = .ok (.istore_n 3, 1) := by decide +kernel
theorem d_De_fetchNumber_17 : decode b_De_fetchNumber 17 = .ok (.iload_n 3, 1) := by decide +kernel
theorem d_De_fetchNumber_18 : decode b_De_fetchNumber 18 = .ok (.iconst (-1), 1) := by decide +kernel
theorem d_De_fetchNumber_19 : decode b_De_fetchNumber 19 = .ok (.if_icmp .eq 5, 3) := by decide +kernel
theorem d_De_fetchNumber_24 : decode b_De_fetchNumber 24 = .ok (.aload_n 0, 1) := by decide +kernel
theorem d_De_fetchNumber_25 : decode b_De_fetchNumber 25 = .ok (.dup, 1) := by decide +kernel
theorem d_De_fetchNumber_26 : decode b_De_fetchNumber 26 = .ok (.getfield 53, 3) := by decide +kernel
theorem d_De_fetchNumber_29 : decode b_De_fetchNumber 29 = .ok (.aload_n 0, 1) := by decide +kernel
theorem d_De_fetchNumber_30 : decode b_De_fetchNumber 30 = .ok (.getfield 84, 3) := by decide +kernel
theorem d_De_fetchNumber_33 : decode b_De_fetchNumber 33 = .ok (.i2l, 1) := by decide +kernel
theorem d_De_fetchNumber_34 : decode b_De_fetchNumber 34 = .ok (.bipush 8, 2) := by decide +kernel
theorem d_De_fetchNumber_36 : decode b_De_fetchNumber 36 = .ok (.iload_n 2, 1) := by decide +kernel
theorem d_De_fetchNumber_37 : decode b_De_fetchNumber 37 = .ok (.imul, 1) := by decide +kernel
theorem d_De_fetchNumber_38 : decode b_De_fetchNumber 38 = .ok (.lshl, 1) := by decide +kernel
theorem d_De_fetchNumber_39 : decode b_De_fetchNumber 39 = .ok (.lor, 1) := by decide +kernel
theorem d_De_fetchNumber_40 : decode b_De_fetchNumber 40 = .ok (.putfield 53, 3) := by decide +kernel
theorem d_De_fetchNumber_43 : decode b_De_fetchNumber 43 = .ok (.iinc 2 1, 3) := by decide +kernel
theorem d_De_fetchNumber_46 : decode b_De_fetchNumber 46 = .ok (.goto (-39), 3) := by decide +kernel
theorem d_De_fetchNumber_22 : decode b_De_fetchNumber 22 = .ok (.iload_n 3, 1) := by decide +kernel
theorem d_De_fetchNumber_23 : decode b_De_fetchNumber 23 = .ok (.ireturn, 1) := by decide +kernel
theorem d_De_decode_106 : decode b_De_decode 106 = .ok (.invokevirtual 50, 3) := by decide +kernel
theorem d_De_decode_109 : decode b_De_decode 109 = .ok (.istore_n 1, 1) := by decide +kernel
theorem d_De_decode_110 : decode b_De_decode 110 = .ok (.aload_n 0, 1) := by decide +kernel
theorem d_De_decode_111 : decode b_De_decode 111 = .ok (.aload_n 0, 1) := by decide +kernel
theorem d_De_decode_112 : decode b_De_decode 112 = .ok (.getfield 53, 3) := by decide +kernel
theorem d_De_decode_115 : decode b_De_decode 115 = .ok (.putfield 57, 3) := by decide +kernel
theorem d_De_decode_118 : decode b_De_decode 118 = .ok (.aload_n 0, 1) := by decide +kernel
theorem d_De_decode_119 : decode b_De_decode 119 = .ok (.aload_n 0, 1) := by decide +kernel
theorem d_De_decode_120 : decode b_De_decode 120 = .ok (.getfield 9, 3) := by decide +kernel
theorem d_De_decode_123 : decode b_De_decode 123 = .ok (.getfield 60, 3) := by decide +kernel
theorem d_De_decode_126 : decode b_De_decode 126 = .ok (.aload_n 0, 1) := by decide +kernel
theorem d_De_decode_127 : decode b_De_decode 127 = .ok (.getfield 65, 3) := by decide +kernel
theorem d_De_decode_130 : decode b_De_decode 130 = .ok (.i2l, 1) := by decide +kernel
theorem d_De_decode_131 : decode b_De_decode 131 = .ok (.ladd, 1) := by decide +kernel
theorem d_De_decode_132 : decode b_De_decode 132 = .ok (.putfield 68, 3) := by decide +kernel
theorem d_De_decode_135 : decode b_De_decode 135 = .ok (.iload_n 1, 1) := by decide +kernel
theorem d_De_decode_136 : decode b_De_decode 136 = .ok (.ireturn, 1) := by decide +kernel
theorem d_De_decode_98 : decode b_De_decode 98 = .ok (.iload_n 1, 1) := by decide +kernel
theorem d_De_decode_99 : decode b_De_decode 99 = .ok (.ireturn, 1) := by decide +kernel
theorem d_De_decode_80 : decode b_De_decode 80 = .ok (.aload_n 0, 1) := by decide +kernel
theorem d_De_decode_81 : decode b_De_decode 81 = .ok (.getfield 38, 3) := by decide +kernel
theorem d_De_decode_84 : decode b_De_decode 84 = .ok (.iconst 3, 1) := by decide +kernel
theorem d_De_decode_85 : decode b_De_decode 85 = .ok (.if_icmp .eq 8, 3) := by decide +kernel
theorem d_De_decode_88 : decode b_De_decode 88 = .ok (.aload_n 0, 1) := by decide +kernel
theorem d_De_fetchPlace_0 : decode b_De_fetchPlace 0 = .ok (.aload_n 0, 1) := by decide +kernel
theorem d_De_fetchPlace_1 : decode b_De_fetchPlace 1 = .ok (.aload_n 0, 1) := by decide +kernel
theorem d_De_fetchPlace_2 : decode b_De_fetchPlace 2 = .ok (.getfield 106, 3) := by decide +kernel
