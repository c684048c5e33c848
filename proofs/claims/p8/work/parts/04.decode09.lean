theorem d_Mo_more_213 : decode b_Mo_more 213 = .ok (.iconst 2, 1) := by decide +kernel
theorem d_Mo_more_214 : decode b_Mo_more 214 = .ok (.if_icmp .ne 10, 3) := by decide +kernel
theorem d_Mo_more_224 : decode b_Mo_more 224 = .ok (.return_, 1) := by decide +kernel
theorem d_Mo_more_217 : decode b_Mo_more 217 = .ok (.aload_n 0, 1) := by decide +kernel
theorem d_Mo_more_218 : decode b_Mo_more 218 = .ok (.lload_n 3, 1) := by decide +kernel
theorem d_Mo_more_219 : decode b_Mo_more 219 = .ok (.bipush 8, 2) := by decide +kernel
theorem d_Mo_push_0 : decode b_Mo_push 0 = .ok (.aload_n 0, 1) := by decide +kernel
theorem d_Mo_push_1 : decode b_Mo_push 1 = .ok (.aload_n 0, 1) := by decide +kernel
theorem d_Mo_push_2 : decode b_Mo_push 2 = .ok (.getfield 14, 3) := by decide +kernel
theorem d_Mo_push_5 : decode b_Mo_push 5 = .ok (.iconst 4, 1) := by decide +kernel
theorem d_Mo_push_6 : decode b_Mo_push 6 = .ok (.laload, 1) := by decide +kernel
theorem d_Mo_push_7 : decode b_Mo_push 7 = .ok (.iload_n 3, 1) := by decide +kernel
theorem d_Mo_push_8 : decode b_Mo_push 8 = .ok (.i2l, 1) := by decide +kernel
theorem d_Mo_push_9 : decode b_Mo_push 9 = .ok (.lsub, 1) := by decide +kernel
theorem d_Mo_push_10 : decode b_Mo_push 10 = .ok (.iload_n 3, 1) := by decide +kernel
theorem d_Mo_push_11 : decode b_Mo_push 11 = .ok (.iconst 1, 1) := by decide +kernel
theorem d_Mo_push_12 : decode b_Mo_push 12 = .ok (.iconst 1, 1) := by decide +kernel
theorem d_Mo_push_13 : decode b_Mo_push 13 = .ok (.invokevirtual 95, 3) := by decide +kernel
theorem d_Mo_push_16 : decode b_Mo_push 16 = .ok (.aload_n 0, 1) := by decide +kernel
theorem d_Mo_push_17 : decode b_Mo_push 17 = .ok (.getfield 28, 3) := by decide +kernel
theorem d_Mo_push_20 : decode b_Mo_push 20 = .ok (.iconst (-1), 1) := by decide +kernel
theorem d_Mo_push_21 : decode b_Mo_push 21 = .ok (.if_icmp .eq 4, 3) := by decide +kernel
theorem d_Mo_push_25 : decode b_Mo_push 25 = .ok (.aload_n 0, 1) := by decide +kernel
theorem d_Mo_push_26 : decode b_Mo_push 26 = .ok (.getfield 14, 3) := by decide +kernel
theorem d_Mo_push_29 : decode b_Mo_push 29 = .ok (.iconst 4, 1) := by decide +kernel
theorem d_Mo_push_30 : decode b_Mo_push 30 = .ok (.dup2, 1) := by decide +kernel
theorem d_Mo_push_31 : decode b_Mo_push 31 = .ok (.laload, 1) := by decide +kernel
theorem d_Mo_push_32 : decode b_Mo_push 32 = .ok (.iload_n 3, 1) := by decide +kernel
theorem d_Mo_push_33 : decode b_Mo_push 33 = .ok (.i2l, 1) := by decide +kernel
theorem d_Mo_push_34 : decode b_Mo_push 34 = .ok (.lsub, 1) := by decide +kernel
theorem d_Mo_push_35 : decode b_Mo_push 35 = .ok (.lastore, 1) := by decide +kernel
theorem d_Mo_push_36 : decode b_Mo_push 36 = .ok (.aload_n 0, 1) := by decide +kernel
theorem d_Mo_push_37 : decode b_Mo_push 37 = .ok (.lload_n 1, 1) := by decide +kernel
theorem d_Mo_push_38 : decode b_Mo_push 38 = .ok (.iload_n 3, 1) := by decide +kernel
theorem d_Mo_push_39 : decode b_Mo_push 39 = .ok (.invokevirtual 201, 3) := by decide +kernel
theorem d_Mo_push_42 : decode b_Mo_push 42 = .ok (.return_, 1) := by decide +kernel
theorem d_Mo_push_24 : decode b_Mo_push 24 = .ok (.return_, 1) := by decide +kernel
theorem d_Mo_more_221 : decode b_Mo_more 221 = .ok (.invokevirtual 310, 3) := by decide +kernel
theorem d_Mo_more_203 : decode b_Mo_more 203 = .ok (.aload_n 0, 1) := by decide +kernel
theorem d_Mo_more_204 : decode b_Mo_more 204 = .ok (.lload 5, 2) := by decide +kernel
theorem d_Mo_jump_0 : decode b_Mo_jump 0 = .ok (.lload_n 1, 1) := by decide +kernel
theorem d_Mo_jump_1 : decode b_Mo_jump 1 = .ok (.invokestatic 77, 3) := by decide +kernel
theorem d_Mo_jump_4 : decode b_Mo_jump 4 = .ok (.ifCond .eq 12, 3) := by decide +kernel
theorem d_Mo_jump_16 : decode b_Mo_jump 16 = .ok (.aload_n 0, 1) := by decide +kernel
theorem d_Mo_jump_17 : decode b_Mo_jump 17 = .ok (.lload_n 1, 1) := by decide +kernel
theorem d_Mo_jump_18 : decode b_Mo_jump 18 = .ok (.putfield 173, 3) := by decide +kernel
theorem d_Mo_jump_21 : decode b_Mo_jump 21 = .ok (.return_, 1) := by decide +kernel
theorem d_Mo_jump_7 : decode b_Mo_jump 7 = .ok (.aload_n 0, 1) := by decide +kernel
theorem d_Mo_jump_8 : decode b_Mo_jump 8 = .ok (.bipush 13, 2) := by decide +kernel
theorem d_Mo_jump_10 : decode b_Mo_jump 10 = .ok (.invokevirtual 81, 3) := by decide +kernel
theorem d_Mo_jump_13 : decode b_Mo_jump 13 = .ok (.goto 8, 3) := by decide +kernel
theorem d_Mo_more_206 : decode b_Mo_more 206 = .ok (.invokevirtual 431, 3) := by decide +kernel
theorem d_Mo_more_161 : decode b_Mo_more 161 = .ok (.aload_n 0, 1) := by decide +kernel
theorem d_Mo_more_162 : decode b_Mo_more 162 = .ok (.aload_n 0, 1) := by decide +kernel
theorem d_Mo_more_163 : decode b_Mo_more 163 = .ok (.aload_n 0, 1) := by decide +kernel
theorem d_Mo_stackSize_0 : decode b_Mo_stackSize 0 = .ok (.aload_n 0, 1) := by decide +kernel
theorem d_Mo_stackSize_1 : decode b_Mo_stackSize 1 = .ok (.getfield 127, 3) := by decide +kernel
theorem d_Mo_stackSize_4 : decode b_Mo_stackSize 4 = .ok (.ifCond .eq 17, 3) := by decide +kernel
theorem d_Mo_stackSize_21 : decode b_Mo_stackSize 21 = .ok (.bipush 8, 2) := by decide +kernel
theorem d_Mo_stackSize_23 : decode b_Mo_stackSize 23 = .ok (.ireturn, 1) := by decide +kernel
theorem d_Mo_stackSize_7 : decode b_Mo_stackSize 7 = .ok (.aload_n 0, 1) := by decide +kernel
theorem d_Mo_stackSize_8 : decode b_Mo_stackSize 8 = .ok (.getfield 121, 3) := by decide +kernel
theorem d_Mo_stackSize_11 : decode b_Mo_stackSize 11 = .ok (.bipush 8, 2) := by decide +kernel
theorem d_Mo_stackSize_13 : decode b_Mo_stackSize 13 = .ok (.iand, 1) := by decide +kernel
theorem d_Mo_stackSize_14 : decode b_Mo_stackSize 14 = .ok (.ifCond .ne 7, 3) := by decide +kernel
theorem d_Mo_stackSize_17 : decode b_Mo_stackSize 17 = .ok (.iconst 2, 1) := by decide +kernel
theorem d_Mo_stackSize_18 : decode b_Mo_stackSize 18 = .ok (.goto 5, 3) := by decide +kernel
theorem d_Mo_more_164 : decode b_Mo_more 164 = .ok (.invokevirtual 307, 3) := by decide +kernel
theorem d_Mo_more_167 : decode b_Mo_more 167 = .ok (.iconst 0, 1) := by decide +kernel
theorem d_Mo_more_168 : decode b_Mo_more 168 = .ok (.invokevirtual 338, 3) := by decide +kernel
theorem d_Mo_more_171 : decode b_Mo_more 171 = .ok (.aload_n 0, 1) := by decide +kernel
theorem d_Mo_more_172 : decode b_Mo_more 172 = .ok (.invokevirtual 307, 3) := by decide +kernel
theorem d_Mo_more_175 : decode b_Mo_more 175 = .ok (.invokevirtual 310, 3) := by decide +kernel
theorem d_Mo_more_178 : decode b_Mo_more 178 = .ok (.goto 46, 3) := by decide +kernel
theorem d_Mo_more_100 : decode b_Mo_more 100 = .ok (.aload_n 0, 1) := by decide +kernel
theorem d_Mo_more_101 : decode b_Mo_more 101 = .ok (.getfield 21, 3) := by decide +kernel
theorem d_Mo_more_104 : decode b_Mo_more 104 = .ok (.iconst 0, 1) := by decide +kernel
theorem d_Mo_more_105 : decode b_Mo_more 105 = .ok (.baload, 1) := by decide +kernel
theorem d_Mo_more_106 : decode b_Mo_more 106 = .ok (.istore_n 3, 1) := by decide +kernel
theorem d_Mo_more_107 : decode b_Mo_more 107 = .ok (.aload_n 0, 1) := by decide +kernel
theorem d_Mo_more_108 : decode b_Mo_more 108 = .ok (.aload_n 0, 1) := by decide +kernel
theorem d_Mo_more_109 : decode b_Mo_more 109 = .ok (.iload_n 1, 1) := by decide +kernel
theorem d_Mo_more_110 : decode b_Mo_more 110 = .ok (.iconst 1, 1) := by decide +kernel
theorem d_Mo_more_111 : decode b_Mo_more 111 = .ok (.invokevirtual 338, 3) := by decide +kernel
theorem d_Mo_more_114 : decode b_Mo_more 114 = .ok (.lconst 1, 1) := by decide +kernel
theorem d_Mo_more_115 : decode b_Mo_more 115 = .ok (.iconst 0, 1) := by decide +kernel
theorem d_Mo_more_116 : decode b_Mo_more 116 = .ok (.aload_n 0, 1) := by decide +kernel
theorem d_Mo_more_117 : decode b_Mo_more 117 = .ok (.getfield 139, 3) := by decide +kernel
theorem d_Mo_more_120 : decode b_Mo_more 120 = .ok (.iconst 1, 1) := by decide +kernel
theorem d_Mo_more_121 : decode b_Mo_more 121 = .ok (.if_icmp .ne 7, 3) := by decide +kernel
theorem d_Mo_more_128 : decode b_Mo_more 128 = .ok (.iconst 0, 1) := by decide +kernel
theorem d_Mo_more_129 : decode b_Mo_more 129 = .ok (.iload_n 1, 1) := by decide +kernel
theorem d_Mo_more_130 : decode b_Mo_more 130 = .ok (.invokevirtual 225, 3) := by decide +kernel
theorem d_Mo_more_133 : decode b_Mo_more 133 = .ok (.lstore 4, 2) := by decide +kernel
theorem d_Mo_more_135 : decode b_Mo_more 135 = .ok (.aload_n 0, 1) := by decide +kernel
theorem d_Mo_more_136 : decode b_Mo_more 136 = .ok (.getfield 21, 3) := by decide +kernel
theorem d_Mo_more_139 : decode b_Mo_more 139 = .ok (.iconst 0, 1) := by decide +kernel
theorem d_Mo_more_140 : decode b_Mo_more 140 = .ok (.iload_n 3, 1) := by decide +kernel
theorem d_Mo_more_141 : decode b_Mo_more 141 = .ok (.bastore, 1) := by decide +kernel
theorem d_Mo_more_142 : decode b_Mo_more 142 = .ok (.aload_n 0, 1) := by decide +kernel
theorem d_Mo_more_143 : decode b_Mo_more 143 = .ok (.iload_n 1, 1) := by decide +kernel
theorem d_Mo_more_144 : decode b_Mo_more 144 = .ok (.lload 4, 2) := by decide +kernel
theorem d_Mo_more_146 : decode b_Mo_more 146 = .ok (.invokevirtual 348, 3) := by decide +kernel
theorem d_Mo_more_149 : decode b_Mo_more 149 = .ok (.goto 75, 3) := by decide +kernel
theorem d_Mo_more_124 : decode b_Mo_more 124 = .ok (.iconst 1, 1) := by decide +kernel
theorem d_Mo_more_125 : decode b_Mo_more 125 = .ok (.goto 4, 3) := by decide +kernel
theorem d_Mo_more_91 : decode b_Mo_more 91 = .ok (.return_, 1) := by decide +kernel
theorem d_Mo_more_59 : decode b_Mo_more 59 = .ok (.aload_n 0, 1) := by decide +kernel
theorem d_Mo_more_60 : decode b_Mo_more 60 = .ok (.bipush 6, 2) := by decide +kernel
theorem d_Mo_more_62 : decode b_Mo_more 62 = .ok (.invokevirtual 81, 3) := by decide +kernel
theorem d_Mo_more_12 : decode b_Mo_more 12 = .ok (.iload_n 1, 1) := by decide +kernel
theorem d_Mo_more_13 : decode b_Mo_more 13 = .ok (.iconst 1, 1) := by decide +kernel
theorem d_Mo_more_14 : decode b_Mo_more 14 = .ok (.if_icmp .le 39, 3) := by decide +kernel
theorem d_Mo_more_53 : decode b_Mo_more 53 = .ok (.iconst 0, 1) := by decide +kernel
theorem d_Mo_more_17 : decode b_Mo_more 17 = .ok (.aload_n 0, 1) := by decide +kernel
theorem d_Mo_more_18 : decode b_Mo_more 18 = .ok (.getfield 139, 3) := by decide +kernel
theorem d_Mo_more_21 : decode b_Mo_more 21 = .ok (.bipush 6, 2) := by decide +kernel
theorem d_Mo_more_23 : decode b_Mo_more 23 = .ok (.if_icmp .eq 26, 3) := by decide +kernel
theorem d_Mo_more_26 : decode b_Mo_more 26 = .ok (.aload_n 0, 1) := by decide +kernel
theorem d_Mo_more_27 : decode b_Mo_more 27 = .ok (.getfield 139, 3) := by decide +kernel
theorem d_Mo_more_30 : decode b_Mo_more 30 = .ok (.iconst 2, 1) := by decide +kernel
theorem d_Mo_more_31 : decode b_Mo_more 31 = .ok (.if_icmp .eq 11, 3) := by decide +kernel
theorem d_Mo_more_42 : decode b_Mo_more 42 = .ok (.aload_n 0, 1) := by decide +kernel
theorem d_Mo_more_43 : decode b_Mo_more 43 = .ok (.getfield 127, 3) := by decide +kernel
theorem d_Mo_more_46 : decode b_Mo_more 46 = .ok (.ifCond .ne 7, 3) := by decide +kernel
theorem d_Mo_more_34 : decode b_Mo_more 34 = .ok (.aload_n 0, 1) := by decide +kernel
theorem d_Mo_more_35 : decode b_Mo_more 35 = .ok (.getfield 139, 3) := by decide +kernel
theorem d_Mo_more_38 : decode b_Mo_more 38 = .ok (.iconst 4, 1) := by decide +kernel
theorem d_Mo_more_39 : decode b_Mo_more 39 = .ok (.if_icmp .ne 14, 3) := by decide +kernel
theorem d_Mo_first_403 : decode b_Mo_first 403 = .ok (.invokevirtual 283, 3) := by decide +kernel
theorem d_Mo_first_406 : decode b_Mo_first 406 = .ok (.goto 9, 3) := by decide +kernel
theorem d_Mo_first_394 : decode b_Mo_first 394 = .ok (.iload_n 1, 1) := by decide +kernel
theorem d_Mo_first_395 : decode b_Mo_first 395 = .ok (.sipush 255, 3) := by decide +kernel
theorem d_Mo_first_398 : decode b_Mo_first 398 = .ok (.if_icmp .ne 11, 3) := by decide +kernel
theorem d_Mo_first_409 : decode b_Mo_first 409 = .ok (.aload_n 0, 1) := by decide +kernel
theorem d_Mo_first_410 : decode b_Mo_first 410 = .ok (.iload_n 1, 1) := by decide +kernel
theorem d_Mo_first_411 : decode b_Mo_first 411 = .ok (.iload_n 2, 1) := by decide +kernel
theorem d_Mo_others_0 : decode b_Mo_others 0 = .ok (.iload_n 1, 1) := by decide +kernel
theorem d_Mo_others_1 : decode b_Mo_others 1 = .ok (.bipush 99, 2) := by decide +kernel
theorem d_Mo_others_3 : decode b_Mo_others 3 = .ok (.if_icmp .ne 27, 3) := by decide +kernel
theorem d_Mo_others_30 : decode b_Mo_others 30 = .ok (.iload_n 1, 1) := by decide +kernel
theorem d_Mo_others_31 : decode b_Mo_others 31 = .ok (.bipush 104, 2) := by decide +kernel
theorem d_Mo_others_33 : decode b_Mo_others 33 = .ok (.if_icmp .eq 9, 3) := by decide +kernel
theorem d_Mo_others_42 : decode b_Mo_others 42 = .ok (.aload_n 0, 1) := by decide +kernel
theorem d_Mo_others_43 : decode b_Mo_others 43 = .ok (.iload_n 1, 1) := by decide +kernel
theorem d_Mo_pushNumber_0 : decode b_Mo_pushNumber 0 = .ok (.aload_n 0, 1) := by decide +kernel
theorem d_Mo_pushNumber_1 : decode b_Mo_pushNumber 1 = .ok (.aload_n 0, 1) := by decide +kernel
theorem d_Mo_pushNumber_2 : decode b_Mo_pushNumber 2 = .ok (.iload_n 1, 1) := by decide +kernel
theorem d_Mo_pushNumber_3 : decode b_Mo_pushNumber 3 = .ok (.bipush 106, 2) := by decide +kernel
theorem d_Mo_pushNumber_5 : decode b_Mo_pushNumber 5 = .ok (.if_icmp .ne 7, 3) := by decide +kernel
theorem d_Mo_pushNumber_12 : decode b_Mo_pushNumber 12 = .ok (.aload_n 0, 1) := by decide +kernel
theorem d_Mo_pushNumber_13 : decode b_Mo_pushNumber 13 = .ok (.invokevirtual 307, 3) := by decide +kernel
theorem d_Mo_pushNumber_16 : decode b_Mo_pushNumber 16 = .ok (.iconst 2, 1) := by decide +kernel
theorem d_Mo_pushNumber_17 : decode b_Mo_pushNumber 17 = .ok (.if_icmp .ne 7, 3) := by decide +kernel
theorem d_Mo_pushNumber_24 : decode b_Mo_pushNumber 24 = .ok (.iconst 4, 1) := by decide +kernel
theorem d_Mo_pushNumber_25 : decode b_Mo_pushNumber 25 = .ok (.invokevirtual 373, 3) := by decide +kernel
theorem d_Mo_pushNumber_28 : decode b_Mo_pushNumber 28 = .ok (.aload_n 0, 1) := by decide +kernel
theorem d_Mo_pushNumber_29 : decode b_Mo_pushNumber 29 = .ok (.invokevirtual 307, 3) := by decide +kernel
theorem d_Mo_pushNumber_32 : decode b_Mo_pushNumber 32 = .ok (.invokevirtual 310, 3) := by decide +kernel
theorem d_Mo_pushNumber_35 : decode b_Mo_pushNumber 35 = .ok (.return_, 1) := by decide +kernel
theorem d_Mo_pushNumber_20 : decode b_Mo_pushNumber 20 = .ok (.iconst 2, 1) := by decide +kernel
theorem d_Mo_pushNumber_21 : decode b_Mo_pushNumber 21 = .ok (.goto 4, 3) := by decide +kernel
theorem d_Mo_pushNumber_8 : decode b_Mo_pushNumber 8 = .ok (.iconst 1, 1) := by decide +kernel
theorem d_Mo_pushNumber_9 : decode b_Mo_pushNumber 9 = .ok (.goto 16, 3) := by decide +kernel
theorem d_Mo_others_44 : decode b_Mo_others 44 = .ok (.invokevirtual 292, 3) := by decide +kernel
theorem d_Mo_others_47 : decode b_Mo_others 47 = .ok (.goto 214, 3) := by decide +kernel
theorem d_Mo_others_261 : decode b_Mo_others 261 = .ok (.return_, 1) := by decide +kernel
theorem d_Mo_others_36 : decode b_Mo_others 36 = .ok (.iload_n 1, 1) := by decide +kernel
theorem d_Mo_others_37 : decode b_Mo_others 37 = .ok (.bipush 106, 2) := by decide +kernel
theorem d_Mo_others_39 : decode b_Mo_others 39 = .ok (.if_icmp .ne 11, 3) := by decide +kernel
theorem d_Mo_others_50 : decode b_Mo_others 50 = .ok (.iload_n 1, 1) := by decide +kernel
theorem d_Mo_others_51 : decode b_Mo_others 51 = .ok (.bipush 105, 2) := by decide +kernel
theorem d_Mo_others_53 : decode b_Mo_others 53 = .ok (.if_icmp .eq 9, 3) := by decide +kernel
theorem d_Mo_others_62 : decode b_Mo_others 62 = .ok (.aload_n 0, 1) := by decide +kernel
theorem d_Mo_others_63 : decode b_Mo_others 63 = .ok (.iload_n 1, 1) := by decide +kernel
theorem d_Mo_product_0 : decode b_Mo_product 0 = .ok (.aload_n 0, 1) := by decide +kernel
theorem d_Mo_product_1 : decode b_Mo_product 1 = .ok (.invokevirtual 235, 3) := by decide +kernel
theorem d_Mo_product_4 : decode b_Mo_product 4 = .ok (.istore_n 2, 1) := by decide +kernel
theorem d_Mo_product_5 : decode b_Mo_product 5 = .ok (.aload_n 0, 1) := by decide +kernel
theorem d_Mo_product_6 : decode b_Mo_product 6 = .ok (.invokevirtual 335, 3) := by decide +kernel
theorem d_Mo_product_9 : decode b_Mo_product 9 = .ok (.iload_n 1, 1) := by decide +kernel
theorem d_Mo_product_10 : decode b_Mo_product 10 = .ok (.sipush 175, 3) := by decide +kernel
theorem d_Mo_product_13 : decode b_Mo_product 13 = .ok (.if_icmp .ne 15, 3) := by decide +kernel
theorem d_Mo_product_28 : decode b_Mo_product 28 = .ok (.aload_n 0, 1) := by decide +kernel
theorem d_Mo_product_29 : decode b_Mo_product 29 = .ok (.iload_n 1, 1) := by decide +kernel
theorem d_Mo_product_30 : decode b_Mo_product 30 = .ok (.bipush 107, 2) := by decide +kernel
theorem d_Mo_product_32 : decode b_Mo_product 32 = .ok (.if_icmp .ne 7, 3) := by decide +kernel
theorem d_Mo_product_39 : decode b_Mo_product 39 = .ok (.iload_n 2, 1) := by decide +kernel
theorem d_Mo_product_40 : decode b_Mo_product 40 = .ok (.invokestatic 370, 3) := by decide +kernel
theorem d_Mo_product_43 : decode b_Mo_product 43 = .ok (.invokevirtual 373, 3) := by decide +kernel
theorem d_Mo_product_46 : decode b_Mo_product 46 = .ok (.lstore_n 3, 1) := by decide +kernel
theorem d_Mo_product_47 : decode b_Mo_product 47 = .ok (.aload_n 0, 1) := by decide +kernel
theorem d_Mo_product_48 : decode b_Mo_product 48 = .ok (.iload_n 2, 1) := by decide +kernel
theorem d_Mo_product_49 : decode b_Mo_product 49 = .ok (.iconst 0, 1) := by decide +kernel
theorem d_Mo_product_50 : decode b_Mo_product 50 = .ok (.invokevirtual 338, 3) := by decide +kernel
theorem d_Mo_product_53 : decode b_Mo_product 53 = .ok (.iload_n 2, 1) := by decide +kernel
theorem d_Mo_product_54 : decode b_Mo_product 54 = .ok (.invokestatic 118, 3) := by decide +kernel
theorem d_Mo_product_57 : decode b_Mo_product 57 = .ok (.lstore 5, 2) := by decide +kernel
theorem d_Mo_product_59 : decode b_Mo_product 59 = .ok (.aload_n 0, 1) := by decide +kernel
theorem d_Mo_product_60 : decode b_Mo_product 60 = .ok (.lload 5, 2) := by decide +kernel
theorem d_Mo_product_62 : decode b_Mo_product 62 = .ok (.lload_n 3, 1) := by decide +kernel
theorem d_Mo_product_63 : decode b_Mo_product 63 = .ok (.invokevirtual 393, 3) := by decide +kernel
theorem d_Mo_product_66 : decode b_Mo_product 66 = .ok (.aload_n 0, 1) := by decide +kernel
theorem d_Mo_product_67 : decode b_Mo_product 67 = .ok (.getfield 380, 3) := by decide +kernel
theorem d_Mo_product_70 : decode b_Mo_product 70 = .ok (.iload_n 2, 1) := by decide +kernel
theorem d_Mo_product_71 : decode b_Mo_product 71 = .ok (.invokestatic 180, 3) := by decide +kernel
theorem d_Mo_product_74 : decode b_Mo_product 74 = .ok (.lstore 7, 2) := by decide +kernel
theorem d_Mo_product_76 : decode b_Mo_product 76 = .ok (.aload_n 0, 1) := by decide +kernel
theorem d_Mo_product_77 : decode b_Mo_product 77 = .ok (.getfield 380, 3) := by decide +kernel
theorem d_Mo_product_80 : decode b_Mo_product 80 = .ok (.lload 7, 2) := by decide +kernel
theorem d_Mo_product_82 : decode b_Mo_product 82 = .ok (.iload_n 2, 1) := by decide +kernel
theorem d_Mo_product_83 : decode b_Mo_product 83 = .ok (.invokestatic 118, 3) := by decide +kernel
theorem d_Mo_product_86 : decode b_Mo_product 86 = .ok (.lcmp, 1) := by decide +kernel
theorem d_Mo_product_87 : decode b_Mo_product 87 = .ok (.ifCond .ne 27, 3) := by decide +kernel
theorem d_Mo_product_114 : decode b_Mo_product 114 = .ok (.iconst 1, 1) := by decide +kernel
theorem d_Mo_product_115 : decode b_Mo_product 115 = .ok (.goto 4, 3) := by decide +kernel
theorem d_Mo_product_119 : decode b_Mo_product 119 = .ok (.istore 9, 2) := by decide +kernel
theorem d_Mo_product_121 : decode b_Mo_product 121 = .ok (.aload_n 0, 1) := by decide +kernel
theorem d_Mo_product_122 : decode b_Mo_product 122 = .ok (.iload_n 2, 1) := by decide +kernel
theorem d_Mo_product_123 : decode b_Mo_product 123 = .ok (.lload 7, 2) := by decide +kernel
theorem d_Mo_setG_0 : decode b_Mo_setG 0 = .ok (.aload_n 0, 1) := by decide +kernel
theorem d_Mo_setG_1 : decode b_Mo_setG 1 = .ok (.aload_n 0, 1) := by decide +kernel
theorem d_Mo_setG_2 : decode b_Mo_setG 2 = .ok (.getfield 139, 3) := by decide +kernel
theorem d_Mo_setG_5 : decode b_Mo_setG 5 = .ok (.aload_n 0, 1) := by decide +kernel
theorem d_Mo_setG_6 : decode b_Mo_setG 6 = .ok (.iconst 4, 1) := by decide +kernel
theorem d_Mo_setG_7 : decode b_Mo_setG 7 = .ok (.invokevirtual 157, 3) := by decide +kernel
theorem d_Mo_setG_10 : decode b_Mo_setG 10 = .ok (.iadd, 1) := by decide +kernel
theorem d_Mo_setG_11 : decode b_Mo_setG 11 = .ok (.iload_n 1, 1) := by decide +kernel
theorem d_Mo_setG_12 : decode b_Mo_setG 12 = .ok (.lload_n 2, 1) := by decide +kernel
theorem d_Mo_setG_13 : decode b_Mo_setG 13 = .ok (.invokevirtual 189, 3) := by decide +kernel
theorem d_Mo_setG_16 : decode b_Mo_setG 16 = .ok (.return_, 1) := by decide +kernel
theorem d_Mo_product_125 : decode b_Mo_product 125 = .ok (.invokevirtual 344, 3) := by decide +kernel
theorem d_Mo_product_128 : decode b_Mo_product 128 = .ok (.aload_n 0, 1) := by decide +kernel
theorem d_Mo_product_129 : decode b_Mo_product 129 = .ok (.iload 9, 2) := by decide +kernel
theorem d_Mo_product_131 : decode b_Mo_product 131 = .ok (.invokevirtual 396, 3) := by decide +kernel
theorem d_Mo_product_134 : decode b_Mo_product 134 = .ok (.return_, 1) := by decide +kernel
theorem d_Mo_product_90 : decode b_Mo_product 90 = .ok (.aload_n 0, 1) := by decide +kernel
theorem d_Mo_product_91 : decode b_Mo_product 91 = .ok (.getfield 383, 3) := by decide +kernel
theorem d_Mo_product_94 : decode b_Mo_product 94 = .ok (.aload_n 0, 1) := by decide +kernel
theorem d_Mo_product_95 : decode b_Mo_product 95 = .ok (.getfield 380, 3) := by decide +kernel
theorem d_Mo_product_98 : decode b_Mo_product 98 = .ok (.lconst 0, 1) := by decide +kernel
theorem d_Mo_product_99 : decode b_Mo_product 99 = .ok (.lcmp, 1) := by decide +kernel
theorem d_Mo_product_100 : decode b_Mo_product 100 = .ok (.ifCond .ge 9, 3) := by decide +kernel
theorem d_Mo_product_109 : decode b_Mo_product 109 = .ok (.lconst 0, 1) := by decide +kernel
theorem d_Mo_product_110 : decode b_Mo_product 110 = .ok (.lcmp, 1) := by decide +kernel
theorem d_Mo_product_111 : decode b_Mo_product 111 = .ok (.ifCond .eq 7, 3) := by decide +kernel
theorem d_Mo_product_118 : decode b_Mo_product 118 = .ok (.iconst 0, 1) := by decide +kernel
theorem d_Mo_product_103 : decode b_Mo_product 103 = .ok (.ldc2_w 71, 3) := by decide +kernel
theorem d_Mo_product_106 : decode b_Mo_product 106 = .ok (.goto 4, 3) := by decide +kernel
theorem d_Mo_product_35 : decode b_Mo_product 35 = .ok (.iconst 1, 1) := by decide +kernel
theorem d_Mo_product_36 : decode b_Mo_product 36 = .ok (.goto 7, 3) := by decide +kernel
theorem d_Mo_product_16 : decode b_Mo_product 16 = .ok (.aload_n 0, 1) := by decide +kernel
theorem d_Mo_product_17 : decode b_Mo_product 17 = .ok (.iload_n 2, 1) := by decide +kernel
theorem d_Mo_g_0 : decode b_Mo_g 0 = .ok (.aload_n 0, 1) := by decide +kernel
theorem d_Mo_g_1 : decode b_Mo_g 1 = .ok (.aload_n 0, 1) := by decide +kernel
theorem d_Mo_g_2 : decode b_Mo_g 2 = .ok (.getfield 139, 3) := by decide +kernel
theorem d_Mo_g_5 : decode b_Mo_g 5 = .ok (.aload_n 0, 1) := by decide +kernel
theorem d_Mo_g_6 : decode b_Mo_g 6 = .ok (.iconst 4, 1) := by decide +kernel
theorem d_Mo_g_7 : decode b_Mo_g 7 = .ok (.invokevirtual 157, 3) := by decide +kernel
theorem d_Mo_g_10 : decode b_Mo_g 10 = .ok (.iadd, 1) := by decide +kernel
theorem d_Mo_g_11 : decode b_Mo_g 11 = .ok (.iload_n 1, 1) := by decide +kernel
theorem d_Mo_g_12 : decode b_Mo_g 12 = .ok (.invokevirtual 185, 3) := by decide +kernel
theorem d_Mo_g_15 : decode b_Mo_g 15 = .ok (.lreturn, 1) := by decide +kernel
theorem d_Mo_product_18 : decode b_Mo_product 18 = .ok (.invokevirtual 341, 3) := by decide +kernel
theorem d_Mo_product_21 : decode b_Mo_product 21 = .ok (.iload_n 2, 1) := by decide +kernel
theorem d_Mo_product_22 : decode b_Mo_product 22 = .ok (.invokestatic 118, 3) := by decide +kernel
theorem d_Mo_product_25 : decode b_Mo_product 25 = .ok (.goto 21, 3) := by decide +kernel
theorem d_Mo_others_64 : decode b_Mo_others 64 = .ok (.invokevirtual 295, 3) := by decide +kernel
theorem d_Mo_others_67 : decode b_Mo_others 67 = .ok (.goto 194, 3) := by decide +kernel
theorem d_Mo_others_56 : decode b_Mo_others 56 = .ok (.iload_n 1, 1) := by decide +kernel
theorem d_Mo_others_57 : decode b_Mo_others 57 = .ok (.bipush 107, 2) := by decide +kernel
theorem d_Mo_others_59 : decode b_Mo_others 59 = .ok (.if_icmp .ne 11, 3) := by decide +kernel
theorem d_Mo_others_70 : decode b_Mo_others 70 = .ok (.iload_n 1, 1) := by decide +kernel
theorem d_Mo_others_71 : decode b_Mo_others 71 = .ok (.sipush 141, 3) := by decide +kernel
theorem d_Mo_others_74 : decode b_Mo_others 74 = .ok (.if_icmp .ne 10, 3) := by decide +kernel
theorem d_Mo_others_84 : decode b_Mo_others 84 = .ok (.iload_n 1, 1) := by decide +kernel
theorem d_Mo_others_85 : decode b_Mo_others 85 = .ok (.sipush 143, 3) := by decide +kernel
theorem d_Mo_others_88 : decode b_Mo_others 88 = .ok (.if_icmp .ne 10, 3) := by decide +kernel
theorem d_Mo_others_98 : decode b_Mo_others 98 = .ok (.iload_n 1, 1) := by decide +kernel
theorem d_Mo_others_99 : decode b_Mo_others 99 = .ok (.sipush 156, 3) := by decide +kernel
theorem d_Mo_others_102 : decode b_Mo_others 102 = .ok (.if_icmp .ne 22, 3) := by decide +kernel
theorem d_Mo_others_124 : decode b_Mo_others 124 = .ok (.iload_n 1, 1) := by decide +kernel
theorem d_Mo_others_125 : decode b_Mo_others 125 = .ok (.sipush 157, 3) := by decide +kernel
theorem d_Mo_others_128 : decode b_Mo_others 128 = .ok (.if_icmp .ne 18, 3) := by decide +kernel
theorem d_Mo_others_146 : decode b_Mo_others 146 = .ok (.iload_n 1, 1) := by decide +kernel
theorem d_Mo_others_147 : decode b_Mo_others 147 = .ok (.sipush 168, 3) := by decide +kernel
theorem d_Mo_others_150 : decode b_Mo_others 150 = .ok (.if_icmp .eq 10, 3) := by decide +kernel
theorem d_Mo_others_160 : decode b_Mo_others 160 = .ok (.aload_n 0, 1) := by decide +kernel
theorem d_Mo_others_161 : decode b_Mo_others 161 = .ok (.iload_n 2, 1) := by decide +kernel
theorem d_Mo_testNumber_0 : decode b_Mo_testNumber 0 = .ok (.aload_n 0, 1) := by decide +kernel
theorem d_Mo_testNumber_1 : decode b_Mo_testNumber 1 = .ok (.iload_n 1, 1) := by decide +kernel
theorem d_Mo_testNumber_2 : decode b_Mo_testNumber 2 = .ok (.invokestatic 370, 3) := by decide +kernel
theorem d_Mo_testNumber_5 : decode b_Mo_testNumber 5 = .ok (.invokevirtual 373, 3) := by decide +kernel
theorem d_Mo_testNumber_8 : decode b_Mo_testNumber 8 = .ok (.lstore_n 2, 1) := by decide +kernel
theorem d_Mo_testNumber_9 : decode b_Mo_testNumber 9 = .ok (.aload_n 0, 1) := by decide +kernel
theorem d_Mo_testNumber_10 : decode b_Mo_testNumber 10 = .ok (.aload_n 0, 1) := by decide +kernel
theorem d_Mo_testNumber_11 : decode b_Mo_testNumber 11 = .ok (.iconst 0, 1) := by decide +kernel
theorem d_Mo_testNumber_12 : decode b_Mo_testNumber 12 = .ok (.iload_n 1, 1) := by decide +kernel
theorem d_Mo_testNumber_13 : decode b_Mo_testNumber 13 = .ok (.invokevirtual 185, 3) := by decide +kernel
theorem d_Mo_testNumber_16 : decode b_Mo_testNumber 16 = .ok (.lload_n 2, 1) := by decide +kernel
theorem d_Mo_testNumber_17 : decode b_Mo_testNumber 17 = .ok (.iload_n 1, 1) := by decide +kernel
theorem d_Mo_testNumber_18 : decode b_Mo_testNumber 18 = .ok (.invokestatic 180, 3) := by decide +kernel
theorem d_Mo_testNumber_21 : decode b_Mo_testNumber 21 = .ok (.land, 1) := by decide +kernel
theorem d_Mo_testNumber_22 : decode b_Mo_testNumber 22 = .ok (.iload_n 1, 1) := by decide +kernel
theorem d_Mo_testNumber_23 : decode b_Mo_testNumber 23 = .ok (.invokevirtual 222, 3) := by decide +kernel
theorem d_Mo_testNumber_26 : decode b_Mo_testNumber 26 = .ok (.pop2, 1) := by decide +kernel
theorem d_Mo_testNumber_27 : decode b_Mo_testNumber 27 = .ok (.return_, 1) := by decide +kernel
theorem d_Mo_others_162 : decode b_Mo_others 162 = .ok (.invokevirtual 320, 3) := by decide +kernel
theorem d_Mo_others_165 : decode b_Mo_others 165 = .ok (.goto 96, 3) := by decide +kernel
theorem d_Mo_others_153 : decode b_Mo_others 153 = .ok (.iload_n 1, 1) := by decide +kernel
theorem d_Mo_others_154 : decode b_Mo_others 154 = .ok (.sipush 169, 3) := by decide +kernel
theorem d_Mo_others_157 : decode b_Mo_others 157 = .ok (.if_icmp .ne 11, 3) := by decide +kernel
theorem d_Mo_others_168 : decode b_Mo_others 168 = .ok (.iload_n 1, 1) := by decide +kernel
theorem d_Mo_others_169 : decode b_Mo_others 169 = .ok (.sipush 194, 3) := by decide +kernel
theorem d_Mo_others_172 : decode b_Mo_others 172 = .ok (.if_icmp .eq 10, 3) := by decide +kernel
theorem d_Mo_others_182 : decode b_Mo_others 182 = .ok (.aload_n 0, 1) := by decide +kernel
theorem d_Mo_others_183 : decode b_Mo_others 183 = .ok (.iload_n 1, 1) := by decide +kernel
theorem d_Mo_returns_0 : decode b_Mo_returns 0 = .ok (.aload_n 0, 1) := by decide +kernel
theorem d_Mo_returns_1 : decode b_Mo_returns 1 = .ok (.getfield 127, 3) := by decide +kernel
theorem d_Mo_returns_4 : decode b_Mo_returns 4 = .ok (.ifCond .eq 9, 3) := by decide +kernel
theorem d_Mo_returns_13 : decode b_Mo_returns 13 = .ok (.iload_n 1, 1) := by decide +kernel
theorem d_Mo_returns_14 : decode b_Mo_returns 14 = .ok (.sipush 194, 3) := by decide +kernel
theorem d_Mo_returns_17 : decode b_Mo_returns 17 = .ok (.if_icmp .ne 15, 3) := by decide +kernel
theorem d_Mo_returns_32 : decode b_Mo_returns 32 = .ok (.lconst 0, 1) := by decide +kernel
theorem d_Mo_returns_33 : decode b_Mo_returns 33 = .ok (.lstore_n 2, 1) := by decide +kernel
theorem d_Mo_returns_34 : decode b_Mo_returns 34 = .ok (.aload_n 0, 1) := by decide +kernel
theorem d_Mo_returns_35 : decode b_Mo_returns 35 = .ok (.bipush 8, 2) := by decide +kernel
theorem d_Mo_pop_0 : decode b_Mo_pop 0 = .ok (.aload_n 0, 1) := by decide +kernel
theorem d_Mo_pop_1 : decode b_Mo_pop 1 = .ok (.aload_n 0, 1) := by decide +kernel
theorem d_Mo_pop_2 : decode b_Mo_pop 2 = .ok (.getfield 14, 3) := by decide +kernel
theorem d_Mo_pop_5 : decode b_Mo_pop 5 = .ok (.iconst 4, 1) := by decide +kernel
theorem d_Mo_pop_6 : decode b_Mo_pop 6 = .ok (.laload, 1) := by decide +kernel
theorem d_Mo_pop_7 : decode b_Mo_pop 7 = .ok (.iload_n 1, 1) := by decide +kernel
theorem d_Mo_pop_8 : decode b_Mo_pop 8 = .ok (.iconst 1, 1) := by decide +kernel
theorem d_Mo_load_0 : decode b_Mo_load 0 = .ok (.aload_n 0, 1) := by decide +kernel
theorem d_Mo_load_1 : decode b_Mo_load 1 = .ok (.lload_n 1, 1) := by decide +kernel
theorem d_Mo_load_2 : decode b_Mo_load 2 = .ok (.iload_n 3, 1) := by decide +kernel
theorem d_Mo_load_3 : decode b_Mo_load 3 = .ok (.iconst 0, 1) := by decide +kernel
theorem d_Mo_load_4 : decode b_Mo_load 4 = .ok (.iload 4, 2) := by decide +kernel
theorem d_Mo_load_6 : decode b_Mo_load 6 = .ok (.invokevirtual 95, 3) := by decide +kernel
theorem d_Mo_load_9 : decode b_Mo_load 9 = .ok (.aload_n 0, 1) := by decide +kernel
theorem d_Mo_load_10 : decode b_Mo_load 10 = .ok (.getfield 28, 3) := by decide +kernel
theorem d_Mo_load_13 : decode b_Mo_load 13 = .ok (.iconst (-1), 1) := by decide +kernel
theorem d_Mo_load_14 : decode b_Mo_load 14 = .ok (.if_icmp .ne 11, 3) := by decide +kernel
theorem d_Mo_load_25 : decode b_Mo_load 25 = .ok (.lconst 0, 1) := by decide +kernel
theorem d_Mo_load_26 : decode b_Mo_load 26 = .ok (.lreturn, 1) := by decide +kernel
theorem d_Mo_load_17 : decode b_Mo_load 17 = .ok (.aload_n 0, 1) := by decide +kernel
theorem d_Mo_load_18 : decode b_Mo_load 18 = .ok (.iload_n 3, 1) := by decide +kernel
theorem d_Mo_load_19 : decode b_Mo_load 19 = .ok (.invokevirtual 99, 3) := by decide +kernel
theorem d_Mo_load_22 : decode b_Mo_load 22 = .ok (.goto 4, 3) := by decide +kernel
theorem d_Mo_pop_9 : decode b_Mo_pop 9 = .ok (.invokevirtual 434, 3) := by decide +kernel
theorem d_Mo_pop_12 : decode b_Mo_pop 12 = .ok (.lstore_n 2, 1) := by decide +kernel
theorem d_Mo_pop_13 : decode b_Mo_pop 13 = .ok (.aload_n 0, 1) := by decide +kernel
theorem d_Mo_pop_14 : decode b_Mo_pop 14 = .ok (.getfield 28, 3) := by decide +kernel
theorem d_Mo_pop_17 : decode b_Mo_pop 17 = .ok (.iconst (-1), 1) := by decide +kernel
theorem d_Mo_pop_18 : decode b_Mo_pop 18 = .ok (.if_icmp .ne 14, 3) := by decide +kernel
theorem d_Mo_pop_32 : decode b_Mo_pop 32 = .ok (.lload_n 2, 1) := by decide +kernel
theorem d_Mo_pop_33 : decode b_Mo_pop 33 = .ok (.lreturn, 1) := by decide +kernel
theorem d_Mo_pop_21 : decode b_Mo_pop 21 = .ok (.aload_n 0, 1) := by decide +kernel
theorem d_Mo_pop_22 : decode b_Mo_pop 22 = .ok (.getfield 14, 3) := by decide +kernel
theorem d_Mo_pop_25 : decode b_Mo_pop 25 = .ok (.iconst 4, 1) := by decide +kernel
theorem d_Mo_pop_26 : decode b_Mo_pop 26 = .ok (.dup2, 1) := by decide +kernel
theorem d_Mo_pop_27 : decode b_Mo_pop 27 = .ok (.laload, 1) := by decide +kernel
theorem d_Mo_pop_28 : decode b_Mo_pop 28 = .ok (.iload_n 1, 1) := by decide +kernel
theorem d_Mo_pop_29 : decode b_Mo_pop 29 = .ok (.i2l, 1) := by decide +kernel
theorem d_Mo_pop_30 : decode b_Mo_pop 30 = .ok (.ladd, 1) := by decide +kernel
theorem d_Mo_pop_31 : decode b_Mo_pop 31 = .ok (.lastore, 1) := by decide +kernel
theorem d_Mo_returns_37 : decode b_Mo_returns 37 = .ok (.invokevirtual 313, 3) := by decide +kernel
theorem d_Mo_returns_40 : decode b_Mo_returns 40 = .ok (.lstore 4, 2) := by decide +kernel
theorem d_Mo_returns_42 : decode b_Mo_returns 42 = .ok (.aload_n 0, 1) := by decide +kernel
theorem d_Mo_returns_43 : decode b_Mo_returns 43 = .ok (.getfield 14, 3) := by decide +kernel
theorem d_Mo_returns_46 : decode b_Mo_returns 46 = .ok (.iconst 4, 1) := by decide +kernel
theorem d_Mo_returns_47 : decode b_Mo_returns 47 = .ok (.dup2, 1) := by decide +kernel
theorem d_Mo_returns_48 : decode b_Mo_returns 48 = .ok (.laload, 1) := by decide +kernel
theorem d_Mo_returns_49 : decode b_Mo_returns 49 = .ok (.lload_n 2, 1) := by decide +kernel
theorem d_Mo_returns_50 : decode b_Mo_returns 50 = .ok (.ladd, 1) := by decide +kernel
theorem d_Mo_returns_51 : decode b_Mo_returns 51 = .ok (.lastore, 1) := by decide +kernel
theorem d_Mo_returns_52 : decode b_Mo_returns 52 = .ok (.aload_n 0, 1) := by decide +kernel
theorem d_Mo_returns_53 : decode b_Mo_returns 53 = .ok (.getfield 28, 3) := by decide +kernel
theorem d_Mo_returns_56 : decode b_Mo_returns 56 = .ok (.iconst (-1), 1) := by decide +kernel
theorem d_Mo_returns_57 : decode b_Mo_returns 57 = .ok (.if_icmp .ne 9, 3) := by decide +kernel
theorem d_Mo_returns_66 : decode b_Mo_returns 66 = .ok (.return_, 1) := by decide +kernel
theorem d_Mo_returns_60 : decode b_Mo_returns 60 = .ok (.aload_n 0, 1) := by decide +kernel
theorem d_Mo_returns_61 : decode b_Mo_returns 61 = .ok (.lload 4, 2) := by decide +kernel
theorem d_Mo_returns_63 : decode b_Mo_returns 63 = .ok (.invokevirtual 431, 3) := by decide +kernel
theorem d_Mo_returns_20 : decode b_Mo_returns 20 = .ok (.aload_n 0, 1) := by decide +kernel
theorem d_Mo_returns_21 : decode b_Mo_returns 21 = .ok (.iconst 2, 1) := by decide +kernel
theorem d_Mo_returns_22 : decode b_Mo_returns 22 = .ok (.invokevirtual 373, 3) := by decide +kernel
theorem d_Mo_returns_25 : decode b_Mo_returns 25 = .ok (.iconst 2, 1) := by decide +kernel
theorem d_Mo_returns_26 : decode b_Mo_returns 26 = .ok (.invokestatic 180, 3) := by decide +kernel
theorem d_Mo_returns_29 : decode b_Mo_returns 29 = .ok (.goto 4, 3) := by decide +kernel
theorem d_Mo_returns_7 : decode b_Mo_returns 7 = .ok (.aload_n 0, 1) := by decide +kernel
theorem d_Mo_returns_8 : decode b_Mo_returns 8 = .ok (.bipush 6, 2) := by decide +kernel
theorem d_Mo_returns_10 : decode b_Mo_returns 10 = .ok (.invokevirtual 81, 3) := by decide +kernel
theorem d_Mo_others_184 : decode b_Mo_others 184 = .ok (.invokevirtual 323, 3) := by decide +kernel
theorem d_Mo_others_187 : decode b_Mo_others 187 = .ok (.goto 74, 3) := by decide +kernel
theorem d_Mo_others_175 : decode b_Mo_others 175 = .ok (.iload_n 1, 1) := by decide +kernel
theorem d_Mo_others_176 : decode b_Mo_others 176 = .ok (.sipush 195, 3) := by decide +kernel
theorem d_Mo_others_179 : decode b_Mo_others 179 = .ok (.if_icmp .ne 11, 3) := by decide +kernel
theorem d_Mo_others_190 : decode b_Mo_others 190 = .ok (.iload_n 1, 1) := by decide +kernel
theorem d_Mo_others_191 : decode b_Mo_others 191 = .ok (.sipush 198, 3) := by decide +kernel
theorem d_Mo_others_194 : decode b_Mo_others 194 = .ok (.if_icmp .eq 10, 3) := by decide +kernel
theorem d_Mo_others_204 : decode b_Mo_others 204 = .ok (.aload_n 0, 1) := by decide +kernel
theorem d_Mo_others_205 : decode b_Mo_others 205 = .ok (.iload_n 2, 1) := by decide +kernel
theorem d_Mo_moveNumber_0 : decode b_Mo_moveNumber 0 = .ok (.aload_n 0, 1) := by decide +kernel
theorem d_Mo_moveNumber_1 : decode b_Mo_moveNumber 1 = .ok (.invokevirtual 167, 3) := by decide +kernel
theorem d_Mo_moveNumber_4 : decode b_Mo_moveNumber 4 = .ok (.aload_n 0, 1) := by decide +kernel
theorem d_Mo_moveNumber_5 : decode b_Mo_moveNumber 5 = .ok (.getfield 139, 3) := by decide +kernel
theorem d_Mo_moveNumber_8 : decode b_Mo_moveNumber 8 = .ok (.ifCond .eq 9, 3) := by decide +kernel
theorem d_Mo_moveNumber_17 : decode b_Mo_moveNumber 17 = .ok (.aload_n 0, 1) := by decide +kernel
theorem d_Mo_moveNumber_18 : decode b_Mo_moveNumber 18 = .ok (.invokevirtual 170, 3) := by decide +kernel
theorem d_Mo_moveNumber_21 : decode b_Mo_moveNumber 21 = .ok (.aload_n 0, 1) := by decide +kernel
theorem d_Mo_moveNumber_22 : decode b_Mo_moveNumber 22 = .ok (.iload_n 1, 1) := by decide +kernel
theorem d_Mo_moveNumber_23 : decode b_Mo_moveNumber 23 = .ok (.invokestatic 370, 3) := by decide +kernel
theorem d_Mo_moveNumber_26 : decode b_Mo_moveNumber 26 = .ok (.invokevirtual 373, 3) := by decide +kernel
theorem d_Mo_moveNumber_29 : decode b_Mo_moveNumber 29 = .ok (.lstore_n 2, 1) := by decide +kernel
theorem d_Mo_moveNumber_30 : decode b_Mo_moveNumber 30 = .ok (.aload_n 0, 1) := by decide +kernel
theorem d_Mo_moveNumber_31 : decode b_Mo_moveNumber 31 = .ok (.iload_n 1, 1) := by decide +kernel
theorem d_Mo_moveNumber_32 : decode b_Mo_moveNumber 32 = .ok (.iconst 1, 1) := by decide +kernel
theorem d_Mo_moveNumber_33 : decode b_Mo_moveNumber 33 = .ok (.invokevirtual 338, 3) := by decide +kernel
theorem d_Mo_moveNumber_36 : decode b_Mo_moveNumber 36 = .ok (.pop2, 1) := by decide +kernel
theorem d_Mo_moveNumber_37 : decode b_Mo_moveNumber 37 = .ok (.aload_n 0, 1) := by decide +kernel
theorem d_Mo_moveNumber_38 : decode b_Mo_moveNumber 38 = .ok (.iload_n 1, 1) := by decide +kernel
theorem d_Mo_moveNumber_39 : decode b_Mo_moveNumber 39 = .ok (.lload_n 2, 1) := by decide +kernel
theorem d_Mo_moveNumber_40 : decode b_Mo_moveNumber 40 = .ok (.invokevirtual 348, 3) := by decide +kernel
theorem d_Mo_moveNumber_43 : decode b_Mo_moveNumber 43 = .ok (.return_, 1) := by decide +kernel
theorem d_Mo_moveNumber_11 : decode b_Mo_moveNumber 11 = .ok (.aload_n 0, 1) := by decide +kernel
theorem d_Mo_moveNumber_12 : decode b_Mo_moveNumber 12 = .ok (.bipush 6, 2) := by decide +kernel
theorem d_Mo_moveNumber_14 : decode b_Mo_moveNumber 14 = .ok (.invokevirtual 81, 3) := by decide +kernel
theorem d_Mo_others_206 : decode b_Mo_others 206 = .ok (.invokevirtual 326, 3) := by decide +kernel
theorem d_Mo_others_209 : decode b_Mo_others 209 = .ok (.goto 52, 3) := by decide +kernel
theorem d_Mo_others_197 : decode b_Mo_others 197 = .ok (.iload_n 1, 1) := by decide +kernel
theorem d_Mo_others_198 : decode b_Mo_others 198 = .ok (.sipush 199, 3) := by decide +kernel
theorem d_Mo_others_201 : decode b_Mo_others 201 = .ok (.if_icmp .ne 11, 3) := by decide +kernel
theorem d_Mo_others_212 : decode b_Mo_others 212 = .ok (.iload_n 1, 1) := by decide +kernel
theorem d_Mo_others_213 : decode b_Mo_others 213 = .ok (.sipush 201, 3) := by decide +kernel
theorem d_Mo_others_216 : decode b_Mo_others 216 = .ok (.if_icmp .ne 10, 3) := by decide +kernel
theorem d_Mo_others_226 : decode b_Mo_others 226 = .ok (.iload_n 1, 1) := by decide +kernel
theorem d_Mo_others_227 : decode b_Mo_others 227 = .ok (.sipush 232, 3) := by decide +kernel
theorem d_Mo_others_230 : decode b_Mo_others 230 = .ok (.if_icmp .eq 17, 3) := by decide +kernel
theorem d_Mo_others_247 : decode b_Mo_others 247 = .ok (.aload_n 0, 1) := by decide +kernel
theorem d_Mo_others_248 : decode b_Mo_others 248 = .ok (.iload_n 1, 1) := by decide +kernel
theorem d_Mo_far_0 : decode b_Mo_far 0 = .ok (.aload_n 0, 1) := by decide +kernel
theorem d_Mo_far_1 : decode b_Mo_far 1 = .ok (.getfield 127, 3) := by decide +kernel
theorem d_Mo_far_4 : decode b_Mo_far 4 = .ok (.ifCond .eq 9, 3) := by decide +kernel
theorem d_Mo_far_13 : decode b_Mo_far 13 = .ok (.aload_n 0, 1) := by decide +kernel
theorem d_Mo_far_14 : decode b_Mo_far 14 = .ok (.iload_n 1, 1) := by decide +kernel
theorem d_Mo_far_15 : decode b_Mo_far 15 = .ok (.sipush 235, 3) := by decide +kernel
theorem d_Mo_far_18 : decode b_Mo_far 18 = .ok (.if_icmp .ne 7, 3) := by decide +kernel
theorem d_Mo_far_25 : decode b_Mo_far 25 = .ok (.iconst 4, 1) := by decide +kernel
theorem d_Mo_far_26 : decode b_Mo_far 26 = .ok (.invokevirtual 373, 3) := by decide +kernel
theorem d_Mo_far_29 : decode b_Mo_far 29 = .ok (.lstore_n 2, 1) := by decide +kernel
theorem d_Mo_far_30 : decode b_Mo_far 30 = .ok (.aload_n 0, 1) := by decide +kernel
theorem d_Mo_far_31 : decode b_Mo_far 31 = .ok (.getfield 173, 3) := by decide +kernel
theorem d_Mo_far_34 : decode b_Mo_far 34 = .ok (.lstore 4, 2) := by decide +kernel
theorem d_Mo_far_36 : decode b_Mo_far 36 = .ok (.aload_n 0, 1) := by decide +kernel
theorem d_Mo_far_37 : decode b_Mo_far 37 = .ok (.getfield 28, 3) := by decide +kernel
theorem d_Mo_far_40 : decode b_Mo_far 40 = .ok (.iconst (-1), 1) := by decide +kernel
theorem d_Mo_far_41 : decode b_Mo_far 41 = .ok (.if_icmp .ne 11, 3) := by decide +kernel
theorem d_Mo_far_52 : decode b_Mo_far 52 = .ok (.iload_n 1, 1) := by decide +kernel
theorem d_Mo_far_53 : decode b_Mo_far 53 = .ok (.sipush 232, 3) := by decide +kernel
theorem d_Mo_far_56 : decode b_Mo_far 56 = .ok (.if_icmp .ne 11, 3) := by decide +kernel
theorem d_Mo_far_67 : decode b_Mo_far 67 = .ok (.return_, 1) := by decide +kernel
theorem d_Mo_far_59 : decode b_Mo_far 59 = .ok (.aload_n 0, 1) := by decide +kernel
theorem d_Mo_far_60 : decode b_Mo_far 60 = .ok (.lload 4, 2) := by decide +kernel
theorem d_Mo_far_62 : decode b_Mo_far 62 = .ok (.bipush 8, 2) := by decide +kernel
theorem d_Mo_far_64 : decode b_Mo_far 64 = .ok (.invokevirtual 310, 3) := by decide +kernel
theorem d_Mo_far_44 : decode b_Mo_far 44 = .ok (.aload_n 0, 1) := by decide +kernel
theorem d_Mo_far_45 : decode b_Mo_far 45 = .ok (.lload 4, 2) := by decide +kernel
theorem d_Mo_far_47 : decode b_Mo_far 47 = .ok (.lload_n 2, 1) := by decide +kernel
theorem d_Mo_far_48 : decode b_Mo_far 48 = .ok (.ladd, 1) := by decide +kernel
theorem d_Mo_far_49 : decode b_Mo_far 49 = .ok (.invokevirtual 431, 3) := by decide +kernel
theorem d_Mo_far_21 : decode b_Mo_far 21 = .ok (.iconst 1, 1) := by decide +kernel
theorem d_Mo_far_22 : decode b_Mo_far 22 = .ok (.goto 4, 3) := by decide +kernel
theorem d_Mo_far_7 : decode b_Mo_far 7 = .ok (.aload_n 0, 1) := by decide +kernel
theorem d_Mo_far_8 : decode b_Mo_far 8 = .ok (.bipush 6, 2) := by decide +kernel
theorem d_Mo_far_10 : decode b_Mo_far 10 = .ok (.invokevirtual 81, 3) := by decide +kernel
theorem d_Mo_others_249 : decode b_Mo_others 249 = .ok (.invokevirtual 332, 3) := by decide +kernel
theorem d_Mo_others_252 : decode b_Mo_others 252 = .ok (.goto 9, 3) := by decide +kernel
theorem d_Mo_others_233 : decode b_Mo_others 233 = .ok (.iload_n 1, 1) := by decide +kernel
theorem d_Mo_others_234 : decode b_Mo_others 234 = .ok (.sipush 233, 3) := by decide +kernel
theorem d_Mo_others_237 : decode b_Mo_others 237 = .ok (.if_icmp .eq 10, 3) := by decide +kernel
theorem d_Mo_others_240 : decode b_Mo_others 240 = .ok (.iload_n 1, 1) := by decide +kernel
theorem d_Mo_others_241 : decode b_Mo_others 241 = .ok (.sipush 235, 3) := by decide +kernel
theorem d_Mo_others_244 : decode b_Mo_others 244 = .ok (.if_icmp .ne 11, 3) := by decide +kernel
theorem d_Mo_others_255 : decode b_Mo_others 255 = .ok (.aload_n 0, 1) := by decide +kernel
theorem d_Mo_others_256 : decode b_Mo_others 256 = .ok (.bipush 6, 2) := by decide +kernel
theorem d_Mo_others_258 : decode b_Mo_others 258 = .ok (.invokevirtual 81, 3) := by decide +kernel
theorem d_Mo_others_219 : decode b_Mo_others 219 = .ok (.aload_n 0, 1) := by decide +kernel
theorem d_Mo_leaveFrame_0 : decode b_Mo_leaveFrame 0 = .ok (.aload_n 0, 1) := by decide +kernel
theorem d_Mo_leaveFrame_1 : decode b_Mo_leaveFrame 1 = .ok (.getfield 127, 3) := by decide +kernel
theorem d_Mo_leaveFrame_4 : decode b_Mo_leaveFrame 4 = .ok (.ifCond .eq 9, 3) := by decide +kernel
theorem d_Mo_leaveFrame_13 : decode b_Mo_leaveFrame 13 = .ok (.aload_n 0, 1) := by decide +kernel
theorem d_Mo_leaveFrame_14 : decode b_Mo_leaveFrame 14 = .ok (.getfield 14, 3) := by decide +kernel
theorem d_Mo_leaveFrame_17 : decode b_Mo_leaveFrame 17 = .ok (.iconst 4, 1) := by decide +kernel
theorem d_Mo_leaveFrame_18 : decode b_Mo_leaveFrame 18 = .ok (.aload_n 0, 1) := by decide +kernel
theorem d_Mo_leaveFrame_19 : decode b_Mo_leaveFrame 19 = .ok (.getfield 14, 3) := by decide +kernel
theorem d_Mo_leaveFrame_22 : decode b_Mo_leaveFrame 22 = .ok (.iconst 5, 1) := by decide +kernel
theorem d_Mo_leaveFrame_23 : decode b_Mo_leaveFrame 23 = .ok (.laload, 1) := by decide +kernel
theorem d_Mo_leaveFrame_24 : decode b_Mo_leaveFrame 24 = .ok (.lastore, 1) := by decide +kernel
theorem d_Mo_leaveFrame_25 : decode b_Mo_leaveFrame 25 = .ok (.aload_n 0, 1) := by decide +kernel
theorem d_Mo_leaveFrame_26 : decode b_Mo_leaveFrame 26 = .ok (.getfield 14, 3) := by decide +kernel
theorem d_Mo_leaveFrame_29 : decode b_Mo_leaveFrame 29 = .ok (.iconst 5, 1) := by decide +kernel
theorem d_Mo_leaveFrame_30 : decode b_Mo_leaveFrame 30 = .ok (.aload_n 0, 1) := by decide +kernel
theorem d_Mo_leaveFrame_31 : decode b_Mo_leaveFrame 31 = .ok (.bipush 8, 2) := by decide +kernel
theorem d_Mo_leaveFrame_33 : decode b_Mo_leaveFrame 33 = .ok (.invokevirtual 313, 3) := by decide +kernel
theorem d_Mo_leaveFrame_36 : decode b_Mo_leaveFrame 36 = .ok (.lastore, 1) := by decide +kernel
theorem d_Mo_leaveFrame_37 : decode b_Mo_leaveFrame 37 = .ok (.return_, 1) := by decide +kernel
theorem d_Mo_leaveFrame_7 : decode b_Mo_leaveFrame 7 = .ok (.aload_n 0, 1) := by decide +kernel
theorem d_Mo_leaveFrame_8 : decode b_Mo_leaveFrame 8 = .ok (.bipush 6, 2) := by decide +kernel
theorem d_Mo_leaveFrame_10 : decode b_Mo_leaveFrame 10 = .ok (.invokevirtual 81, 3) := by decide +kernel
theorem d_Mo_others_220 : decode b_Mo_others 220 = .ok (.invokevirtual 329, 3) := by decide +kernel
theorem d_Mo_others_223 : decode b_Mo_others 223 = .ok (.goto 38, 3) := by decide +kernel
theorem d_Mo_others_131 : decode b_Mo_others 131 = .ok (.aload_n 0, 1) := by decide +kernel
theorem d_Mo_others_132 : decode b_Mo_others 132 = .ok (.aload_n 0, 1) := by decide +kernel
theorem d_Mo_others_133 : decode b_Mo_others 133 = .ok (.aload_n 0, 1) := by decide +kernel
theorem d_Mo_others_134 : decode b_Mo_others 134 = .ok (.invokevirtual 307, 3) := by decide +kernel
theorem d_Mo_others_137 : decode b_Mo_others 137 = .ok (.invokevirtual 313, 3) := by decide +kernel
theorem d_Mo_others_140 : decode b_Mo_others 140 = .ok (.invokevirtual 316, 3) := by decide +kernel
theorem d_Mo_others_143 : decode b_Mo_others 143 = .ok (.goto 118, 3) := by decide +kernel
theorem d_Mo_others_105 : decode b_Mo_others 105 = .ok (.aload_n 0, 1) := by decide +kernel
theorem d_Mo_others_106 : decode b_Mo_others 106 = .ok (.aload_n 0, 1) := by decide +kernel
theorem d_Mo_others_107 : decode b_Mo_others 107 = .ok (.invokevirtual 304, 3) := by decide +kernel
theorem d_Mo_others_110 : decode b_Mo_others 110 = .ok (.ldc2_w 73, 3) := by decide +kernel
theorem d_Mo_others_113 : decode b_Mo_others 113 = .ok (.lor, 1) := by decide +kernel
theorem d_Mo_others_114 : decode b_Mo_others 114 = .ok (.aload_n 0, 1) := by decide +kernel
theorem d_Mo_others_115 : decode b_Mo_others 115 = .ok (.invokevirtual 307, 3) := by decide +kernel
theorem d_Mo_others_118 : decode b_Mo_others 118 = .ok (.invokevirtual 310, 3) := by decide +kernel
theorem d_Mo_others_121 : decode b_Mo_others 121 = .ok (.goto 140, 3) := by decide +kernel
theorem d_Mo_others_91 : decode b_Mo_others 91 = .ok (.aload_n 0, 1) := by decide +kernel
theorem d_Mo_popOperand_0 : decode b_Mo_popOperand 0 = .ok (.aload_n 0, 1) := by decide +kernel
theorem d_Mo_popOperand_1 : decode b_Mo_popOperand 1 = .ok (.invokevirtual 167, 3) := by decide +kernel
theorem d_Mo_popOperand_4 : decode b_Mo_popOperand 4 = .ok (.aload_n 0, 1) := by decide +kernel
theorem d_Mo_popOperand_5 : decode b_Mo_popOperand 5 = .ok (.getfield 139, 3) := by decide +kernel
theorem d_Mo_popOperand_8 : decode b_Mo_popOperand 8 = .ok (.ifCond .eq 9, 3) := by decide +kernel
theorem d_Mo_popOperand_17 : decode b_Mo_popOperand 17 = .ok (.aload_n 0, 1) := by decide +kernel
theorem d_Mo_popOperand_18 : decode b_Mo_popOperand 18 = .ok (.invokevirtual 170, 3) := by decide +kernel
theorem d_Mo_popOperand_21 : decode b_Mo_popOperand 21 = .ok (.aload_n 0, 1) := by decide +kernel
theorem d_Mo_popOperand_22 : decode b_Mo_popOperand 22 = .ok (.aload_n 0, 1) := by decide +kernel
theorem d_Mo_popOperand_23 : decode b_Mo_popOperand 23 = .ok (.getfield 111, 3) := by decide +kernel
theorem d_Mo_popOperand_26 : decode b_Mo_popOperand 26 = .ok (.aload_n 0, 1) := by decide +kernel
theorem d_Mo_popOperand_27 : decode b_Mo_popOperand 27 = .ok (.getfield 108, 3) := by decide +kernel
theorem d_Mo_popOperand_30 : decode b_Mo_popOperand 30 = .ok (.i2l, 1) := by decide +kernel
theorem d_Mo_popOperand_31 : decode b_Mo_popOperand 31 = .ok (.ladd, 1) := by decide +kernel
theorem d_Mo_popOperand_32 : decode b_Mo_popOperand 32 = .ok (.putfield 173, 3) := by decide +kernel
theorem d_Mo_popOperand_35 : decode b_Mo_popOperand 35 = .ok (.aload_n 0, 1) := by decide +kernel
theorem d_Mo_popOperand_36 : decode b_Mo_popOperand 36 = .ok (.aload_n 0, 1) := by decide +kernel
theorem d_Mo_popOperand_37 : decode b_Mo_popOperand 37 = .ok (.invokevirtual 307, 3) := by decide +kernel
theorem d_Mo_popOperand_40 : decode b_Mo_popOperand 40 = .ok (.invokevirtual 313, 3) := by decide +kernel
theorem d_Mo_popOperand_43 : decode b_Mo_popOperand 43 = .ok (.lstore_n 1, 1) := by decide +kernel
theorem d_Mo_popOperand_44 : decode b_Mo_popOperand 44 = .ok (.aload_n 0, 1) := by decide +kernel
theorem d_Mo_popOperand_45 : decode b_Mo_popOperand 45 = .ok (.aload_n 0, 1) := by decide +kernel
theorem d_Mo_popOperand_46 : decode b_Mo_popOperand 46 = .ok (.invokevirtual 307, 3) := by decide +kernel
theorem d_Mo_popOperand_49 : decode b_Mo_popOperand 49 = .ok (.iconst 1, 1) := by decide +kernel
theorem d_Mo_popOperand_50 : decode b_Mo_popOperand 50 = .ok (.invokevirtual 338, 3) := by decide +kernel
theorem d_Mo_popOperand_53 : decode b_Mo_popOperand 53 = .ok (.pop2, 1) := by decide +kernel
theorem d_Mo_popOperand_54 : decode b_Mo_popOperand 54 = .ok (.aload_n 0, 1) := by decide +kernel
theorem d_Mo_popOperand_55 : decode b_Mo_popOperand 55 = .ok (.aload_n 0, 1) := by decide +kernel
theorem d_Mo_popOperand_56 : decode b_Mo_popOperand 56 = .ok (.invokevirtual 307, 3) := by decide +kernel
theorem d_Mo_popOperand_59 : decode b_Mo_popOperand 59 = .ok (.lload_n 1, 1) := by decide +kernel
theorem d_Mo_popOperand_60 : decode b_Mo_popOperand 60 = .ok (.invokevirtual 348, 3) := by decide +kernel
theorem d_Mo_popOperand_63 : decode b_Mo_popOperand 63 = .ok (.return_, 1) := by decide +kernel
theorem d_Mo_popOperand_11 : decode b_Mo_popOperand 11 = .ok (.aload_n 0, 1) := by decide +kernel
theorem d_Mo_popOperand_12 : decode b_Mo_popOperand 12 = .ok (.bipush 6, 2) := by decide +kernel
theorem d_Mo_popOperand_14 : decode b_Mo_popOperand 14 = .ok (.invokevirtual 81, 3) := by decide +kernel
theorem d_Mo_others_92 : decode b_Mo_others 92 = .ok (.invokevirtual 301, 3) := by decide +kernel
theorem d_Mo_others_95 : decode b_Mo_others 95 = .ok (.goto 166, 3) := by decide +kernel
theorem d_Mo_others_77 : decode b_Mo_others 77 = .ok (.aload_n 0, 1) := by decide +kernel
theorem d_Mo_address_0 : decode b_Mo_address 0 = .ok (.aload_n 0, 1) := by decide +kernel
theorem d_Mo_address_1 : decode b_Mo_address 1 = .ok (.invokevirtual 167, 3) := by decide +kernel
theorem d_Mo_address_4 : decode b_Mo_address 4 = .ok (.aload_n 0, 1) := by decide +kernel
theorem d_Mo_address_5 : decode b_Mo_address 5 = .ok (.getfield 136, 3) := by decide +kernel
theorem d_Mo_address_8 : decode b_Mo_address 8 = .ok (.iconst 3, 1) := by decide +kernel
theorem d_Mo_address_9 : decode b_Mo_address 9 = .ok (.if_icmp .ne 9, 3) := by decide +kernel
theorem d_Mo_address_18 : decode b_Mo_address 18 = .ok (.aload_n 0, 1) := by decide +kernel
theorem d_Mo_address_19 : decode b_Mo_address 19 = .ok (.invokevirtual 170, 3) := by decide +kernel
theorem d_Mo_address_22 : decode b_Mo_address 22 = .ok (.aload_n 0, 1) := by decide +kernel
theorem d_Mo_address_23 : decode b_Mo_address 23 = .ok (.aload_n 0, 1) := by decide +kernel
theorem d_Mo_address_24 : decode b_Mo_address 24 = .ok (.getfield 111, 3) := by decide +kernel
theorem d_Mo_address_27 : decode b_Mo_address 27 = .ok (.aload_n 0, 1) := by decide +kernel
theorem d_Mo_address_28 : decode b_Mo_address 28 = .ok (.getfield 108, 3) := by decide +kernel
theorem d_Mo_address_31 : decode b_Mo_address 31 = .ok (.i2l, 1) := by decide +kernel
theorem d_Mo_address_32 : decode b_Mo_address 32 = .ok (.ladd, 1) := by decide +kernel
theorem d_Mo_address_33 : decode b_Mo_address 33 = .ok (.putfield 173, 3) := by decide +kernel
theorem d_Mo_address_36 : decode b_Mo_address 36 = .ok (.aload_n 0, 1) := by decide +kernel
theorem d_Mo_address_37 : decode b_Mo_address 37 = .ok (.getfield 28, 3) := by decide +kernel
theorem d_Mo_address_40 : decode b_Mo_address 40 = .ok (.iconst (-1), 1) := by decide +kernel
theorem d_Mo_address_41 : decode b_Mo_address 41 = .ok (.if_icmp .ne 15, 3) := by decide +kernel
theorem d_Mo_address_56 : decode b_Mo_address 56 = .ok (.return_, 1) := by decide +kernel
theorem d_Mo_address_44 : decode b_Mo_address 44 = .ok (.aload_n 0, 1) := by decide +kernel
theorem d_Mo_address_45 : decode b_Mo_address 45 = .ok (.aload_n 0, 1) := by decide +kernel
theorem d_Mo_address_46 : decode b_Mo_address 46 = .ok (.invokevirtual 235, 3) := by decide +kernel
theorem d_Mo_address_49 : decode b_Mo_address 49 = .ok (.aload_n 0, 1) := by decide +kernel
theorem d_Mo_address_50 : decode b_Mo_address 50 = .ok (.invokevirtual 193, 3) := by decide +kernel
theorem d_Mo_address_53 : decode b_Mo_address 53 = .ok (.invokevirtual 344, 3) := by decide +kernel
theorem d_Mo_address_12 : decode b_Mo_address 12 = .ok (.aload_n 0, 1) := by decide +kernel
theorem d_Mo_address_13 : decode b_Mo_address 13 = .ok (.bipush 6, 2) := by decide +kernel
theorem d_Mo_address_15 : decode b_Mo_address 15 = .ok (.invokevirtual 81, 3) := by decide +kernel
theorem d_Mo_others_78 : decode b_Mo_others 78 = .ok (.invokevirtual 298, 3) := by decide +kernel
theorem d_Mo_others_81 : decode b_Mo_others 81 = .ok (.goto 180, 3) := by decide +kernel
theorem d_Mo_others_6 : decode b_Mo_others 6 = .ok (.aload_n 0, 1) := by decide +kernel
theorem d_Mo_others_7 : decode b_Mo_others 7 = .ok (.aload_n 0, 1) := by decide +kernel
theorem d_Mo_others_8 : decode b_Mo_others 8 = .ok (.invokevirtual 235, 3) := by decide +kernel
theorem d_Mo_others_11 : decode b_Mo_others 11 = .ok (.aload_n 0, 1) := by decide +kernel
theorem d_Mo_others_12 : decode b_Mo_others 12 = .ok (.invokevirtual 235, 3) := by decide +kernel
theorem d_Mo_others_15 : decode b_Mo_others 15 = .ok (.iconst 2, 1) := by decide +kernel
theorem d_Mo_others_16 : decode b_Mo_others 16 = .ok (.if_icmp .ne 7, 3) := by decide +kernel
theorem d_Mo_others_23 : decode b_Mo_others 23 = .ok (.iconst 4, 1) := by decide +kernel
theorem d_Mo_extend_0 : decode b_Mo_extend 0 = .ok (.aload_n 0, 1) := by decide +kernel
theorem d_Mo_extend_1 : decode b_Mo_extend 1 = .ok (.invokevirtual 335, 3) := by decide +kernel
theorem d_Mo_extend_4 : decode b_Mo_extend 4 = .ok (.aload_n 0, 1) := by decide +kernel
theorem d_Mo_extend_5 : decode b_Mo_extend 5 = .ok (.iload_n 1, 1) := by decide +kernel
theorem d_Mo_extend_6 : decode b_Mo_extend 6 = .ok (.aload_n 0, 1) := by decide +kernel
theorem d_Mo_extend_7 : decode b_Mo_extend 7 = .ok (.iload_n 2, 1) := by decide +kernel
theorem d_Mo_extend_8 : decode b_Mo_extend 8 = .ok (.iconst 0, 1) := by decide +kernel
theorem d_Mo_extend_9 : decode b_Mo_extend 9 = .ok (.invokevirtual 338, 3) := by decide +kernel
theorem d_Mo_extend_12 : decode b_Mo_extend 12 = .ok (.iload_n 2, 1) := by decide +kernel
theorem d_Mo_extend_13 : decode b_Mo_extend 13 = .ok (.invokestatic 118, 3) := by decide +kernel
theorem d_Mo_extend_16 : decode b_Mo_extend 16 = .ok (.invokevirtual 344, 3) := by decide +kernel
theorem d_Mo_extend_19 : decode b_Mo_extend 19 = .ok (.return_, 1) := by decide +kernel
theorem d_Mo_others_24 : decode b_Mo_others 24 = .ok (.invokevirtual 289, 3) := by decide +kernel
theorem d_Mo_others_27 : decode b_Mo_others 27 = .ok (.goto 234, 3) := by decide +kernel
theorem d_Mo_others_19 : decode b_Mo_others 19 = .ok (.iconst 2, 1) := by decide +kernel
theorem d_Mo_others_20 : decode b_Mo_others 20 = .ok (.goto 4, 3) := by decide +kernel
theorem d_Mo_first_412 : decode b_Mo_first 412 = .ok (.invokevirtual 286, 3) := by decide +kernel
theorem d_Mo_first_249 : decode b_Mo_first 249 = .ok (.iload_n 1, 1) := by decide +kernel
theorem d_Mo_first_250 : decode b_Mo_first 250 = .ok (.sipush 227, 3) := by decide +kernel
theorem d_Mo_first_253 : decode b_Mo_first 253 = .ok (.if_icmp .gt 11, 3) := by decide +kernel
theorem d_Mo_first_256 : decode b_Mo_first 256 = .ok (.aload_n 0, 1) := by decide +kernel
theorem d_Mo_first_257 : decode b_Mo_first 257 = .ok (.iload_n 1, 1) := by decide +kernel
theorem d_Mo_loop_0 : decode b_Mo_loop 0 = .ok (.aload_n 0, 1) := by decide +kernel
theorem d_Mo_loop_1 : decode b_Mo_loop 1 = .ok (.getfield 127, 3) := by decide +kernel
theorem d_Mo_loop_4 : decode b_Mo_loop 4 = .ok (.ifCond .eq 9, 3) := by decide +kernel
theorem d_Mo_loop_13 : decode b_Mo_loop 13 = .ok (.aload_n 0, 1) := by decide +kernel
theorem d_Mo_loop_14 : decode b_Mo_loop 14 = .ok (.iconst 1, 1) := by decide +kernel
theorem d_Mo_loop_15 : decode b_Mo_loop 15 = .ok (.invokevirtual 373, 3) := by decide +kernel
theorem d_Mo_loop_18 : decode b_Mo_loop 18 = .ok (.lstore_n 2, 1) := by decide +kernel
theorem d_Mo_loop_19 : decode b_Mo_loop 19 = .ok (.iload_n 1, 1) := by decide +kernel
theorem d_Mo_loop_20 : decode b_Mo_loop 20 = .ok (.sipush 227, 3) := by decide +kernel
theorem d_Mo_loop_23 : decode b_Mo_loop 23 = .ok (.if_icmp .eq 13, 3) := by decide +kernel
theorem d_Mo_loop_36 : decode b_Mo_loop 36 = .ok (.iload_n 1, 1) := by decide +kernel
theorem d_Mo_loop_37 : decode b_Mo_loop 37 = .ok (.sipush 227, 3) := by decide +kernel
theorem d_Mo_loop_40 : decode b_Mo_loop 40 = .ok (.if_icmp .ne 22, 3) := by decide +kernel
theorem d_Mo_loop_62 : decode b_Mo_loop 62 = .ok (.aload_n 0, 1) := by decide +kernel
theorem d_Mo_loop_63 : decode b_Mo_loop 63 = .ok (.getfield 14, 3) := by decide +kernel
theorem d_Mo_loop_66 : decode b_Mo_loop 66 = .ok (.iconst 1, 1) := by decide +kernel
theorem d_Mo_loop_67 : decode b_Mo_loop 67 = .ok (.laload, 1) := by decide +kernel
theorem d_Mo_loop_68 : decode b_Mo_loop 68 = .ok (.lconst 0, 1) := by decide +kernel
theorem d_Mo_loop_69 : decode b_Mo_loop 69 = .ok (.lcmp, 1) := by decide +kernel
theorem d_Mo_loop_70 : decode b_Mo_loop 70 = .ok (.ifCond .eq 35, 3) := by decide +kernel
theorem d_Mo_loop_105 : decode b_Mo_loop 105 = .ok (.iconst 0, 1) := by decide +kernel
theorem d_Mo_loop_106 : decode b_Mo_loop 106 = .ok (.istore 4, 2) := by decide +kernel
theorem d_Mo_loop_108 : decode b_Mo_loop 108 = .ok (.iload 4, 2) := by decide +kernel
theorem d_Mo_loop_110 : decode b_Mo_loop 110 = .ok (.ifCond .eq 21, 3) := by decide +kernel
theorem d_Mo_loop_131 : decode b_Mo_loop 131 = .ok (.return_, 1) := by decide +kernel
theorem d_Mo_loop_113 : decode b_Mo_loop 113 = .ok (.aload_n 0, 1) := by decide +kernel
theorem d_Mo_loop_114 : decode b_Mo_loop 114 = .ok (.getfield 28, 3) := by decide +kernel
theorem d_Mo_loop_117 : decode b_Mo_loop 117 = .ok (.iconst (-1), 1) := by decide +kernel
theorem d_Mo_loop_118 : decode b_Mo_loop 118 = .ok (.if_icmp .ne 13, 3) := by decide +kernel
theorem d_Mo_loop_121 : decode b_Mo_loop 121 = .ok (.aload_n 0, 1) := by decide +kernel
theorem d_Mo_loop_122 : decode b_Mo_loop 122 = .ok (.aload_n 0, 1) := by decide +kernel
theorem d_Mo_loop_123 : decode b_Mo_loop 123 = .ok (.getfield 173, 3) := by decide +kernel
theorem d_Mo_loop_126 : decode b_Mo_loop 126 = .ok (.lload_n 2, 1) := by decide +kernel
theorem d_Mo_loop_127 : decode b_Mo_loop 127 = .ok (.ladd, 1) := by decide +kernel
theorem d_Mo_loop_128 : decode b_Mo_loop 128 = .ok (.invokevirtual 431, 3) := by decide +kernel
theorem d_Mo_loop_73 : decode b_Mo_loop 73 = .ok (.iload_n 1, 1) := by decide +kernel
theorem d_Mo_loop_74 : decode b_Mo_loop 74 = .ok (.sipush 226, 3) := by decide +kernel
theorem d_Mo_loop_77 : decode b_Mo_loop 77 = .ok (.if_icmp .eq 24, 3) := by decide +kernel
theorem d_Mo_loop_101 : decode b_Mo_loop 101 = .ok (.iconst 1, 1) := by decide +kernel
theorem d_Mo_loop_102 : decode b_Mo_loop 102 = .ok (.goto 4, 3) := by decide +kernel
theorem d_Mo_loop_80 : decode b_Mo_loop 80 = .ok (.aload_n 0, 1) := by decide +kernel
theorem d_Mo_loop_81 : decode b_Mo_loop 81 = .ok (.getfield 21, 3) := by decide +kernel
theorem d_Mo_loop_84 : decode b_Mo_loop 84 = .ok (.iconst 3, 1) := by decide +kernel
theorem d_Mo_loop_85 : decode b_Mo_loop 85 = .ok (.baload, 1) := by decide +kernel
theorem d_Mo_loop_86 : decode b_Mo_loop 86 = .ok (.iload_n 1, 1) := by decide +kernel
theorem d_Mo_loop_87 : decode b_Mo_loop 87 = .ok (.sipush 225, 3) := by decide +kernel
theorem d_Mo_loop_90 : decode b_Mo_loop 90 = .ok (.if_icmp .ne 7, 3) := by decide +kernel
theorem d_Mo_loop_97 : decode b_Mo_loop 97 = .ok (.iconst 0, 1) := by decide +kernel
theorem d_Mo_loop_98 : decode b_Mo_loop 98 = .ok (.if_icmp .ne 7, 3) := by decide +kernel
theorem d_Mo_loop_93 : decode b_Mo_loop 93 = .ok (.iconst 1, 1) := by decide +kernel
theorem d_Mo_loop_94 : decode b_Mo_loop 94 = .ok (.goto 4, 3) := by decide +kernel
theorem d_Mo_loop_43 : decode b_Mo_loop 43 = .ok (.aload_n 0, 1) := by decide +kernel
theorem d_Mo_loop_44 : decode b_Mo_loop 44 = .ok (.getfield 14, 3) := by decide +kernel
theorem d_Mo_loop_47 : decode b_Mo_loop 47 = .ok (.iconst 1, 1) := by decide +kernel
theorem d_Mo_loop_48 : decode b_Mo_loop 48 = .ok (.laload, 1) := by decide +kernel
theorem d_Mo_loop_49 : decode b_Mo_loop 49 = .ok (.lconst 0, 1) := by decide +kernel
theorem d_Mo_loop_50 : decode b_Mo_loop 50 = .ok (.lcmp, 1) := by decide +kernel
theorem d_Mo_loop_51 : decode b_Mo_loop 51 = .ok (.ifCond .ne 7, 3) := by decide +kernel
theorem d_Mo_loop_58 : decode b_Mo_loop 58 = .ok (.iconst 0, 1) := by decide +kernel
theorem d_Mo_loop_59 : decode b_Mo_loop 59 = .ok (.goto 47, 3) := by decide +kernel
theorem d_Mo_loop_54 : decode b_Mo_loop 54 = .ok (.iconst 1, 1) := by decide +kernel
theorem d_Mo_loop_55 : decode b_Mo_loop 55 = .ok (.goto 51, 3) := by decide +kernel
theorem d_Mo_loop_26 : decode b_Mo_loop 26 = .ok (.aload_n 0, 1) := by decide +kernel
theorem d_Mo_loop_27 : decode b_Mo_loop 27 = .ok (.getfield 14, 3) := by decide +kernel
theorem d_Mo_loop_30 : decode b_Mo_loop 30 = .ok (.iconst 1, 1) := by decide +kernel
theorem d_Mo_loop_31 : decode b_Mo_loop 31 = .ok (.dup2, 1) := by decide +kernel
theorem d_Mo_loop_32 : decode b_Mo_loop 32 = .ok (.laload, 1) := by decide +kernel
theorem d_Mo_loop_33 : decode b_Mo_loop 33 = .ok (.lconst 1, 1) := by decide +kernel
theorem d_Mo_loop_34 : decode b_Mo_loop 34 = .ok (.lsub, 1) := by decide +kernel
theorem d_Mo_loop_35 : decode b_Mo_loop 35 = .ok (.lastore, 1) := by decide +kernel
theorem d_Mo_loop_7 : decode b_Mo_loop 7 = .ok (.aload_n 0, 1) := by decide +kernel
theorem d_Mo_loop_8 : decode b_Mo_loop 8 = .ok (.bipush 6, 2) := by decide +kernel
theorem d_Mo_loop_10 : decode b_Mo_loop 10 = .ok (.invokevirtual 81, 3) := by decide +kernel
theorem d_Mo_first_258 : decode b_Mo_first 258 = .ok (.invokevirtual 277, 3) := by decide +kernel
theorem d_Mo_first_261 : decode b_Mo_first 261 = .ok (.goto 154, 3) := by decide +kernel
theorem d_Mo_first_226 : decode b_Mo_first 226 = .ok (.iload_n 1, 1) := by decide +kernel
theorem d_Mo_first_227 : decode b_Mo_first 227 = .ok (.sipush 211, 3) := by decide +kernel
theorem d_Mo_first_230 : decode b_Mo_first 230 = .ok (.if_icmp .gt 12, 3) := by decide +kernel
theorem d_Mo_first_190 : decode b_Mo_first 190 = .ok (.iload_n 1, 1) := by decide +kernel
theorem d_Mo_first_191 : decode b_Mo_first 191 = .ok (.sipush 191, 3) := by decide +kernel
theorem d_Mo_first_194 : decode b_Mo_first 194 = .ok (.if_icmp .gt 11, 3) := by decide +kernel
theorem d_Mo_first_197 : decode b_Mo_first 197 = .ok (.aload_n 0, 1) := by decide +kernel
theorem d_Mo_first_198 : decode b_Mo_first 198 = .ok (.iload_n 1, 1) := by decide +kernel
theorem d_Mo_immediate_0 : decode b_Mo_immediate 0 = .ok (.iload_n 1, 1) := by decide +kernel
theorem d_Mo_immediate_1 : decode b_Mo_immediate 1 = .ok (.sipush 184, 3) := by decide +kernel
theorem d_Mo_immediate_4 : decode b_Mo_immediate 4 = .ok (.if_icmp .ge 7, 3) := by decide +kernel
theorem d_Mo_immediate_11 : decode b_Mo_immediate 11 = .ok (.aload_n 0, 1) := by decide +kernel
theorem d_Mo_immediate_12 : decode b_Mo_immediate 12 = .ok (.invokevirtual 235, 3) := by decide +kernel
theorem d_Mo_immediate_15 : decode b_Mo_immediate 15 = .ok (.istore_n 2, 1) := by decide +kernel
theorem d_Mo_immediate_16 : decode b_Mo_immediate 16 = .ok (.aload_n 0, 1) := by decide +kernel
theorem d_Mo_immediate_17 : decode b_Mo_immediate 17 = .ok (.iload_n 2, 1) := by decide +kernel
theorem d_Mo_immediate_18 : decode b_Mo_immediate 18 = .ok (.invokevirtual 373, 3) := by decide +kernel
theorem d_Mo_immediate_21 : decode b_Mo_immediate 21 = .ok (.lstore_n 3, 1) := by decide +kernel
theorem d_Mo_immediate_22 : decode b_Mo_immediate 22 = .ok (.aload_n 0, 1) := by decide +kernel
theorem d_Mo_immediate_23 : decode b_Mo_immediate 23 = .ok (.iload_n 1, 1) := by decide +kernel
theorem d_Mo_immediate_24 : decode b_Mo_immediate 24 = .ok (.bipush 8, 2) := by decide +kernel
theorem d_Mo_immediate_26 : decode b_Mo_immediate 26 = .ok (.irem, 1) := by decide +kernel
theorem d_Mo_immediate_27 : decode b_Mo_immediate 27 = .ok (.aload_n 0, 1) := by decide +kernel
theorem d_Mo_immediate_28 : decode b_Mo_immediate 28 = .ok (.iconst 1, 1) := by decide +kernel
theorem d_Mo_immediate_29 : decode b_Mo_immediate 29 = .ok (.invokevirtual 157, 3) := by decide +kernel
theorem d_Mo_immediate_32 : decode b_Mo_immediate 32 = .ok (.iadd, 1) := by decide +kernel
theorem d_Mo_immediate_33 : decode b_Mo_immediate 33 = .ok (.iload_n 2, 1) := by decide +kernel
theorem d_Mo_immediate_34 : decode b_Mo_immediate 34 = .ok (.lload_n 3, 1) := by decide +kernel
theorem d_Mo_immediate_35 : decode b_Mo_immediate 35 = .ok (.invokevirtual 189, 3) := by decide +kernel
theorem d_Mo_immediate_38 : decode b_Mo_immediate 38 = .ok (.return_, 1) := by decide +kernel
theorem d_Mo_immediate_7 : decode b_Mo_immediate 7 = .ok (.iconst 1, 1) := by decide +kernel
theorem d_Mo_immediate_8 : decode b_Mo_immediate 8 = .ok (.goto 7, 3) := by decide +kernel
theorem d_Mo_first_199 : decode b_Mo_first 199 = .ok (.invokevirtual 271, 3) := by decide +kernel
theorem d_Mo_first_202 : decode b_Mo_first 202 = .ok (.goto 213, 3) := by decide +kernel
theorem d_Mo_first_149 : decode b_Mo_first 149 = .ok (.iload_n 1, 1) := by decide +kernel
theorem d_Mo_first_150 : decode b_Mo_first 150 = .ok (.sipush 175, 3) := by decide +kernel
theorem d_Mo_first_153 : decode b_Mo_first 153 = .ok (.if_icmp .gt 30, 3) := by decide +kernel
theorem d_Mo_first_156 : decode b_Mo_first 156 = .ok (.iload_n 1, 1) := by decide +kernel
theorem d_Mo_first_157 : decode b_Mo_first 157 = .ok (.sipush 168, 3) := by decide +kernel
theorem d_Mo_first_160 : decode b_Mo_first 160 = .ok (.if_icmp .eq 23, 3) := by decide +kernel
theorem d_Mo_first_163 : decode b_Mo_first 163 = .ok (.iload_n 1, 1) := by decide +kernel
theorem d_Mo_first_164 : decode b_Mo_first 164 = .ok (.sipush 169, 3) := by decide +kernel
theorem d_Mo_first_167 : decode b_Mo_first 167 = .ok (.if_icmp .eq 16, 3) := by decide +kernel
theorem d_Mo_first_170 : decode b_Mo_first 170 = .ok (.aload_n 0, 1) := by decide +kernel
theorem d_Mo_first_171 : decode b_Mo_first 171 = .ok (.iload_n 1, 1) := by decide +kernel
theorem d_Mo_first_172 : decode b_Mo_first 172 = .ok (.sipush 254, 3) := by decide +kernel
theorem d_Mo_first_175 : decode b_Mo_first 175 = .ok (.iand, 1) := by decide +kernel
theorem d_Mo_first_176 : decode b_Mo_first 176 = .ok (.iload_n 2, 1) := by decide +kernel
theorem d_Mo_string_0 : decode b_Mo_string 0 = .ok (.aload_n 0, 1) := by decide +kernel
theorem d_Mo_string_1 : decode b_Mo_string 1 = .ok (.getfield 124, 3) := by decide +kernel
theorem d_Mo_string_4 : decode b_Mo_string 4 = .ok (.ifCond .eq 15, 3) := by decide +kernel
theorem d_Mo_string_19 : decode b_Mo_string 19 = .ok (.iload_n 1, 1) := by decide +kernel
theorem d_Mo_string_20 : decode b_Mo_string 20 = .ok (.sipush 164, 3) := by decide +kernel
theorem d_Mo_string_23 : decode b_Mo_string 23 = .ok (.if_icmp .eq 17, 3) := by decide +kernel
theorem d_Mo_string_40 : decode b_Mo_string 40 = .ok (.iconst 1, 1) := by decide +kernel
theorem d_Mo_string_41 : decode b_Mo_string 41 = .ok (.goto 4, 3) := by decide +kernel
theorem d_Mo_string_45 : decode b_Mo_string 45 = .ok (.istore_n 3, 1) := by decide +kernel
theorem d_Mo_string_46 : decode b_Mo_string 46 = .ok (.iload_n 1, 1) := by decide +kernel
theorem d_Mo_string_47 : decode b_Mo_string 47 = .ok (.sipush 166, 3) := by decide +kernel
theorem d_Mo_string_50 : decode b_Mo_string 50 = .ok (.if_icmp .eq 10, 3) := by decide +kernel
theorem d_Mo_string_60 : decode b_Mo_string 60 = .ok (.iconst 1, 1) := by decide +kernel
theorem d_Mo_string_61 : decode b_Mo_string 61 = .ok (.goto 4, 3) := by decide +kernel
theorem d_Mo_string_65 : decode b_Mo_string 65 = .ok (.istore 4, 2) := by decide +kernel
theorem d_Mo_string_67 : decode b_Mo_string 67 = .ok (.iload_n 1, 1) := by decide +kernel
theorem d_Mo_string_68 : decode b_Mo_string 68 = .ok (.sipush 172, 3) := by decide +kernel
theorem d_Mo_string_71 : decode b_Mo_string 71 = .ok (.if_icmp .eq 7, 3) := by decide +kernel
theorem d_Mo_string_78 : decode b_Mo_string 78 = .ok (.iconst 0, 1) := by decide +kernel
theorem d_Mo_string_79 : decode b_Mo_string 79 = .ok (.istore 5, 2) := by decide +kernel
theorem d_Mo_string_81 : decode b_Mo_string 81 = .ok (.iload_n 3, 1) := by decide +kernel
theorem d_Mo_string_82 : decode b_Mo_string 82 = .ok (.ifCond .eq 19, 3) := by decide +kernel
theorem d_Mo_string_101 : decode b_Mo_string 101 = .ok (.aload_n 0, 1) := by decide +kernel
theorem d_Mo_string_102 : decode b_Mo_string 102 = .ok (.iconst 0, 1) := by decide +kernel
theorem d_Mo_string_103 : decode b_Mo_string 103 = .ok (.iload_n 2, 1) := by decide +kernel
theorem d_Mo_string_104 : decode b_Mo_string 104 = .ok (.invokevirtual 185, 3) := by decide +kernel
theorem d_Mo_string_107 : decode b_Mo_string 107 = .ok (.lstore 6, 2) := by decide +kernel
theorem d_Mo_string_109 : decode b_Mo_string 109 = .ok (.iload 4, 2) := by decide +kernel
theorem d_Mo_string_111 : decode b_Mo_string 111 = .ok (.ifCond .eq 29, 3) := by decide +kernel
theorem d_Mo_string_140 : decode b_Mo_string 140 = .ok (.iload 5, 2) := by decide +kernel
theorem d_Mo_string_142 : decode b_Mo_string 142 = .ok (.ifCond .eq 27, 3) := by decide +kernel
theorem d_Mo_string_169 : decode b_Mo_string 169 = .ok (.aload_n 0, 1) := by decide +kernel
theorem d_Mo_string_170 : decode b_Mo_string 170 = .ok (.iconst 0, 1) := by decide +kernel
theorem d_Mo_string_171 : decode b_Mo_string 171 = .ok (.iload_n 2, 1) := by decide +kernel
theorem d_Mo_string_172 : decode b_Mo_string 172 = .ok (.lload 6, 2) := by decide +kernel
theorem d_Mo_string_174 : decode b_Mo_string 174 = .ok (.invokevirtual 189, 3) := by decide +kernel
theorem d_Mo_string_177 : decode b_Mo_string 177 = .ok (.aload_n 0, 1) := by decide +kernel
theorem d_Mo_string_178 : decode b_Mo_string 178 = .ok (.getfield 21, 3) := by decide +kernel
theorem d_Mo_string_181 : decode b_Mo_string 181 = .ok (.iconst 5, 1) := by decide +kernel
theorem d_Mo_string_182 : decode b_Mo_string 182 = .ok (.baload, 1) := by decide +kernel
theorem d_Mo_string_183 : decode b_Mo_string 183 = .ok (.ifCond .eq 9, 3) := by decide +kernel
theorem d_Mo_string_192 : decode b_Mo_string 192 = .ok (.iload_n 2, 1) := by decide +kernel
theorem d_Mo_string_193 : decode b_Mo_string 193 = .ok (.i2l, 1) := by decide +kernel
theorem d_Mo_string_194 : decode b_Mo_string 194 = .ok (.lstore 8, 2) := by decide +kernel
theorem d_Mo_string_196 : decode b_Mo_string 196 = .ok (.aload_n 0, 1) := by decide +kernel
theorem d_Mo_string_197 : decode b_Mo_string 197 = .ok (.getfield 14, 3) := by decide +kernel
theorem d_Mo_string_200 : decode b_Mo_string 200 = .ok (.bipush 6, 2) := by decide +kernel
theorem d_Mo_string_202 : decode b_Mo_string 202 = .ok (.dup2, 1) := by decide +kernel
theorem d_Mo_string_203 : decode b_Mo_string 203 = .ok (.laload, 1) := by decide +kernel
theorem d_Mo_string_204 : decode b_Mo_string 204 = .ok (.iload_n 3, 1) := by decide +kernel
theorem d_Mo_string_205 : decode b_Mo_string 205 = .ok (.ifCond .eq 8, 3) := by decide +kernel
theorem d_Mo_string_213 : decode b_Mo_string 213 = .ok (.lconst 0, 1) := by decide +kernel
theorem d_Mo_string_214 : decode b_Mo_string 214 = .ok (.ladd, 1) := by decide +kernel
theorem d_Mo_string_215 : decode b_Mo_string 215 = .ok (.lastore, 1) := by decide +kernel
theorem d_Mo_string_216 : decode b_Mo_string 216 = .ok (.aload_n 0, 1) := by decide +kernel
theorem d_Mo_string_217 : decode b_Mo_string 217 = .ok (.getfield 14, 3) := by decide +kernel
theorem d_Mo_string_220 : decode b_Mo_string 220 = .ok (.bipush 7, 2) := by decide +kernel
theorem d_Mo_string_222 : decode b_Mo_string 222 = .ok (.dup2, 1) := by decide +kernel
theorem d_Mo_string_223 : decode b_Mo_string 223 = .ok (.laload, 1) := by decide +kernel
theorem d_Mo_string_224 : decode b_Mo_string 224 = .ok (.iload 5, 2) := by decide +kernel
theorem d_Mo_string_226 : decode b_Mo_string 226 = .ok (.ifCond .eq 8, 3) := by decide +kernel
theorem d_Mo_string_234 : decode b_Mo_string 234 = .ok (.lconst 0, 1) := by decide +kernel
theorem d_Mo_string_235 : decode b_Mo_string 235 = .ok (.ladd, 1) := by decide +kernel
theorem d_Mo_string_236 : decode b_Mo_string 236 = .ok (.lastore, 1) := by decide +kernel
theorem d_Mo_string_237 : decode b_Mo_string 237 = .ok (.aload_n 0, 1) := by decide +kernel
theorem d_Mo_string_238 : decode b_Mo_string 238 = .ok (.getfield 124, 3) := by decide +kernel
theorem d_Mo_string_241 : decode b_Mo_string 241 = .ok (.ifCond .ne 4, 3) := by decide +kernel
theorem d_Mo_string_245 : decode b_Mo_string 245 = .ok (.aload_n 0, 1) := by decide +kernel
theorem d_Mo_string_246 : decode b_Mo_string 246 = .ok (.getfield 14, 3) := by decide +kernel
theorem d_Mo_string_249 : decode b_Mo_string 249 = .ok (.iconst 1, 1) := by decide +kernel
theorem d_Mo_string_250 : decode b_Mo_string 250 = .ok (.dup2, 1) := by decide +kernel
theorem d_Mo_string_251 : decode b_Mo_string 251 = .ok (.laload, 1) := by decide +kernel
theorem d_Mo_string_252 : decode b_Mo_string 252 = .ok (.lconst 1, 1) := by decide +kernel
theorem d_Mo_string_253 : decode b_Mo_string 253 = .ok (.lsub, 1) := by decide +kernel
theorem d_Mo_string_254 : decode b_Mo_string 254 = .ok (.lastore, 1) := by decide +kernel
theorem d_Mo_string_255 : decode b_Mo_string 255 = .ok (.aload_n 0, 1) := by decide +kernel
theorem d_Mo_string_256 : decode b_Mo_string 256 = .ok (.getfield 14, 3) := by decide +kernel
theorem d_Mo_string_259 : decode b_Mo_string 259 = .ok (.iconst 1, 1) := by decide +kernel
theorem d_Mo_string_260 : decode b_Mo_string 260 = .ok (.laload, 1) := by decide +kernel
theorem d_Mo_string_261 : decode b_Mo_string 261 = .ok (.lconst 0, 1) := by decide +kernel
theorem d_Mo_string_262 : decode b_Mo_string 262 = .ok (.lcmp, 1) := by decide +kernel
theorem d_Mo_string_263 : decode b_Mo_string 263 = .ok (.ifCond .eq 32, 3) := by decide +kernel
theorem d_Mo_string_295 : decode b_Mo_string 295 = .ok (.iconst 1, 1) := by decide +kernel
theorem d_Mo_string_296 : decode b_Mo_string 296 = .ok (.goto 4, 3) := by decide +kernel
theorem d_Mo_string_300 : decode b_Mo_string 300 = .ok (.istore 10, 2) := by decide +kernel
theorem d_Mo_string_302 : decode b_Mo_string 302 = .ok (.iload 10, 2) := by decide +kernel
theorem d_Mo_string_304 : decode b_Mo_string 304 = .ok (.ifCond .ne 11, 3) := by decide +kernel
theorem d_Mo_string_315 : decode b_Mo_string 315 = .ok (.return_, 1) := by decide +kernel
theorem d_Mo_string_307 : decode b_Mo_string 307 = .ok (.aload_n 0, 1) := by decide +kernel
theorem d_Mo_string_308 : decode b_Mo_string 308 = .ok (.aload_n 0, 1) := by decide +kernel
theorem d_Mo_string_309 : decode b_Mo_string 309 = .ok (.getfield 111, 3) := by decide +kernel
theorem d_Mo_string_312 : decode b_Mo_string 312 = .ok (.putfield 173, 3) := by decide +kernel
theorem d_Mo_string_266 : decode b_Mo_string 266 = .ok (.iload 4, 2) := by decide +kernel
theorem d_Mo_string_268 : decode b_Mo_string 268 = .ok (.ifCond .eq 31, 3) := by decide +kernel
theorem d_Mo_string_299 : decode b_Mo_string 299 = .ok (.iconst 0, 1) := by decide +kernel
theorem d_Mo_string_271 : decode b_Mo_string 271 = .ok (.aload_n 0, 1) := by decide +kernel
theorem d_Mo_string_272 : decode b_Mo_string 272 = .ok (.getfield 21, 3) := by decide +kernel
theorem d_Mo_string_275 : decode b_Mo_string 275 = .ok (.iconst 3, 1) := by decide +kernel
theorem d_Mo_string_276 : decode b_Mo_string 276 = .ok (.baload, 1) := by decide +kernel
theorem d_Mo_string_277 : decode b_Mo_string 277 = .ok (.aload_n 0, 1) := by decide +kernel
theorem d_Mo_string_278 : decode b_Mo_string 278 = .ok (.getfield 124, 3) := by decide +kernel
theorem d_Mo_string_281 : decode b_Mo_string 281 = .ok (.sipush 242, 3) := by decide +kernel
theorem d_Mo_string_284 : decode b_Mo_string 284 = .ok (.if_icmp .ne 7, 3) := by decide +kernel
theorem d_Mo_string_291 : decode b_Mo_string 291 = .ok (.iconst 0, 1) := by decide +kernel
theorem d_Mo_string_292 : decode b_Mo_string 292 = .ok (.if_icmp .ne 7, 3) := by decide +kernel
theorem d_Mo_string_287 : decode b_Mo_string 287 = .ok (.iconst 1, 1) := by decide +kernel
theorem d_Mo_string_288 : decode b_Mo_string 288 = .ok (.goto 4, 3) := by decide +kernel
theorem d_Mo_string_244 : decode b_Mo_string 244 = .ok (.return_, 1) := by decide +kernel
theorem d_Mo_string_229 : decode b_Mo_string 229 = .ok (.lload 8, 2) := by decide +kernel
theorem d_Mo_string_231 : decode b_Mo_string 231 = .ok (.goto 4, 3) := by decide +kernel
theorem d_Mo_string_208 : decode b_Mo_string 208 = .ok (.lload 8, 2) := by decide +kernel
theorem d_Mo_string_210 : decode b_Mo_string 210 = .ok (.goto 4, 3) := by decide +kernel
theorem d_Mo_string_186 : decode b_Mo_string 186 = .ok (.iload_n 2, 1) := by decide +kernel
theorem d_Mo_string_187 : decode b_Mo_string 187 = .ok (.ineg, 1) := by decide +kernel
theorem d_Mo_string_188 : decode b_Mo_string 188 = .ok (.i2l, 1) := by decide +kernel
theorem d_Mo_string_189 : decode b_Mo_string 189 = .ok (.goto 5, 3) := by decide +kernel
theorem d_Mo_string_145 : decode b_Mo_string 145 = .ok (.aload_n 0, 1) := by decide +kernel
theorem d_Mo_string_146 : decode b_Mo_string 146 = .ok (.aload_n 0, 1) := by decide +kernel
theorem d_Mo_string_147 : decode b_Mo_string 147 = .ok (.getfield 14, 3) := by decide +kernel
theorem d_Mo_string_150 : decode b_Mo_string 150 = .ok (.bipush 7, 2) := by decide +kernel
theorem d_Mo_string_152 : decode b_Mo_string 152 = .ok (.laload, 1) := by decide +kernel
theorem d_Mo_string_153 : decode b_Mo_string 153 = .ok (.iload_n 2, 1) := by decide +kernel
theorem d_Mo_string_154 : decode b_Mo_string 154 = .ok (.iconst 1, 1) := by decide +kernel
theorem d_Mo_string_155 : decode b_Mo_string 155 = .ok (.iconst 0, 1) := by decide +kernel
theorem d_Mo_string_156 : decode b_Mo_string 156 = .ok (.invokevirtual 95, 3) := by decide +kernel
theorem d_Mo_string_159 : decode b_Mo_string 159 = .ok (.aload_n 0, 1) := by decide +kernel
theorem d_Mo_string_160 : decode b_Mo_string 160 = .ok (.lload 6, 2) := by decide +kernel
theorem d_Mo_string_162 : decode b_Mo_string 162 = .ok (.iload_n 2, 1) := by decide +kernel
theorem d_Mo_string_163 : decode b_Mo_string 163 = .ok (.invokevirtual 201, 3) := by decide +kernel
theorem d_Mo_string_166 : decode b_Mo_string 166 = .ok (.goto 11, 3) := by decide +kernel
theorem d_Mo_string_114 : decode b_Mo_string 114 = .ok (.aload_n 0, 1) := by decide +kernel
theorem d_Mo_string_115 : decode b_Mo_string 115 = .ok (.lload 6, 2) := by decide +kernel
theorem d_Mo_string_117 : decode b_Mo_string 117 = .ok (.aload_n 0, 1) := by decide +kernel
theorem d_Mo_string_118 : decode b_Mo_string 118 = .ok (.aload_n 0, 1) := by decide +kernel
theorem d_Mo_string_119 : decode b_Mo_string 119 = .ok (.getfield 14, 3) := by decide +kernel
theorem d_Mo_string_122 : decode b_Mo_string 122 = .ok (.bipush 7, 2) := by decide +kernel
theorem d_Mo_string_124 : decode b_Mo_string 124 = .ok (.laload, 1) := by decide +kernel
theorem d_Mo_string_125 : decode b_Mo_string 125 = .ok (.iload_n 2, 1) := by decide +kernel
theorem d_Mo_string_126 : decode b_Mo_string 126 = .ok (.iconst 0, 1) := by decide +kernel
theorem d_Mo_string_127 : decode b_Mo_string 127 = .ok (.invokevirtual 434, 3) := by decide +kernel
theorem d_Mo_string_130 : decode b_Mo_string 130 = .ok (.iconst 0, 1) := by decide +kernel
theorem d_Mo_string_131 : decode b_Mo_string 131 = .ok (.iconst 1, 1) := by decide +kernel
theorem d_Mo_string_132 : decode b_Mo_string 132 = .ok (.iload_n 2, 1) := by decide +kernel
theorem d_Mo_string_133 : decode b_Mo_string 133 = .ok (.invokevirtual 225, 3) := by decide +kernel
theorem d_Mo_string_136 : decode b_Mo_string 136 = .ok (.pop2, 1) := by decide +kernel
theorem d_Mo_string_137 : decode b_Mo_string 137 = .ok (.goto 40, 3) := by decide +kernel
theorem d_Mo_string_85 : decode b_Mo_string 85 = .ok (.aload_n 0, 1) := by decide +kernel
