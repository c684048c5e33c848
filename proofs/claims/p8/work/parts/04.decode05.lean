theorem d_Sr_executeOnce_143 : decode b_Sr_executeOnce 143 = .ok (.iload_n 1, 1) := by decide +kernel
theorem d_Sr_executeOnce_144 : decode b_Sr_executeOnce 144 = .ok (.iload_n 3, 1) := by decide +kernel
theorem d_Sr_executeOnce_145 : decode b_Sr_executeOnce 145 = .ok (.ifCond .eq 13, 3) := by decide +kernel
theorem d_Sr_executeOnce_158 : decode b_Sr_executeOnce 158 = .ok (.aload_n 0, 1) := by decide +kernel
theorem d_Sr_executeOnce_159 : decode b_Sr_executeOnce 159 = .ok (.getfield 19, 3) := by decide +kernel
theorem d_Sr_executeOnce_162 : decode b_Sr_executeOnce 162 = .ok (.iconst 0, 1) := by decide +kernel
theorem d_Sr_executeOnce_163 : decode b_Sr_executeOnce 163 = .ok (.iload_n 2, 1) := by decide +kernel
theorem d_Sr_executeOnce_164 : decode b_Sr_executeOnce 164 = .ok (.invokevirtual 81, 3) := by decide +kernel
theorem d_Sr_executeOnce_167 : decode b_Sr_executeOnce 167 = .ok (.iload_n 2, 1) := by decide +kernel
theorem d_Sr_use_0 : decode b_Sr_use 0 = .ok (.iload_n 1, 1) := by decide +kernel
theorem d_Sr_use_1 : decode b_Sr_use 1 = .ok (.lookupswitch 71 #[(166, 35), (172, 57), (174, 35)], 35) := by decide +kernel
theorem d_Sr_use_36 : decode b_Sr_use 36 = .ok (.aload_n 0, 1) := by decide +kernel
theorem d_Sr_use_37 : decode b_Sr_use 37 = .ok (.getfield 23, 3) := by decide +kernel
theorem d_Sr_use_40 : decode b_Sr_use 40 = .ok (.lload_n 2, 1) := by decide +kernel
theorem d_Sr_use_41 : decode b_Sr_use 41 = .ok (.aload_n 0, 1) := by decide +kernel
theorem d_Sr_use_42 : decode b_Sr_use 42 = .ok (.getfield 31, 3) := by decide +kernel
theorem d_Sr_use_45 : decode b_Sr_use 45 = .ok (.invokevirtual 77, 3) := by decide +kernel
theorem d_Sr_use_48 : decode b_Sr_use 48 = .ok (.lconst 0, 1) := by decide +kernel
theorem d_Sr_use_49 : decode b_Sr_use 49 = .ok (.iload 4, 2) := by decide +kernel
theorem d_Sr_use_51 : decode b_Sr_use 51 = .ok (.invokevirtual 91, 3) := by decide +kernel
theorem d_Sr_use_54 : decode b_Sr_use 54 = .ok (.pop2, 1) := by decide +kernel
theorem d_Sr_use_55 : decode b_Sr_use 55 = .ok (.goto 25, 3) := by decide +kernel
theorem d_Sr_use_80 : decode b_Sr_use 80 = .ok (.return_, 1) := by decide +kernel
theorem d_Sr_use_58 : decode b_Sr_use 58 = .ok (.aload_n 0, 1) := by decide +kernel
theorem d_Sr_use_59 : decode b_Sr_use 59 = .ok (.getfield 19, 3) := by decide +kernel
theorem d_Sr_use_62 : decode b_Sr_use 62 = .ok (.iconst 0, 1) := by decide +kernel
theorem d_Sr_use_63 : decode b_Sr_use 63 = .ok (.lload_n 2, 1) := by decide +kernel
theorem d_Sr_use_64 : decode b_Sr_use 64 = .ok (.iload 4, 2) := by decide +kernel
theorem d_Sr_use_66 : decode b_Sr_use 66 = .ok (.invokevirtual 97, 3) := by decide +kernel
theorem d_Sr_use_69 : decode b_Sr_use 69 = .ok (.goto 11, 3) := by decide +kernel
theorem d_Sr_use_72 : decode b_Sr_use 72 = .ok (.aload_n 0, 1) := by decide +kernel
theorem d_Sr_use_73 : decode b_Sr_use 73 = .ok (.getfield 31, 3) := by decide +kernel
theorem d_Sr_use_76 : decode b_Sr_use 76 = .ok (.lload_n 2, 1) := by decide +kernel
theorem d_Sr_use_77 : decode b_Sr_use 77 = .ok (.invokevirtual 100, 3) := by decide +kernel
theorem d_Sr_executeOnce_168 : decode b_Sr_executeOnce 168 = .ok (.invokevirtual 87, 3) := by decide +kernel
theorem d_Sr_executeOnce_171 : decode b_Sr_executeOnce 171 = .ok (.aload_n 0, 1) := by decide +kernel
theorem d_Sr_executeOnce_172 : decode b_Sr_executeOnce 172 = .ok (.getfield 9, 3) := by decide +kernel
theorem d_Sr_executeOnce_175 : decode b_Sr_executeOnce 175 = .ok (.getfield 68, 3) := by decide +kernel
theorem d_Sr_executeOnce_178 : decode b_Sr_executeOnce 178 = .ok (.sipush 1024, 3) := by decide +kernel
theorem d_Sr_executeOnce_181 : decode b_Sr_executeOnce 181 = .ok (.iand, 1) := by decide +kernel
theorem d_Sr_executeOnce_182 : decode b_Sr_executeOnce 182 = .ok (.ifCond .eq 9, 3) := by decide +kernel
theorem d_Sr_executeOnce_191 : decode b_Sr_executeOnce 191 = .ok (.iload_n 2, 1) := by decide +kernel
theorem d_Sr_executeOnce_192 : decode b_Sr_executeOnce 192 = .ok (.i2l, 1) := by decide +kernel
theorem d_Sr_executeOnce_193 : decode b_Sr_executeOnce 193 = .ok (.lstore 7, 2) := by decide +kernel
theorem d_Sr_executeOnce_195 : decode b_Sr_executeOnce 195 = .ok (.aload_n 0, 1) := by decide +kernel
theorem d_Sr_executeOnce_196 : decode b_Sr_executeOnce 196 = .ok (.getfield 9, 3) := by decide +kernel
theorem d_Sr_executeOnce_199 : decode b_Sr_executeOnce 199 = .ok (.getfield 43, 3) := by decide +kernel
theorem d_Sr_executeOnce_202 : decode b_Sr_executeOnce 202 = .ok (.bipush 6, 2) := by decide +kernel
theorem d_Sr_executeOnce_204 : decode b_Sr_executeOnce 204 = .ok (.dup2, 1) := by decide +kernel
theorem d_Sr_executeOnce_205 : decode b_Sr_executeOnce 205 = .ok (.laload, 1) := by decide +kernel
theorem d_Sr_executeOnce_206 : decode b_Sr_executeOnce 206 = .ok (.iload_n 3, 1) := by decide +kernel
theorem d_Sr_executeOnce_207 : decode b_Sr_executeOnce 207 = .ok (.ifCond .eq 8, 3) := by decide +kernel
theorem d_Sr_executeOnce_215 : decode b_Sr_executeOnce 215 = .ok (.lconst 0, 1) := by decide +kernel
theorem d_Sr_executeOnce_216 : decode b_Sr_executeOnce 216 = .ok (.ladd, 1) := by decide +kernel
theorem d_Sr_executeOnce_217 : decode b_Sr_executeOnce 217 = .ok (.lastore, 1) := by decide +kernel
theorem d_Sr_executeOnce_218 : decode b_Sr_executeOnce 218 = .ok (.aload_n 0, 1) := by decide +kernel
theorem d_Sr_executeOnce_219 : decode b_Sr_executeOnce 219 = .ok (.getfield 9, 3) := by decide +kernel
theorem d_Sr_executeOnce_222 : decode b_Sr_executeOnce 222 = .ok (.getfield 43, 3) := by decide +kernel
theorem d_Sr_executeOnce_225 : decode b_Sr_executeOnce 225 = .ok (.bipush 7, 2) := by decide +kernel
theorem d_Sr_executeOnce_227 : decode b_Sr_executeOnce 227 = .ok (.dup2, 1) := by decide +kernel
theorem d_Sr_executeOnce_228 : decode b_Sr_executeOnce 228 = .ok (.laload, 1) := by decide +kernel
theorem d_Sr_executeOnce_229 : decode b_Sr_executeOnce 229 = .ok (.iload 4, 2) := by decide +kernel
theorem d_Sr_executeOnce_231 : decode b_Sr_executeOnce 231 = .ok (.ifCond .eq 8, 3) := by decide +kernel
theorem d_Sr_executeOnce_239 : decode b_Sr_executeOnce 239 = .ok (.lconst 0, 1) := by decide +kernel
theorem d_Sr_executeOnce_240 : decode b_Sr_executeOnce 240 = .ok (.ladd, 1) := by decide +kernel
theorem d_Sr_executeOnce_241 : decode b_Sr_executeOnce 241 = .ok (.lastore, 1) := by decide +kernel
theorem d_Sr_executeOnce_242 : decode b_Sr_executeOnce 242 = .ok (.iconst (-1), 1) := by decide +kernel
theorem d_Sr_executeOnce_243 : decode b_Sr_executeOnce 243 = .ok (.ireturn, 1) := by decide +kernel
theorem d_Sr_executeOnce_234 : decode b_Sr_executeOnce 234 = .ok (.lload 7, 2) := by decide +kernel
theorem d_Sr_executeOnce_236 : decode b_Sr_executeOnce 236 = .ok (.goto 4, 3) := by decide +kernel
theorem d_Sr_executeOnce_210 : decode b_Sr_executeOnce 210 = .ok (.lload 7, 2) := by decide +kernel
theorem d_Sr_executeOnce_212 : decode b_Sr_executeOnce 212 = .ok (.goto 4, 3) := by decide +kernel
theorem d_Sr_executeOnce_185 : decode b_Sr_executeOnce 185 = .ok (.iload_n 2, 1) := by decide +kernel
theorem d_Sr_executeOnce_186 : decode b_Sr_executeOnce 186 = .ok (.ineg, 1) := by decide +kernel
theorem d_Sr_executeOnce_187 : decode b_Sr_executeOnce 187 = .ok (.i2l, 1) := by decide +kernel
theorem d_Sr_executeOnce_188 : decode b_Sr_executeOnce 188 = .ok (.goto 5, 3) := by decide +kernel
theorem d_Sr_executeOnce_148 : decode b_Sr_executeOnce 148 = .ok (.aload_n 0, 1) := by decide +kernel
theorem d_Sr_executeOnce_149 : decode b_Sr_executeOnce 149 = .ok (.getfield 27, 3) := by decide +kernel
theorem d_Sr_executeOnce_152 : decode b_Sr_executeOnce 152 = .ok (.invokevirtual 77, 3) := by decide +kernel
theorem d_Sr_executeOnce_155 : decode b_Sr_executeOnce 155 = .ok (.goto 12, 3) := by decide +kernel
theorem d_Sr_executeOnce_139 : decode b_Sr_executeOnce 139 = .ok (.iload 6, 2) := by decide +kernel
theorem d_Sr_executeOnce_141 : decode b_Sr_executeOnce 141 = .ok (.ireturn, 1) := by decide +kernel
theorem d_Sr_executeOnce_96 : decode b_Sr_executeOnce 96 = .ok (.iload 6, 2) := by decide +kernel
theorem d_Sr_executeOnce_98 : decode b_Sr_executeOnce 98 = .ok (.iconst (-1), 1) := by decide +kernel
theorem d_Sr_executeOnce_99 : decode b_Sr_executeOnce 99 = .ok (.if_icmp .ne 34, 3) := by decide +kernel
theorem d_Sr_executeOnce_102 : decode b_Sr_executeOnce 102 = .ok (.aload_n 0, 1) := by decide +kernel
theorem d_Sr_executeOnce_103 : decode b_Sr_executeOnce 103 = .ok (.getfield 31, 3) := by decide +kernel
theorem d_Sr_executeOnce_106 : decode b_Sr_executeOnce 106 = .ok (.aload_n 0, 1) := by decide +kernel
theorem d_Sr_executeOnce_107 : decode b_Sr_executeOnce 107 = .ok (.getfield 9, 3) := by decide +kernel
theorem d_Sr_executeOnce_110 : decode b_Sr_executeOnce 110 = .ok (.getfield 43, 3) := by decide +kernel
theorem d_Sr_executeOnce_113 : decode b_Sr_executeOnce 113 = .ok (.bipush 7, 2) := by decide +kernel
theorem d_Sr_executeOnce_115 : decode b_Sr_executeOnce 115 = .ok (.laload, 1) := by decide +kernel
theorem d_Sr_executeOnce_116 : decode b_Sr_executeOnce 116 = .ok (.iload_n 2, 1) := by decide +kernel
theorem d_Sr_executeOnce_117 : decode b_Sr_executeOnce 117 = .ok (.iload 5, 2) := by decide +kernel
theorem d_Sr_executeOnce_119 : decode b_Sr_executeOnce 119 = .ok (.ifCond .eq 7, 3) := by decide +kernel
theorem d_Sr_executeOnce_126 : decode b_Sr_executeOnce 126 = .ok (.iconst 0, 1) := by decide +kernel
theorem d_Sr_executeOnce_127 : decode b_Sr_executeOnce 127 = .ok (.iconst 0, 1) := by decide +kernel
theorem d_Sr_executeOnce_128 : decode b_Sr_executeOnce 128 = .ok (.invokevirtual 71, 3) := by decide +kernel
theorem d_Sr_executeOnce_131 : decode b_Sr_executeOnce 131 = .ok (.istore 6, 2) := by decide +kernel
theorem d_Sr_executeOnce_122 : decode b_Sr_executeOnce 122 = .ok (.iconst 1, 1) := by decide +kernel
theorem d_Sr_executeOnce_123 : decode b_Sr_executeOnce 123 = .ok (.goto 4, 3) := by decide +kernel
theorem d_Sr_executeOnce_69 : decode b_Sr_executeOnce 69 = .ok (.aload_n 0, 1) := by decide +kernel
theorem d_Sr_executeOnce_70 : decode b_Sr_executeOnce 70 = .ok (.getfield 27, 3) := by decide +kernel
theorem d_Sr_executeOnce_73 : decode b_Sr_executeOnce 73 = .ok (.aload_n 0, 1) := by decide +kernel
theorem d_Sr_executeOnce_74 : decode b_Sr_executeOnce 74 = .ok (.getfield 9, 3) := by decide +kernel
theorem d_Sr_executeOnce_77 : decode b_Sr_executeOnce 77 = .ok (.getfield 43, 3) := by decide +kernel
theorem d_Sr_executeOnce_80 : decode b_Sr_executeOnce 80 = .ok (.bipush 6, 2) := by decide +kernel
theorem d_Sr_executeOnce_82 : decode b_Sr_executeOnce 82 = .ok (.laload, 1) := by decide +kernel
theorem d_Sr_executeOnce_83 : decode b_Sr_executeOnce 83 = .ok (.iload_n 2, 1) := by decide +kernel
theorem d_Sr_executeOnce_84 : decode b_Sr_executeOnce 84 = .ok (.iconst 0, 1) := by decide +kernel
theorem d_Sr_executeOnce_85 : decode b_Sr_executeOnce 85 = .ok (.iconst 0, 1) := by decide +kernel
theorem d_Sr_executeOnce_86 : decode b_Sr_executeOnce 86 = .ok (.invokevirtual 71, 3) := by decide +kernel
theorem d_Sr_executeOnce_89 : decode b_Sr_executeOnce 89 = .ok (.istore 6, 2) := by decide +kernel
theorem d_Sr_executeOnce_48 : decode b_Sr_executeOnce 48 = .ok (.iload_n 1, 1) := by decide +kernel
theorem d_Sr_executeOnce_49 : decode b_Sr_executeOnce 49 = .ok (.sipush 170, 3) := by decide +kernel
theorem d_Sr_executeOnce_52 : decode b_Sr_executeOnce 52 = .ok (.if_icmp .ne 7, 3) := by decide +kernel
theorem d_Sr_executeOnce_59 : decode b_Sr_executeOnce 59 = .ok (.iconst 0, 1) := by decide +kernel
theorem d_Sr_executeOnce_34 : decode b_Sr_executeOnce 34 = .ok (.iconst 1, 1) := by decide +kernel
theorem d_Sr_executeOnce_35 : decode b_Sr_executeOnce 35 = .ok (.goto 4, 3) := by decide +kernel
theorem d_Sr_executeOnce_7 : decode b_Sr_executeOnce 7 = .ok (.iload_n 1, 1) := by decide +kernel
theorem d_Sr_executeOnce_8 : decode b_Sr_executeOnce 8 = .ok (.sipush 166, 3) := by decide +kernel
theorem d_Sr_executeOnce_11 : decode b_Sr_executeOnce 11 = .ok (.if_icmp .eq 10, 3) := by decide +kernel
theorem d_Sr_executeOnce_14 : decode b_Sr_executeOnce 14 = .ok (.iload_n 1, 1) := by decide +kernel
theorem d_Sr_executeOnce_15 : decode b_Sr_executeOnce 15 = .ok (.sipush 172, 3) := by decide +kernel
theorem d_Sr_executeOnce_18 : decode b_Sr_executeOnce 18 = .ok (.if_icmp .ne 7, 3) := by decide +kernel
theorem d_Sr_executeOnce_25 : decode b_Sr_executeOnce 25 = .ok (.iconst 0, 1) := by decide +kernel
theorem d_Sr_execute_98 : decode b_Sr_execute 98 = .ok (.invokevirtual 53, 3) := by decide +kernel
theorem d_Sr_execute_101 : decode b_Sr_execute 101 = .ok (.istore 4, 2) := by decide +kernel
theorem d_Sr_execute_103 : decode b_Sr_execute 103 = .ok (.iload 4, 2) := by decide +kernel
theorem d_Sr_execute_105 : decode b_Sr_execute 105 = .ok (.iconst (-1), 1) := by decide +kernel
theorem d_Sr_execute_106 : decode b_Sr_execute 106 = .ok (.if_icmp .ne 42, 3) := by decide +kernel
theorem d_Sr_execute_148 : decode b_Sr_execute 148 = .ok (.iload 4, 2) := by decide +kernel
theorem d_Sr_execute_150 : decode b_Sr_execute 150 = .ok (.ireturn, 1) := by decide +kernel
theorem d_Sr_execute_109 : decode b_Sr_execute 109 = .ok (.iload_n 2, 1) := by decide +kernel
theorem d_Sr_execute_110 : decode b_Sr_execute 110 = .ok (.ifCond .eq 38, 3) := by decide +kernel
theorem d_Sr_execute_113 : decode b_Sr_execute 113 = .ok (.aload_n 0, 1) := by decide +kernel
theorem d_Sr_execute_114 : decode b_Sr_execute 114 = .ok (.getfield 9, 3) := by decide +kernel
theorem d_Sr_execute_117 : decode b_Sr_execute 117 = .ok (.getfield 43, 3) := by decide +kernel
theorem d_Sr_execute_120 : decode b_Sr_execute 120 = .ok (.iconst 1, 1) := by decide +kernel
theorem d_Sr_execute_121 : decode b_Sr_execute 121 = .ok (.dup2, 1) := by decide +kernel
theorem d_Sr_execute_122 : decode b_Sr_execute 122 = .ok (.laload, 1) := by decide +kernel
theorem d_Sr_execute_123 : decode b_Sr_execute 123 = .ok (.lconst 1, 1) := by decide +kernel
theorem d_Sr_execute_124 : decode b_Sr_execute 124 = .ok (.lsub, 1) := by decide +kernel
theorem d_Sr_execute_125 : decode b_Sr_execute 125 = .ok (.lastore, 1) := by decide +kernel
theorem d_Sr_execute_126 : decode b_Sr_execute 126 = .ok (.aload_n 0, 1) := by decide +kernel
theorem d_Sr_execute_127 : decode b_Sr_execute 127 = .ok (.iload_n 1, 1) := by decide +kernel
theorem d_Sr_goesOn_0 : decode b_Sr_goesOn 0 = .ok (.aload_n 0, 1) := by decide +kernel
theorem d_Sr_goesOn_1 : decode b_Sr_goesOn 1 = .ok (.getfield 9, 3) := by decide +kernel
theorem d_Sr_goesOn_4 : decode b_Sr_goesOn 4 = .ok (.getfield 43, 3) := by decide +kernel
theorem d_Sr_goesOn_7 : decode b_Sr_goesOn 7 = .ok (.iconst 1, 1) := by decide +kernel
theorem d_Sr_goesOn_8 : decode b_Sr_goesOn 8 = .ok (.laload, 1) := by decide +kernel
theorem d_Sr_goesOn_9 : decode b_Sr_goesOn 9 = .ok (.lconst 0, 1) := by decide +kernel
theorem d_Sr_goesOn_10 : decode b_Sr_goesOn 10 = .ok (.lcmp, 1) := by decide +kernel
theorem d_Sr_goesOn_11 : decode b_Sr_goesOn 11 = .ok (.ifCond .ne 5, 3) := by decide +kernel
theorem d_Sr_goesOn_16 : decode b_Sr_goesOn 16 = .ok (.iload_n 1, 1) := by decide +kernel
theorem d_Sr_goesOn_17 : decode b_Sr_goesOn 17 = .ok (.sipush 166, 3) := by decide +kernel
theorem d_Sr_goesOn_20 : decode b_Sr_goesOn 20 = .ok (.if_icmp .eq 10, 3) := by decide +kernel
theorem d_Sr_goesOn_30 : decode b_Sr_goesOn 30 = .ok (.iconst 1, 1) := by decide +kernel
theorem d_Sr_goesOn_31 : decode b_Sr_goesOn 31 = .ok (.goto 4, 3) := by decide +kernel
theorem d_Sr_goesOn_35 : decode b_Sr_goesOn 35 = .ok (.istore_n 2, 1) := by decide +kernel
theorem d_Sr_goesOn_36 : decode b_Sr_goesOn 36 = .ok (.aload_n 0, 1) := by decide +kernel
theorem d_Sr_goesOn_37 : decode b_Sr_goesOn 37 = .ok (.getfield 9, 3) := by decide +kernel
theorem d_Sr_goesOn_40 : decode b_Sr_goesOn 40 = .ok (.getfield 68, 3) := by decide +kernel
theorem d_Sr_goesOn_43 : decode b_Sr_goesOn 43 = .ok (.bipush 64, 2) := by decide +kernel
theorem d_Sr_goesOn_45 : decode b_Sr_goesOn 45 = .ok (.iand, 1) := by decide +kernel
theorem d_Sr_goesOn_46 : decode b_Sr_goesOn 46 = .ok (.ifCond .eq 7, 3) := by decide +kernel
theorem d_Sr_goesOn_53 : decode b_Sr_goesOn 53 = .ok (.iconst 0, 1) := by decide +kernel
theorem d_Sr_goesOn_54 : decode b_Sr_goesOn 54 = .ok (.istore_n 3, 1) := by decide +kernel
theorem d_Sr_goesOn_55 : decode b_Sr_goesOn 55 = .ok (.iload_n 2, 1) := by decide +kernel
theorem d_Sr_goesOn_56 : decode b_Sr_goesOn 56 = .ok (.ifCond .eq 25, 3) := by decide +kernel
theorem d_Sr_goesOn_81 : decode b_Sr_goesOn 81 = .ok (.iconst 1, 1) := by decide +kernel
theorem d_Sr_goesOn_82 : decode b_Sr_goesOn 82 = .ok (.goto 4, 3) := by decide +kernel
theorem d_Sr_goesOn_86 : decode b_Sr_goesOn 86 = .ok (.ireturn, 1) := by decide +kernel
theorem d_Sr_goesOn_59 : decode b_Sr_goesOn 59 = .ok (.iload_n 3, 1) := by decide +kernel
theorem d_Sr_goesOn_60 : decode b_Sr_goesOn 60 = .ok (.aload_n 0, 1) := by decide +kernel
theorem d_Sr_goesOn_61 : decode b_Sr_goesOn 61 = .ok (.getfield 15, 3) := by decide +kernel
theorem d_Sr_goesOn_64 : decode b_Sr_goesOn 64 = .ok (.getfield 40, 3) := by decide +kernel
theorem d_Sr_goesOn_67 : decode b_Sr_goesOn 67 = .ok (.sipush 243, 3) := by decide +kernel
theorem d_Sr_goesOn_70 : decode b_Sr_goesOn 70 = .ok (.if_icmp .ne 7, 3) := by decide +kernel
theorem d_Sr_goesOn_77 : decode b_Sr_goesOn 77 = .ok (.iconst 0, 1) := by decide +kernel
theorem d_Sr_goesOn_78 : decode b_Sr_goesOn 78 = .ok (.if_icmp .ne 7, 3) := by decide +kernel
theorem d_Sr_goesOn_85 : decode b_Sr_goesOn 85 = .ok (.iconst 0, 1) := by decide +kernel
theorem d_Sr_goesOn_73 : decode b_Sr_goesOn 73 = .ok (.iconst 1, 1) := by decide +kernel
theorem d_Sr_goesOn_74 : decode b_Sr_goesOn 74 = .ok (.goto 4, 3) := by decide +kernel
theorem d_Sr_goesOn_49 : decode b_Sr_goesOn 49 = .ok (.iconst 1, 1) := by decide +kernel
theorem d_Sr_goesOn_50 : decode b_Sr_goesOn 50 = .ok (.goto 4, 3) := by decide +kernel
theorem d_Sr_goesOn_23 : decode b_Sr_goesOn 23 = .ok (.iload_n 1, 1) := by decide +kernel
theorem d_Sr_goesOn_24 : decode b_Sr_goesOn 24 = .ok (.sipush 174, 3) := by decide +kernel
theorem d_Sr_goesOn_27 : decode b_Sr_goesOn 27 = .ok (.if_icmp .ne 7, 3) := by decide +kernel
theorem d_Sr_goesOn_34 : decode b_Sr_goesOn 34 = .ok (.iconst 0, 1) := by decide +kernel
theorem d_Sr_goesOn_14 : decode b_Sr_goesOn 14 = .ok (.iconst 0, 1) := by decide +kernel
theorem d_Sr_goesOn_15 : decode b_Sr_goesOn 15 = .ok (.ireturn, 1) := by decide +kernel
theorem d_Sr_execute_128 : decode b_Sr_execute 128 = .ok (.invokevirtual 57, 3) := by decide +kernel
theorem d_Sr_execute_131 : decode b_Sr_execute 131 = .ok (.ifCond .eq 17, 3) := by decide +kernel
theorem d_Sr_execute_134 : decode b_Sr_execute 134 = .ok (.aload_n 0, 1) := by decide +kernel
theorem d_Sr_execute_135 : decode b_Sr_execute 135 = .ok (.getfield 15, 3) := by decide +kernel
theorem d_Sr_execute_138 : decode b_Sr_execute 138 = .ok (.aload_n 0, 1) := by decide +kernel
theorem d_Sr_execute_139 : decode b_Sr_execute 139 = .ok (.getfield 9, 3) := by decide +kernel
theorem d_Sr_execute_142 : decode b_Sr_execute 142 = .ok (.getfield 61, 3) := by decide +kernel
theorem d_Sr_execute_145 : decode b_Sr_execute 145 = .ok (.putfield 65, 3) := by decide +kernel
theorem d_Sr_execute_83 : decode b_Sr_execute 83 = .ok (.iconst 1, 1) := by decide +kernel
theorem d_Sr_execute_84 : decode b_Sr_execute 84 = .ok (.goto 10, 3) := by decide +kernel
theorem d_Sr_execute_55 : decode b_Sr_execute 55 = .ok (.aload_n 0, 1) := by decide +kernel
theorem d_Sr_execute_56 : decode b_Sr_execute 56 = .ok (.getfield 9, 3) := by decide +kernel
theorem d_Sr_execute_59 : decode b_Sr_execute 59 = .ok (.getfield 43, 3) := by decide +kernel
theorem d_Sr_execute_62 : decode b_Sr_execute 62 = .ok (.iconst 1, 1) := by decide +kernel
theorem d_Sr_execute_63 : decode b_Sr_execute 63 = .ok (.laload, 1) := by decide +kernel
theorem d_Sr_execute_64 : decode b_Sr_execute 64 = .ok (.lconst 0, 1) := by decide +kernel
theorem d_Sr_execute_65 : decode b_Sr_execute 65 = .ok (.lcmp, 1) := by decide +kernel
theorem d_Sr_execute_66 : decode b_Sr_execute 66 = .ok (.ifCond .ne 5, 3) := by decide +kernel
theorem d_Sr_execute_69 : decode b_Sr_execute 69 = .ok (.iconst (-1), 1) := by decide +kernel
theorem d_Sr_execute_70 : decode b_Sr_execute 70 = .ok (.ireturn, 1) := by decide +kernel
theorem d_Sr_execute_45 : decode b_Sr_execute 45 = .ok (.iconst 1, 1) := by decide +kernel
theorem d_Sr_execute_46 : decode b_Sr_execute 46 = .ok (.goto 4, 3) := by decide +kernel
theorem d_Co_step_46 : decode b_Co_step 46 = .ok (.invokevirtual 150, 3) := by decide +kernel
theorem d_Co_step_49 : decode b_Co_step 49 = .ok (.istore_n 1, 1) := by decide +kernel
theorem d_Co_step_26 : decode b_Co_step 26 = .ok (.iload_n 1, 1) := by decide +kernel
theorem d_Co_step_27 : decode b_Co_step 27 = .ok (.ireturn, 1) := by decide +kernel
theorem d_Co_step_13 : decode b_Co_step 13 = .ok (.aload_n 0, 1) := by decide +kernel
theorem d_Co_step_14 : decode b_Co_step 14 = .ok (.getfield 44, 3) := by decide +kernel
theorem d_Op_open_0 : decode b_Op_open 0 = .ok (.aload_n 0, 1) := by decide +kernel
theorem d_Op_open_1 : decode b_Op_open 1 = .ok (.aload_n 0, 1) := by decide +kernel
theorem d_Op_bytesOfE_0 : decode b_Op_bytesOfE 0 = .ok (.aload_n 0, 1) := by decide +kernel
theorem d_Op_bytesOfE_1 : decode b_Op_bytesOfE 1 = .ok (.getfield 15, 3) := by decide +kernel
theorem d_Op_bytesOfE_4 : decode b_Op_bytesOfE 4 = .ok (.getfield 36, 3) := by decide +kernel
theorem d_Op_bytesOfE_7 : decode b_Op_bytesOfE 7 = .ok (.lookupswitch 151 #[(99, 81), (143, 93), (255, 101), (432, 147), (438, 147), (439, 149), (446, 147), (447, 149), (448, 147)], 81) := by decide +kernel
theorem d_Op_bytesOfE_88 : decode b_Op_bytesOfE 88 = .ok (.aload_n 0, 1) := by decide +kernel
theorem d_Op_bytesOfE_89 : decode b_Op_bytesOfE 89 = .ok (.getfield 15, 3) := by decide +kernel
theorem d_Op_bytesOfE_92 : decode b_Op_bytesOfE 92 = .ok (.invokevirtual 67, 3) := by decide +kernel
theorem d_Op_bytesOfE_95 : decode b_Op_bytesOfE 95 = .ok (.iconst 4, 1) := by decide +kernel
theorem d_Op_bytesOfE_96 : decode b_Op_bytesOfE 96 = .ok (.invokestatic 70, 3) := by decide +kernel
theorem d_Op_bytesOfE_99 : decode b_Op_bytesOfE 99 = .ok (.ireturn, 1) := by decide +kernel
theorem d_Op_bytesOfE_100 : decode b_Op_bytesOfE 100 = .ok (.aload_n 0, 1) := by decide +kernel
theorem d_Op_bytesOfE_101 : decode b_Op_bytesOfE 101 = .ok (.getfield 15, 3) := by decide +kernel
theorem d_Op_bytesOfE_104 : decode b_Op_bytesOfE 104 = .ok (.invokevirtual 76, 3) := by decide +kernel
theorem d_Op_bytesOfE_107 : decode b_Op_bytesOfE 107 = .ok (.ireturn, 1) := by decide +kernel
theorem d_Op_bytesOfE_108 : decode b_Op_bytesOfE 108 = .ok (.aload_n 0, 1) := by decide +kernel
theorem d_Op_bytesOfE_109 : decode b_Op_bytesOfE 109 = .ok (.getfield 15, 3) := by decide +kernel
theorem d_Op_bytesOfE_112 : decode b_Op_bytesOfE 112 = .ok (.getfield 79, 3) := by decide +kernel
theorem d_Op_bytesOfE_115 : decode b_Op_bytesOfE 115 = .ok (.bipush 6, 2) := by decide +kernel
theorem d_Op_bytesOfE_117 : decode b_Op_bytesOfE 117 = .ok (.if_icmp .ne 13, 3) := by decide +kernel
theorem d_Op_bytesOfE_130 : decode b_Op_bytesOfE 130 = .ok (.aload_n 0, 1) := by decide +kernel
theorem d_Op_bytesOfE_131 : decode b_Op_bytesOfE 131 = .ok (.getfield 15, 3) := by decide +kernel
theorem d_Op_bytesOfE_134 : decode b_Op_bytesOfE 134 = .ok (.getfield 79, 3) := by decide +kernel
theorem d_Op_bytesOfE_137 : decode b_Op_bytesOfE 137 = .ok (.iconst 2, 1) := by decide +kernel
theorem d_Op_bytesOfE_138 : decode b_Op_bytesOfE 138 = .ok (.if_icmp .ge 13, 3) := by decide +kernel
theorem d_Op_bytesOfE_151 : decode b_Op_bytesOfE 151 = .ok (.bipush 8, 2) := by decide +kernel
theorem d_Op_bytesOfE_153 : decode b_Op_bytesOfE 153 = .ok (.ireturn, 1) := by decide +kernel
theorem d_Op_bytesOfE_141 : decode b_Op_bytesOfE 141 = .ok (.aload_n 0, 1) := by decide +kernel
theorem d_Op_bytesOfE_142 : decode b_Op_bytesOfE 142 = .ok (.getfield 15, 3) := by decide +kernel
theorem d_Op_bytesOfE_145 : decode b_Op_bytesOfE 145 = .ok (.invokevirtual 67, 3) := by decide +kernel
theorem d_Op_bytesOfE_148 : decode b_Op_bytesOfE 148 = .ok (.goto 5, 3) := by decide +kernel
theorem d_Op_bytesOfE_120 : decode b_Op_bytesOfE 120 = .ok (.aload_n 0, 1) := by decide +kernel
theorem d_Op_bytesOfE_121 : decode b_Op_bytesOfE 121 = .ok (.getfield 15, 3) := by decide +kernel
theorem d_Op_bytesOfE_124 : decode b_Op_bytesOfE 124 = .ok (.invokevirtual 76, 3) := by decide +kernel
theorem d_Op_bytesOfE_127 : decode b_Op_bytesOfE 127 = .ok (.goto 26, 3) := by decide +kernel
theorem d_Op_bytesOfE_154 : decode b_Op_bytesOfE 154 = .ok (.iconst 1, 1) := by decide +kernel
theorem d_Op_bytesOfE_155 : decode b_Op_bytesOfE 155 = .ok (.ireturn, 1) := by decide +kernel
theorem d_Op_bytesOfE_156 : decode b_Op_bytesOfE 156 = .ok (.iconst 2, 1) := by decide +kernel
theorem d_Op_bytesOfE_157 : decode b_Op_bytesOfE 157 = .ok (.ireturn, 1) := by decide +kernel
theorem d_Op_bytesOfE_158 : decode b_Op_bytesOfE 158 = .ok (.aload_n 0, 1) := by decide +kernel
theorem d_Op_bytesOfE_159 : decode b_Op_bytesOfE 159 = .ok (.getfield 15, 3) := by decide +kernel
theorem d_Op_bytesOfE_162 : decode b_Op_bytesOfE 162 = .ok (.getfield 36, 3) := by decide +kernel
theorem d_Op_bytesOfE_165 : decode b_Op_bytesOfE 165 = .ok (.sipush 256, 3) := by decide +kernel
theorem d_Op_bytesOfE_168 : decode b_Op_bytesOfE 168 = .ok (.if_icmp .ge 27, 3) := by decide +kernel
theorem d_Op_bytesOfE_195 : decode b_Op_bytesOfE 195 = .ok (.aload_n 0, 1) := by decide +kernel
theorem d_Op_bytesOfE_196 : decode b_Op_bytesOfE 196 = .ok (.getfield 15, 3) := by decide +kernel
theorem d_Op_bytesOfE_199 : decode b_Op_bytesOfE 199 = .ok (.getfield 36, 3) := by decide +kernel
theorem d_Op_bytesOfE_202 : decode b_Op_bytesOfE 202 = .ok (.sipush 240, 3) := by decide +kernel
theorem d_Op_bytesOfE_205 : decode b_Op_bytesOfE 205 = .ok (.iand, 1) := by decide +kernel
theorem d_Op_bytesOfE_206 : decode b_Op_bytesOfE 206 = .ok (.sipush 144, 3) := by decide +kernel
theorem d_Op_bytesOfE_209 : decode b_Op_bytesOfE 209 = .ok (.if_icmp .ne 7, 3) := by decide +kernel
theorem d_Op_bytesOfE_216 : decode b_Op_bytesOfE 216 = .ok (.aload_n 0, 1) := by decide +kernel
theorem d_Op_bytesOfE_217 : decode b_Op_bytesOfE 217 = .ok (.getfield 15, 3) := by decide +kernel
theorem d_Op_bytesOfE_220 : decode b_Op_bytesOfE 220 = .ok (.invokevirtual 67, 3) := by decide +kernel
theorem d_Op_bytesOfE_223 : decode b_Op_bytesOfE 223 = .ok (.ireturn, 1) := by decide +kernel
theorem d_Op_bytesOfE_212 : decode b_Op_bytesOfE 212 = .ok (.iconst 1, 1) := by decide +kernel
theorem d_Op_bytesOfE_213 : decode b_Op_bytesOfE 213 = .ok (.goto 10, 3) := by decide +kernel
theorem d_Op_bytesOfE_171 : decode b_Op_bytesOfE 171 = .ok (.aload_n 0, 1) := by decide +kernel
theorem d_Op_bytesOfE_172 : decode b_Op_bytesOfE 172 = .ok (.getfield 15, 3) := by decide +kernel
theorem d_Op_bytesOfE_175 : decode b_Op_bytesOfE 175 = .ok (.getfield 36, 3) := by decide +kernel
theorem d_Op_bytesOfE_178 : decode b_Op_bytesOfE 178 = .ok (.iconst 1, 1) := by decide +kernel
theorem d_Op_bytesOfE_179 : decode b_Op_bytesOfE 179 = .ok (.iand, 1) := by decide +kernel
theorem d_Op_bytesOfE_180 : decode b_Op_bytesOfE 180 = .ok (.ifCond .ne 7, 3) := by decide +kernel
theorem d_Op_bytesOfE_187 : decode b_Op_bytesOfE 187 = .ok (.aload_n 0, 1) := by decide +kernel
theorem d_Op_bytesOfE_188 : decode b_Op_bytesOfE 188 = .ok (.getfield 15, 3) := by decide +kernel
theorem d_Op_bytesOfE_191 : decode b_Op_bytesOfE 191 = .ok (.invokevirtual 67, 3) := by decide +kernel
theorem d_Op_bytesOfE_194 : decode b_Op_bytesOfE 194 = .ok (.ireturn, 1) := by decide +kernel
theorem d_Op_bytesOfE_183 : decode b_Op_bytesOfE 183 = .ok (.iconst 1, 1) := by decide +kernel
theorem d_Op_bytesOfE_184 : decode b_Op_bytesOfE 184 = .ok (.goto 10, 3) := by decide +kernel
theorem d_Op_open_2 : decode b_Op_open 2 = .ok (.invokevirtual 23, 3) := by decide +kernel
theorem d_Op_open_5 : decode b_Op_open 5 = .ok (.putfield 27, 3) := by decide +kernel
theorem d_Op_open_8 : decode b_Op_open 8 = .ok (.aload_n 0, 1) := by decide +kernel
theorem d_Op_open_9 : decode b_Op_open 9 = .ok (.getfield 15, 3) := by decide +kernel
theorem d_Op_open_12 : decode b_Op_open 12 = .ok (.getfield 31, 3) := by decide +kernel
theorem d_Op_open_15 : decode b_Op_open 15 = .ok (.iconst 3, 1) := by decide +kernel
theorem d_Op_open_16 : decode b_Op_open 16 = .ok (.if_icmp .eq 29, 3) := by decide +kernel
theorem d_Op_open_45 : decode b_Op_open 45 = .ok (.iconst (-1), 1) := by decide +kernel
theorem d_Op_open_46 : decode b_Op_open 46 = .ok (.ireturn, 1) := by decide +kernel
theorem d_Op_open_19 : decode b_Op_open 19 = .ok (.aload_n 0, 1) := by decide +kernel
theorem d_Op_open_20 : decode b_Op_open 20 = .ok (.getfield 15, 3) := by decide +kernel
theorem d_Op_open_23 : decode b_Op_open 23 = .ok (.getfield 36, 3) := by decide +kernel
theorem d_Op_open_26 : decode b_Op_open 26 = .ok (.sipush 141, 3) := by decide +kernel
theorem d_Op_open_29 : decode b_Op_open 29 = .ok (.if_icmp .eq 16, 3) := by decide +kernel
theorem d_Op_open_32 : decode b_Op_open 32 = .ok (.aload_n 0, 1) := by decide +kernel
theorem d_Op_open_33 : decode b_Op_open 33 = .ok (.getfield 15, 3) := by decide +kernel
theorem d_Op_open_36 : decode b_Op_open 36 = .ok (.getfield 36, 3) := by decide +kernel
theorem d_Op_open_39 : decode b_Op_open 39 = .ok (.sipush 143, 3) := by decide +kernel
theorem d_Op_open_42 : decode b_Op_open 42 = .ok (.if_icmp .ne 5, 3) := by decide +kernel
theorem d_Op_open_47 : decode b_Op_open 47 = .ok (.aload_n 0, 1) := by decide +kernel
theorem d_Op_open_48 : decode b_Op_open 48 = .ok (.aload_n 0, 1) := by decide +kernel
theorem d_Op_open_49 : decode b_Op_open 49 = .ok (.getfield 15, 3) := by decide +kernel
theorem d_Op_open_52 : decode b_Op_open 52 = .ok (.lconst 0, 1) := by decide +kernel
theorem d_Op_open_53 : decode b_Op_open 53 = .ok (.invokevirtual 39, 3) := by decide +kernel
theorem d_Op_open_56 : decode b_Op_open 56 = .ok (.aload_n 0, 1) := by decide +kernel
theorem d_Op_bitDistance_0 : decode b_Op_bitDistance 0 = .ok (.aload_n 0, 1) := by decide +kernel
theorem d_Op_bitDistance_1 : decode b_Op_bitDistance 1 = .ok (.getfield 15, 3) := by decide +kernel
theorem d_Op_bitDistance_4 : decode b_Op_bitDistance 4 = .ok (.getfield 36, 3) := by decide +kernel
theorem d_Op_bitDistance_7 : decode b_Op_bitDistance 7 = .ok (.lookupswitch 75 #[(419, 41), (427, 41), (435, 41), (443, 41)], 41) := by decide +kernel
theorem d_Op_bitDistance_48 : decode b_Op_bitDistance 48 = .ok (.aload_n 0, 1) := by decide +kernel
theorem d_Op_bitDistance_49 : decode b_Op_bitDistance 49 = .ok (.aload_n 0, 1) := by decide +kernel
theorem d_Op_bitDistance_50 : decode b_Op_bitDistance 50 = .ok (.getfield 27, 3) := by decide +kernel
theorem d_Op_bitDistance_53 : decode b_Op_bitDistance 53 = .ok (.invokevirtual 82, 3) := by decide +kernel
theorem d_Op_bitDistance_56 : decode b_Op_bitDistance 56 = .ok (.aload_n 0, 1) := by decide +kernel
theorem d_Op_bitDistance_57 : decode b_Op_bitDistance 57 = .ok (.getfield 27, 3) := by decide +kernel
theorem d_Op_bitDistance_60 : decode b_Op_bitDistance 60 = .ok (.invokestatic 86, 3) := by decide +kernel
theorem d_Op_bitDistance_63 : decode b_Op_bitDistance 63 = .ok (.ldc2_w 92, 3) := by decide +kernel
theorem d_Op_bitDistance_66 : decode b_Op_bitDistance 66 = .ok (.aload_n 0, 1) := by decide +kernel
theorem d_Op_bitDistance_67 : decode b_Op_bitDistance 67 = .ok (.getfield 27, 3) := by decide +kernel
theorem d_Op_bitDistance_70 : decode b_Op_bitDistance 70 = .ok (.i2l, 1) := by decide +kernel
theorem d_Op_bitDistance_71 : decode b_Op_bitDistance 71 = .ok (.lmul, 1) := by decide +kernel
theorem d_Ma_floorDiv_0 : decode b_Ma_floorDiv 0 = .ok (.lload_n 0, 1) := by decide +kernel
theorem d_Ma_floorDiv_1 : decode b_Ma_floorDiv 1 = .ok (.lload_n 2, 1) := by decide +kernel
theorem d_Ma_floorDiv_2 : decode b_Ma_floorDiv 2 = .ok (.ldiv, 1) := by decide +kernel
theorem d_Ma_floorDiv_3 : decode b_Ma_floorDiv 3 = .ok (.lstore 4, 2) := by decide +kernel
theorem d_Ma_floorDiv_5 : decode b_Ma_floorDiv 5 = .ok (.lload_n 0, 1) := by decide +kernel
theorem d_Ma_floorDiv_6 : decode b_Ma_floorDiv 6 = .ok (.lload_n 2, 1) := by decide +kernel
theorem d_Ma_floorDiv_7 : decode b_Ma_floorDiv 7 = .ok (.lxor, 1) := by decide +kernel
theorem d_Ma_floorDiv_8 : decode b_Ma_floorDiv 8 = .ok (.lconst 0, 1) := by decide +kernel
theorem d_Ma_floorDiv_9 : decode b_Ma_floorDiv 9 = .ok (.lcmp, 1) := by decide +kernel
theorem d_Ma_floorDiv_10 : decode b_Ma_floorDiv 10 = .ok (.ifCond .ge 17, 3) := by decide +kernel
theorem d_Ma_floorDiv_27 : decode b_Ma_floorDiv 27 = .ok (.lload 4, 2) := by decide +kernel
theorem d_Ma_floorDiv_29 : decode b_Ma_floorDiv 29 = .ok (.lreturn, 1) := by decide +kernel
theorem d_Ma_floorDiv_13 : decode b_Ma_floorDiv 13 = .ok (.lload 4, 2) := by decide +kernel
theorem d_Ma_floorDiv_15 : decode b_Ma_floorDiv 15 = .ok (.lload_n 2, 1) := by decide +kernel
theorem d_Ma_floorDiv_16 : decode b_Ma_floorDiv 16 = .ok (.lmul, 1) := by decide +kernel
theorem d_Ma_floorDiv_17 : decode b_Ma_floorDiv 17 = .ok (.lload_n 0, 1) := by decide +kernel
theorem d_Ma_floorDiv_18 : decode b_Ma_floorDiv 18 = .ok (.lcmp, 1) := by decide +kernel
theorem d_Ma_floorDiv_19 : decode b_Ma_floorDiv 19 = .ok (.ifCond .eq 8, 3) := by decide +kernel
theorem d_Ma_floorDiv_22 : decode b_Ma_floorDiv 22 = .ok (.lload 4, 2) := by decide +kernel
theorem d_Ma_floorDiv_24 : decode b_Ma_floorDiv 24 = .ok (.lconst 1, 1) := by decide +kernel
theorem d_Ma_floorDiv_25 : decode b_Ma_floorDiv 25 = .ok (.lsub, 1) := by decide +kernel
theorem d_Ma_floorDiv_26 : decode b_Ma_floorDiv 26 = .ok (.lreturn, 1) := by decide +kernel
theorem d_Op_bitDistance_72 : decode b_Op_bitDistance 72 = .ok (.invokestatic 94, 3) := by decide +kernel
theorem d_Op_bitDistance_75 : decode b_Op_bitDistance 75 = .ok (.aload_n 0, 1) := by decide +kernel
theorem d_Op_bitDistance_76 : decode b_Op_bitDistance 76 = .ok (.getfield 27, 3) := by decide +kernel
theorem d_Op_bitDistance_79 : decode b_Op_bitDistance 79 = .ok (.i2l, 1) := by decide +kernel
theorem d_Op_bitDistance_80 : decode b_Op_bitDistance 80 = .ok (.lmul, 1) := by decide +kernel
theorem d_Op_bitDistance_81 : decode b_Op_bitDistance 81 = .ok (.lreturn, 1) := by decide +kernel
theorem d_Op_bitDistance_82 : decode b_Op_bitDistance 82 = .ok (.lconst 0, 1) := by decide +kernel
theorem d_Op_bitDistance_83 : decode b_Op_bitDistance 83 = .ok (.lreturn, 1) := by decide +kernel
theorem d_Op_open_57 : decode b_Op_open 57 = .ok (.invokevirtual 43, 3) := by decide +kernel
theorem d_Op_open_60 : decode b_Op_open 60 = .ok (.ladd, 1) := by decide +kernel
theorem d_Op_open_61 : decode b_Op_open 61 = .ok (.aload_n 0, 1) := by decide +kernel
theorem d_Op_isWritten_0 : decode b_Op_isWritten 0 = .ok (.aload_n 0, 1) := by decide +kernel
theorem d_Op_isWritten_1 : decode b_Op_isWritten 1 = .ok (.getfield 15, 3) := by decide +kernel
theorem d_Op_isWritten_4 : decode b_Op_isWritten 4 = .ok (.getfield 36, 3) := by decide +kernel
theorem d_Op_isWritten_7 : decode b_Op_isWritten 7 = .ok (.istore_n 1, 1) := by decide +kernel
theorem d_Op_isWritten_8 : decode b_Op_isWritten 8 = .ok (.iload_n 1, 1) := by decide +kernel
theorem d_Op_isWritten_9 : decode b_Op_isWritten 9 = .ok (.bipush 64, 2) := by decide +kernel
theorem d_Op_isWritten_11 : decode b_Op_isWritten 11 = .ok (.if_icmp .ge 23, 3) := by decide +kernel
theorem d_Op_isWritten_34 : decode b_Op_isWritten 34 = .ok (.iload_n 1, 1) := by decide +kernel
theorem d_Op_isWritten_35 : decode b_Op_isWritten 35 = .ok (.bipush (-16), 2) := by decide +kernel
theorem d_Op_isWritten_37 : decode b_Op_isWritten 37 = .ok (.iand, 1) := by decide +kernel
theorem d_Op_isWritten_38 : decode b_Op_isWritten 38 = .ok (.sipush 400, 3) := by decide +kernel
theorem d_Op_isWritten_41 : decode b_Op_isWritten 41 = .ok (.if_icmp .ne 5, 3) := by decide +kernel
theorem d_Op_isWritten_46 : decode b_Op_isWritten 46 = .ok (.iload_n 1, 1) := by decide +kernel
theorem d_Op_isWritten_47 : decode b_Op_isWritten 47 = .ok (.lookupswitch 309 #[(128, 225), (129, 225), (131, 225), (134, 243), (135, 243), (136, 243), (137, 243), (192, 243), (193, 243), (198, 243), (199, 243), (208, 243), (209, 243), (210, 243), (211, 243), (246, 245), (247, 245), (254, 243), (255, 273), (427, 290), (432, 290), (433, 290), (435, 290), (442, 292), (443, 290), (448, 290), (449, 290)], 225) := by decide +kernel
theorem d_Op_isWritten_272 : decode b_Op_isWritten 272 = .ok (.aload_n 0, 1) := by decide +kernel
theorem d_Op_isWritten_273 : decode b_Op_isWritten 273 = .ok (.getfield 15, 3) := by decide +kernel
theorem d_Op_isWritten_276 : decode b_Op_isWritten 276 = .ok (.getfield 79, 3) := by decide +kernel
theorem d_Op_isWritten_279 : decode b_Op_isWritten 279 = .ok (.bipush 7, 2) := by decide +kernel
theorem d_Op_isWritten_281 : decode b_Op_isWritten 281 = .ok (.if_icmp .eq 7, 3) := by decide +kernel
theorem d_Op_isWritten_288 : decode b_Op_isWritten 288 = .ok (.iconst 0, 1) := by decide +kernel
theorem d_Op_isWritten_289 : decode b_Op_isWritten 289 = .ok (.ireturn, 1) := by decide +kernel
theorem d_Op_isWritten_284 : decode b_Op_isWritten 284 = .ok (.iconst 1, 1) := by decide +kernel
theorem d_Op_isWritten_285 : decode b_Op_isWritten 285 = .ok (.goto 4, 3) := by decide +kernel
theorem d_Op_isWritten_290 : decode b_Op_isWritten 290 = .ok (.iconst 1, 1) := by decide +kernel
theorem d_Op_isWritten_291 : decode b_Op_isWritten 291 = .ok (.ireturn, 1) := by decide +kernel
theorem d_Op_isWritten_292 : decode b_Op_isWritten 292 = .ok (.aload_n 0, 1) := by decide +kernel
theorem d_Op_isWritten_293 : decode b_Op_isWritten 293 = .ok (.getfield 15, 3) := by decide +kernel
theorem d_Op_isWritten_296 : decode b_Op_isWritten 296 = .ok (.getfield 79, 3) := by decide +kernel
theorem d_Op_isWritten_299 : decode b_Op_isWritten 299 = .ok (.iconst 2, 1) := by decide +kernel
theorem d_Op_isWritten_300 : decode b_Op_isWritten 300 = .ok (.if_icmp .eq 14, 3) := by decide +kernel
theorem d_Op_isWritten_314 : decode b_Op_isWritten 314 = .ok (.iconst 1, 1) := by decide +kernel
theorem d_Op_isWritten_315 : decode b_Op_isWritten 315 = .ok (.goto 4, 3) := by decide +kernel
theorem d_Op_isWritten_319 : decode b_Op_isWritten 319 = .ok (.ireturn, 1) := by decide +kernel
theorem d_Op_isWritten_303 : decode b_Op_isWritten 303 = .ok (.aload_n 0, 1) := by decide +kernel
theorem d_Op_isWritten_304 : decode b_Op_isWritten 304 = .ok (.getfield 15, 3) := by decide +kernel
theorem d_Op_isWritten_307 : decode b_Op_isWritten 307 = .ok (.getfield 79, 3) := by decide +kernel
theorem d_Op_isWritten_310 : decode b_Op_isWritten 310 = .ok (.iconst 3, 1) := by decide +kernel
theorem d_Op_isWritten_311 : decode b_Op_isWritten 311 = .ok (.if_icmp .ne 7, 3) := by decide +kernel
theorem d_Op_isWritten_318 : decode b_Op_isWritten 318 = .ok (.iconst 0, 1) := by decide +kernel
theorem d_Op_isWritten_320 : decode b_Op_isWritten 320 = .ok (.aload_n 0, 1) := by decide +kernel
theorem d_Op_isWritten_321 : decode b_Op_isWritten 321 = .ok (.getfield 15, 3) := by decide +kernel
theorem d_Op_isWritten_324 : decode b_Op_isWritten 324 = .ok (.getfield 79, 3) := by decide +kernel
theorem d_Op_isWritten_327 : decode b_Op_isWritten 327 = .ok (.iconst 2, 1) := by decide +kernel
theorem d_Op_isWritten_328 : decode b_Op_isWritten 328 = .ok (.if_icmp .ge 7, 3) := by decide +kernel
theorem d_Op_isWritten_335 : decode b_Op_isWritten 335 = .ok (.iconst 0, 1) := by decide +kernel
theorem d_Op_isWritten_336 : decode b_Op_isWritten 336 = .ok (.ireturn, 1) := by decide +kernel
theorem d_Op_isWritten_331 : decode b_Op_isWritten 331 = .ok (.iconst 1, 1) := by decide +kernel
theorem d_Op_isWritten_332 : decode b_Op_isWritten 332 = .ok (.goto 4, 3) := by decide +kernel
theorem d_Op_isWritten_337 : decode b_Op_isWritten 337 = .ok (.iconst 1, 1) := by decide +kernel
theorem d_Op_isWritten_338 : decode b_Op_isWritten 338 = .ok (.ireturn, 1) := by decide +kernel
theorem d_Op_isWritten_339 : decode b_Op_isWritten 339 = .ok (.aload_n 0, 1) := by decide +kernel
theorem d_Op_isWritten_340 : decode b_Op_isWritten 340 = .ok (.getfield 15, 3) := by decide +kernel
theorem d_Op_isWritten_343 : decode b_Op_isWritten 343 = .ok (.getfield 79, 3) := by decide +kernel
theorem d_Op_isWritten_346 : decode b_Op_isWritten 346 = .ok (.iconst 4, 1) := by decide +kernel
theorem d_Op_isWritten_347 : decode b_Op_isWritten 347 = .ok (.if_icmp .eq 7, 3) := by decide +kernel
theorem d_Op_isWritten_354 : decode b_Op_isWritten 354 = .ok (.iconst 0, 1) := by decide +kernel
theorem d_Op_isWritten_355 : decode b_Op_isWritten 355 = .ok (.ireturn, 1) := by decide +kernel
theorem d_Op_isWritten_350 : decode b_Op_isWritten 350 = .ok (.iconst 1, 1) := by decide +kernel
theorem d_Op_isWritten_351 : decode b_Op_isWritten 351 = .ok (.goto 4, 3) := by decide +kernel
theorem d_Op_isWritten_356 : decode b_Op_isWritten 356 = .ok (.iconst 0, 1) := by decide +kernel
theorem d_Op_isWritten_357 : decode b_Op_isWritten 357 = .ok (.ireturn, 1) := by decide +kernel
theorem d_Op_isWritten_44 : decode b_Op_isWritten 44 = .ok (.iconst 1, 1) := by decide +kernel
theorem d_Op_isWritten_45 : decode b_Op_isWritten 45 = .ok (.ireturn, 1) := by decide +kernel
theorem d_Op_isWritten_14 : decode b_Op_isWritten 14 = .ok (.iload_n 1, 1) := by decide +kernel
theorem d_Op_isWritten_15 : decode b_Op_isWritten 15 = .ok (.bipush 7, 2) := by decide +kernel
theorem d_Op_isWritten_17 : decode b_Op_isWritten 17 = .ok (.iand, 1) := by decide +kernel
theorem d_Op_isWritten_18 : decode b_Op_isWritten 18 = .ok (.iconst 2, 1) := by decide +kernel
theorem d_Op_isWritten_19 : decode b_Op_isWritten 19 = .ok (.if_icmp .ge 13, 3) := by decide +kernel
theorem d_Op_isWritten_32 : decode b_Op_isWritten 32 = .ok (.iconst 0, 1) := by decide +kernel
theorem d_Op_isWritten_33 : decode b_Op_isWritten 33 = .ok (.ireturn, 1) := by decide +kernel
theorem d_Op_isWritten_22 : decode b_Op_isWritten 22 = .ok (.iload_n 1, 1) := by decide +kernel
theorem d_Op_isWritten_23 : decode b_Op_isWritten 23 = .ok (.bipush 56, 2) := by decide +kernel
theorem d_Op_isWritten_25 : decode b_Op_isWritten 25 = .ok (.if_icmp .ge 7, 3) := by decide +kernel
theorem d_Op_isWritten_28 : decode b_Op_isWritten 28 = .ok (.iconst 1, 1) := by decide +kernel
theorem d_Op_isWritten_29 : decode b_Op_isWritten 29 = .ok (.goto 4, 3) := by decide +kernel
theorem d_Op_open_62 : decode b_Op_open 62 = .ok (.invokevirtual 47, 3) := by decide +kernel
theorem d_Op_open_65 : decode b_Op_open 65 = .ok (.invokevirtual 51, 3) := by decide +kernel
theorem d_Op_open_68 : decode b_Op_open 68 = .ok (.ireturn, 1) := by decide +kernel
theorem d_Co_step_17 : decode b_Co_step 17 = .ok (.invokevirtual 144, 3) := by decide +kernel
theorem d_Co_step_20 : decode b_Co_step 20 = .ok (.istore_n 1, 1) := by decide +kernel
theorem d_Co_run_0 : decode b_Co_run 0 = .ok (.iload_n 1, 1) := by decide +kernel
theorem d_Co_run_1 : decode b_Co_run 1 = .ok (.ifCond .lt 10, 3) := by decide +kernel
theorem d_Co_run_11 : decode b_Co_run 11 = .ok (.iconst 0, 1) := by decide +kernel
theorem d_Co_run_12 : decode b_Co_run 12 = .ok (.ireturn, 1) := by decide +kernel
theorem d_Co_run_4 : decode b_Co_run 4 = .ok (.iload_n 1, 1) := by decide +kernel
theorem d_Co_run_5 : decode b_Co_run 5 = .ok (.sipush 1000, 3) := by decide +kernel
theorem d_Co_run_8 : decode b_Co_run 8 = .ok (.if_icmp .le 5, 3) := by decide +kernel
theorem d_Co_run_13 : decode b_Co_run 13 = .ok (.iconst 0, 1) := by decide +kernel
theorem d_Co_run_14 : decode b_Co_run 14 = .ok (.istore_n 2, 1) := by decide +kernel
theorem d_Co_run_15 : decode b_Co_run 15 = .ok (.iload_n 2, 1) := by decide +kernel
theorem d_Co_run_16 : decode b_Co_run 16 = .ok (.iload_n 1, 1) := by decide +kernel
theorem d_Co_run_17 : decode b_Co_run 17 = .ok (.if_icmp .ge 19, 3) := by decide +kernel
theorem d_Co_run_36 : decode b_Co_run 36 = .ok (.iload_n 1, 1) := by decide +kernel
theorem d_Co_run_37 : decode b_Co_run 37 = .ok (.ireturn, 1) := by decide +kernel
theorem d_Co_run_20 : decode b_Co_run 20 = .ok (.aload_n 0, 1) := by decide +kernel
theorem d_Co_run_21 : decode b_Co_run 21 = .ok (.invokevirtual 159, 3) := by decide +kernel
theorem d_Co_run_24 : decode b_Co_run 24 = .ok (.iconst (-1), 1) := by decide +kernel
theorem d_Co_run_25 : decode b_Co_run 25 = .ok (.if_icmp .eq 5, 3) := by decide +kernel
theorem d_Co_run_30 : decode b_Co_run 30 = .ok (.iinc 2 1, 3) := by decide +kernel
theorem d_Co_run_33 : decode b_Co_run 33 = .ok (.goto (-18), 3) := by decide +kernel
theorem d_Co_run_28 : decode b_Co_run 28 = .ok (.iload_n 2, 1) := by decide +kernel
theorem d_Co_run_29 : decode b_Co_run 29 = .ok (.ireturn, 1) := by decide +kernel
theorem d_Co_look_0 : decode b_Co_look 0 = .ok (.aload_n 0, 1) := by decide +kernel
theorem d_Co_look_1 : decode b_Co_look 1 = .ok (.getfield 21, 3) := by decide +kernel
theorem d_Co_look_4 : decode b_Co_look 4 = .ok (.iload_n 1, 1) := by decide +kernel
theorem d_Co_look_5 : decode b_Co_look 5 = .ok (.iload_n 2, 1) := by decide +kernel
theorem d_Co_look_6 : decode b_Co_look 6 = .ok (.invokestatic 100, 3) := by decide +kernel
theorem d_Co_look_9 : decode b_Co_look 9 = .ok (.iload_n 3, 1) := by decide +kernel
theorem d_Co_look_10 : decode b_Co_look 10 = .ok (.invokevirtual 162, 3) := by decide +kernel
theorem d_Co_look_13 : decode b_Co_look 13 = .ok (.lreturn, 1) := by decide +kernel
theorem d_Mo_store_0 : decode b_Mo_store 0 = .ok (.iload_n 1, 1) := by decide +kernel
theorem d_Mo_store_1 : decode b_Mo_store 1 = .ok (.ifCond .lt 16, 3) := by decide +kernel
theorem d_Mo_store_17 : decode b_Mo_store 17 = .ok (.iconst 0, 1) := by decide +kernel
theorem d_Mo_store_18 : decode b_Mo_store 18 = .ok (.ireturn, 1) := by decide +kernel
theorem d_Mo_store_4 : decode b_Mo_store 4 = .ok (.iload_n 1, 1) := by decide +kernel
theorem d_Mo_store_5 : decode b_Mo_store 5 = .ok (.i2l, 1) := by decide +kernel
theorem d_Mo_store_6 : decode b_Mo_store 6 = .ok (.ldc2_w 60, 3) := by decide +kernel
theorem d_Mo_store_9 : decode b_Mo_store 9 = .ok (.ladd, 1) := by decide +kernel
theorem d_Mo_store_10 : decode b_Mo_store 10 = .ok (.ldc2_w 42, 3) := by decide +kernel
theorem d_Mo_store_13 : decode b_Mo_store 13 = .ok (.lcmp, 1) := by decide +kernel
theorem d_Mo_store_14 : decode b_Mo_store 14 = .ok (.ifCond .le 5, 3) := by decide +kernel
theorem d_Mo_store_19 : decode b_Mo_store 19 = .ok (.iconst 0, 1) := by decide +kernel
theorem d_Mo_store_20 : decode b_Mo_store 20 = .ok (.istore 4, 2) := by decide +kernel
theorem d_Mo_store_22 : decode b_Mo_store 22 = .ok (.iload 4, 2) := by decide +kernel
theorem d_Mo_store_24 : decode b_Mo_store 24 = .ok (.bipush 8, 2) := by decide +kernel
theorem d_Mo_store_26 : decode b_Mo_store 26 = .ok (.if_icmp .ge 38, 3) := by decide +kernel
theorem d_Mo_store_64 : decode b_Mo_store 64 = .ok (.iconst 1, 1) := by decide +kernel
theorem d_Mo_store_65 : decode b_Mo_store 65 = .ok (.ireturn, 1) := by decide +kernel
theorem d_Mo_store_29 : decode b_Mo_store 29 = .ok (.aload_n 0, 1) := by decide +kernel
theorem d_Mo_store_30 : decode b_Mo_store 30 = .ok (.getfield 8, 3) := by decide +kernel
theorem d_Mo_store_33 : decode b_Mo_store 33 = .ok (.iload_n 1, 1) := by decide +kernel
theorem d_Mo_store_34 : decode b_Mo_store 34 = .ok (.iload 4, 2) := by decide +kernel
theorem d_Mo_store_36 : decode b_Mo_store 36 = .ok (.iadd, 1) := by decide +kernel
theorem d_Mo_store_37 : decode b_Mo_store 37 = .ok (.iload 4, 2) := by decide +kernel
theorem d_Mo_store_39 : decode b_Mo_store 39 = .ok (.iconst 4, 1) := by decide +kernel
theorem d_Mo_store_40 : decode b_Mo_store 40 = .ok (.if_icmp .ge 7, 3) := by decide +kernel
theorem d_Mo_store_47 : decode b_Mo_store 47 = .ok (.iload_n 3, 1) := by decide +kernel
theorem d_Mo_store_48 : decode b_Mo_store 48 = .ok (.bipush 8, 2) := by decide +kernel
theorem d_Mo_store_50 : decode b_Mo_store 50 = .ok (.iload 4, 2) := by decide +kernel
theorem d_Mo_store_52 : decode b_Mo_store 52 = .ok (.iconst 4, 1) := by decide +kernel
theorem d_Mo_store_53 : decode b_Mo_store 53 = .ok (.irem, 1) := by decide +kernel
theorem d_Mo_store_54 : decode b_Mo_store 54 = .ok (.imul, 1) := by decide +kernel
theorem d_Mo_store_55 : decode b_Mo_store 55 = .ok (.ishr, 1) := by decide +kernel
theorem d_Mo_store_56 : decode b_Mo_store 56 = .ok (.i2b, 1) := by decide +kernel
theorem d_Mo_store_57 : decode b_Mo_store 57 = .ok (.bastore, 1) := by decide +kernel
theorem d_Mo_store_58 : decode b_Mo_store 58 = .ok (.iinc 4 1, 3) := by decide +kernel
theorem d_Mo_store_61 : decode b_Mo_store 61 = .ok (.goto (-39), 3) := by decide +kernel
theorem d_Mo_store_43 : decode b_Mo_store 43 = .ok (.iload_n 2, 1) := by decide +kernel
theorem d_Mo_store_44 : decode b_Mo_store 44 = .ok (.goto 4, 3) := by decide +kernel
theorem d_Mo_stored_0 : decode b_Mo_stored 0 = .ok (.aload_n 0, 1) := by decide +kernel
theorem d_Mo_stored_1 : decode b_Mo_stored 1 = .ok (.iload_n 1, 1) := by decide +kernel
theorem d_Mo_stored_2 : decode b_Mo_stored 2 = .ok (.i2l, 1) := by decide +kernel
theorem d_Mo_eight_0 : decode b_Mo_eight 0 = .ok (.lconst 0, 1) := by decide +kernel
theorem d_Mo_eight_1 : decode b_Mo_eight 1 = .ok (.lstore_n 3, 1) := by decide +kernel
theorem d_Mo_eight_2 : decode b_Mo_eight 2 = .ok (.iconst 0, 1) := by decide +kernel
theorem d_Mo_eight_3 : decode b_Mo_eight 3 = .ok (.istore 5, 2) := by decide +kernel
theorem d_Mo_eight_5 : decode b_Mo_eight 5 = .ok (.iload 5, 2) := by decide +kernel
theorem d_Mo_eight_7 : decode b_Mo_eight 7 = .ok (.bipush 8, 2) := by decide +kernel
theorem d_Mo_eight_9 : decode b_Mo_eight 9 = .ok (.if_icmp .ge 28, 3) := by decide +kernel
theorem d_Mo_eight_37 : decode b_Mo_eight 37 = .ok (.lload_n 3, 1) := by decide +kernel
theorem d_Mo_eight_38 : decode b_Mo_eight 38 = .ok (.lreturn, 1) := by decide +kernel
theorem d_Mo_eight_12 : decode b_Mo_eight 12 = .ok (.lload_n 3, 1) := by decide +kernel
theorem d_Mo_eight_13 : decode b_Mo_eight 13 = .ok (.aload_n 0, 1) := by decide +kernel
theorem d_Mo_eight_14 : decode b_Mo_eight 14 = .ok (.lload_n 1, 1) := by decide +kernel
theorem d_Mo_eight_15 : decode b_Mo_eight 15 = .ok (.iload 5, 2) := by decide +kernel
theorem d_Mo_eight_17 : decode b_Mo_eight 17 = .ok (.i2l, 1) := by decide +kernel
theorem d_Mo_eight_18 : decode b_Mo_eight 18 = .ok (.ladd, 1) := by decide +kernel
theorem d_Mo_byteAt_0 : decode b_Mo_byteAt 0 = .ok (.lload_n 1, 1) := by decide +kernel
theorem d_Mo_byteAt_1 : decode b_Mo_byteAt 1 = .ok (.lconst 0, 1) := by decide +kernel
theorem d_Mo_byteAt_2 : decode b_Mo_byteAt 2 = .ok (.lcmp, 1) := by decide +kernel
theorem d_Mo_byteAt_3 : decode b_Mo_byteAt 3 = .ok (.ifCond .lt 11, 3) := by decide +kernel
theorem d_Mo_byteAt_14 : decode b_Mo_byteAt 14 = .ok (.iconst 0, 1) := by decide +kernel
theorem d_Mo_byteAt_15 : decode b_Mo_byteAt 15 = .ok (.goto 14, 3) := by decide +kernel
theorem d_Mo_byteAt_29 : decode b_Mo_byteAt 29 = .ok (.ireturn, 1) := by decide +kernel
theorem d_Mo_byteAt_6 : decode b_Mo_byteAt 6 = .ok (.lload_n 1, 1) := by decide +kernel
theorem d_Mo_byteAt_7 : decode b_Mo_byteAt 7 = .ok (.ldc2_w 42, 3) := by decide +kernel
theorem d_Mo_byteAt_10 : decode b_Mo_byteAt 10 = .ok (.lcmp, 1) := by decide +kernel
theorem d_Mo_byteAt_11 : decode b_Mo_byteAt 11 = .ok (.ifCond .lt 7, 3) := by decide +kernel
theorem d_Mo_byteAt_18 : decode b_Mo_byteAt 18 = .ok (.aload_n 0, 1) := by decide +kernel
theorem d_Mo_byteAt_19 : decode b_Mo_byteAt 19 = .ok (.getfield 8, 3) := by decide +kernel
theorem d_Mo_byteAt_22 : decode b_Mo_byteAt 22 = .ok (.lload_n 1, 1) := by decide +kernel
theorem d_Mo_byteAt_23 : decode b_Mo_byteAt 23 = .ok (.l2i, 1) := by decide +kernel
theorem d_Mo_byteAt_24 : decode b_Mo_byteAt 24 = .ok (.baload, 1) := by decide +kernel
theorem d_Mo_byteAt_25 : decode b_Mo_byteAt 25 = .ok (.sipush 255, 3) := by decide +kernel
theorem d_Mo_byteAt_28 : decode b_Mo_byteAt 28 = .ok (.iand, 1) := by decide +kernel
theorem d_Mo_eight_19 : decode b_Mo_eight 19 = .ok (.invokevirtual 44, 3) := by decide +kernel
theorem d_Mo_eight_22 : decode b_Mo_eight 22 = .ok (.i2l, 1) := by decide +kernel
theorem d_Mo_eight_23 : decode b_Mo_eight 23 = .ok (.bipush 8, 2) := by decide +kernel
theorem d_Mo_eight_25 : decode b_Mo_eight 25 = .ok (.iload 5, 2) := by decide +kernel
theorem d_Mo_eight_27 : decode b_Mo_eight 27 = .ok (.imul, 1) := by decide +kernel
theorem d_Mo_eight_28 : decode b_Mo_eight 28 = .ok (.lshl, 1) := by decide +kernel
theorem d_Mo_eight_29 : decode b_Mo_eight 29 = .ok (.lor, 1) := by decide +kernel
theorem d_Mo_eight_30 : decode b_Mo_eight 30 = .ok (.lstore_n 3, 1) := by decide +kernel
theorem d_Mo_eight_31 : decode b_Mo_eight 31 = .ok (.iinc 5 1, 3) := by decide +kernel
theorem d_Mo_eight_34 : decode b_Mo_eight 34 = .ok (.goto (-29), 3) := by decide +kernel
theorem d_Mo_stored_3 : decode b_Mo_stored 3 = .ok (.invokevirtual 62, 3) := by decide +kernel
theorem d_Mo_stored_6 : decode b_Mo_stored 6 = .ok (.lreturn, 1) := by decide +kernel
theorem d_Mo_set_0 : decode b_Mo_set 0 = .ok (.iload_n 2, 1) := by decide +kernel
theorem d_Mo_set_1 : decode b_Mo_set 1 = .ok (.iload_n 3, 1) := by decide +kernel
theorem d_Mo_join_0 : decode b_Mo_join 0 = .ok (.iload_n 0, 1) := by decide +kernel
theorem d_Mo_join_1 : decode b_Mo_join 1 = .ok (.i2l, 1) := by decide +kernel
theorem d_Mo_join_2 : decode b_Mo_join 2 = .ok (.bipush 32, 2) := by decide +kernel
theorem d_Mo_join_4 : decode b_Mo_join 4 = .ok (.lshl, 1) := by decide +kernel
theorem d_Mo_join_5 : decode b_Mo_join 5 = .ok (.iload_n 1, 1) := by decide +kernel
theorem d_Mo_join_6 : decode b_Mo_join 6 = .ok (.i2l, 1) := by decide +kernel
theorem d_Mo_join_7 : decode b_Mo_join 7 = .ok (.ldc2_w 459, 3) := by decide +kernel
theorem d_Mo_join_10 : decode b_Mo_join 10 = .ok (.land, 1) := by decide +kernel
theorem d_Mo_join_11 : decode b_Mo_join 11 = .ok (.lor, 1) := by decide +kernel
theorem d_Mo_join_12 : decode b_Mo_join 12 = .ok (.lreturn, 1) := by decide +kernel
theorem d_Mo_set_2 : decode b_Mo_set 2 = .ok (.invokestatic 461, 3) := by decide +kernel
theorem d_Mo_set_5 : decode b_Mo_set 5 = .ok (.lstore 4, 2) := by decide +kernel
theorem d_Mo_set_7 : decode b_Mo_set 7 = .ok (.iload_n 1, 1) := by decide +kernel
theorem d_Mo_set_8 : decode b_Mo_set 8 = .ok (.ifCond .lt 9, 3) := by decide +kernel
theorem d_Mo_set_17 : decode b_Mo_set 17 = .ok (.iconst 0, 1) := by decide +kernel
theorem d_Mo_set_18 : decode b_Mo_set 18 = .ok (.ireturn, 1) := by decide +kernel
theorem d_Mo_set_11 : decode b_Mo_set 11 = .ok (.iload_n 1, 1) := by decide +kernel
theorem d_Mo_set_12 : decode b_Mo_set 12 = .ok (.bipush 21, 2) := by decide +kernel
theorem d_Mo_set_14 : decode b_Mo_set 14 = .ok (.if_icmp .le 5, 3) := by decide +kernel
theorem d_Mo_set_19 : decode b_Mo_set 19 = .ok (.iload_n 1, 1) := by decide +kernel
theorem d_Mo_set_20 : decode b_Mo_set 20 = .ok (.bipush 16, 2) := by decide +kernel
theorem d_Mo_set_22 : decode b_Mo_set 22 = .ok (.if_icmp .ge 11, 3) := by decide +kernel
theorem d_Mo_set_33 : decode b_Mo_set 33 = .ok (.iload_n 1, 1) := by decide +kernel
theorem d_Mo_set_34 : decode b_Mo_set 34 = .ok (.bipush 16, 2) := by decide +kernel
theorem d_Mo_set_36 : decode b_Mo_set 36 = .ok (.if_icmp .ne 9, 3) := by decide +kernel
theorem d_Mo_set_45 : decode b_Mo_set 45 = .ok (.iload_n 1, 1) := by decide +kernel
theorem d_Mo_set_46 : decode b_Mo_set 46 = .ok (.bipush 17, 2) := by decide +kernel
theorem d_Mo_set_48 : decode b_Mo_set 48 = .ok (.if_icmp .ne 9, 3) := by decide +kernel
theorem d_Mo_set_57 : decode b_Mo_set 57 = .ok (.iload_n 1, 1) := by decide +kernel
theorem d_Mo_set_58 : decode b_Mo_set 58 = .ok (.bipush 18, 2) := by decide +kernel
theorem d_Mo_set_60 : decode b_Mo_set 60 = .ok (.if_icmp .ne 9, 3) := by decide +kernel
theorem d_Mo_set_69 : decode b_Mo_set 69 = .ok (.iload_n 1, 1) := by decide +kernel
theorem d_Mo_set_70 : decode b_Mo_set 70 = .ok (.bipush 19, 2) := by decide +kernel
theorem d_Mo_set_72 : decode b_Mo_set 72 = .ok (.if_icmp .ne 9, 3) := by decide +kernel
theorem d_Mo_set_81 : decode b_Mo_set 81 = .ok (.iload_n 1, 1) := by decide +kernel
theorem d_Mo_set_82 : decode b_Mo_set 82 = .ok (.bipush 20, 2) := by decide +kernel
theorem d_Mo_set_84 : decode b_Mo_set 84 = .ok (.if_icmp .ne 9, 3) := by decide +kernel
theorem d_Mo_set_93 : decode b_Mo_set 93 = .ok (.iload_n 1, 1) := by decide +kernel
theorem d_Mo_set_94 : decode b_Mo_set 94 = .ok (.bipush 21, 2) := by decide +kernel
theorem d_Mo_set_96 : decode b_Mo_set 96 = .ok (.if_icmp .ne 9, 3) := by decide +kernel
theorem d_Mo_set_105 : decode b_Mo_set 105 = .ok (.iconst 1, 1) := by decide +kernel
theorem d_Mo_set_106 : decode b_Mo_set 106 = .ok (.ireturn, 1) := by decide +kernel
theorem d_Mo_set_99 : decode b_Mo_set 99 = .ok (.aload_n 0, 1) := by decide +kernel
theorem d_Mo_set_100 : decode b_Mo_set 100 = .ok (.lload 4, 2) := by decide +kernel
theorem d_Mo_set_102 : decode b_Mo_set 102 = .ok (.putfield 205, 3) := by decide +kernel
theorem d_Mo_set_87 : decode b_Mo_set 87 = .ok (.aload_n 0, 1) := by decide +kernel
theorem d_Mo_set_88 : decode b_Mo_set 88 = .ok (.lload 4, 2) := by decide +kernel
theorem d_Mo_setFlags_0 : decode b_Mo_setFlags 0 = .ok (.aload_n 0, 1) := by decide +kernel
theorem d_Mo_setFlags_1 : decode b_Mo_setFlags 1 = .ok (.getfield 21, 3) := by decide +kernel
theorem d_Mo_setFlags_4 : decode b_Mo_setFlags 4 = .ok (.iconst 0, 1) := by decide +kernel
theorem d_Mo_setFlags_5 : decode b_Mo_setFlags 5 = .ok (.lload_n 1, 1) := by decide +kernel
theorem d_Mo_setFlags_6 : decode b_Mo_setFlags 6 = .ok (.lconst 1, 1) := by decide +kernel
theorem d_Mo_setFlags_7 : decode b_Mo_setFlags 7 = .ok (.land, 1) := by decide +kernel
theorem d_Mo_setFlags_8 : decode b_Mo_setFlags 8 = .ok (.lconst 0, 1) := by decide +kernel
theorem d_Mo_setFlags_9 : decode b_Mo_setFlags 9 = .ok (.lcmp, 1) := by decide +kernel
theorem d_Mo_setFlags_10 : decode b_Mo_setFlags 10 = .ok (.ifCond .eq 7, 3) := by decide +kernel
theorem d_Mo_setFlags_17 : decode b_Mo_setFlags 17 = .ok (.iconst 0, 1) := by decide +kernel
theorem d_Mo_setFlags_18 : decode b_Mo_setFlags 18 = .ok (.bastore, 1) := by decide +kernel
theorem d_Mo_setFlags_19 : decode b_Mo_setFlags 19 = .ok (.aload_n 0, 1) := by decide +kernel
theorem d_Mo_setFlags_20 : decode b_Mo_setFlags 20 = .ok (.getfield 21, 3) := by decide +kernel
theorem d_Mo_setFlags_23 : decode b_Mo_setFlags 23 = .ok (.iconst 1, 1) := by decide +kernel
theorem d_Mo_setFlags_24 : decode b_Mo_setFlags 24 = .ok (.lload_n 1, 1) := by decide +kernel
theorem d_Mo_setFlags_25 : decode b_Mo_setFlags 25 = .ok (.ldc2_w 75, 3) := by decide +kernel
theorem d_Mo_setFlags_28 : decode b_Mo_setFlags 28 = .ok (.land, 1) := by decide +kernel
theorem d_Mo_setFlags_29 : decode b_Mo_setFlags 29 = .ok (.lconst 0, 1) := by decide +kernel
theorem d_Mo_setFlags_30 : decode b_Mo_setFlags 30 = .ok (.lcmp, 1) := by decide +kernel
theorem d_Mo_setFlags_31 : decode b_Mo_setFlags 31 = .ok (.ifCond .eq 7, 3) := by decide +kernel
theorem d_Mo_setFlags_38 : decode b_Mo_setFlags 38 = .ok (.iconst 0, 1) := by decide +kernel
theorem d_Mo_setFlags_39 : decode b_Mo_setFlags 39 = .ok (.bastore, 1) := by decide +kernel
theorem d_Mo_setFlags_40 : decode b_Mo_setFlags 40 = .ok (.aload_n 0, 1) := by decide +kernel
theorem d_Mo_setFlags_41 : decode b_Mo_setFlags 41 = .ok (.getfield 21, 3) := by decide +kernel
theorem d_Mo_setFlags_44 : decode b_Mo_setFlags 44 = .ok (.iconst 2, 1) := by decide +kernel
theorem d_Mo_setFlags_45 : decode b_Mo_setFlags 45 = .ok (.lload_n 1, 1) := by decide +kernel
theorem d_Mo_setFlags_46 : decode b_Mo_setFlags 46 = .ok (.ldc2_w 451, 3) := by decide +kernel
theorem d_Mo_setFlags_49 : decode b_Mo_setFlags 49 = .ok (.land, 1) := by decide +kernel
theorem d_Mo_setFlags_50 : decode b_Mo_setFlags 50 = .ok (.lconst 0, 1) := by decide +kernel
theorem d_Mo_setFlags_51 : decode b_Mo_setFlags 51 = .ok (.lcmp, 1) := by decide +kernel
theorem d_Mo_setFlags_52 : decode b_Mo_setFlags 52 = .ok (.ifCond .eq 7, 3) := by decide +kernel
theorem d_Mo_setFlags_59 : decode b_Mo_setFlags 59 = .ok (.iconst 0, 1) := by decide +kernel
theorem d_Mo_setFlags_60 : decode b_Mo_setFlags 60 = .ok (.bastore, 1) := by decide +kernel
theorem d_Mo_setFlags_61 : decode b_Mo_setFlags 61 = .ok (.aload_n 0, 1) := by decide +kernel
theorem d_Mo_setFlags_62 : decode b_Mo_setFlags 62 = .ok (.getfield 21, 3) := by decide +kernel
theorem d_Mo_setFlags_65 : decode b_Mo_setFlags 65 = .ok (.iconst 3, 1) := by decide +kernel
theorem d_Mo_setFlags_66 : decode b_Mo_setFlags 66 = .ok (.lload_n 1, 1) := by decide +kernel
theorem d_Mo_setFlags_67 : decode b_Mo_setFlags 67 = .ok (.ldc2_w 453, 3) := by decide +kernel
theorem d_Mo_setFlags_70 : decode b_Mo_setFlags 70 = .ok (.land, 1) := by decide +kernel
theorem d_Mo_setFlags_71 : decode b_Mo_setFlags 71 = .ok (.lconst 0, 1) := by decide +kernel
theorem d_Mo_setFlags_72 : decode b_Mo_setFlags 72 = .ok (.lcmp, 1) := by decide +kernel
theorem d_Mo_setFlags_73 : decode b_Mo_setFlags 73 = .ok (.ifCond .eq 7, 3) := by decide +kernel
theorem d_Mo_setFlags_80 : decode b_Mo_setFlags 80 = .ok (.iconst 0, 1) := by decide +kernel
theorem d_Mo_setFlags_81 : decode b_Mo_setFlags 81 = .ok (.bastore, 1) := by decide +kernel
theorem d_Mo_setFlags_82 : decode b_Mo_setFlags 82 = .ok (.aload_n 0, 1) := by decide +kernel
theorem d_Mo_setFlags_83 : decode b_Mo_setFlags 83 = .ok (.getfield 21, 3) := by decide +kernel
theorem d_Mo_setFlags_86 : decode b_Mo_setFlags 86 = .ok (.iconst 4, 1) := by decide +kernel
theorem d_Mo_setFlags_87 : decode b_Mo_setFlags 87 = .ok (.lload_n 1, 1) := by decide +kernel
theorem d_Mo_setFlags_88 : decode b_Mo_setFlags 88 = .ok (.ldc2_w 66, 3) := by decide +kernel
theorem d_Mo_setFlags_91 : decode b_Mo_setFlags 91 = .ok (.land, 1) := by decide +kernel
theorem d_Mo_setFlags_92 : decode b_Mo_setFlags 92 = .ok (.lconst 0, 1) := by decide +kernel
theorem d_Mo_setFlags_93 : decode b_Mo_setFlags 93 = .ok (.lcmp, 1) := by decide +kernel
theorem d_Mo_setFlags_94 : decode b_Mo_setFlags 94 = .ok (.ifCond .eq 7, 3) := by decide +kernel
theorem d_Mo_setFlags_101 : decode b_Mo_setFlags 101 = .ok (.iconst 0, 1) := by decide +kernel
theorem d_Mo_setFlags_102 : decode b_Mo_setFlags 102 = .ok (.bastore, 1) := by decide +kernel
theorem d_Mo_setFlags_103 : decode b_Mo_setFlags 103 = .ok (.aload_n 0, 1) := by decide +kernel
theorem d_Mo_setFlags_104 : decode b_Mo_setFlags 104 = .ok (.getfield 21, 3) := by decide +kernel
theorem d_Mo_setFlags_107 : decode b_Mo_setFlags 107 = .ok (.iconst 5, 1) := by decide +kernel
theorem d_Mo_setFlags_108 : decode b_Mo_setFlags 108 = .ok (.lload_n 1, 1) := by decide +kernel
theorem d_Mo_setFlags_109 : decode b_Mo_setFlags 109 = .ok (.ldc2_w 455, 3) := by decide +kernel
theorem d_Mo_setFlags_112 : decode b_Mo_setFlags 112 = .ok (.land, 1) := by decide +kernel
theorem d_Mo_setFlags_113 : decode b_Mo_setFlags 113 = .ok (.lconst 0, 1) := by decide +kernel
theorem d_Mo_setFlags_114 : decode b_Mo_setFlags 114 = .ok (.lcmp, 1) := by decide +kernel
theorem d_Mo_setFlags_115 : decode b_Mo_setFlags 115 = .ok (.ifCond .eq 7, 3) := by decide +kernel
theorem d_Mo_setFlags_122 : decode b_Mo_setFlags 122 = .ok (.iconst 0, 1) := by decide +kernel
theorem d_Mo_setFlags_123 : decode b_Mo_setFlags 123 = .ok (.bastore, 1) := by decide +kernel
theorem d_Mo_setFlags_124 : decode b_Mo_setFlags 124 = .ok (.aload_n 0, 1) := by decide +kernel
theorem d_Mo_setFlags_125 : decode b_Mo_setFlags 125 = .ok (.getfield 21, 3) := by decide +kernel
theorem d_Mo_setFlags_128 : decode b_Mo_setFlags 128 = .ok (.bipush 6, 2) := by decide +kernel
theorem d_Mo_setFlags_130 : decode b_Mo_setFlags 130 = .ok (.lload_n 1, 1) := by decide +kernel
theorem d_Mo_setFlags_131 : decode b_Mo_setFlags 131 = .ok (.ldc2_w 457, 3) := by decide +kernel
theorem d_Mo_setFlags_134 : decode b_Mo_setFlags 134 = .ok (.land, 1) := by decide +kernel
theorem d_Mo_setFlags_135 : decode b_Mo_setFlags 135 = .ok (.lconst 0, 1) := by decide +kernel
theorem d_Mo_setFlags_136 : decode b_Mo_setFlags 136 = .ok (.lcmp, 1) := by decide +kernel
theorem d_Mo_setFlags_137 : decode b_Mo_setFlags 137 = .ok (.ifCond .eq 7, 3) := by decide +kernel
theorem d_Mo_setFlags_144 : decode b_Mo_setFlags 144 = .ok (.iconst 0, 1) := by decide +kernel
theorem d_Mo_setFlags_145 : decode b_Mo_setFlags 145 = .ok (.bastore, 1) := by decide +kernel
theorem d_Mo_setFlags_146 : decode b_Mo_setFlags 146 = .ok (.return_, 1) := by decide +kernel
theorem d_Mo_setFlags_140 : decode b_Mo_setFlags 140 = .ok (.iconst 1, 1) := by decide +kernel
theorem d_Mo_setFlags_141 : decode b_Mo_setFlags 141 = .ok (.goto 4, 3) := by decide +kernel
theorem d_Mo_setFlags_118 : decode b_Mo_setFlags 118 = .ok (.iconst 1, 1) := by decide +kernel
theorem d_Mo_setFlags_119 : decode b_Mo_setFlags 119 = .ok (.goto 4, 3) := by decide +kernel
theorem d_Mo_setFlags_97 : decode b_Mo_setFlags 97 = .ok (.iconst 1, 1) := by decide +kernel
theorem d_Mo_setFlags_98 : decode b_Mo_setFlags 98 = .ok (.goto 4, 3) := by decide +kernel
theorem d_Mo_setFlags_76 : decode b_Mo_setFlags 76 = .ok (.iconst 1, 1) := by decide +kernel
theorem d_Mo_setFlags_77 : decode b_Mo_setFlags 77 = .ok (.goto 4, 3) := by decide +kernel
theorem d_Mo_setFlags_55 : decode b_Mo_setFlags 55 = .ok (.iconst 1, 1) := by decide +kernel
theorem d_Mo_setFlags_56 : decode b_Mo_setFlags 56 = .ok (.goto 4, 3) := by decide +kernel
theorem d_Mo_setFlags_34 : decode b_Mo_setFlags 34 = .ok (.iconst 1, 1) := by decide +kernel
theorem d_Mo_setFlags_35 : decode b_Mo_setFlags 35 = .ok (.goto 4, 3) := by decide +kernel
theorem d_Mo_setFlags_13 : decode b_Mo_setFlags 13 = .ok (.iconst 1, 1) := by decide +kernel
theorem d_Mo_setFlags_14 : decode b_Mo_setFlags 14 = .ok (.goto 4, 3) := by decide +kernel
theorem d_Mo_set_90 : decode b_Mo_set 90 = .ok (.invokevirtual 316, 3) := by decide +kernel
theorem d_Mo_set_75 : decode b_Mo_set 75 = .ok (.aload_n 0, 1) := by decide +kernel
theorem d_Mo_set_76 : decode b_Mo_set 76 = .ok (.lload 4, 2) := by decide +kernel
theorem d_Mo_set_78 : decode b_Mo_set 78 = .ok (.putfield 448, 3) := by decide +kernel
theorem d_Mo_set_63 : decode b_Mo_set 63 = .ok (.aload_n 0, 1) := by decide +kernel
theorem d_Mo_set_64 : decode b_Mo_set 64 = .ok (.lload 4, 2) := by decide +kernel
theorem d_Mo_set_66 : decode b_Mo_set 66 = .ok (.putfield 445, 3) := by decide +kernel
theorem d_Mo_set_51 : decode b_Mo_set 51 = .ok (.aload_n 0, 1) := by decide +kernel
theorem d_Mo_set_52 : decode b_Mo_set 52 = .ok (.lload 4, 2) := by decide +kernel
theorem d_Mo_set_54 : decode b_Mo_set 54 = .ok (.putfield 52, 3) := by decide +kernel
theorem d_Mo_set_39 : decode b_Mo_set 39 = .ok (.aload_n 0, 1) := by decide +kernel
theorem d_Mo_set_40 : decode b_Mo_set 40 = .ok (.lload 4, 2) := by decide +kernel
theorem d_Mo_set_42 : decode b_Mo_set 42 = .ok (.putfield 111, 3) := by decide +kernel
theorem d_Mo_set_25 : decode b_Mo_set 25 = .ok (.aload_n 0, 1) := by decide +kernel
theorem d_Mo_set_26 : decode b_Mo_set 26 = .ok (.getfield 14, 3) := by decide +kernel
theorem d_Mo_set_29 : decode b_Mo_set 29 = .ok (.iload_n 1, 1) := by decide +kernel
theorem d_Mo_set_30 : decode b_Mo_set 30 = .ok (.lload 4, 2) := by decide +kernel
theorem d_Mo_set_32 : decode b_Mo_set 32 = .ok (.lastore, 1) := by decide +kernel
theorem d_Mo_get_0 : decode b_Mo_get 0 = .ok (.iload_n 1, 1) := by decide +kernel
theorem d_Mo_get_1 : decode b_Mo_get 1 = .ok (.ifCond .lt 9, 3) := by decide +kernel
theorem d_Mo_get_10 : decode b_Mo_get 10 = .ok (.lconst 0, 1) := by decide +kernel
theorem d_Mo_get_11 : decode b_Mo_get 11 = .ok (.lreturn, 1) := by decide +kernel
theorem d_Mo_get_4 : decode b_Mo_get 4 = .ok (.iload_n 1, 1) := by decide +kernel
theorem d_Mo_get_5 : decode b_Mo_get 5 = .ok (.bipush 24, 2) := by decide +kernel
theorem d_Mo_get_7 : decode b_Mo_get 7 = .ok (.if_icmp .le 5, 3) := by decide +kernel
theorem d_Mo_get_12 : decode b_Mo_get 12 = .ok (.iload_n 1, 1) := by decide +kernel
theorem d_Mo_get_13 : decode b_Mo_get 13 = .ok (.bipush 16, 2) := by decide +kernel
theorem d_Mo_get_15 : decode b_Mo_get 15 = .ok (.if_icmp .ge 10, 3) := by decide +kernel
theorem d_Mo_get_25 : decode b_Mo_get 25 = .ok (.iload_n 1, 1) := by decide +kernel
theorem d_Mo_get_26 : decode b_Mo_get 26 = .ok (.tableswitch 87 16 23 #[46, 51, 56, 61, 66, 71, 76, 81], 46) := by decide +kernel
theorem d_Mo_get_72 : decode b_Mo_get 72 = .ok (.aload_n 0, 1) := by decide +kernel
theorem d_Mo_get_73 : decode b_Mo_get 73 = .ok (.getfield 111, 3) := by decide +kernel
theorem d_Mo_get_76 : decode b_Mo_get 76 = .ok (.lreturn, 1) := by decide +kernel
theorem d_Mo_get_77 : decode b_Mo_get 77 = .ok (.aload_n 0, 1) := by decide +kernel
theorem d_Mo_get_78 : decode b_Mo_get 78 = .ok (.getfield 52, 3) := by decide +kernel
theorem d_Mo_get_81 : decode b_Mo_get 81 = .ok (.lreturn, 1) := by decide +kernel
theorem d_Mo_get_82 : decode b_Mo_get 82 = .ok (.aload_n 0, 1) := by decide +kernel
theorem d_Mo_get_83 : decode b_Mo_get 83 = .ok (.getfield 445, 3) := by decide +kernel
theorem d_Mo_get_86 : decode b_Mo_get 86 = .ok (.lreturn, 1) := by decide +kernel
theorem d_Mo_get_87 : decode b_Mo_get 87 = .ok (.aload_n 0, 1) := by decide +kernel
theorem d_Mo_get_88 : decode b_Mo_get 88 = .ok (.getfield 448, 3) := by decide +kernel
theorem d_Mo_get_91 : decode b_Mo_get 91 = .ok (.lreturn, 1) := by decide +kernel
theorem d_Mo_get_92 : decode b_Mo_get 92 = .ok (.aload_n 0, 1) := by decide +kernel
theorem d_Mo_flags_0 : decode b_Mo_flags 0 = .ok (.aload_n 0, 1) := by decide +kernel
theorem d_Mo_flags_1 : decode b_Mo_flags 1 = .ok (.getfield 21, 3) := by decide +kernel
theorem d_Mo_flags_4 : decode b_Mo_flags 4 = .ok (.iconst 0, 1) := by decide +kernel
theorem d_Mo_flags_5 : decode b_Mo_flags 5 = .ok (.baload, 1) := by decide +kernel
theorem d_Mo_flags_6 : decode b_Mo_flags 6 = .ok (.ifCond .eq 7, 3) := by decide +kernel
theorem d_Mo_flags_13 : decode b_Mo_flags 13 = .ok (.lconst 0, 1) := by decide +kernel
theorem d_Mo_flags_14 : decode b_Mo_flags 14 = .ok (.aload_n 0, 1) := by decide +kernel
theorem d_Mo_flags_15 : decode b_Mo_flags 15 = .ok (.getfield 21, 3) := by decide +kernel
theorem d_Mo_flags_18 : decode b_Mo_flags 18 = .ok (.iconst 1, 1) := by decide +kernel
theorem d_Mo_flags_19 : decode b_Mo_flags 19 = .ok (.baload, 1) := by decide +kernel
theorem d_Mo_flags_20 : decode b_Mo_flags 20 = .ok (.ifCond .eq 9, 3) := by decide +kernel
theorem d_Mo_flags_29 : decode b_Mo_flags 29 = .ok (.lconst 0, 1) := by decide +kernel
theorem d_Mo_flags_30 : decode b_Mo_flags 30 = .ok (.ladd, 1) := by decide +kernel
theorem d_Mo_flags_31 : decode b_Mo_flags 31 = .ok (.aload_n 0, 1) := by decide +kernel
theorem d_Mo_flags_32 : decode b_Mo_flags 32 = .ok (.getfield 21, 3) := by decide +kernel
theorem d_Mo_flags_35 : decode b_Mo_flags 35 = .ok (.iconst 2, 1) := by decide +kernel
theorem d_Mo_flags_36 : decode b_Mo_flags 36 = .ok (.baload, 1) := by decide +kernel
theorem d_Mo_flags_37 : decode b_Mo_flags 37 = .ok (.ifCond .eq 9, 3) := by decide +kernel
theorem d_Mo_flags_46 : decode b_Mo_flags 46 = .ok (.lconst 0, 1) := by decide +kernel
theorem d_Mo_flags_47 : decode b_Mo_flags 47 = .ok (.ladd, 1) := by decide +kernel
theorem d_Mo_flags_48 : decode b_Mo_flags 48 = .ok (.aload_n 0, 1) := by decide +kernel
theorem d_Mo_flags_49 : decode b_Mo_flags 49 = .ok (.getfield 21, 3) := by decide +kernel
theorem d_Mo_flags_52 : decode b_Mo_flags 52 = .ok (.iconst 3, 1) := by decide +kernel
theorem d_Mo_flags_53 : decode b_Mo_flags 53 = .ok (.baload, 1) := by decide +kernel
theorem d_Mo_flags_54 : decode b_Mo_flags 54 = .ok (.ifCond .eq 9, 3) := by decide +kernel
theorem d_Mo_flags_63 : decode b_Mo_flags 63 = .ok (.lconst 0, 1) := by decide +kernel
theorem d_Mo_flags_64 : decode b_Mo_flags 64 = .ok (.ladd, 1) := by decide +kernel
theorem d_Mo_flags_65 : decode b_Mo_flags 65 = .ok (.aload_n 0, 1) := by decide +kernel
theorem d_Mo_flags_66 : decode b_Mo_flags 66 = .ok (.getfield 21, 3) := by decide +kernel
theorem d_Mo_flags_69 : decode b_Mo_flags 69 = .ok (.iconst 4, 1) := by decide +kernel
theorem d_Mo_flags_70 : decode b_Mo_flags 70 = .ok (.baload, 1) := by decide +kernel
theorem d_Mo_flags_71 : decode b_Mo_flags 71 = .ok (.ifCond .eq 9, 3) := by decide +kernel
theorem d_Mo_flags_80 : decode b_Mo_flags 80 = .ok (.lconst 0, 1) := by decide +kernel
theorem d_Mo_flags_81 : decode b_Mo_flags 81 = .ok (.ladd, 1) := by decide +kernel
theorem d_Mo_flags_82 : decode b_Mo_flags 82 = .ok (.aload_n 0, 1) := by decide +kernel
theorem d_Mo_flags_83 : decode b_Mo_flags 83 = .ok (.getfield 21, 3) := by decide +kernel
theorem d_Mo_flags_86 : decode b_Mo_flags 86 = .ok (.iconst 5, 1) := by decide +kernel
theorem d_Mo_flags_87 : decode b_Mo_flags 87 = .ok (.baload, 1) := by decide +kernel
theorem d_Mo_flags_88 : decode b_Mo_flags 88 = .ok (.ifCond .eq 9, 3) := by decide +kernel
theorem d_Mo_flags_97 : decode b_Mo_flags 97 = .ok (.lconst 0, 1) := by decide +kernel
theorem d_Mo_flags_98 : decode b_Mo_flags 98 = .ok (.ladd, 1) := by decide +kernel
theorem d_Mo_flags_99 : decode b_Mo_flags 99 = .ok (.aload_n 0, 1) := by decide +kernel
theorem d_Mo_flags_100 : decode b_Mo_flags 100 = .ok (.getfield 21, 3) := by decide +kernel
theorem d_Mo_flags_103 : decode b_Mo_flags 103 = .ok (.bipush 6, 2) := by decide +kernel
theorem d_Mo_flags_105 : decode b_Mo_flags 105 = .ok (.baload, 1) := by decide +kernel
theorem d_Mo_flags_106 : decode b_Mo_flags 106 = .ok (.ifCond .eq 9, 3) := by decide +kernel
theorem d_Mo_flags_115 : decode b_Mo_flags 115 = .ok (.lconst 0, 1) := by decide +kernel
theorem d_Mo_flags_116 : decode b_Mo_flags 116 = .ok (.ladd, 1) := by decide +kernel
theorem d_Mo_flags_117 : decode b_Mo_flags 117 = .ok (.lreturn, 1) := by decide +kernel
theorem d_Mo_flags_109 : decode b_Mo_flags 109 = .ok (.ldc2_w 457, 3) := by decide +kernel
theorem d_Mo_flags_112 : decode b_Mo_flags 112 = .ok (.goto 4, 3) := by decide +kernel
theorem d_Mo_flags_91 : decode b_Mo_flags 91 = .ok (.ldc2_w 455, 3) := by decide +kernel
theorem d_Mo_flags_94 : decode b_Mo_flags 94 = .ok (.goto 4, 3) := by decide +kernel
theorem d_Mo_flags_74 : decode b_Mo_flags 74 = .ok (.ldc2_w 66, 3) := by decide +kernel
theorem d_Mo_flags_77 : decode b_Mo_flags 77 = .ok (.goto 4, 3) := by decide +kernel
theorem d_Mo_flags_57 : decode b_Mo_flags 57 = .ok (.ldc2_w 453, 3) := by decide +kernel
theorem d_Mo_flags_60 : decode b_Mo_flags 60 = .ok (.goto 4, 3) := by decide +kernel
theorem d_Mo_flags_40 : decode b_Mo_flags 40 = .ok (.ldc2_w 451, 3) := by decide +kernel
theorem d_Mo_flags_43 : decode b_Mo_flags 43 = .ok (.goto 4, 3) := by decide +kernel
theorem d_Mo_flags_23 : decode b_Mo_flags 23 = .ok (.ldc2_w 75, 3) := by decide +kernel
theorem d_Mo_flags_26 : decode b_Mo_flags 26 = .ok (.goto 4, 3) := by decide +kernel
theorem d_Mo_flags_9 : decode b_Mo_flags 9 = .ok (.lconst 1, 1) := by decide +kernel
theorem d_Mo_flags_10 : decode b_Mo_flags 10 = .ok (.goto 4, 3) := by decide +kernel
theorem d_Mo_get_93 : decode b_Mo_get 93 = .ok (.invokevirtual 304, 3) := by decide +kernel
theorem d_Mo_get_96 : decode b_Mo_get 96 = .ok (.lreturn, 1) := by decide +kernel
theorem d_Mo_get_97 : decode b_Mo_get 97 = .ok (.aload_n 0, 1) := by decide +kernel
theorem d_Mo_get_98 : decode b_Mo_get 98 = .ok (.getfield 205, 3) := by decide +kernel
theorem d_Mo_get_101 : decode b_Mo_get 101 = .ok (.lreturn, 1) := by decide +kernel
theorem d_Mo_get_102 : decode b_Mo_get 102 = .ok (.aload_n 0, 1) := by decide +kernel
theorem d_Mo_get_103 : decode b_Mo_get 103 = .ok (.getfield 89, 3) := by decide +kernel
theorem d_Mo_get_106 : decode b_Mo_get 106 = .ok (.lreturn, 1) := by decide +kernel
theorem d_Mo_get_107 : decode b_Mo_get 107 = .ok (.aload_n 0, 1) := by decide +kernel
theorem d_Mo_get_108 : decode b_Mo_get 108 = .ok (.getfield 92, 3) := by decide +kernel
theorem d_Mo_get_111 : decode b_Mo_get 111 = .ok (.i2l, 1) := by decide +kernel
theorem d_Mo_get_112 : decode b_Mo_get 112 = .ok (.lreturn, 1) := by decide +kernel
theorem d_Mo_get_113 : decode b_Mo_get 113 = .ok (.aload_n 0, 1) := by decide +kernel
theorem d_Mo_get_114 : decode b_Mo_get 114 = .ok (.getfield 48, 3) := by decide +kernel
theorem d_Mo_get_117 : decode b_Mo_get 117 = .ok (.ifCond .eq 9, 3) := by decide +kernel
theorem d_Mo_get_126 : decode b_Mo_get 126 = .ok (.lconst 0, 1) := by decide +kernel
theorem d_Mo_get_127 : decode b_Mo_get 127 = .ok (.lreturn, 1) := by decide +kernel
theorem d_Mo_get_120 : decode b_Mo_get 120 = .ok (.ldc2_w 464, 3) := by decide +kernel
theorem d_Mo_get_123 : decode b_Mo_get 123 = .ok (.goto 4, 3) := by decide +kernel
theorem d_Mo_get_18 : decode b_Mo_get 18 = .ok (.aload_n 0, 1) := by decide +kernel
theorem d_Mo_get_19 : decode b_Mo_get 19 = .ok (.getfield 14, 3) := by decide +kernel
theorem d_Mo_get_22 : decode b_Mo_get 22 = .ok (.iload_n 1, 1) := by decide +kernel
theorem d_Mo_get_23 : decode b_Mo_get 23 = .ok (.laload, 1) := by decide +kernel
theorem d_Mo_get_24 : decode b_Mo_get 24 = .ok (.lreturn, 1) := by decide +kernel
theorem d_Mo_level_0 : decode b_Mo_level 0 = .ok (.aload_n 0, 1) := by decide +kernel
theorem d_Mo_level_1 : decode b_Mo_level 1 = .ok (.iload_n 1, 1) := by decide +kernel
theorem d_Mo_level_2 : decode b_Mo_level 2 = .ok (.putfield 48, 3) := by decide +kernel
theorem d_Mo_level_5 : decode b_Mo_level 5 = .ok (.return_, 1) := by decide +kernel
theorem d_Mo_step_0 : decode b_Mo_step 0 = .ok (.aload_n 0, 1) := by decide +kernel
theorem d_Mo_step_1 : decode b_Mo_step 1 = .ok (.iconst (-1), 1) := by decide +kernel
theorem d_Mo_step_2 : decode b_Mo_step 2 = .ok (.putfield 28, 3) := by decide +kernel
theorem d_Mo_step_5 : decode b_Mo_step 5 = .ok (.aload_n 0, 1) := by decide +kernel
theorem d_Mo_step_6 : decode b_Mo_step 6 = .ok (.iconst 0, 1) := by decide +kernel
theorem d_Mo_step_7 : decode b_Mo_step 7 = .ok (.putfield 103, 3) := by decide +kernel
theorem d_Mo_step_10 : decode b_Mo_step 10 = .ok (.aload_n 0, 1) := by decide +kernel
theorem d_Mo_step_11 : decode b_Mo_step 11 = .ok (.aload_n 0, 1) := by decide +kernel
theorem d_Mo_step_12 : decode b_Mo_step 12 = .ok (.getfield 48, 3) := by decide +kernel
theorem d_Mo_step_15 : decode b_Mo_step 15 = .ok (.putfield 229, 3) := by decide +kernel
theorem d_Mo_step_18 : decode b_Mo_step 18 = .ok (.iconst 0, 1) := by decide +kernel
theorem d_Mo_step_19 : decode b_Mo_step 19 = .ok (.istore_n 1, 1) := by decide +kernel
theorem d_Mo_step_20 : decode b_Mo_step 20 = .ok (.iload_n 1, 1) := by decide +kernel
theorem d_Mo_step_21 : decode b_Mo_step 21 = .ok (.bipush 16, 2) := by decide +kernel
theorem d_Mo_step_23 : decode b_Mo_step 23 = .ok (.if_icmp .ge 21, 3) := by decide +kernel
theorem d_Mo_step_44 : decode b_Mo_step 44 = .ok (.iconst 0, 1) := by decide +kernel
theorem d_Mo_step_45 : decode b_Mo_step 45 = .ok (.istore_n 1, 1) := by decide +kernel
theorem d_Mo_step_46 : decode b_Mo_step 46 = .ok (.iload_n 1, 1) := by decide +kernel
theorem d_Mo_step_47 : decode b_Mo_step 47 = .ok (.bipush 7, 2) := by decide +kernel
theorem d_Mo_step_49 : decode b_Mo_step 49 = .ok (.if_icmp .ge 21, 3) := by decide +kernel
theorem d_Mo_step_70 : decode b_Mo_step 70 = .ok (.aload_n 0, 1) := by decide +kernel
theorem d_Mo_open_0 : decode b_Mo_open 0 = .ok (.aload_n 0, 1) := by decide +kernel
theorem d_Mo_open_1 : decode b_Mo_open 1 = .ok (.iconst 0, 1) := by decide +kernel
theorem d_Mo_open_2 : decode b_Mo_open 2 = .ok (.putfield 108, 3) := by decide +kernel
theorem d_Mo_open_5 : decode b_Mo_open 5 = .ok (.aload_n 0, 1) := by decide +kernel
theorem d_Mo_open_6 : decode b_Mo_open 6 = .ok (.iconst 0, 1) := by decide +kernel
theorem d_Mo_open_7 : decode b_Mo_open 7 = .ok (.putfield 121, 3) := by decide +kernel
theorem d_Mo_open_10 : decode b_Mo_open 10 = .ok (.aload_n 0, 1) := by decide +kernel
theorem d_Mo_open_11 : decode b_Mo_open 11 = .ok (.iconst 0, 1) := by decide +kernel
theorem d_Mo_open_12 : decode b_Mo_open 12 = .ok (.putfield 124, 3) := by decide +kernel
theorem d_Mo_open_15 : decode b_Mo_open 15 = .ok (.aload_n 0, 1) := by decide +kernel
theorem d_Mo_open_16 : decode b_Mo_open 16 = .ok (.iconst 0, 1) := by decide +kernel
theorem d_Mo_open_17 : decode b_Mo_open 17 = .ok (.putfield 127, 3) := by decide +kernel
theorem d_Mo_open_20 : decode b_Mo_open 20 = .ok (.aload_n 0, 1) := by decide +kernel
theorem d_Mo_fetch_0 : decode b_Mo_fetch 0 = .ok (.aload_n 0, 1) := by decide +kernel
theorem d_Mo_fetch_1 : decode b_Mo_fetch 1 = .ok (.getfield 28, 3) := by decide +kernel
theorem d_Mo_fetch_4 : decode b_Mo_fetch 4 = .ok (.iconst (-1), 1) := by decide +kernel
theorem d_Mo_fetch_5 : decode b_Mo_fetch 5 = .ok (.if_icmp .ne 18, 3) := by decide +kernel
theorem d_Mo_fetch_23 : decode b_Mo_fetch 23 = .ok (.aload_n 0, 1) := by decide +kernel
theorem d_Mo_fetch_24 : decode b_Mo_fetch 24 = .ok (.aload_n 0, 1) := by decide +kernel
theorem d_Mo_fetch_25 : decode b_Mo_fetch 25 = .ok (.getfield 111, 3) := by decide +kernel
theorem d_Mo_fetch_28 : decode b_Mo_fetch 28 = .ok (.aload_n 0, 1) := by decide +kernel
theorem d_Mo_fetch_29 : decode b_Mo_fetch 29 = .ok (.getfield 108, 3) := by decide +kernel
theorem d_Mo_fetch_32 : decode b_Mo_fetch 32 = .ok (.i2l, 1) := by decide +kernel
theorem d_Mo_fetch_33 : decode b_Mo_fetch 33 = .ok (.ladd, 1) := by decide +kernel
theorem d_Mo_fetch_34 : decode b_Mo_fetch 34 = .ok (.iconst 1, 1) := by decide +kernel
theorem d_Mo_fetch_35 : decode b_Mo_fetch 35 = .ok (.iconst 2, 1) := by decide +kernel
theorem d_Mo_fetch_36 : decode b_Mo_fetch 36 = .ok (.iconst 0, 1) := by decide +kernel
theorem d_Mo_lookUp_0 : decode b_Mo_lookUp 0 = .ok (.iconst 0, 1) := by decide +kernel
theorem d_Mo_lookUp_1 : decode b_Mo_lookUp 1 = .ok (.istore 6, 2) := by decide +kernel
theorem d_Mo_lookUp_3 : decode b_Mo_lookUp 3 = .ok (.iload 6, 2) := by decide +kernel
theorem d_Mo_lookUp_5 : decode b_Mo_lookUp 5 = .ok (.iload_n 3, 1) := by decide +kernel
theorem d_Mo_lookUp_6 : decode b_Mo_lookUp 6 = .ok (.if_icmp .ge 101, 3) := by decide +kernel
theorem d_Mo_lookUp_107 : decode b_Mo_lookUp 107 = .ok (.return_, 1) := by decide +kernel
theorem d_Mo_lookUp_9 : decode b_Mo_lookUp 9 = .ok (.aload_n 0, 1) := by decide +kernel
theorem d_Mo_lookUp_10 : decode b_Mo_lookUp 10 = .ok (.getfield 28, 3) := by decide +kernel
theorem d_Mo_lookUp_13 : decode b_Mo_lookUp 13 = .ok (.iconst (-1), 1) := by decide +kernel
theorem d_Mo_lookUp_14 : decode b_Mo_lookUp 14 = .ok (.if_icmp .ne 93, 3) := by decide +kernel
theorem d_Mo_lookUp_17 : decode b_Mo_lookUp 17 = .ok (.lload_n 1, 1) := by decide +kernel
theorem d_Mo_lookUp_18 : decode b_Mo_lookUp 18 = .ok (.iload 6, 2) := by decide +kernel
theorem d_Mo_lookUp_20 : decode b_Mo_lookUp 20 = .ok (.i2l, 1) := by decide +kernel
theorem d_Mo_lookUp_21 : decode b_Mo_lookUp 21 = .ok (.ladd, 1) := by decide +kernel
theorem d_Mo_isWrong_0 : decode b_Mo_isWrong 0 = .ok (.lload_n 0, 1) := by decide +kernel
theorem d_Mo_isWrong_1 : decode b_Mo_isWrong 1 = .ok (.bipush 47, 2) := by decide +kernel
