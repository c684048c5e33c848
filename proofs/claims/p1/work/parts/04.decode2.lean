theorem d_Mo_fetch_52 : decode b_Mo_fetch 52 = .ok (.getfield 108, 3) := by decide +kernel
theorem d_Mo_fetch_55 : decode b_Mo_fetch 55 = .ok (.iconst 1, 1) := by decide +kernel
theorem d_Mo_fetch_56 : decode b_Mo_fetch 56 = .ok (.iadd, 1) := by decide +kernel
theorem d_Mo_fetch_57 : decode b_Mo_fetch 57 = .ok (.putfield 108, 3) := by decide +kernel
theorem d_Mo_fetch_60 : decode b_Mo_fetch 60 = .ok (.aload_n 0, 1) := by decide +kernel
theorem d_Mo_fetch_61 : decode b_Mo_fetch 61 = .ok (.aload_n 0, 1) := by decide +kernel
theorem d_Mo_fetch_62 : decode b_Mo_fetch 62 = .ok (.getfield 39, 3) := by decide +kernel
theorem d_Mo_fetch_65 : decode b_Mo_fetch 65 = .ok (.iconst 0, 1) := by decide +kernel
theorem d_Mo_fetch_66 : decode b_Mo_fetch 66 = .ok (.laload, 1) := by decide +kernel
theorem d_Mo_fetch_67 : decode b_Mo_fetch 67 = .ok (.invokevirtual 44, 3) := by decide +kernel
theorem d_Mo_fetch_70 : decode b_Mo_fetch 70 = .ok (.ireturn, 1) := by decide +kernel
theorem d_Mo_fetch_48 : decode b_Mo_fetch 48 = .ok (.iconst 0, 1) := by decide +kernel
theorem d_Mo_fetch_49 : decode b_Mo_fetch 49 = .ok (.ireturn, 1) := by decide +kernel
theorem d_Mo_fetch_8 : decode b_Mo_fetch 8 = .ok (.aload_n 0, 1) := by decide +kernel
theorem d_Mo_fetch_9 : decode b_Mo_fetch 9 = .ok (.getfield 108, 3) := by decide +kernel
theorem d_Mo_fetch_12 : decode b_Mo_fetch 12 = .ok (.bipush 15, 2) := by decide +kernel
theorem d_Mo_fetch_14 : decode b_Mo_fetch 14 = .ok (.if_icmp .ne 9, 3) := by decide +kernel
theorem d_Mo_fetch_17 : decode b_Mo_fetch 17 = .ok (.aload_n 0, 1) := by decide +kernel
theorem d_Mo_fetch_18 : decode b_Mo_fetch 18 = .ok (.bipush 13, 2) := by decide +kernel
theorem d_Mo_fetch_20 : decode b_Mo_fetch 20 = .ok (.invokevirtual 81, 3) := by decide +kernel
theorem d_Mo_open_21 : decode b_Mo_open 21 = .ok (.invokevirtual 114, 3) := by decide +kernel
theorem d_Mo_open_24 : decode b_Mo_open 24 = .ok (.istore_n 1, 1) := by decide +kernel
theorem d_Mo_open_25 : decode b_Mo_open 25 = .ok (.aload_n 0, 1) := by decide +kernel
theorem d_Mo_open_26 : decode b_Mo_open 26 = .ok (.getfield 28, 3) := by decide +kernel
theorem d_Mo_open_29 : decode b_Mo_open 29 = .ok (.iconst (-1), 1) := by decide +kernel
theorem d_Mo_open_30 : decode b_Mo_open 30 = .ok (.if_icmp .ne 98, 3) := by decide +kernel
theorem d_Mo_open_128 : decode b_Mo_open 128 = .ok (.aload_n 0, 1) := by decide +kernel
theorem d_Mo_open_129 : decode b_Mo_open 129 = .ok (.iload_n 1, 1) := by decide +kernel
theorem d_Mo_open_130 : decode b_Mo_open 130 = .ok (.bipush 15, 2) := by decide +kernel
theorem d_Mo_open_132 : decode b_Mo_open 132 = .ok (.if_icmp .ne 15, 3) := by decide +kernel
theorem d_Mo_open_147 : decode b_Mo_open 147 = .ok (.iconst 0, 1) := by decide +kernel
theorem d_Mo_open_148 : decode b_Mo_open 148 = .ok (.putfield 130, 3) := by decide +kernel
theorem d_Mo_open_151 : decode b_Mo_open 151 = .ok (.aload_n 0, 1) := by decide +kernel
theorem d_Mo_open_152 : decode b_Mo_open 152 = .ok (.aload_n 0, 1) := by decide +kernel
theorem d_Mo_open_153 : decode b_Mo_open 153 = .ok (.getfield 130, 3) := by decide +kernel
theorem d_Mo_open_156 : decode b_Mo_open 156 = .ok (.ifCond .eq 10, 3) := by decide +kernel
theorem d_Mo_open_166 : decode b_Mo_open 166 = .ok (.iload_n 1, 1) := by decide +kernel
theorem d_Mo_open_167 : decode b_Mo_open 167 = .ok (.putfield 133, 3) := by decide +kernel
theorem d_Mo_open_170 : decode b_Mo_open 170 = .ok (.return_, 1) := by decide +kernel
theorem d_Mo_open_159 : decode b_Mo_open 159 = .ok (.aload_n 0, 1) := by decide +kernel
theorem d_Mo_open_160 : decode b_Mo_open 160 = .ok (.invokevirtual 114, 3) := by decide +kernel
theorem d_Mo_open_163 : decode b_Mo_open 163 = .ok (.goto 4, 3) := by decide +kernel
theorem d_Mo_open_135 : decode b_Mo_open 135 = .ok (.aload_n 0, 1) := by decide +kernel
theorem d_Mo_open_136 : decode b_Mo_open 136 = .ok (.getfield 28, 3) := by decide +kernel
theorem d_Mo_open_139 : decode b_Mo_open 139 = .ok (.iconst (-1), 1) := by decide +kernel
theorem d_Mo_open_140 : decode b_Mo_open 140 = .ok (.if_icmp .ne 7, 3) := by decide +kernel
theorem d_Mo_open_143 : decode b_Mo_open 143 = .ok (.iconst 1, 1) := by decide +kernel
theorem d_Mo_open_144 : decode b_Mo_open 144 = .ok (.goto 4, 3) := by decide +kernel
theorem d_Mo_open_33 : decode b_Mo_open 33 = .ok (.iload_n 1, 1) := by decide +kernel
theorem d_Mo_open_34 : decode b_Mo_open 34 = .ok (.bipush 102, 2) := by decide +kernel
theorem d_Mo_open_36 : decode b_Mo_open 36 = .ok (.if_icmp .eq 29, 3) := by decide +kernel
theorem d_Mo_open_65 : decode b_Mo_open 65 = .ok (.aload_n 0, 1) := by decide +kernel
theorem d_Mo_open_66 : decode b_Mo_open 66 = .ok (.iload_n 1, 1) := by decide +kernel
theorem d_Mo_open_67 : decode b_Mo_open 67 = .ok (.bipush 64, 2) := by decide +kernel
theorem d_Mo_open_69 : decode b_Mo_open 69 = .ok (.if_icmp .lt 13, 3) := by decide +kernel
theorem d_Mo_open_82 : decode b_Mo_open 82 = .ok (.iconst 0, 1) := by decide +kernel
theorem d_Mo_open_83 : decode b_Mo_open 83 = .ok (.putfield 121, 3) := by decide +kernel
theorem d_Mo_open_86 : decode b_Mo_open 86 = .ok (.aload_n 0, 1) := by decide +kernel
theorem d_Mo_open_87 : decode b_Mo_open 87 = .ok (.aload_n 0, 1) := by decide +kernel
theorem d_Mo_open_88 : decode b_Mo_open 88 = .ok (.getfield 127, 3) := by decide +kernel
theorem d_Mo_open_91 : decode b_Mo_open 91 = .ok (.ifCond .ne 9, 3) := by decide +kernel
theorem d_Mo_open_100 : decode b_Mo_open 100 = .ok (.iconst 1, 1) := by decide +kernel
theorem d_Mo_open_101 : decode b_Mo_open 101 = .ok (.goto 4, 3) := by decide +kernel
theorem d_Mo_open_105 : decode b_Mo_open 105 = .ok (.putfield 127, 3) := by decide +kernel
theorem d_Mo_open_108 : decode b_Mo_open 108 = .ok (.iload_n 1, 1) := by decide +kernel
theorem d_Mo_open_109 : decode b_Mo_open 109 = .ok (.sipush 240, 3) := by decide +kernel
theorem d_Mo_open_112 : decode b_Mo_open 112 = .ok (.if_icmp .le 8, 3) := by decide +kernel
theorem d_Mo_open_120 : decode b_Mo_open 120 = .ok (.aload_n 0, 1) := by decide +kernel
theorem d_Mo_open_121 : decode b_Mo_open 121 = .ok (.invokevirtual 114, 3) := by decide +kernel
theorem d_Mo_open_124 : decode b_Mo_open 124 = .ok (.istore_n 1, 1) := by decide +kernel
theorem d_Mo_open_125 : decode b_Mo_open 125 = .ok (.goto (-100), 3) := by decide +kernel
theorem d_Mo_open_115 : decode b_Mo_open 115 = .ok (.aload_n 0, 1) := by decide +kernel
theorem d_Mo_open_116 : decode b_Mo_open 116 = .ok (.iload_n 1, 1) := by decide +kernel
theorem d_Mo_open_117 : decode b_Mo_open 117 = .ok (.putfield 124, 3) := by decide +kernel
theorem d_Mo_open_94 : decode b_Mo_open 94 = .ok (.iload_n 1, 1) := by decide +kernel
theorem d_Mo_open_95 : decode b_Mo_open 95 = .ok (.bipush 102, 2) := by decide +kernel
theorem d_Mo_open_97 : decode b_Mo_open 97 = .ok (.if_icmp .ne 7, 3) := by decide +kernel
theorem d_Mo_open_104 : decode b_Mo_open 104 = .ok (.iconst 0, 1) := by decide +kernel
theorem d_Mo_open_72 : decode b_Mo_open 72 = .ok (.iload_n 1, 1) := by decide +kernel
theorem d_Mo_open_73 : decode b_Mo_open 73 = .ok (.bipush 79, 2) := by decide +kernel
theorem d_Mo_open_75 : decode b_Mo_open 75 = .ok (.if_icmp .gt 7, 3) := by decide +kernel
theorem d_Mo_open_78 : decode b_Mo_open 78 = .ok (.iload_n 1, 1) := by decide +kernel
theorem d_Mo_open_79 : decode b_Mo_open 79 = .ok (.goto 4, 3) := by decide +kernel
theorem d_Mo_open_39 : decode b_Mo_open 39 = .ok (.iload_n 1, 1) := by decide +kernel
theorem d_Mo_open_40 : decode b_Mo_open 40 = .ok (.sipush 242, 3) := by decide +kernel
theorem d_Mo_open_43 : decode b_Mo_open 43 = .ok (.if_icmp .eq 22, 3) := by decide +kernel
theorem d_Mo_open_46 : decode b_Mo_open 46 = .ok (.iload_n 1, 1) := by decide +kernel
theorem d_Mo_open_47 : decode b_Mo_open 47 = .ok (.sipush 243, 3) := by decide +kernel
theorem d_Mo_open_50 : decode b_Mo_open 50 = .ok (.if_icmp .eq 15, 3) := by decide +kernel
theorem d_Mo_open_53 : decode b_Mo_open 53 = .ok (.iload_n 1, 1) := by decide +kernel
theorem d_Mo_open_54 : decode b_Mo_open 54 = .ok (.bipush 64, 2) := by decide +kernel
theorem d_Mo_open_56 : decode b_Mo_open 56 = .ok (.if_icmp .lt 72, 3) := by decide +kernel
theorem d_Mo_open_59 : decode b_Mo_open 59 = .ok (.iload_n 1, 1) := by decide +kernel
theorem d_Mo_open_60 : decode b_Mo_open 60 = .ok (.bipush 79, 2) := by decide +kernel
theorem d_Mo_open_62 : decode b_Mo_open 62 = .ok (.if_icmp .gt 66, 3) := by decide +kernel
theorem d_Mo_step_71 : decode b_Mo_step 71 = .ok (.invokevirtual 232, 3) := by decide +kernel
theorem d_Mo_step_74 : decode b_Mo_step 74 = .ok (.aload_n 0, 1) := by decide +kernel
theorem d_Mo_step_75 : decode b_Mo_step 75 = .ok (.aload_n 0, 1) := by decide +kernel
theorem d_Mo_step_76 : decode b_Mo_step 76 = .ok (.getfield 111, 3) := by decide +kernel
theorem d_Mo_step_79 : decode b_Mo_step 79 = .ok (.aload_n 0, 1) := by decide +kernel
theorem d_Mo_step_80 : decode b_Mo_step 80 = .ok (.getfield 108, 3) := by decide +kernel
theorem d_Mo_step_83 : decode b_Mo_step 83 = .ok (.i2l, 1) := by decide +kernel
theorem d_Mo_step_84 : decode b_Mo_step 84 = .ok (.ladd, 1) := by decide +kernel
theorem d_Mo_step_85 : decode b_Mo_step 85 = .ok (.putfield 173, 3) := by decide +kernel
theorem d_Mo_step_88 : decode b_Mo_step 88 = .ok (.aload_n 0, 1) := by decide +kernel
theorem d_Mo_step_89 : decode b_Mo_step 89 = .ok (.getfield 28, 3) := by decide +kernel
theorem d_Mo_step_92 : decode b_Mo_step 92 = .ok (.iconst (-1), 1) := by decide +kernel
theorem d_Mo_step_93 : decode b_Mo_step 93 = .ok (.if_icmp .ne 63, 3) := by decide +kernel
theorem d_Mo_step_156 : decode b_Mo_step 156 = .ok (.aload_n 0, 1) := by decide +kernel
theorem d_Mo_step_157 : decode b_Mo_step 157 = .ok (.getfield 28, 3) := by decide +kernel
theorem d_Mo_step_160 : decode b_Mo_step 160 = .ok (.iconst (-1), 1) := by decide +kernel
theorem d_Mo_step_161 : decode b_Mo_step 161 = .ok (.if_icmp .ne 61, 3) := by decide +kernel
theorem d_Mo_step_222 : decode b_Mo_step 222 = .ok (.aload_n 0, 1) := by decide +kernel
theorem d_Mo_step_223 : decode b_Mo_step 223 = .ok (.aload_n 0, 1) := by decide +kernel
theorem d_Mo_step_224 : decode b_Mo_step 224 = .ok (.getfield 229, 3) := by decide +kernel
theorem d_Mo_step_227 : decode b_Mo_step 227 = .ok (.putfield 48, 3) := by decide +kernel
theorem d_Mo_step_230 : decode b_Mo_step 230 = .ok (.iconst 0, 1) := by decide +kernel
theorem d_Mo_step_231 : decode b_Mo_step 231 = .ok (.istore_n 1, 1) := by decide +kernel
theorem d_Mo_step_232 : decode b_Mo_step 232 = .ok (.iload_n 1, 1) := by decide +kernel
theorem d_Mo_step_233 : decode b_Mo_step 233 = .ok (.bipush 16, 2) := by decide +kernel
theorem d_Mo_step_235 : decode b_Mo_step 235 = .ok (.if_icmp .ge 21, 3) := by decide +kernel
theorem d_Mo_step_256 : decode b_Mo_step 256 = .ok (.iconst 0, 1) := by decide +kernel
theorem d_Mo_step_257 : decode b_Mo_step 257 = .ok (.istore_n 1, 1) := by decide +kernel
theorem d_Mo_step_258 : decode b_Mo_step 258 = .ok (.iload_n 1, 1) := by decide +kernel
theorem d_Mo_step_259 : decode b_Mo_step 259 = .ok (.bipush 7, 2) := by decide +kernel
theorem d_Mo_step_261 : decode b_Mo_step 261 = .ok (.if_icmp .ge 21, 3) := by decide +kernel
theorem d_Mo_step_282 : decode b_Mo_step 282 = .ok (.aload_n 0, 1) := by decide +kernel
theorem d_Mo_step_283 : decode b_Mo_step 283 = .ok (.getfield 28, 3) := by decide +kernel
theorem d_Mo_step_286 : decode b_Mo_step 286 = .ok (.ireturn, 1) := by decide +kernel
theorem d_Mo_step_264 : decode b_Mo_step 264 = .ok (.aload_n 0, 1) := by decide +kernel
theorem d_Mo_step_265 : decode b_Mo_step 265 = .ok (.getfield 21, 3) := by decide +kernel
theorem d_Mo_step_268 : decode b_Mo_step 268 = .ok (.iload_n 1, 1) := by decide +kernel
theorem d_Mo_step_269 : decode b_Mo_step 269 = .ok (.aload_n 0, 1) := by decide +kernel
theorem d_Mo_step_270 : decode b_Mo_step 270 = .ok (.getfield 25, 3) := by decide +kernel
theorem d_Mo_step_273 : decode b_Mo_step 273 = .ok (.iload_n 1, 1) := by decide +kernel
theorem d_Mo_step_274 : decode b_Mo_step 274 = .ok (.baload, 1) := by decide +kernel
theorem d_Mo_step_275 : decode b_Mo_step 275 = .ok (.bastore, 1) := by decide +kernel
theorem d_Mo_step_276 : decode b_Mo_step 276 = .ok (.iinc 1 1, 3) := by decide +kernel
theorem d_Mo_step_279 : decode b_Mo_step 279 = .ok (.goto (-21), 3) := by decide +kernel
theorem d_Mo_step_238 : decode b_Mo_step 238 = .ok (.aload_n 0, 1) := by decide +kernel
theorem d_Mo_step_239 : decode b_Mo_step 239 = .ok (.getfield 14, 3) := by decide +kernel
theorem d_Mo_step_242 : decode b_Mo_step 242 = .ok (.iload_n 1, 1) := by decide +kernel
theorem d_Mo_step_243 : decode b_Mo_step 243 = .ok (.aload_n 0, 1) := by decide +kernel
theorem d_Mo_step_244 : decode b_Mo_step 244 = .ok (.getfield 18, 3) := by decide +kernel
theorem d_Mo_step_247 : decode b_Mo_step 247 = .ok (.iload_n 1, 1) := by decide +kernel
theorem d_Mo_step_248 : decode b_Mo_step 248 = .ok (.laload, 1) := by decide +kernel
theorem d_Mo_step_249 : decode b_Mo_step 249 = .ok (.lastore, 1) := by decide +kernel
theorem d_Mo_step_250 : decode b_Mo_step 250 = .ok (.iinc 1 1, 3) := by decide +kernel
theorem d_Mo_step_253 : decode b_Mo_step 253 = .ok (.goto (-21), 3) := by decide +kernel
theorem d_Mo_step_164 : decode b_Mo_step 164 = .ok (.aload_n 0, 1) := by decide +kernel
theorem d_Mo_step_165 : decode b_Mo_step 165 = .ok (.aload_n 0, 1) := by decide +kernel
theorem d_Mo_step_166 : decode b_Mo_step 166 = .ok (.getfield 173, 3) := by decide +kernel
theorem d_Mo_step_169 : decode b_Mo_step 169 = .ok (.putfield 111, 3) := by decide +kernel
theorem d_Mo_step_172 : decode b_Mo_step 172 = .ok (.iconst 0, 1) := by decide +kernel
theorem d_Mo_step_173 : decode b_Mo_step 173 = .ok (.istore_n 1, 1) := by decide +kernel
theorem d_Mo_step_174 : decode b_Mo_step 174 = .ok (.iload_n 1, 1) := by decide +kernel
theorem d_Mo_step_175 : decode b_Mo_step 175 = .ok (.aload_n 0, 1) := by decide +kernel
theorem d_Mo_step_176 : decode b_Mo_step 176 = .ok (.getfield 103, 3) := by decide +kernel
theorem d_Mo_step_179 : decode b_Mo_step 179 = .ok (.if_icmp .ge 41, 3) := by decide +kernel
theorem d_Mo_step_220 : decode b_Mo_step 220 = .ok (.iconst (-1), 1) := by decide +kernel
theorem d_Mo_step_221 : decode b_Mo_step 221 = .ok (.ireturn, 1) := by decide +kernel
theorem d_Mo_step_182 : decode b_Mo_step 182 = .ok (.aload_n 0, 1) := by decide +kernel
theorem d_Mo_step_183 : decode b_Mo_step 183 = .ok (.getfield 32, 3) := by decide +kernel
theorem d_Mo_step_186 : decode b_Mo_step 186 = .ok (.iload_n 1, 1) := by decide +kernel
theorem d_Mo_step_187 : decode b_Mo_step 187 = .ok (.laload, 1) := by decide +kernel
theorem d_Mo_step_188 : decode b_Mo_step 188 = .ok (.ldc2_w 42, 3) := by decide +kernel
theorem d_Mo_step_191 : decode b_Mo_step 191 = .ok (.lcmp, 1) := by decide +kernel
theorem d_Mo_step_192 : decode b_Mo_step 192 = .ok (.ifCond .ge 22, 3) := by decide +kernel
theorem d_Mo_step_214 : decode b_Mo_step 214 = .ok (.iinc 1 1, 3) := by decide +kernel
theorem d_Mo_step_217 : decode b_Mo_step 217 = .ok (.goto (-43), 3) := by decide +kernel
theorem d_Mo_step_195 : decode b_Mo_step 195 = .ok (.aload_n 0, 1) := by decide +kernel
theorem d_Mo_step_196 : decode b_Mo_step 196 = .ok (.getfield 8, 3) := by decide +kernel
theorem d_Mo_step_199 : decode b_Mo_step 199 = .ok (.aload_n 0, 1) := by decide +kernel
theorem d_Mo_step_200 : decode b_Mo_step 200 = .ok (.getfield 32, 3) := by decide +kernel
theorem d_Mo_step_203 : decode b_Mo_step 203 = .ok (.iload_n 1, 1) := by decide +kernel
theorem d_Mo_step_204 : decode b_Mo_step 204 = .ok (.laload, 1) := by decide +kernel
theorem d_Mo_step_205 : decode b_Mo_step 205 = .ok (.l2i, 1) := by decide +kernel
theorem d_Mo_step_206 : decode b_Mo_step 206 = .ok (.aload_n 0, 1) := by decide +kernel
theorem d_Mo_step_207 : decode b_Mo_step 207 = .ok (.getfield 35, 3) := by decide +kernel
theorem d_Mo_step_210 : decode b_Mo_step 210 = .ok (.iload_n 1, 1) := by decide +kernel
theorem d_Mo_step_211 : decode b_Mo_step 211 = .ok (.iaload, 1) := by decide +kernel
theorem d_Mo_step_212 : decode b_Mo_step 212 = .ok (.i2b, 1) := by decide +kernel
theorem d_Mo_step_213 : decode b_Mo_step 213 = .ok (.bastore, 1) := by decide +kernel
theorem d_Mo_step_96 : decode b_Mo_step 96 = .ok (.aload_n 0, 1) := by decide +kernel
theorem d_Mo_step_97 : decode b_Mo_step 97 = .ok (.getfield 130, 3) := by decide +kernel
theorem d_Mo_step_100 : decode b_Mo_step 100 = .ok (.ifCond .eq 31, 3) := by decide +kernel
theorem d_Mo_step_131 : decode b_Mo_step 131 = .ok (.aload_n 0, 1) := by decide +kernel
theorem d_Mo_step_132 : decode b_Mo_step 132 = .ok (.aload_n 0, 1) := by decide +kernel
theorem d_Mo_step_133 : decode b_Mo_step 133 = .ok (.getfield 133, 3) := by decide +kernel
theorem d_Mo_step_136 : decode b_Mo_step 136 = .ok (.aload_n 0, 1) := by decide +kernel
theorem d_Mo_step_137 : decode b_Mo_step 137 = .ok (.getfield 133, 3) := by decide +kernel
theorem d_Mo_step_140 : decode b_Mo_step 140 = .ok (.iconst 1, 1) := by decide +kernel
theorem d_Mo_step_141 : decode b_Mo_step 141 = .ok (.iand, 1) := by decide +kernel
theorem d_Mo_step_142 : decode b_Mo_step 142 = .ok (.ifCond .ne 7, 3) := by decide +kernel
theorem d_Mo_step_149 : decode b_Mo_step 149 = .ok (.aload_n 0, 1) := by decide +kernel
theorem d_Mo_step_145 : decode b_Mo_step 145 = .ok (.iconst 1, 1) := by decide +kernel
theorem d_Mo_step_146 : decode b_Mo_step 146 = .ok (.goto 7, 3) := by decide +kernel
theorem d_Mo_step_103 : decode b_Mo_step 103 = .ok (.aload_n 0, 1) := by decide +kernel
theorem d_Mo_step_104 : decode b_Mo_step 104 = .ok (.aload_n 0, 1) := by decide +kernel
theorem d_Mo_step_105 : decode b_Mo_step 105 = .ok (.getfield 133, 3) := by decide +kernel
theorem d_Mo_step_108 : decode b_Mo_step 108 = .ok (.aload_n 0, 1) := by decide +kernel
theorem d_Mo_step_109 : decode b_Mo_step 109 = .ok (.getfield 133, 3) := by decide +kernel
theorem d_Mo_step_112 : decode b_Mo_step 112 = .ok (.iconst 1, 1) := by decide +kernel
theorem d_Mo_step_113 : decode b_Mo_step 113 = .ok (.iand, 1) := by decide +kernel
theorem d_Mo_step_114 : decode b_Mo_step 114 = .ok (.ifCond .ne 7, 3) := by decide +kernel
theorem d_Mo_step_121 : decode b_Mo_step 121 = .ok (.aload_n 0, 1) := by decide +kernel
theorem d_Mo_step_117 : decode b_Mo_step 117 = .ok (.iconst 1, 1) := by decide +kernel
theorem d_Mo_step_118 : decode b_Mo_step 118 = .ok (.goto 7, 3) := by decide +kernel
theorem d_Mo_step_52 : decode b_Mo_step 52 = .ok (.aload_n 0, 1) := by decide +kernel
theorem d_Mo_step_53 : decode b_Mo_step 53 = .ok (.getfield 25, 3) := by decide +kernel
theorem d_Mo_step_56 : decode b_Mo_step 56 = .ok (.iload_n 1, 1) := by decide +kernel
theorem d_Mo_step_57 : decode b_Mo_step 57 = .ok (.aload_n 0, 1) := by decide +kernel
theorem d_Mo_step_58 : decode b_Mo_step 58 = .ok (.getfield 21, 3) := by decide +kernel
theorem d_Mo_step_61 : decode b_Mo_step 61 = .ok (.iload_n 1, 1) := by decide +kernel
theorem d_Mo_step_62 : decode b_Mo_step 62 = .ok (.baload, 1) := by decide +kernel
theorem d_Mo_step_63 : decode b_Mo_step 63 = .ok (.bastore, 1) := by decide +kernel
theorem d_Mo_step_64 : decode b_Mo_step 64 = .ok (.iinc 1 1, 3) := by decide +kernel
theorem d_Mo_step_67 : decode b_Mo_step 67 = .ok (.goto (-21), 3) := by decide +kernel
theorem d_Mo_step_26 : decode b_Mo_step 26 = .ok (.aload_n 0, 1) := by decide +kernel
theorem d_Mo_step_27 : decode b_Mo_step 27 = .ok (.getfield 18, 3) := by decide +kernel
theorem d_Mo_step_30 : decode b_Mo_step 30 = .ok (.iload_n 1, 1) := by decide +kernel
theorem d_Mo_step_31 : decode b_Mo_step 31 = .ok (.aload_n 0, 1) := by decide +kernel
theorem d_Mo_step_32 : decode b_Mo_step 32 = .ok (.getfield 14, 3) := by decide +kernel
theorem d_Mo_step_35 : decode b_Mo_step 35 = .ok (.iload_n 1, 1) := by decide +kernel
theorem d_Mo_step_36 : decode b_Mo_step 36 = .ok (.laload, 1) := by decide +kernel
theorem d_Mo_step_37 : decode b_Mo_step 37 = .ok (.lastore, 1) := by decide +kernel
theorem d_Mo_step_38 : decode b_Mo_step 38 = .ok (.iinc 1 1, 3) := by decide +kernel
theorem d_Mo_step_41 : decode b_Mo_step 41 = .ok (.goto (-21), 3) := by decide +kernel
theorem d_Mo_run_0 : decode b_Mo_run 0 = .ok (.iload_n 1, 1) := by decide +kernel
theorem d_Mo_run_1 : decode b_Mo_run 1 = .ok (.ifCond .lt 10, 3) := by decide +kernel
theorem d_Mo_run_11 : decode b_Mo_run 11 = .ok (.iconst 0, 1) := by decide +kernel
theorem d_Mo_run_12 : decode b_Mo_run 12 = .ok (.ireturn, 1) := by decide +kernel
theorem d_Mo_run_4 : decode b_Mo_run 4 = .ok (.iload_n 1, 1) := by decide +kernel
theorem d_Mo_run_5 : decode b_Mo_run 5 = .ok (.sipush 1000, 3) := by decide +kernel
theorem d_Mo_run_8 : decode b_Mo_run 8 = .ok (.if_icmp .le 5, 3) := by decide +kernel
theorem d_Mo_run_13 : decode b_Mo_run 13 = .ok (.iconst 0, 1) := by decide +kernel
theorem d_Mo_run_14 : decode b_Mo_run 14 = .ok (.istore_n 2, 1) := by decide +kernel
theorem d_Mo_run_15 : decode b_Mo_run 15 = .ok (.iload_n 2, 1) := by decide +kernel
theorem d_Mo_run_16 : decode b_Mo_run 16 = .ok (.iload_n 1, 1) := by decide +kernel
theorem d_Mo_run_17 : decode b_Mo_run 17 = .ok (.if_icmp .ge 19, 3) := by decide +kernel
theorem d_Mo_run_36 : decode b_Mo_run 36 = .ok (.iload_n 2, 1) := by decide +kernel
theorem d_Mo_run_37 : decode b_Mo_run 37 = .ok (.ireturn, 1) := by decide +kernel
theorem d_Mo_run_20 : decode b_Mo_run 20 = .ok (.aload_n 0, 1) := by decide +kernel
theorem d_Mo_run_21 : decode b_Mo_run 21 = .ok (.invokevirtual 466, 3) := by decide +kernel
theorem d_Mo_run_24 : decode b_Mo_run 24 = .ok (.iconst (-1), 1) := by decide +kernel
theorem d_Mo_run_25 : decode b_Mo_run 25 = .ok (.if_icmp .eq 5, 3) := by decide +kernel
theorem d_Mo_run_30 : decode b_Mo_run 30 = .ok (.iinc 2 1, 3) := by decide +kernel
theorem d_Mo_run_33 : decode b_Mo_run 33 = .ok (.goto (-18), 3) := by decide +kernel
theorem d_Mo_run_28 : decode b_Mo_run 28 = .ok (.iload_n 2, 1) := by decide +kernel
theorem d_Mo_run_29 : decode b_Mo_run 29 = .ok (.ireturn, 1) := by decide +kernel
theorem d_Mo_look_0 : decode b_Mo_look 0 = .ok (.iload_n 1, 1) := by decide +kernel
theorem d_Mo_look_1 : decode b_Mo_look 1 = .ok (.iload_n 2, 1) := by decide +kernel
theorem d_Mo_look_2 : decode b_Mo_look 2 = .ok (.invokestatic 461, 3) := by decide +kernel
theorem d_Mo_look_5 : decode b_Mo_look 5 = .ok (.lstore 4, 2) := by decide +kernel
theorem d_Mo_look_7 : decode b_Mo_look 7 = .ok (.lload 4, 2) := by decide +kernel
theorem d_Mo_look_9 : decode b_Mo_look 9 = .ok (.invokestatic 77, 3) := by decide +kernel
theorem d_Mo_look_12 : decode b_Mo_look 12 = .ok (.ifCond .eq 7, 3) := by decide +kernel
theorem d_Mo_look_19 : decode b_Mo_look 19 = .ok (.aload_n 0, 1) := by decide +kernel
theorem d_Mo_look_20 : decode b_Mo_look 20 = .ok (.lload 4, 2) := by decide +kernel
theorem d_Mo_look_22 : decode b_Mo_look 22 = .ok (.iload_n 3, 1) := by decide +kernel
theorem d_Mo_look_23 : decode b_Mo_look 23 = .ok (.iconst 1, 1) := by decide +kernel
theorem d_Mo_look_24 : decode b_Mo_look 24 = .ok (.if_icmp .ne 7, 3) := by decide +kernel
theorem d_Mo_look_31 : decode b_Mo_look 31 = .ok (.iload_n 3, 1) := by decide +kernel
theorem d_Mo_look_32 : decode b_Mo_look 32 = .ok (.iconst 2, 1) := by decide +kernel
theorem d_Mo_look_33 : decode b_Mo_look 33 = .ok (.if_icmp .ne 7, 3) := by decide +kernel
theorem d_Mo_look_40 : decode b_Mo_look 40 = .ok (.iconst 0, 1) := by decide +kernel
theorem d_Mo_look_41 : decode b_Mo_look 41 = .ok (.invokevirtual 85, 3) := by decide +kernel
theorem d_Mo_look_44 : decode b_Mo_look 44 = .ok (.lstore 6, 2) := by decide +kernel
theorem d_Mo_look_46 : decode b_Mo_look 46 = .ok (.lload 6, 2) := by decide +kernel
theorem d_Mo_look_48 : decode b_Mo_look 48 = .ok (.lconst 0, 1) := by decide +kernel
theorem d_Mo_look_49 : decode b_Mo_look 49 = .ok (.lcmp, 1) := by decide +kernel
theorem d_Mo_look_50 : decode b_Mo_look 50 = .ok (.ifCond .ge 15, 3) := by decide +kernel
theorem d_Mo_look_65 : decode b_Mo_look 65 = .ok (.lload 6, 2) := by decide +kernel
theorem d_Mo_look_67 : decode b_Mo_look 67 = .ok (.lreturn, 1) := by decide +kernel
theorem d_Mo_look_53 : decode b_Mo_look 53 = .ok (.ldc2_w 469, 3) := by decide +kernel
theorem d_Mo_look_56 : decode b_Mo_look 56 = .ok (.aload_n 0, 1) := by decide +kernel
theorem d_Mo_look_57 : decode b_Mo_look 57 = .ok (.getfield 68, 3) := by decide +kernel
theorem d_Mo_look_60 : decode b_Mo_look 60 = .ok (.i2l, 1) := by decide +kernel
theorem d_Mo_look_61 : decode b_Mo_look 61 = .ok (.lsub, 1) := by decide +kernel
theorem d_Mo_look_62 : decode b_Mo_look 62 = .ok (.goto 5, 3) := by decide +kernel
theorem d_Mo_look_36 : decode b_Mo_look 36 = .ok (.iconst 2, 1) := by decide +kernel
theorem d_Mo_look_37 : decode b_Mo_look 37 = .ok (.goto 4, 3) := by decide +kernel
theorem d_Mo_look_27 : decode b_Mo_look 27 = .ok (.iconst 1, 1) := by decide +kernel
theorem d_Mo_look_28 : decode b_Mo_look 28 = .ok (.goto 13, 3) := by decide +kernel
theorem d_Mo_look_15 : decode b_Mo_look 15 = .ok (.ldc2_w 71, 3) := by decide +kernel
theorem d_Mo_look_18 : decode b_Mo_look 18 = .ok (.lreturn, 1) := by decide +kernel
