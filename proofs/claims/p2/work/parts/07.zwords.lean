theorem ml_Mo_422 : Cond.methodLink z_RMo 422 y_Ma_floorMod ∈ z_tbl := z_at (k := 1208) (by decide +kernel) rfl
theorem ml_Mo_428 : Cond.methodLink z_RMo 428 y_Ma_floorDiv ∈ z_tbl := z_at (k := 1211) (by decide +kernel) rfl
set_option maxRecDepth 100000 in
theorem mw_Ma_floorMod : z_ms y_Ma_floorMod b_Ma_floorMod 6 (some .long) 2 := ⟨z_at (k := 1209) (by decide +kernel) rfl, z_at (k := 14) (by decide +kernel) rfl, z_at (k := 1210) rfl rfl, by decide +kernel⟩
theorem d_Ma_floorMod_0 : decode b_Ma_floorMod 0 = .ok (.lload_n 0, 1) := by decide +kernel
theorem d_Ma_floorMod_1 : decode b_Ma_floorMod 1 = .ok (.lload_n 2, 1) := by decide +kernel
theorem d_Ma_floorMod_2 : decode b_Ma_floorMod 2 = .ok (.lrem, 1) := by decide +kernel
theorem d_Ma_floorMod_3 : decode b_Ma_floorMod 3 = .ok (.lstore 4, 2) := by decide +kernel
theorem d_Ma_floorMod_5 : decode b_Ma_floorMod 5 = .ok (.lload_n 0, 1) := by decide +kernel
theorem d_Ma_floorMod_6 : decode b_Ma_floorMod 6 = .ok (.lload_n 2, 1) := by decide +kernel
theorem d_Ma_floorMod_7 : decode b_Ma_floorMod 7 = .ok (.lxor, 1) := by decide +kernel
theorem d_Ma_floorMod_8 : decode b_Ma_floorMod 8 = .ok (.lconst 0, 1) := by decide +kernel
theorem d_Ma_floorMod_9 : decode b_Ma_floorMod 9 = .ok (.lcmp, 1) := by decide +kernel
theorem d_Ma_floorMod_10 : decode b_Ma_floorMod 10 = .ok (.ifCond .ge 15, 3) := by decide +kernel
theorem d_Ma_floorMod_25 : decode b_Ma_floorMod 25 = .ok (.lload 4, 2) := by decide +kernel
theorem d_Ma_floorMod_27 : decode b_Ma_floorMod 27 = .ok (.lreturn, 1) := by decide +kernel
theorem d_Ma_floorMod_13 : decode b_Ma_floorMod 13 = .ok (.lload 4, 2) := by decide +kernel
theorem d_Ma_floorMod_15 : decode b_Ma_floorMod 15 = .ok (.lconst 0, 1) := by decide +kernel
theorem d_Ma_floorMod_16 : decode b_Ma_floorMod 16 = .ok (.lcmp, 1) := by decide +kernel
theorem d_Ma_floorMod_17 : decode b_Ma_floorMod 17 = .ok (.ifCond .eq 8, 3) := by decide +kernel
theorem d_Ma_floorMod_20 : decode b_Ma_floorMod 20 = .ok (.lload 4, 2) := by decide +kernel
theorem d_Ma_floorMod_22 : decode b_Ma_floorMod 22 = .ok (.lload_n 2, 1) := by decide +kernel
theorem d_Ma_floorMod_23 : decode b_Ma_floorMod 23 = .ok (.ladd, 1) := by decide +kernel
theorem d_Ma_floorMod_24 : decode b_Ma_floorMod 24 = .ok (.lreturn, 1) := by decide +kernel
theorem d_Mo_bit_106 : decode b_Mo_bit 106 = .ok (.invokestatic 422, 3) := by decide +kernel
theorem d_Mo_bit_109 : decode b_Mo_bit 109 = .ok (.l2i, 1) := by decide +kernel
theorem d_Mo_bit_110 : decode b_Mo_bit 110 = .ok (.istore 6, 2) := by decide +kernel
theorem d_Mo_bit_112 : decode b_Mo_bit 112 = .ok (.iload_n 1, 1) := by decide +kernel
theorem d_Mo_bit_113 : decode b_Mo_bit 113 = .ok (.sipush 186, 3) := by decide +kernel
theorem d_Mo_bit_116 : decode b_Mo_bit 116 = .ok (.if_icmp .eq 25, 3) := by decide +kernel
theorem d_Mo_bit_141 : decode b_Mo_bit 141 = .ok (.aload_n 0, 1) := by decide +kernel
theorem d_Mo_bit_142 : decode b_Mo_bit 142 = .ok (.iload_n 2, 1) := by decide +kernel
theorem d_Mo_bit_143 : decode b_Mo_bit 143 = .ok (.iload 5, 2) := by decide +kernel
theorem d_Mo_bit_145 : decode b_Mo_bit 145 = .ok (.ifCond .ne 7, 3) := by decide +kernel
theorem d_Mo_bit_152 : decode b_Mo_bit 152 = .ok (.iconst 1, 1) := by decide +kernel
theorem d_Mo_bit_153 : decode b_Mo_bit 153 = .ok (.invokevirtual 338, 3) := by decide +kernel
theorem d_Mo_bit_156 : decode b_Mo_bit 156 = .ok (.lstore 7, 2) := by decide +kernel
theorem d_Mo_bit_158 : decode b_Mo_bit 158 = .ok (.aload_n 0, 1) := by decide +kernel
theorem d_Mo_bit_159 : decode b_Mo_bit 159 = .ok (.getfield 21, 3) := by decide +kernel
theorem d_Mo_bit_162 : decode b_Mo_bit 162 = .ok (.iconst 0, 1) := by decide +kernel
theorem d_Mo_bit_163 : decode b_Mo_bit 163 = .ok (.lload 7, 2) := by decide +kernel
theorem d_Mo_bit_165 : decode b_Mo_bit 165 = .ok (.iload 6, 2) := by decide +kernel
theorem d_Mo_bit_167 : decode b_Mo_bit 167 = .ok (.lushr, 1) := by decide +kernel
theorem d_Mo_bit_168 : decode b_Mo_bit 168 = .ok (.lconst 1, 1) := by decide +kernel
theorem d_Mo_bit_169 : decode b_Mo_bit 169 = .ok (.land, 1) := by decide +kernel
theorem d_Mo_bit_170 : decode b_Mo_bit 170 = .ok (.lconst 1, 1) := by decide +kernel
theorem d_Mo_bit_171 : decode b_Mo_bit 171 = .ok (.lcmp, 1) := by decide +kernel
theorem d_Mo_bit_172 : decode b_Mo_bit 172 = .ok (.ifCond .ne 7, 3) := by decide +kernel
theorem d_Mo_bit_179 : decode b_Mo_bit 179 = .ok (.iconst 0, 1) := by decide +kernel
theorem d_Mo_bit_180 : decode b_Mo_bit 180 = .ok (.bastore, 1) := by decide +kernel
theorem d_Mo_bit_181 : decode b_Mo_bit 181 = .ok (.lconst 1, 1) := by decide +kernel
theorem d_Mo_bit_182 : decode b_Mo_bit 182 = .ok (.iload 6, 2) := by decide +kernel
theorem d_Mo_bit_184 : decode b_Mo_bit 184 = .ok (.lshl, 1) := by decide +kernel
theorem d_Mo_bit_185 : decode b_Mo_bit 185 = .ok (.lstore 9, 2) := by decide +kernel
theorem d_Mo_bit_187 : decode b_Mo_bit 187 = .ok (.iload 5, 2) := by decide +kernel
theorem d_Mo_bit_189 : decode b_Mo_bit 189 = .ok (.iconst 1, 1) := by decide +kernel
theorem d_Mo_bit_190 : decode b_Mo_bit 190 = .ok (.if_icmp .ne 13, 3) := by decide +kernel
theorem d_Mo_bit_203 : decode b_Mo_bit 203 = .ok (.iload 5, 2) := by decide +kernel
theorem d_Mo_bit_205 : decode b_Mo_bit 205 = .ok (.iconst 2, 1) := by decide +kernel
theorem d_Mo_bit_206 : decode b_Mo_bit 206 = .ok (.if_icmp .ne 17, 3) := by decide +kernel
theorem d_Mo_bit_223 : decode b_Mo_bit 223 = .ok (.iload 5, 2) := by decide +kernel
theorem d_Mo_bit_225 : decode b_Mo_bit 225 = .ok (.iconst 3, 1) := by decide +kernel
theorem d_Mo_bit_226 : decode b_Mo_bit 226 = .ok (.if_icmp .ne 13, 3) := by decide +kernel
theorem d_Mo_bit_239 : decode b_Mo_bit 239 = .ok (.aload_n 0, 1) := by decide +kernel
theorem d_Mo_bit_240 : decode b_Mo_bit 240 = .ok (.bipush 6, 2) := by decide +kernel
theorem d_Mo_bit_242 : decode b_Mo_bit 242 = .ok (.invokevirtual 219, 3) := by decide +kernel
theorem d_Mo_bit_245 : decode b_Mo_bit 245 = .ok (.aload_n 0, 1) := by decide +kernel
theorem d_Mo_bit_246 : decode b_Mo_bit 246 = .ok (.iconst 4, 1) := by decide +kernel
theorem d_Mo_bit_247 : decode b_Mo_bit 247 = .ok (.invokevirtual 219, 3) := by decide +kernel
theorem d_Mo_bit_250 : decode b_Mo_bit 250 = .ok (.aload_n 0, 1) := by decide +kernel
theorem d_Mo_bit_251 : decode b_Mo_bit 251 = .ok (.iconst 2, 1) := by decide +kernel
theorem d_Mo_bit_252 : decode b_Mo_bit 252 = .ok (.invokevirtual 219, 3) := by decide +kernel
theorem d_Mo_bit_255 : decode b_Mo_bit 255 = .ok (.aload_n 0, 1) := by decide +kernel
theorem d_Mo_bit_256 : decode b_Mo_bit 256 = .ok (.iconst 1, 1) := by decide +kernel
theorem d_Mo_bit_257 : decode b_Mo_bit 257 = .ok (.invokevirtual 219, 3) := by decide +kernel
theorem d_Mo_bit_260 : decode b_Mo_bit 260 = .ok (.return_, 1) := by decide +kernel
theorem d_Mo_bit_229 : decode b_Mo_bit 229 = .ok (.aload_n 0, 1) := by decide +kernel
theorem d_Mo_bit_230 : decode b_Mo_bit 230 = .ok (.iload_n 2, 1) := by decide +kernel
theorem d_Mo_bit_231 : decode b_Mo_bit 231 = .ok (.lload 7, 2) := by decide +kernel
theorem d_Mo_bit_233 : decode b_Mo_bit 233 = .ok (.lload 9, 2) := by decide +kernel
theorem d_Mo_bit_235 : decode b_Mo_bit 235 = .ok (.lxor, 1) := by decide +kernel
theorem d_Mo_bit_236 : decode b_Mo_bit 236 = .ok (.invokevirtual 348, 3) := by decide +kernel
theorem d_Mo_bit_209 : decode b_Mo_bit 209 = .ok (.aload_n 0, 1) := by decide +kernel
theorem d_Mo_bit_210 : decode b_Mo_bit 210 = .ok (.iload_n 2, 1) := by decide +kernel
theorem d_Mo_bit_211 : decode b_Mo_bit 211 = .ok (.lload 7, 2) := by decide +kernel
theorem d_Mo_bit_213 : decode b_Mo_bit 213 = .ok (.lload 9, 2) := by decide +kernel
theorem d_Mo_bit_215 : decode b_Mo_bit 215 = .ok (.ldc2_w 71, 3) := by decide +kernel
theorem d_Mo_bit_218 : decode b_Mo_bit 218 = .ok (.lxor, 1) := by decide +kernel
theorem d_Mo_bit_219 : decode b_Mo_bit 219 = .ok (.land, 1) := by decide +kernel
theorem d_Mo_bit_220 : decode b_Mo_bit 220 = .ok (.invokevirtual 348, 3) := by decide +kernel
theorem d_Mo_bit_193 : decode b_Mo_bit 193 = .ok (.aload_n 0, 1) := by decide +kernel
theorem d_Mo_bit_194 : decode b_Mo_bit 194 = .ok (.iload_n 2, 1) := by decide +kernel
theorem d_Mo_bit_195 : decode b_Mo_bit 195 = .ok (.lload 7, 2) := by decide +kernel
theorem d_Mo_bit_197 : decode b_Mo_bit 197 = .ok (.lload 9, 2) := by decide +kernel
theorem d_Mo_bit_199 : decode b_Mo_bit 199 = .ok (.lor, 1) := by decide +kernel
theorem d_Mo_bit_200 : decode b_Mo_bit 200 = .ok (.invokevirtual 348, 3) := by decide +kernel
theorem d_Mo_bit_175 : decode b_Mo_bit 175 = .ok (.iconst 1, 1) := by decide +kernel
theorem d_Mo_bit_176 : decode b_Mo_bit 176 = .ok (.goto 4, 3) := by decide +kernel
theorem d_Mo_bit_148 : decode b_Mo_bit 148 = .ok (.iconst 0, 1) := by decide +kernel
theorem d_Mo_bit_149 : decode b_Mo_bit 149 = .ok (.goto 4, 3) := by decide +kernel
theorem d_Mo_bit_119 : decode b_Mo_bit 119 = .ok (.aload_n 0, 1) := by decide +kernel
theorem d_Mo_bit_120 : decode b_Mo_bit 120 = .ok (.dup, 1) := by decide +kernel
theorem d_Mo_bit_121 : decode b_Mo_bit 121 = .ok (.getfield 154, 3) := by decide +kernel
theorem d_Mo_bit_124 : decode b_Mo_bit 124 = .ok (.iload_n 2, 1) := by decide +kernel
theorem d_Mo_bit_125 : decode b_Mo_bit 125 = .ok (.i2l, 1) := by decide +kernel
theorem d_Mo_bit_126 : decode b_Mo_bit 126 = .ok (.lload_n 3, 1) := by decide +kernel
theorem d_Mo_bit_127 : decode b_Mo_bit 127 = .ok (.ldc2_w 60, 3) := by decide +kernel
theorem d_Mo_bit_130 : decode b_Mo_bit 130 = .ok (.iload_n 2, 1) := by decide +kernel
theorem d_Mo_bit_131 : decode b_Mo_bit 131 = .ok (.i2l, 1) := by decide +kernel
theorem d_Mo_bit_132 : decode b_Mo_bit 132 = .ok (.lmul, 1) := by decide +kernel
theorem d_Mo_bit_133 : decode b_Mo_bit 133 = .ok (.invokestatic 428, 3) := by decide +kernel
theorem d_Mo_bit_136 : decode b_Mo_bit 136 = .ok (.lmul, 1) := by decide +kernel
theorem d_Mo_bit_137 : decode b_Mo_bit 137 = .ok (.ladd, 1) := by decide +kernel
theorem d_Mo_bit_138 : decode b_Mo_bit 138 = .ok (.putfield 154, 3) := by decide +kernel
