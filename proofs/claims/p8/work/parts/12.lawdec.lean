theorem ml_La_13 : Cond.methodLink z_RLa 13 y_Co_store ∈ z_tbl := z_at (k := 358) (by decide +kernel) rfl
theorem ml_La_17 : Cond.methodLink z_RLa 17 y_Mo_store ∈ z_tbl := z_at (k := 1407) (by decide +kernel) rfl
theorem ml_La_18 : Cond.methodLink z_RLa 18 y_Co_stored ∈ z_tbl := z_at (k := 370) (by decide +kernel) rfl
theorem ml_La_22 : Cond.methodLink z_RLa 22 y_Mo_stored ∈ z_tbl := z_at (k := 1411) (by decide +kernel) rfl
theorem ml_La_23 : Cond.methodLink z_RLa 23 y_Co_set ∈ z_tbl := z_at (k := 378) (by decide +kernel) rfl
theorem ml_La_26 : Cond.methodLink z_RLa 26 y_Mo_set ∈ z_tbl := z_at (k := 1415) (by decide +kernel) rfl
theorem ml_La_27 : Cond.methodLink z_RLa 27 y_Co_get ∈ z_tbl := z_at (k := 386) (by decide +kernel) rfl
theorem ml_La_30 : Cond.methodLink z_RLa 30 y_Mo_get ∈ z_tbl := z_at (k := 1423) (by decide +kernel) rfl
theorem ml_La_31 : Cond.methodLink z_RLa 31 y_Co_level ∈ z_tbl := z_at (k := 391) (by decide +kernel) rfl
theorem ml_La_35 : Cond.methodLink z_RLa 35 y_Mo_level ∈ z_tbl := z_at (k := 1428) (by decide +kernel) rfl
theorem ml_La_36 : Cond.methodLink z_RLa 36 y_Co_step ∈ z_tbl := z_at (k := 395) (by decide +kernel) rfl
theorem ml_La_40 : Cond.methodLink z_RLa 40 y_Mo_step ∈ z_tbl := z_at (k := 1044) (by decide +kernel) rfl
theorem ml_La_41 : Cond.methodLink z_RLa 41 y_Co_run ∈ z_tbl := z_at (k := 909) (by decide +kernel) rfl
theorem ml_La_45 : Cond.methodLink z_RLa 45 y_Mo_run ∈ z_tbl := z_at (k := 1432) (by decide +kernel) rfl
theorem ml_La_46 : Cond.methodLink z_RLa 46 y_Co_look ∈ z_tbl := z_at (k := 914) (by decide +kernel) rfl
theorem ml_La_50 : Cond.methodLink z_RLa 50 y_Mo_look ∈ z_tbl := z_at (k := 1437) (by decide +kernel) rfl
theorem ml_La_9 : Cond.methodLink z_RLa 9 y_Co_init ∈ z_tbl := z_at (k := 18) (by decide +kernel) rfl
theorem ml_La_12 : Cond.methodLink z_RLa 12 y_Mo_init ∈ z_tbl := z_at (k := 921) (by decide +kernel) rfl
set_option maxRecDepth 100000 in
theorem mw_Co_store : z_mw y_Co_store z_RCo 0 z_TCo 8 b_Co_store 5 (some .boolean) 3 := ⟨rfl, z_at (k := 359) (by decide +kernel) rfl, z_at (k := 360) (by decide +kernel) rfl, z_at (k := 1) (by decide +kernel) rfl, z_at (k := 361) rfl rfl, by decide +kernel⟩
set_option maxRecDepth 100000 in
theorem mw_Mo_store : z_mw y_Mo_store z_RMo 12 z_TMo 38 b_Mo_store 5 (some .boolean) 3 := ⟨rfl, z_at (k := 1408) (by decide +kernel) rfl, z_at (k := 1409) (by decide +kernel) rfl, z_at (k := 13) (by decide +kernel) rfl, z_at (k := 1410) rfl rfl, by decide +kernel⟩
set_option maxRecDepth 100000 in
theorem mw_Co_stored : z_mw y_Co_stored z_RCo 0 z_TCo 8 b_Co_stored 5 (some .long) 1 := ⟨rfl, z_at (k := 371) (by decide +kernel) rfl, z_at (k := 372) (by decide +kernel) rfl, z_at (k := 1) (by decide +kernel) rfl, z_at (k := 373) rfl rfl, by decide +kernel⟩
set_option maxRecDepth 100000 in
theorem mw_Mo_stored : z_mw y_Mo_stored z_RMo 12 z_TMo 38 b_Mo_stored 2 (some .long) 1 := ⟨rfl, z_at (k := 1412) (by decide +kernel) rfl, z_at (k := 1413) (by decide +kernel) rfl, z_at (k := 13) (by decide +kernel) rfl, z_at (k := 1414) rfl rfl, by decide +kernel⟩
set_option maxRecDepth 100000 in
theorem mw_Co_set : z_mw y_Co_set z_RCo 0 z_TCo 8 b_Co_set 6 (some .boolean) 3 := ⟨rfl, z_at (k := 379) (by decide +kernel) rfl, z_at (k := 380) (by decide +kernel) rfl, z_at (k := 1) (by decide +kernel) rfl, z_at (k := 381) rfl rfl, by decide +kernel⟩
set_option maxRecDepth 100000 in
theorem mw_Mo_set : z_mw y_Mo_set z_RMo 12 z_TMo 38 b_Mo_set 6 (some .boolean) 3 := ⟨rfl, z_at (k := 1416) (by decide +kernel) rfl, z_at (k := 1417) (by decide +kernel) rfl, z_at (k := 13) (by decide +kernel) rfl, z_at (k := 1418) rfl rfl, by decide +kernel⟩
set_option maxRecDepth 100000 in
theorem mw_Co_get : z_mw y_Co_get z_RCo 0 z_TCo 8 b_Co_get 2 (some .long) 1 := ⟨rfl, z_at (k := 387) (by decide +kernel) rfl, z_at (k := 388) (by decide +kernel) rfl, z_at (k := 1) (by decide +kernel) rfl, z_at (k := 389) rfl rfl, by decide +kernel⟩
set_option maxRecDepth 100000 in
theorem mw_Mo_get : z_mw y_Mo_get z_RMo 12 z_TMo 38 b_Mo_get 2 (some .long) 1 := ⟨rfl, z_at (k := 1424) (by decide +kernel) rfl, z_at (k := 1425) (by decide +kernel) rfl, z_at (k := 13) (by decide +kernel) rfl, z_at (k := 1426) rfl rfl, by decide +kernel⟩
set_option maxRecDepth 100000 in
theorem mw_Co_level : z_mw y_Co_level z_RCo 0 z_TCo 8 b_Co_level 2 none 1 := ⟨rfl, z_at (k := 392) (by decide +kernel) rfl, z_at (k := 393) (by decide +kernel) rfl, z_at (k := 1) (by decide +kernel) rfl, z_at (k := 394) rfl rfl, by decide +kernel⟩
set_option maxRecDepth 100000 in
theorem mw_Mo_level : z_mw y_Mo_level z_RMo 12 z_TMo 38 b_Mo_level 2 none 1 := ⟨rfl, z_at (k := 1429) (by decide +kernel) rfl, z_at (k := 1430) (by decide +kernel) rfl, z_at (k := 13) (by decide +kernel) rfl, z_at (k := 1431) rfl rfl, by decide +kernel⟩
set_option maxRecDepth 100000 in
theorem mw_Co_run : z_mw y_Co_run z_RCo 0 z_TCo 8 b_Co_run 3 (some .int) 1 := ⟨rfl, z_at (k := 910) (by decide +kernel) rfl, z_at (k := 911) (by decide +kernel) rfl, z_at (k := 1) (by decide +kernel) rfl, z_at (k := 912) rfl rfl, by decide +kernel⟩
set_option maxRecDepth 100000 in
theorem mw_Mo_run : z_mw y_Mo_run z_RMo 12 z_TMo 38 b_Mo_run 3 (some .int) 1 := ⟨rfl, z_at (k := 1433) (by decide +kernel) rfl, z_at (k := 1434) (by decide +kernel) rfl, z_at (k := 13) (by decide +kernel) rfl, z_at (k := 1435) rfl rfl, by decide +kernel⟩
set_option maxRecDepth 100000 in
theorem mw_Co_look : z_mw y_Co_look z_RCo 0 z_TCo 8 b_Co_look 4 (some .long) 3 := ⟨rfl, z_at (k := 915) (by decide +kernel) rfl, z_at (k := 916) (by decide +kernel) rfl, z_at (k := 1) (by decide +kernel) rfl, z_at (k := 917) rfl rfl, by decide +kernel⟩
set_option maxRecDepth 100000 in
theorem mw_Mo_look : z_mw y_Mo_look z_RMo 12 z_TMo 38 b_Mo_look 8 (some .long) 3 := ⟨rfl, z_at (k := 1438) (by decide +kernel) rfl, z_at (k := 1439) (by decide +kernel) rfl, z_at (k := 13) (by decide +kernel) rfl, z_at (k := 1440) rfl rfl, by decide +kernel⟩
theorem cl_La_7 : Cond.classLink z_RLa 7 z_RCo ∈ z_tbl := z_at (k := 16) (by decide +kernel) rfl
theorem is_Co : Cond.instantiable z_RCo 8 ∈ z_tbl := z_at (k := 17) (by decide +kernel) rfl
theorem in_Co : Cond.initialized z_RCo ∈ z_tbl := z_at (k := 1) (by decide +kernel) rfl
set_option maxRecDepth 100000 in
theorem mi_Co : z_mi y_Co_init b_Co_init 3 0 := ⟨z_at (k := 19) (by decide +kernel) rfl, z_at (k := 1) (by decide +kernel) rfl, z_at (k := 20) rfl rfl, by decide +kernel⟩
theorem cl_La_10 : Cond.classLink z_RLa 10 z_RMo ∈ z_tbl := z_at (k := 919) (by decide +kernel) rfl
theorem is_Mo : Cond.instantiable z_RMo 38 ∈ z_tbl := z_at (k := 920) (by decide +kernel) rfl
theorem in_Mo : Cond.initialized z_RMo ∈ z_tbl := z_at (k := 13) (by decide +kernel) rfl
set_option maxRecDepth 100000 in
theorem mi_Mo : z_mi y_Mo_init b_Mo_init 1 0 := ⟨z_at (k := 922) (by decide +kernel) rfl, z_at (k := 13) (by decide +kernel) rfl, z_at (k := 923) rfl rfl, by decide +kernel⟩
theorem d_law_18 : decode code 18 = .ok (.iload_n 3, 1) := by decide +kernel
theorem d_law_19 : decode code 19 = .ok (.aload_n 0, 1) := by decide +kernel
theorem d_law_20 : decode code 20 = .ok (.arraylength, 1) := by decide +kernel
theorem d_law_21 : decode code 21 = .ok (.iconst 4, 1) := by decide +kernel
theorem d_law_22 : decode code 22 = .ok (.isub, 1) := by decide +kernel
theorem d_law_23 : decode code 23 = .ok (.if_icmp .gt 311, 3) := by decide +kernel
theorem d_law_334 : decode code 334 = .ok (.iconst 1, 1) := by decide +kernel
theorem d_law_335 : decode code 335 = .ok (.ireturn, 1) := by decide +kernel
theorem d_law_26 : decode code 26 = .ok (.aload_n 0, 1) := by decide +kernel
theorem d_law_27 : decode code 27 = .ok (.iload_n 3, 1) := by decide +kernel
theorem d_law_28 : decode code 28 = .ok (.iaload, 1) := by decide +kernel
theorem d_law_29 : decode code 29 = .ok (.bipush 7, 2) := by decide +kernel
theorem d_law_31 : decode code 31 = .ok (.iand, 1) := by decide +kernel
theorem d_law_32 : decode code 32 = .ok (.tableswitch 296 0 7 #[48, 91, 114, 157, 180, 217, 230, 253], 48) := by decide +kernel
theorem d_law_80 : decode code 80 = .ok (.aload_n 1, 1) := by decide +kernel
theorem d_law_81 : decode code 81 = .ok (.aload_n 0, 1) := by decide +kernel
theorem d_law_82 : decode code 82 = .ok (.iload_n 3, 1) := by decide +kernel
theorem d_law_83 : decode code 83 = .ok (.iconst 1, 1) := by decide +kernel
theorem d_law_84 : decode code 84 = .ok (.iadd, 1) := by decide +kernel
theorem d_law_85 : decode code 85 = .ok (.iaload, 1) := by decide +kernel
theorem d_law_86 : decode code 86 = .ok (.aload_n 0, 1) := by decide +kernel
theorem d_law_87 : decode code 87 = .ok (.iload_n 3, 1) := by decide +kernel
theorem d_law_88 : decode code 88 = .ok (.iconst 2, 1) := by decide +kernel
theorem d_law_89 : decode code 89 = .ok (.iadd, 1) := by decide +kernel
theorem d_law_90 : decode code 90 = .ok (.iaload, 1) := by decide +kernel
theorem d_law_91 : decode code 91 = .ok (.aload_n 0, 1) := by decide +kernel
theorem d_law_92 : decode code 92 = .ok (.iload_n 3, 1) := by decide +kernel
theorem d_law_93 : decode code 93 = .ok (.iconst 3, 1) := by decide +kernel
theorem d_law_94 : decode code 94 = .ok (.iadd, 1) := by decide +kernel
theorem d_law_95 : decode code 95 = .ok (.iaload, 1) := by decide +kernel
theorem d_law_96 : decode code 96 = .ok (.invokevirtual 13, 3) := by decide +kernel
theorem d_law_99 : decode code 99 = .ok (.pop, 1) := by decide +kernel
theorem d_law_100 : decode code 100 = .ok (.aload_n 2, 1) := by decide +kernel
theorem d_law_101 : decode code 101 = .ok (.aload_n 0, 1) := by decide +kernel
theorem d_law_102 : decode code 102 = .ok (.iload_n 3, 1) := by decide +kernel
theorem d_law_103 : decode code 103 = .ok (.iconst 1, 1) := by decide +kernel
theorem d_law_104 : decode code 104 = .ok (.iadd, 1) := by decide +kernel
theorem d_law_105 : decode code 105 = .ok (.iaload, 1) := by decide +kernel
theorem d_law_106 : decode code 106 = .ok (.aload_n 0, 1) := by decide +kernel
theorem d_law_107 : decode code 107 = .ok (.iload_n 3, 1) := by decide +kernel
theorem d_law_108 : decode code 108 = .ok (.iconst 2, 1) := by decide +kernel
theorem d_law_109 : decode code 109 = .ok (.iadd, 1) := by decide +kernel
theorem d_law_110 : decode code 110 = .ok (.iaload, 1) := by decide +kernel
theorem d_law_111 : decode code 111 = .ok (.aload_n 0, 1) := by decide +kernel
theorem d_law_112 : decode code 112 = .ok (.iload_n 3, 1) := by decide +kernel
theorem d_law_113 : decode code 113 = .ok (.iconst 3, 1) := by decide +kernel
theorem d_law_114 : decode code 114 = .ok (.iadd, 1) := by decide +kernel
theorem d_law_115 : decode code 115 = .ok (.iaload, 1) := by decide +kernel
theorem d_law_116 : decode code 116 = .ok (.invokevirtual 17, 3) := by decide +kernel
theorem d_law_119 : decode code 119 = .ok (.pop, 1) := by decide +kernel
theorem d_law_120 : decode code 120 = .ok (.goto 208, 3) := by decide +kernel
theorem d_law_328 : decode code 328 = .ok (.iinc 3 4, 3) := by decide +kernel
theorem d_law_331 : decode code 331 = .ok (.goto (-313), 3) := by decide +kernel
theorem d_law_123 : decode code 123 = .ok (.aload_n 1, 1) := by decide +kernel
theorem d_law_124 : decode code 124 = .ok (.aload_n 0, 1) := by decide +kernel
theorem d_law_125 : decode code 125 = .ok (.iload_n 3, 1) := by decide +kernel
theorem d_law_126 : decode code 126 = .ok (.iconst 1, 1) := by decide +kernel
theorem d_law_127 : decode code 127 = .ok (.iadd, 1) := by decide +kernel
theorem d_law_128 : decode code 128 = .ok (.iaload, 1) := by decide +kernel
theorem d_law_129 : decode code 129 = .ok (.invokevirtual 18, 3) := by decide +kernel
theorem d_law_132 : decode code 132 = .ok (.pop2, 1) := by decide +kernel
theorem d_law_133 : decode code 133 = .ok (.aload_n 2, 1) := by decide +kernel
theorem d_law_134 : decode code 134 = .ok (.aload_n 0, 1) := by decide +kernel
theorem d_law_135 : decode code 135 = .ok (.iload_n 3, 1) := by decide +kernel
theorem d_law_136 : decode code 136 = .ok (.iconst 1, 1) := by decide +kernel
theorem d_law_137 : decode code 137 = .ok (.iadd, 1) := by decide +kernel
theorem d_law_138 : decode code 138 = .ok (.iaload, 1) := by decide +kernel
theorem d_law_139 : decode code 139 = .ok (.invokevirtual 22, 3) := by decide +kernel
theorem d_law_142 : decode code 142 = .ok (.pop2, 1) := by decide +kernel
theorem d_law_143 : decode code 143 = .ok (.goto 185, 3) := by decide +kernel
theorem d_law_146 : decode code 146 = .ok (.aload_n 1, 1) := by decide +kernel
theorem d_law_147 : decode code 147 = .ok (.aload_n 0, 1) := by decide +kernel
theorem d_law_148 : decode code 148 = .ok (.iload_n 3, 1) := by decide +kernel
theorem d_law_149 : decode code 149 = .ok (.iconst 1, 1) := by decide +kernel
theorem d_law_150 : decode code 150 = .ok (.iadd, 1) := by decide +kernel
theorem d_law_151 : decode code 151 = .ok (.iaload, 1) := by decide +kernel
theorem d_law_152 : decode code 152 = .ok (.aload_n 0, 1) := by decide +kernel
theorem d_law_153 : decode code 153 = .ok (.iload_n 3, 1) := by decide +kernel
theorem d_law_154 : decode code 154 = .ok (.iconst 2, 1) := by decide +kernel
theorem d_law_155 : decode code 155 = .ok (.iadd, 1) := by decide +kernel
theorem d_law_156 : decode code 156 = .ok (.iaload, 1) := by decide +kernel
theorem d_law_157 : decode code 157 = .ok (.aload_n 0, 1) := by decide +kernel
theorem d_law_158 : decode code 158 = .ok (.iload_n 3, 1) := by decide +kernel
theorem d_law_159 : decode code 159 = .ok (.iconst 3, 1) := by decide +kernel
theorem d_law_160 : decode code 160 = .ok (.iadd, 1) := by decide +kernel
theorem d_law_161 : decode code 161 = .ok (.iaload, 1) := by decide +kernel
theorem d_law_162 : decode code 162 = .ok (.invokevirtual 23, 3) := by decide +kernel
theorem d_law_165 : decode code 165 = .ok (.pop, 1) := by decide +kernel
theorem d_law_166 : decode code 166 = .ok (.aload_n 2, 1) := by decide +kernel
theorem d_law_167 : decode code 167 = .ok (.aload_n 0, 1) := by decide +kernel
theorem d_law_168 : decode code 168 = .ok (.iload_n 3, 1) := by decide +kernel
theorem d_law_169 : decode code 169 = .ok (.iconst 1, 1) := by decide +kernel
theorem d_law_170 : decode code 170 = .ok (.iadd, 1) := by decide +kernel
theorem d_law_171 : decode code 171 = .ok (.iaload, 1) := by decide +kernel
theorem d_law_172 : decode code 172 = .ok (.aload_n 0, 1) := by decide +kernel
theorem d_law_173 : decode code 173 = .ok (.iload_n 3, 1) := by decide +kernel
theorem d_law_174 : decode code 174 = .ok (.iconst 2, 1) := by decide +kernel
theorem d_law_175 : decode code 175 = .ok (.iadd, 1) := by decide +kernel
theorem d_law_176 : decode code 176 = .ok (.iaload, 1) := by decide +kernel
theorem d_law_177 : decode code 177 = .ok (.aload_n 0, 1) := by decide +kernel
theorem d_law_178 : decode code 178 = .ok (.iload_n 3, 1) := by decide +kernel
theorem d_law_179 : decode code 179 = .ok (.iconst 3, 1) := by decide +kernel
theorem d_law_180 : decode code 180 = .ok (.iadd, 1) := by decide +kernel
theorem d_law_181 : decode code 181 = .ok (.iaload, 1) := by decide +kernel
theorem d_law_182 : decode code 182 = .ok (.invokevirtual 26, 3) := by decide +kernel
theorem d_law_185 : decode code 185 = .ok (.pop, 1) := by decide +kernel
theorem d_law_186 : decode code 186 = .ok (.goto 142, 3) := by decide +kernel
theorem d_law_189 : decode code 189 = .ok (.aload_n 1, 1) := by decide +kernel
theorem d_law_190 : decode code 190 = .ok (.aload_n 0, 1) := by decide +kernel
theorem d_law_191 : decode code 191 = .ok (.iload_n 3, 1) := by decide +kernel
theorem d_law_192 : decode code 192 = .ok (.iconst 1, 1) := by decide +kernel
theorem d_law_193 : decode code 193 = .ok (.iadd, 1) := by decide +kernel
theorem d_law_194 : decode code 194 = .ok (.iaload, 1) := by decide +kernel
theorem d_law_195 : decode code 195 = .ok (.invokevirtual 27, 3) := by decide +kernel
theorem d_law_198 : decode code 198 = .ok (.pop2, 1) := by decide +kernel
theorem d_law_199 : decode code 199 = .ok (.aload_n 2, 1) := by decide +kernel
theorem d_law_200 : decode code 200 = .ok (.aload_n 0, 1) := by decide +kernel
theorem d_law_201 : decode code 201 = .ok (.iload_n 3, 1) := by decide +kernel
theorem d_law_202 : decode code 202 = .ok (.iconst 1, 1) := by decide +kernel
theorem d_law_203 : decode code 203 = .ok (.iadd, 1) := by decide +kernel
theorem d_law_204 : decode code 204 = .ok (.iaload, 1) := by decide +kernel
theorem d_law_205 : decode code 205 = .ok (.invokevirtual 30, 3) := by decide +kernel
theorem d_law_208 : decode code 208 = .ok (.pop2, 1) := by decide +kernel
theorem d_law_209 : decode code 209 = .ok (.goto 119, 3) := by decide +kernel
theorem d_law_212 : decode code 212 = .ok (.aload_n 1, 1) := by decide +kernel
theorem d_law_213 : decode code 213 = .ok (.aload_n 0, 1) := by decide +kernel
theorem d_law_214 : decode code 214 = .ok (.iload_n 3, 1) := by decide +kernel
theorem d_law_215 : decode code 215 = .ok (.iconst 1, 1) := by decide +kernel
theorem d_law_216 : decode code 216 = .ok (.iadd, 1) := by decide +kernel
theorem d_law_217 : decode code 217 = .ok (.iaload, 1) := by decide +kernel
theorem d_law_218 : decode code 218 = .ok (.ifCond .eq 7, 3) := by decide +kernel
theorem d_law_225 : decode code 225 = .ok (.iconst 0, 1) := by decide +kernel
theorem d_law_226 : decode code 226 = .ok (.invokevirtual 31, 3) := by decide +kernel
theorem d_law_229 : decode code 229 = .ok (.aload_n 2, 1) := by decide +kernel
theorem d_law_230 : decode code 230 = .ok (.aload_n 0, 1) := by decide +kernel
theorem d_law_231 : decode code 231 = .ok (.iload_n 3, 1) := by decide +kernel
theorem d_law_232 : decode code 232 = .ok (.iconst 1, 1) := by decide +kernel
theorem d_law_233 : decode code 233 = .ok (.iadd, 1) := by decide +kernel
theorem d_law_234 : decode code 234 = .ok (.iaload, 1) := by decide +kernel
theorem d_law_235 : decode code 235 = .ok (.ifCond .eq 7, 3) := by decide +kernel
theorem d_law_242 : decode code 242 = .ok (.iconst 0, 1) := by decide +kernel
theorem d_law_243 : decode code 243 = .ok (.invokevirtual 35, 3) := by decide +kernel
theorem d_law_246 : decode code 246 = .ok (.goto 82, 3) := by decide +kernel
theorem d_law_238 : decode code 238 = .ok (.iconst 1, 1) := by decide +kernel
theorem d_law_239 : decode code 239 = .ok (.goto 4, 3) := by decide +kernel
theorem d_law_221 : decode code 221 = .ok (.iconst 1, 1) := by decide +kernel
theorem d_law_222 : decode code 222 = .ok (.goto 4, 3) := by decide +kernel
theorem d_law_249 : decode code 249 = .ok (.aload_n 1, 1) := by decide +kernel
theorem d_law_250 : decode code 250 = .ok (.invokevirtual 36, 3) := by decide +kernel
theorem d_law_253 : decode code 253 = .ok (.pop, 1) := by decide +kernel
theorem d_law_254 : decode code 254 = .ok (.aload_n 2, 1) := by decide +kernel
theorem d_law_255 : decode code 255 = .ok (.invokevirtual 40, 3) := by decide +kernel
theorem d_law_258 : decode code 258 = .ok (.pop, 1) := by decide +kernel
theorem d_law_259 : decode code 259 = .ok (.goto 69, 3) := by decide +kernel
theorem d_law_262 : decode code 262 = .ok (.aload_n 1, 1) := by decide +kernel
theorem d_law_263 : decode code 263 = .ok (.aload_n 0, 1) := by decide +kernel
theorem d_law_264 : decode code 264 = .ok (.iload_n 3, 1) := by decide +kernel
theorem d_law_265 : decode code 265 = .ok (.iconst 1, 1) := by decide +kernel
theorem d_law_266 : decode code 266 = .ok (.iadd, 1) := by decide +kernel
theorem d_law_267 : decode code 267 = .ok (.iaload, 1) := by decide +kernel
theorem d_law_268 : decode code 268 = .ok (.invokevirtual 41, 3) := by decide +kernel
theorem d_law_271 : decode code 271 = .ok (.aload_n 2, 1) := by decide +kernel
theorem d_law_272 : decode code 272 = .ok (.aload_n 0, 1) := by decide +kernel
theorem d_law_273 : decode code 273 = .ok (.iload_n 3, 1) := by decide +kernel
theorem d_law_274 : decode code 274 = .ok (.iconst 1, 1) := by decide +kernel
theorem d_law_275 : decode code 275 = .ok (.iadd, 1) := by decide +kernel
theorem d_law_276 : decode code 276 = .ok (.iaload, 1) := by decide +kernel
theorem d_law_277 : decode code 277 = .ok (.invokevirtual 45, 3) := by decide +kernel
theorem d_law_280 : decode code 280 = .ok (.if_icmp .eq 48, 3) := by decide +kernel
theorem d_law_283 : decode code 283 = .ok (.iconst 0, 1) := by decide +kernel
theorem d_law_285 : decode code 285 = .ok (.aload_n 1, 1) := by decide +kernel
theorem d_law_286 : decode code 286 = .ok (.aload_n 0, 1) := by decide +kernel
theorem d_law_287 : decode code 287 = .ok (.iload_n 3, 1) := by decide +kernel
theorem d_law_288 : decode code 288 = .ok (.iconst 1, 1) := by decide +kernel
theorem d_law_289 : decode code 289 = .ok (.iadd, 1) := by decide +kernel
theorem d_law_290 : decode code 290 = .ok (.iaload, 1) := by decide +kernel
theorem d_law_291 : decode code 291 = .ok (.aload_n 0, 1) := by decide +kernel
theorem d_law_292 : decode code 292 = .ok (.iload_n 3, 1) := by decide +kernel
theorem d_law_293 : decode code 293 = .ok (.iconst 2, 1) := by decide +kernel
theorem d_law_294 : decode code 294 = .ok (.iadd, 1) := by decide +kernel
theorem d_law_295 : decode code 295 = .ok (.iaload, 1) := by decide +kernel
theorem d_law_296 : decode code 296 = .ok (.aload_n 0, 1) := by decide +kernel
theorem d_law_297 : decode code 297 = .ok (.iload_n 3, 1) := by decide +kernel
theorem d_law_298 : decode code 298 = .ok (.iconst 3, 1) := by decide +kernel
theorem d_law_299 : decode code 299 = .ok (.iadd, 1) := by decide +kernel
theorem d_law_300 : decode code 300 = .ok (.iaload, 1) := by decide +kernel
theorem d_law_301 : decode code 301 = .ok (.invokevirtual 46, 3) := by decide +kernel
theorem d_law_304 : decode code 304 = .ok (.pop2, 1) := by decide +kernel
theorem d_law_305 : decode code 305 = .ok (.aload_n 2, 1) := by decide +kernel
theorem d_law_306 : decode code 306 = .ok (.aload_n 0, 1) := by decide +kernel
theorem d_law_307 : decode code 307 = .ok (.iload_n 3, 1) := by decide +kernel
theorem d_law_308 : decode code 308 = .ok (.iconst 1, 1) := by decide +kernel
theorem d_law_309 : decode code 309 = .ok (.iadd, 1) := by decide +kernel
theorem d_law_310 : decode code 310 = .ok (.iaload, 1) := by decide +kernel
theorem d_law_311 : decode code 311 = .ok (.aload_n 0, 1) := by decide +kernel
theorem d_law_312 : decode code 312 = .ok (.iload_n 3, 1) := by decide +kernel
theorem d_law_313 : decode code 313 = .ok (.iconst 2, 1) := by decide +kernel
theorem d_law_314 : decode code 314 = .ok (.iadd, 1) := by decide +kernel
theorem d_law_315 : decode code 315 = .ok (.iaload, 1) := by decide +kernel
theorem d_law_316 : decode code 316 = .ok (.aload_n 0, 1) := by decide +kernel
theorem d_law_317 : decode code 317 = .ok (.iload_n 3, 1) := by decide +kernel
theorem d_law_318 : decode code 318 = .ok (.iconst 3, 1) := by decide +kernel
theorem d_law_319 : decode code 319 = .ok (.iadd, 1) := by decide +kernel
theorem d_law_320 : decode code 320 = .ok (.iaload, 1) := by decide +kernel
theorem d_law_321 : decode code 321 = .ok (.invokevirtual 50, 3) := by decide +kernel
theorem d_law_324 : decode code 324 = .ok (.pop2, 1) := by decide +kernel
theorem d_law_325 : decode code 325 = .ok (.goto 3, 3) := by decide +kernel
