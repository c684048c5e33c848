theorem d_De_fetchPlace_5 : decode b_De_fetchPlace 5 = .ok (.aload_n 0, 1) := by decide +kernel
theorem d_De_fetchPlace_6 : decode b_De_fetchPlace 6 = .ok (.iconst 1, 1) := by decide +kernel
theorem d_De_extension_0 : decode b_De_extension 0 = .ok (.aload_n 0, 1) := by decide +kernel
theorem d_De_extension_1 : decode b_De_extension 1 = .ok (.getfield 78, 3) := by decide +kernel
theorem d_De_extension_4 : decode b_De_extension 4 = .ok (.iload_n 1, 1) := by decide +kernel
theorem d_De_extension_5 : decode b_De_extension 5 = .ok (.iand, 1) := by decide +kernel
theorem d_De_extension_6 : decode b_De_extension 6 = .ok (.ifCond .eq 8, 3) := by decide +kernel
theorem d_De_extension_14 : decode b_De_extension 14 = .ok (.iconst 0, 1) := by decide +kernel
theorem d_De_extension_15 : decode b_De_extension 15 = .ok (.ireturn, 1) := by decide +kernel
theorem d_De_extension_9 : decode b_De_extension 9 = .ok (.bipush 8, 2) := by decide +kernel
theorem d_De_extension_11 : decode b_De_extension 11 = .ok (.goto 4, 3) := by decide +kernel
theorem d_De_fetchPlace_7 : decode b_De_fetchPlace 7 = .ok (.invokevirtual 113, 3) := by decide +kernel
theorem d_De_fetchPlace_10 : decode b_De_fetchPlace 10 = .ok (.ior, 1) := by decide +kernel
theorem d_De_fetchPlace_11 : decode b_De_fetchPlace 11 = .ok (.putfield 116, 3) := by decide +kernel
theorem d_De_fetchPlace_14 : decode b_De_fetchPlace 14 = .ok (.aload_n 0, 1) := by decide +kernel
theorem d_De_fetchPlace_15 : decode b_De_fetchPlace 15 = .ok (.iconst (-1), 1) := by decide +kernel
theorem d_De_fetchPlace_16 : decode b_De_fetchPlace 16 = .ok (.putfield 119, 3) := by decide +kernel
theorem d_De_fetchPlace_19 : decode b_De_fetchPlace 19 = .ok (.aload_n 0, 1) := by decide +kernel
theorem d_De_fetchPlace_20 : decode b_De_fetchPlace 20 = .ok (.iconst 0, 1) := by decide +kernel
theorem d_De_fetchPlace_21 : decode b_De_fetchPlace 21 = .ok (.putfield 122, 3) := by decide +kernel
theorem d_De_fetchPlace_24 : decode b_De_fetchPlace 24 = .ok (.aload_n 0, 1) := by decide +kernel
theorem d_De_fetchPlace_25 : decode b_De_fetchPlace 25 = .ok (.getfield 106, 3) := by decide +kernel
theorem d_De_fetchPlace_28 : decode b_De_fetchPlace 28 = .ok (.iconst 4, 1) := by decide +kernel
theorem d_De_fetchPlace_29 : decode b_De_fetchPlace 29 = .ok (.if_icmp .ne 82, 3) := by decide +kernel
theorem d_De_fetchPlace_111 : decode b_De_fetchPlace 111 = .ok (.aload_n 0, 1) := by decide +kernel
theorem d_De_fetchPlace_112 : decode b_De_fetchPlace 112 = .ok (.getfield 38, 3) := by decide +kernel
theorem d_De_fetchPlace_115 : decode b_De_fetchPlace 115 = .ok (.ifCond .ne 7, 3) := by decide +kernel
theorem d_De_fetchPlace_122 : decode b_De_fetchPlace 122 = .ok (.aload_n 0, 1) := by decide +kernel
theorem d_De_fetchPlace_123 : decode b_De_fetchPlace 123 = .ok (.getfield 38, 3) := by decide +kernel
theorem d_De_fetchPlace_126 : decode b_De_fetchPlace 126 = .ok (.iconst 1, 1) := by decide +kernel
theorem d_De_fetchPlace_127 : decode b_De_fetchPlace 127 = .ok (.if_icmp .ne 7, 3) := by decide +kernel
theorem d_De_fetchPlace_134 : decode b_De_fetchPlace 134 = .ok (.iconst 4, 1) := by decide +kernel
theorem d_De_fetchPlace_135 : decode b_De_fetchPlace 135 = .ok (.istore_n 1, 1) := by decide +kernel
theorem d_De_fetchPlace_136 : decode b_De_fetchPlace 136 = .ok (.aload_n 0, 1) := by decide +kernel
theorem d_De_fetchPlace_137 : decode b_De_fetchPlace 137 = .ok (.getfield 38, 3) := by decide +kernel
theorem d_De_fetchPlace_140 : decode b_De_fetchPlace 140 = .ok (.ifCond .ne 34, 3) := by decide +kernel
theorem d_De_fetchPlace_174 : decode b_De_fetchPlace 174 = .ok (.aload_n 0, 1) := by decide +kernel
theorem d_De_fetchPlace_175 : decode b_De_fetchPlace 175 = .ok (.iload_n 1, 1) := by decide +kernel
theorem d_De_fetchPlace_176 : decode b_De_fetchPlace 176 = .ok (.invokevirtual 50, 3) := by decide +kernel
theorem d_De_fetchPlace_179 : decode b_De_fetchPlace 179 = .ok (.istore_n 2, 1) := by decide +kernel
theorem d_De_fetchPlace_180 : decode b_De_fetchPlace 180 = .ok (.aload_n 0, 1) := by decide +kernel
theorem d_De_fetchPlace_181 : decode b_De_fetchPlace 181 = .ok (.aload_n 0, 1) := by decide +kernel
theorem d_De_fetchPlace_182 : decode b_De_fetchPlace 182 = .ok (.getfield 53, 3) := by decide +kernel
theorem d_De_fetchPlace_185 : decode b_De_fetchPlace 185 = .ok (.putfield 125, 3) := by decide +kernel
theorem d_De_fetchPlace_188 : decode b_De_fetchPlace 188 = .ok (.iload_n 2, 1) := by decide +kernel
theorem d_De_fetchPlace_189 : decode b_De_fetchPlace 189 = .ok (.ireturn, 1) := by decide +kernel
theorem d_De_fetchPlace_143 : decode b_De_fetchPlace 143 = .ok (.aload_n 0, 1) := by decide +kernel
theorem d_De_fetchPlace_144 : decode b_De_fetchPlace 144 = .ok (.getfield 116, 3) := by decide +kernel
theorem d_De_fetchPlace_147 : decode b_De_fetchPlace 147 = .ok (.bipush 7, 2) := by decide +kernel
theorem d_De_fetchPlace_149 : decode b_De_fetchPlace 149 = .ok (.iand, 1) := by decide +kernel
theorem d_De_fetchPlace_150 : decode b_De_fetchPlace 150 = .ok (.iconst 5, 1) := by decide +kernel
theorem d_De_fetchPlace_151 : decode b_De_fetchPlace 151 = .ok (.if_icmp .ne 23, 3) := by decide +kernel
theorem d_De_fetchPlace_154 : decode b_De_fetchPlace 154 = .ok (.aload_n 0, 1) := by decide +kernel
theorem d_De_fetchPlace_155 : decode b_De_fetchPlace 155 = .ok (.aload_n 0, 1) := by decide +kernel
theorem d_De_fetchPlace_156 : decode b_De_fetchPlace 156 = .ok (.getfield 106, 3) := by decide +kernel
theorem d_De_fetchPlace_159 : decode b_De_fetchPlace 159 = .ok (.iconst 4, 1) := by decide +kernel
theorem d_De_fetchPlace_160 : decode b_De_fetchPlace 160 = .ok (.if_icmp .ne 7, 3) := by decide +kernel
theorem d_De_fetchPlace_167 : decode b_De_fetchPlace 167 = .ok (.bipush (-2), 2) := by decide +kernel
theorem d_De_fetchPlace_169 : decode b_De_fetchPlace 169 = .ok (.putfield 116, 3) := by decide +kernel
theorem d_De_fetchPlace_172 : decode b_De_fetchPlace 172 = .ok (.iconst 4, 1) := by decide +kernel
theorem d_De_fetchPlace_173 : decode b_De_fetchPlace 173 = .ok (.istore_n 1, 1) := by decide +kernel
theorem d_De_fetchPlace_163 : decode b_De_fetchPlace 163 = .ok (.iconst (-1), 1) := by decide +kernel
theorem d_De_fetchPlace_164 : decode b_De_fetchPlace 164 = .ok (.goto 5, 3) := by decide +kernel
theorem d_De_fetchPlace_130 : decode b_De_fetchPlace 130 = .ok (.iconst 1, 1) := by decide +kernel
theorem d_De_fetchPlace_131 : decode b_De_fetchPlace 131 = .ok (.goto 4, 3) := by decide +kernel
theorem d_De_fetchPlace_118 : decode b_De_fetchPlace 118 = .ok (.iconst 0, 1) := by decide +kernel
theorem d_De_fetchPlace_119 : decode b_De_fetchPlace 119 = .ok (.goto 16, 3) := by decide +kernel
theorem d_De_fetchPlace_32 : decode b_De_fetchPlace 32 = .ok (.aload_n 0, 1) := by decide +kernel
theorem d_De_fetchPlace_33 : decode b_De_fetchPlace 33 = .ok (.invokevirtual 81, 3) := by decide +kernel
theorem d_De_fetchPlace_36 : decode b_De_fetchPlace 36 = .ok (.istore_n 1, 1) := by decide +kernel
theorem d_De_fetchPlace_37 : decode b_De_fetchPlace 37 = .ok (.iload_n 1, 1) := by decide +kernel
theorem d_De_fetchPlace_38 : decode b_De_fetchPlace 38 = .ok (.iconst (-1), 1) := by decide +kernel
theorem d_De_fetchPlace_39 : decode b_De_fetchPlace 39 = .ok (.if_icmp .eq 5, 3) := by decide +kernel
theorem d_De_fetchPlace_44 : decode b_De_fetchPlace 44 = .ok (.aload_n 0, 1) := by decide +kernel
theorem d_De_fetchPlace_45 : decode b_De_fetchPlace 45 = .ok (.aload_n 0, 1) := by decide +kernel
theorem d_De_fetchPlace_46 : decode b_De_fetchPlace 46 = .ok (.getfield 84, 3) := by decide +kernel
theorem d_De_fetchPlace_49 : decode b_De_fetchPlace 49 = .ok (.bipush 7, 2) := by decide +kernel
theorem d_De_fetchPlace_51 : decode b_De_fetchPlace 51 = .ok (.iand, 1) := by decide +kernel
theorem d_De_fetchPlace_52 : decode b_De_fetchPlace 52 = .ok (.aload_n 0, 1) := by decide +kernel
theorem d_De_fetchPlace_53 : decode b_De_fetchPlace 53 = .ok (.iconst 1, 1) := by decide +kernel
theorem d_De_fetchPlace_54 : decode b_De_fetchPlace 54 = .ok (.invokevirtual 113, 3) := by decide +kernel
theorem d_De_fetchPlace_57 : decode b_De_fetchPlace 57 = .ok (.ior, 1) := by decide +kernel
theorem d_De_fetchPlace_58 : decode b_De_fetchPlace 58 = .ok (.putfield 116, 3) := by decide +kernel
theorem d_De_fetchPlace_61 : decode b_De_fetchPlace 61 = .ok (.aload_n 0, 1) := by decide +kernel
theorem d_De_fetchPlace_62 : decode b_De_fetchPlace 62 = .ok (.aload_n 0, 1) := by decide +kernel
theorem d_De_fetchPlace_63 : decode b_De_fetchPlace 63 = .ok (.getfield 84, 3) := by decide +kernel
theorem d_De_fetchPlace_66 : decode b_De_fetchPlace 66 = .ok (.iconst 3, 1) := by decide +kernel
theorem d_De_fetchPlace_67 : decode b_De_fetchPlace 67 = .ok (.ishr, 1) := by decide +kernel
theorem d_De_fetchPlace_68 : decode b_De_fetchPlace 68 = .ok (.bipush 7, 2) := by decide +kernel
theorem d_De_fetchPlace_70 : decode b_De_fetchPlace 70 = .ok (.iand, 1) := by decide +kernel
theorem d_De_fetchPlace_71 : decode b_De_fetchPlace 71 = .ok (.aload_n 0, 1) := by decide +kernel
theorem d_De_fetchPlace_72 : decode b_De_fetchPlace 72 = .ok (.iconst 2, 1) := by decide +kernel
theorem d_De_fetchPlace_73 : decode b_De_fetchPlace 73 = .ok (.invokevirtual 113, 3) := by decide +kernel
theorem d_De_fetchPlace_76 : decode b_De_fetchPlace 76 = .ok (.ior, 1) := by decide +kernel
theorem d_De_fetchPlace_77 : decode b_De_fetchPlace 77 = .ok (.putfield 119, 3) := by decide +kernel
theorem d_De_fetchPlace_80 : decode b_De_fetchPlace 80 = .ok (.aload_n 0, 1) := by decide +kernel
theorem d_De_fetchPlace_81 : decode b_De_fetchPlace 81 = .ok (.aload_n 0, 1) := by decide +kernel
theorem d_De_fetchPlace_82 : decode b_De_fetchPlace 82 = .ok (.getfield 119, 3) := by decide +kernel
theorem d_De_fetchPlace_85 : decode b_De_fetchPlace 85 = .ok (.iconst 4, 1) := by decide +kernel
theorem d_De_fetchPlace_86 : decode b_De_fetchPlace 86 = .ok (.if_icmp .ne 7, 3) := by decide +kernel
theorem d_De_fetchPlace_93 : decode b_De_fetchPlace 93 = .ok (.aload_n 0, 1) := by decide +kernel
theorem d_De_fetchPlace_94 : decode b_De_fetchPlace 94 = .ok (.getfield 119, 3) := by decide +kernel
theorem d_De_fetchPlace_97 : decode b_De_fetchPlace 97 = .ok (.putfield 119, 3) := by decide +kernel
theorem d_De_fetchPlace_100 : decode b_De_fetchPlace 100 = .ok (.aload_n 0, 1) := by decide +kernel
theorem d_De_fetchPlace_101 : decode b_De_fetchPlace 101 = .ok (.aload_n 0, 1) := by decide +kernel
theorem d_De_fetchPlace_102 : decode b_De_fetchPlace 102 = .ok (.getfield 84, 3) := by decide +kernel
theorem d_De_fetchPlace_105 : decode b_De_fetchPlace 105 = .ok (.bipush 6, 2) := by decide +kernel
theorem d_De_fetchPlace_107 : decode b_De_fetchPlace 107 = .ok (.ishr, 1) := by decide +kernel
theorem d_De_fetchPlace_108 : decode b_De_fetchPlace 108 = .ok (.putfield 122, 3) := by decide +kernel
theorem d_De_fetchPlace_89 : decode b_De_fetchPlace 89 = .ok (.iconst (-1), 1) := by decide +kernel
theorem d_De_fetchPlace_90 : decode b_De_fetchPlace 90 = .ok (.goto 7, 3) := by decide +kernel
theorem d_De_fetchPlace_42 : decode b_De_fetchPlace 42 = .ok (.iload_n 1, 1) := by decide +kernel
theorem d_De_fetchPlace_43 : decode b_De_fetchPlace 43 = .ok (.ireturn, 1) := by decide +kernel
theorem d_De_decode_89 : decode b_De_decode 89 = .ok (.invokevirtual 44, 3) := by decide +kernel
theorem d_De_decode_92 : decode b_De_decode 92 = .ok (.istore_n 1, 1) := by decide +kernel
theorem d_De_decode_70 : decode b_De_decode 70 = .ok (.aload_n 0, 1) := by decide +kernel
theorem d_De_fetchModrm_0 : decode b_De_fetchModrm 0 = .ok (.aload_n 0, 1) := by decide +kernel
theorem d_De_fetchModrm_1 : decode b_De_fetchModrm 1 = .ok (.invokevirtual 81, 3) := by decide +kernel
theorem d_De_fetchModrm_4 : decode b_De_fetchModrm 4 = .ok (.istore_n 1, 1) := by decide +kernel
theorem d_De_fetchModrm_5 : decode b_De_fetchModrm 5 = .ok (.iload_n 1, 1) := by decide +kernel
theorem d_De_fetchModrm_6 : decode b_De_fetchModrm 6 = .ok (.iconst (-1), 1) := by decide +kernel
theorem d_De_fetchModrm_7 : decode b_De_fetchModrm 7 = .ok (.if_icmp .eq 5, 3) := by decide +kernel
theorem d_De_fetchModrm_12 : decode b_De_fetchModrm 12 = .ok (.aload_n 0, 1) := by decide +kernel
theorem d_De_fetchModrm_13 : decode b_De_fetchModrm 13 = .ok (.aload_n 0, 1) := by decide +kernel
theorem d_De_fetchModrm_14 : decode b_De_fetchModrm 14 = .ok (.getfield 84, 3) := by decide +kernel
theorem d_De_fetchModrm_17 : decode b_De_fetchModrm 17 = .ok (.bipush 6, 2) := by decide +kernel
theorem d_De_fetchModrm_19 : decode b_De_fetchModrm 19 = .ok (.ishr, 1) := by decide +kernel
theorem d_De_fetchModrm_20 : decode b_De_fetchModrm 20 = .ok (.putfield 38, 3) := by decide +kernel
theorem d_De_fetchModrm_23 : decode b_De_fetchModrm 23 = .ok (.aload_n 0, 1) := by decide +kernel
theorem d_De_fetchModrm_24 : decode b_De_fetchModrm 24 = .ok (.aload_n 0, 1) := by decide +kernel
theorem d_De_fetchModrm_25 : decode b_De_fetchModrm 25 = .ok (.getfield 84, 3) := by decide +kernel
theorem d_De_fetchModrm_28 : decode b_De_fetchModrm 28 = .ok (.iconst 3, 1) := by decide +kernel
theorem d_De_fetchModrm_29 : decode b_De_fetchModrm 29 = .ok (.ishr, 1) := by decide +kernel
theorem d_De_fetchModrm_30 : decode b_De_fetchModrm 30 = .ok (.bipush 7, 2) := by decide +kernel
theorem d_De_fetchModrm_32 : decode b_De_fetchModrm 32 = .ok (.iand, 1) := by decide +kernel
theorem d_De_fetchModrm_33 : decode b_De_fetchModrm 33 = .ok (.putfield 103, 3) := by decide +kernel
theorem d_De_fetchModrm_36 : decode b_De_fetchModrm 36 = .ok (.aload_n 0, 1) := by decide +kernel
theorem d_De_fetchModrm_37 : decode b_De_fetchModrm 37 = .ok (.aload_n 0, 1) := by decide +kernel
theorem d_De_fetchModrm_38 : decode b_De_fetchModrm 38 = .ok (.getfield 84, 3) := by decide +kernel
theorem d_De_fetchModrm_41 : decode b_De_fetchModrm 41 = .ok (.bipush 7, 2) := by decide +kernel
theorem d_De_fetchModrm_43 : decode b_De_fetchModrm 43 = .ok (.iand, 1) := by decide +kernel
theorem d_De_fetchModrm_44 : decode b_De_fetchModrm 44 = .ok (.putfield 106, 3) := by decide +kernel
theorem d_De_fetchModrm_47 : decode b_De_fetchModrm 47 = .ok (.aload_n 0, 1) := by decide +kernel
theorem d_De_isToldWithModrm_0 : decode b_De_isToldWithModrm 0 = .ok (.aload_n 0, 1) := by decide +kernel
theorem d_De_isToldWithModrm_1 : decode b_De_isToldWithModrm 1 = .ok (.getfield 23, 3) := by decide +kernel
theorem d_De_isToldWithModrm_4 : decode b_De_isToldWithModrm 4 = .ok (.lookupswitch 262 #[(141, 132), (143, 146), (192, 159), (193, 159), (198, 146), (199, 146), (208, 159), (209, 159), (210, 159), (211, 159), (246, 174), (247, 174), (254, 188), (255, 202), (442, 248)], 132) := by decide +kernel
theorem d_De_isToldWithModrm_136 : decode b_De_isToldWithModrm 136 = .ok (.aload_n 0, 1) := by decide +kernel
theorem d_De_isToldWithModrm_137 : decode b_De_isToldWithModrm 137 = .ok (.getfield 38, 3) := by decide +kernel
theorem d_De_isToldWithModrm_140 : decode b_De_isToldWithModrm 140 = .ok (.iconst 3, 1) := by decide +kernel
theorem d_De_isToldWithModrm_141 : decode b_De_isToldWithModrm 141 = .ok (.if_icmp .eq 7, 3) := by decide +kernel
theorem d_De_isToldWithModrm_148 : decode b_De_isToldWithModrm 148 = .ok (.iconst 0, 1) := by decide +kernel
theorem d_De_isToldWithModrm_149 : decode b_De_isToldWithModrm 149 = .ok (.ireturn, 1) := by decide +kernel
theorem d_De_isToldWithModrm_144 : decode b_De_isToldWithModrm 144 = .ok (.iconst 1, 1) := by decide +kernel
theorem d_De_isToldWithModrm_145 : decode b_De_isToldWithModrm 145 = .ok (.goto 4, 3) := by decide +kernel
theorem d_De_isToldWithModrm_150 : decode b_De_isToldWithModrm 150 = .ok (.aload_n 0, 1) := by decide +kernel
theorem d_De_isToldWithModrm_151 : decode b_De_isToldWithModrm 151 = .ok (.getfield 103, 3) := by decide +kernel
theorem d_De_isToldWithModrm_154 : decode b_De_isToldWithModrm 154 = .ok (.ifCond .ne 7, 3) := by decide +kernel
theorem d_De_isToldWithModrm_161 : decode b_De_isToldWithModrm 161 = .ok (.iconst 0, 1) := by decide +kernel
theorem d_De_isToldWithModrm_162 : decode b_De_isToldWithModrm 162 = .ok (.ireturn, 1) := by decide +kernel
theorem d_De_isToldWithModrm_157 : decode b_De_isToldWithModrm 157 = .ok (.iconst 1, 1) := by decide +kernel
theorem d_De_isToldWithModrm_158 : decode b_De_isToldWithModrm 158 = .ok (.goto 4, 3) := by decide +kernel
theorem d_De_isToldWithModrm_163 : decode b_De_isToldWithModrm 163 = .ok (.aload_n 0, 1) := by decide +kernel
theorem d_De_isToldWithModrm_164 : decode b_De_isToldWithModrm 164 = .ok (.getfield 103, 3) := by decide +kernel
theorem d_De_isToldWithModrm_167 : decode b_De_isToldWithModrm 167 = .ok (.bipush 6, 2) := by decide +kernel
theorem d_De_isToldWithModrm_169 : decode b_De_isToldWithModrm 169 = .ok (.if_icmp .eq 7, 3) := by decide +kernel
theorem d_De_isToldWithModrm_176 : decode b_De_isToldWithModrm 176 = .ok (.iconst 0, 1) := by decide +kernel
theorem d_De_isToldWithModrm_177 : decode b_De_isToldWithModrm 177 = .ok (.ireturn, 1) := by decide +kernel
theorem d_De_isToldWithModrm_172 : decode b_De_isToldWithModrm 172 = .ok (.iconst 1, 1) := by decide +kernel
theorem d_De_isToldWithModrm_173 : decode b_De_isToldWithModrm 173 = .ok (.goto 4, 3) := by decide +kernel
theorem d_De_isToldWithModrm_178 : decode b_De_isToldWithModrm 178 = .ok (.aload_n 0, 1) := by decide +kernel
theorem d_De_isToldWithModrm_179 : decode b_De_isToldWithModrm 179 = .ok (.getfield 103, 3) := by decide +kernel
theorem d_De_isToldWithModrm_182 : decode b_De_isToldWithModrm 182 = .ok (.iconst 1, 1) := by decide +kernel
theorem d_De_isToldWithModrm_183 : decode b_De_isToldWithModrm 183 = .ok (.if_icmp .eq 7, 3) := by decide +kernel
theorem d_De_isToldWithModrm_190 : decode b_De_isToldWithModrm 190 = .ok (.iconst 0, 1) := by decide +kernel
theorem d_De_isToldWithModrm_191 : decode b_De_isToldWithModrm 191 = .ok (.ireturn, 1) := by decide +kernel
theorem d_De_isToldWithModrm_186 : decode b_De_isToldWithModrm 186 = .ok (.iconst 1, 1) := by decide +kernel
theorem d_De_isToldWithModrm_187 : decode b_De_isToldWithModrm 187 = .ok (.goto 4, 3) := by decide +kernel
theorem d_De_isToldWithModrm_192 : decode b_De_isToldWithModrm 192 = .ok (.aload_n 0, 1) := by decide +kernel
theorem d_De_isToldWithModrm_193 : decode b_De_isToldWithModrm 193 = .ok (.getfield 103, 3) := by decide +kernel
theorem d_De_isToldWithModrm_196 : decode b_De_isToldWithModrm 196 = .ok (.iconst 2, 1) := by decide +kernel
theorem d_De_isToldWithModrm_197 : decode b_De_isToldWithModrm 197 = .ok (.if_icmp .ge 7, 3) := by decide +kernel
theorem d_De_isToldWithModrm_204 : decode b_De_isToldWithModrm 204 = .ok (.iconst 0, 1) := by decide +kernel
theorem d_De_isToldWithModrm_205 : decode b_De_isToldWithModrm 205 = .ok (.ireturn, 1) := by decide +kernel
theorem d_De_isToldWithModrm_200 : decode b_De_isToldWithModrm 200 = .ok (.iconst 1, 1) := by decide +kernel
theorem d_De_isToldWithModrm_201 : decode b_De_isToldWithModrm 201 = .ok (.goto 4, 3) := by decide +kernel
theorem d_De_isToldWithModrm_206 : decode b_De_isToldWithModrm 206 = .ok (.aload_n 0, 1) := by decide +kernel
theorem d_De_isToldWithModrm_207 : decode b_De_isToldWithModrm 207 = .ok (.getfield 103, 3) := by decide +kernel
theorem d_De_isToldWithModrm_210 : decode b_De_isToldWithModrm 210 = .ok (.iconst 2, 1) := by decide +kernel
theorem d_De_isToldWithModrm_211 : decode b_De_isToldWithModrm 211 = .ok (.if_icmp .lt 35, 3) := by decide +kernel
theorem d_De_isToldWithModrm_246 : decode b_De_isToldWithModrm 246 = .ok (.iconst 1, 1) := by decide +kernel
theorem d_De_isToldWithModrm_247 : decode b_De_isToldWithModrm 247 = .ok (.goto 4, 3) := by decide +kernel
theorem d_De_isToldWithModrm_251 : decode b_De_isToldWithModrm 251 = .ok (.ireturn, 1) := by decide +kernel
theorem d_De_isToldWithModrm_214 : decode b_De_isToldWithModrm 214 = .ok (.aload_n 0, 1) := by decide +kernel
theorem d_De_isToldWithModrm_215 : decode b_De_isToldWithModrm 215 = .ok (.getfield 103, 3) := by decide +kernel
theorem d_De_isToldWithModrm_218 : decode b_De_isToldWithModrm 218 = .ok (.bipush 6, 2) := by decide +kernel
theorem d_De_isToldWithModrm_220 : decode b_De_isToldWithModrm 220 = .ok (.if_icmp .eq 26, 3) := by decide +kernel
theorem d_De_isToldWithModrm_223 : decode b_De_isToldWithModrm 223 = .ok (.aload_n 0, 1) := by decide +kernel
theorem d_De_isToldWithModrm_224 : decode b_De_isToldWithModrm 224 = .ok (.getfield 103, 3) := by decide +kernel
theorem d_De_isToldWithModrm_227 : decode b_De_isToldWithModrm 227 = .ok (.iconst 2, 1) := by decide +kernel
theorem d_De_isToldWithModrm_228 : decode b_De_isToldWithModrm 228 = .ok (.if_icmp .eq 11, 3) := by decide +kernel
theorem d_De_isToldWithModrm_239 : decode b_De_isToldWithModrm 239 = .ok (.aload_n 0, 1) := by decide +kernel
theorem d_De_isToldWithModrm_240 : decode b_De_isToldWithModrm 240 = .ok (.getfield 71, 3) := by decide +kernel
theorem d_De_isToldWithModrm_243 : decode b_De_isToldWithModrm 243 = .ok (.ifCond .ne 7, 3) := by decide +kernel
theorem d_De_isToldWithModrm_250 : decode b_De_isToldWithModrm 250 = .ok (.iconst 0, 1) := by decide +kernel
theorem d_De_isToldWithModrm_231 : decode b_De_isToldWithModrm 231 = .ok (.aload_n 0, 1) := by decide +kernel
theorem d_De_isToldWithModrm_232 : decode b_De_isToldWithModrm 232 = .ok (.getfield 103, 3) := by decide +kernel
theorem d_De_isToldWithModrm_235 : decode b_De_isToldWithModrm 235 = .ok (.iconst 4, 1) := by decide +kernel
theorem d_De_isToldWithModrm_236 : decode b_De_isToldWithModrm 236 = .ok (.if_icmp .ne 14, 3) := by decide +kernel
theorem d_De_isToldWithModrm_252 : decode b_De_isToldWithModrm 252 = .ok (.aload_n 0, 1) := by decide +kernel
theorem d_De_isToldWithModrm_253 : decode b_De_isToldWithModrm 253 = .ok (.getfield 103, 3) := by decide +kernel
theorem d_De_isToldWithModrm_256 : decode b_De_isToldWithModrm 256 = .ok (.iconst 4, 1) := by decide +kernel
theorem d_De_isToldWithModrm_257 : decode b_De_isToldWithModrm 257 = .ok (.if_icmp .lt 7, 3) := by decide +kernel
theorem d_De_isToldWithModrm_264 : decode b_De_isToldWithModrm 264 = .ok (.iconst 0, 1) := by decide +kernel
theorem d_De_isToldWithModrm_265 : decode b_De_isToldWithModrm 265 = .ok (.ireturn, 1) := by decide +kernel
theorem d_De_isToldWithModrm_260 : decode b_De_isToldWithModrm 260 = .ok (.iconst 1, 1) := by decide +kernel
theorem d_De_isToldWithModrm_261 : decode b_De_isToldWithModrm 261 = .ok (.goto 4, 3) := by decide +kernel
theorem d_De_isToldWithModrm_266 : decode b_De_isToldWithModrm 266 = .ok (.iconst 1, 1) := by decide +kernel
theorem d_De_isToldWithModrm_267 : decode b_De_isToldWithModrm 267 = .ok (.ireturn, 1) := by decide +kernel
theorem d_De_fetchModrm_48 : decode b_De_fetchModrm 48 = .ok (.invokevirtual 109, 3) := by decide +kernel
theorem d_De_fetchModrm_51 : decode b_De_fetchModrm 51 = .ok (.ifCond .eq 7, 3) := by decide +kernel
theorem d_De_fetchModrm_58 : decode b_De_fetchModrm 58 = .ok (.bipush 6, 2) := by decide +kernel
theorem d_De_fetchModrm_60 : decode b_De_fetchModrm 60 = .ok (.ireturn, 1) := by decide +kernel
theorem d_De_fetchModrm_54 : decode b_De_fetchModrm 54 = .ok (.iconst (-1), 1) := by decide +kernel
theorem d_De_fetchModrm_55 : decode b_De_fetchModrm 55 = .ok (.goto 5, 3) := by decide +kernel
theorem d_De_fetchModrm_10 : decode b_De_fetchModrm 10 = .ok (.iload_n 1, 1) := by decide +kernel
theorem d_De_fetchModrm_11 : decode b_De_fetchModrm 11 = .ok (.ireturn, 1) := by decide +kernel
theorem d_De_decode_71 : decode b_De_decode 71 = .ok (.invokevirtual 41, 3) := by decide +kernel
theorem d_De_decode_74 : decode b_De_decode 74 = .ok (.istore_n 1, 1) := by decide +kernel
theorem d_De_decode_22 : decode b_De_decode 22 = .ok (.aload_n 0, 1) := by decide +kernel
theorem d_De_decode_23 : decode b_De_decode 23 = .ok (.getfield 23, 3) := by decide +kernel
theorem d_De_formOfOne_0 : decode b_De_formOfOne 0 = .ok (.iload_n 0, 1) := by decide +kernel
theorem d_De_formOfOne_1 : decode b_De_formOfOne 1 = .ok (.sipush 248, 3) := by decide +kernel
theorem d_De_formOfOne_4 : decode b_De_formOfOne 4 = .ok (.iand, 1) := by decide +kernel
theorem d_De_formOfOne_5 : decode b_De_formOfOne 5 = .ok (.lookupswitch 150 #[(0, 131), (8, 131), (16, 131), (24, 131), (32, 131), (40, 131), (48, 131), (56, 131), (80, 139), (88, 139), (112, 141), (120, 141), (144, 139), (176, 144), (184, 147)], 131) := by decide +kernel
theorem d_De_formOfOne_136 : decode b_De_formOfOne 136 = .ok (.iload_n 0, 1) := by decide +kernel
theorem d_De_formOfOne_137 : decode b_De_formOfOne 137 = .ok (.bipush 7, 2) := by decide +kernel
theorem d_De_formOfOne_139 : decode b_De_formOfOne 139 = .ok (.iand, 1) := by decide +kernel
theorem d_De_formOfSum_0 : decode b_De_formOfSum 0 = .ok (.iload_n 0, 1) := by decide +kernel
theorem d_De_formOfSum_1 : decode b_De_formOfSum 1 = .ok (.tableswitch 40 4 7 #[31, 34, 38, 38], 31) := by decide +kernel
theorem d_De_formOfSum_32 : decode b_De_formOfSum 32 = .ok (.bipush 8, 2) := by decide +kernel
theorem d_De_formOfSum_34 : decode b_De_formOfSum 34 = .ok (.ireturn, 1) := by decide +kernel
theorem d_De_formOfSum_35 : decode b_De_formOfSum 35 = .ok (.sipush 128, 3) := by decide +kernel
theorem d_De_formOfSum_38 : decode b_De_formOfSum 38 = .ok (.ireturn, 1) := by decide +kernel
theorem d_De_formOfSum_39 : decode b_De_formOfSum 39 = .ok (.iconst 0, 1) := by decide +kernel
theorem d_De_formOfSum_40 : decode b_De_formOfSum 40 = .ok (.ireturn, 1) := by decide +kernel
theorem d_De_formOfSum_41 : decode b_De_formOfSum 41 = .ok (.iconst 2, 1) := by decide +kernel
theorem d_De_formOfSum_42 : decode b_De_formOfSum 42 = .ok (.ireturn, 1) := by decide +kernel
theorem d_De_formOfOne_140 : decode b_De_formOfOne 140 = .ok (.invokestatic 94, 3) := by decide +kernel
theorem d_De_formOfOne_143 : decode b_De_formOfOne 143 = .ok (.ireturn, 1) := by decide +kernel
theorem d_De_formOfOne_144 : decode b_De_formOfOne 144 = .ok (.iconst 1, 1) := by decide +kernel
theorem d_De_formOfOne_145 : decode b_De_formOfOne 145 = .ok (.ireturn, 1) := by decide +kernel
theorem d_De_formOfOne_146 : decode b_De_formOfOne 146 = .ok (.bipush 12, 2) := by decide +kernel
theorem d_De_formOfOne_148 : decode b_De_formOfOne 148 = .ok (.ireturn, 1) := by decide +kernel
theorem d_De_formOfOne_149 : decode b_De_formOfOne 149 = .ok (.bipush 8, 2) := by decide +kernel
theorem d_De_formOfOne_151 : decode b_De_formOfOne 151 = .ok (.ireturn, 1) := by decide +kernel
theorem d_De_formOfOne_152 : decode b_De_formOfOne 152 = .ok (.bipush 64, 2) := by decide +kernel
theorem d_De_formOfOne_154 : decode b_De_formOfOne 154 = .ok (.ireturn, 1) := by decide +kernel
theorem d_De_formOfOne_155 : decode b_De_formOfOne 155 = .ok (.iload_n 0, 1) := by decide +kernel
theorem d_De_formOfSingle_0 : decode b_De_formOfSingle 0 = .ok (.iload_n 0, 1) := by decide +kernel
theorem d_De_formOfSingle_1 : decode b_De_formOfSingle 1 = .ok (.tableswitch 672 99 255 #[645, 672, 672, 672, 672, 650, 657, 647, 654, 672, 672, 672, 672, 672, 672, 672, 672, 672, 672, 672, 672, 672, 672, 672, 672, 672, 672, 672, 672, 654, 657, 672, 654, 645, 645, 645, 645, 645, 645, 645, 645, 672, 645, 672, 645, 672, 672, 672, 672, 672, 672, 672, 672, 643, 643, 672, 672, 643, 643, 672, 672, 672, 672, 672, 672, 643, 643, 643, 643, 647, 650, 643, 643, 643, 643, 643, 643, 672, 672, 672, 672, 672, 672, 672, 672, 672, 672, 672, 672, 672, 672, 672, 672, 654, 654, 663, 661, 672, 672, 654, 657, 672, 661, 672, 672, 672, 672, 672, 672, 645, 645, 645, 645, 672, 672, 672, 672, 672, 672, 672, 672, 672, 672, 672, 672, 666, 666, 666, 666, 672, 672, 672, 672, 669, 669, 672, 666, 672, 672, 672, 672, 672, 672, 672, 672, 672, 643, 645, 645, 643, 643, 672, 672, 643, 643, 645, 645], 643) := by decide +kernel
theorem d_De_formOfSingle_673 : decode b_De_formOfSingle 673 = .ok (.iconst 0, 1) := by decide +kernel
theorem d_De_formOfSingle_674 : decode b_De_formOfSingle 674 = .ok (.ireturn, 1) := by decide +kernel
theorem d_De_formOfSingle_646 : decode b_De_formOfSingle 646 = .ok (.iconst 2, 1) := by decide +kernel
theorem d_De_formOfSingle_647 : decode b_De_formOfSingle 647 = .ok (.ireturn, 1) := by decide +kernel
theorem d_De_formOfSingle_651 : decode b_De_formOfSingle 651 = .ok (.sipush 128, 3) := by decide +kernel
theorem d_De_formOfSingle_654 : decode b_De_formOfSingle 654 = .ok (.ireturn, 1) := by decide +kernel
theorem d_De_formOfSingle_658 : decode b_De_formOfSingle 658 = .ok (.sipush 130, 3) := by decide +kernel
theorem d_De_formOfSingle_661 : decode b_De_formOfSingle 661 = .ok (.ireturn, 1) := by decide +kernel
theorem d_De_formOfSingle_648 : decode b_De_formOfSingle 648 = .ok (.bipush 8, 2) := by decide +kernel
theorem d_De_formOfSingle_650 : decode b_De_formOfSingle 650 = .ok (.ireturn, 1) := by decide +kernel
theorem d_De_formOfSingle_655 : decode b_De_formOfSingle 655 = .ok (.bipush 10, 2) := by decide +kernel
theorem d_De_formOfSingle_657 : decode b_De_formOfSingle 657 = .ok (.ireturn, 1) := by decide +kernel
theorem d_De_formOfSingle_644 : decode b_De_formOfSingle 644 = .ok (.iconst 1, 1) := by decide +kernel
theorem d_De_formOfSingle_645 : decode b_De_formOfSingle 645 = .ok (.ireturn, 1) := by decide +kernel
theorem d_De_formOfSingle_664 : decode b_De_formOfSingle 664 = .ok (.bipush 20, 2) := by decide +kernel
theorem d_De_formOfSingle_666 : decode b_De_formOfSingle 666 = .ok (.ireturn, 1) := by decide +kernel
theorem d_De_formOfSingle_662 : decode b_De_formOfSingle 662 = .ok (.iconst 4, 1) := by decide +kernel
theorem d_De_formOfSingle_663 : decode b_De_formOfSingle 663 = .ok (.ireturn, 1) := by decide +kernel
theorem d_De_formOfSingle_667 : decode b_De_formOfSingle 667 = .ok (.bipush 12, 2) := by decide +kernel
theorem d_De_formOfSingle_669 : decode b_De_formOfSingle 669 = .ok (.ireturn, 1) := by decide +kernel
theorem d_De_formOfSingle_670 : decode b_De_formOfSingle 670 = .ok (.bipush 36, 2) := by decide +kernel
theorem d_De_formOfSingle_672 : decode b_De_formOfSingle 672 = .ok (.ireturn, 1) := by decide +kernel
theorem d_De_formOfOne_156 : decode b_De_formOfOne 156 = .ok (.invokestatic 97, 3) := by decide +kernel
theorem d_De_formOfOne_159 : decode b_De_formOfOne 159 = .ok (.ireturn, 1) := by decide +kernel
theorem d_De_decode_26 : decode b_De_decode 26 = .ok (.invokestatic 27, 3) := by decide +kernel
theorem d_De_decode_29 : decode b_De_decode 29 = .ok (.goto 14, 3) := by decide +kernel
theorem d_De_decode_10 : decode b_De_decode 10 = .ok (.iload_n 1, 1) := by decide +kernel
theorem d_De_decode_11 : decode b_De_decode 11 = .ok (.ireturn, 1) := by decide +kernel
theorem d_Co_step_4 : decode b_Co_step 4 = .ok (.invokevirtual 140, 3) := by decide +kernel
theorem d_Co_step_7 : decode b_Co_step 7 = .ok (.istore_n 1, 1) := by decide +kernel
theorem d_Co_step_8 : decode b_Co_step 8 = .ok (.iload_n 1, 1) := by decide +kernel
theorem d_Co_step_9 : decode b_Co_step 9 = .ok (.iconst (-1), 1) := by decide +kernel
theorem d_Co_step_10 : decode b_Co_step 10 = .ok (.if_icmp .ne 11, 3) := by decide +kernel
theorem d_Co_step_21 : decode b_Co_step 21 = .ok (.iload_n 1, 1) := by decide +kernel
theorem d_Co_step_22 : decode b_Co_step 22 = .ok (.iconst (-1), 1) := by decide +kernel
theorem d_Co_step_23 : decode b_Co_step 23 = .ok (.if_icmp .eq 5, 3) := by decide +kernel
theorem d_Co_step_28 : decode b_Co_step 28 = .ok (.aload_n 0, 1) := by decide +kernel
theorem d_Co_step_29 : decode b_Co_step 29 = .ok (.getfield 61, 3) := by decide +kernel
theorem d_Fl_execute_0 : decode b_Fl_execute 0 = .ok (.aload_n 0, 1) := by decide +kernel
theorem d_Fl_execute_1 : decode b_Fl_execute 1 = .ok (.getfield 15, 3) := by decide +kernel
theorem d_Fl_execute_4 : decode b_Fl_execute 4 = .ok (.getfield 31, 3) := by decide +kernel
theorem d_Fl_execute_7 : decode b_Fl_execute 7 = .ok (.bipush (-8), 2) := by decide +kernel
theorem d_Fl_execute_9 : decode b_Fl_execute 9 = .ok (.iand, 1) := by decide +kernel
theorem d_Fl_execute_10 : decode b_Fl_execute 10 = .ok (.lookupswitch 139 #[(80, 58), (88, 86), (112, 98), (120, 98), (384, 98), (392, 98)], 58) := by decide +kernel
theorem d_Fl_execute_68 : decode b_Fl_execute 68 = .ok (.aload_n 0, 1) := by decide +kernel
theorem d_Fl_execute_69 : decode b_Fl_execute 69 = .ok (.aload_n 0, 1) := by decide +kernel
theorem d_Fl_execute_70 : decode b_Fl_execute 70 = .ok (.getfield 19, 3) := by decide +kernel
theorem d_Fl_execute_73 : decode b_Fl_execute 73 = .ok (.aload_n 0, 1) := by decide +kernel
theorem d_Fl_execute_74 : decode b_Fl_execute 74 = .ok (.getfield 15, 3) := by decide +kernel
theorem d_De_registerO_0 : decode b_De_registerO 0 = .ok (.aload_n 0, 1) := by decide +kernel
theorem d_De_registerO_1 : decode b_De_registerO 1 = .ok (.getfield 23, 3) := by decide +kernel
theorem d_De_registerO_4 : decode b_De_registerO 4 = .ok (.bipush 7, 2) := by decide +kernel
theorem d_De_registerO_6 : decode b_De_registerO 6 = .ok (.iand, 1) := by decide +kernel
theorem d_De_registerO_7 : decode b_De_registerO 7 = .ok (.aload_n 0, 1) := by decide +kernel
theorem d_De_registerO_8 : decode b_De_registerO 8 = .ok (.iconst 1, 1) := by decide +kernel
theorem d_De_registerO_9 : decode b_De_registerO 9 = .ok (.invokevirtual 113, 3) := by decide +kernel
theorem d_De_registerO_12 : decode b_De_registerO 12 = .ok (.ior, 1) := by decide +kernel
theorem d_De_registerO_13 : decode b_De_registerO 13 = .ok (.ireturn, 1) := by decide +kernel
theorem d_Fl_execute_77 : decode b_Fl_execute 77 = .ok (.invokevirtual 37, 3) := by decide +kernel
theorem d_Fl_execute_80 : decode b_Fl_execute 80 = .ok (.bipush 8, 2) := by decide +kernel
theorem d_Op_part_0 : decode b_Op_part 0 = .ok (.aload_n 0, 1) := by decide +kernel
theorem d_Op_part_1 : decode b_Op_part 1 = .ok (.iload_n 1, 1) := by decide +kernel
theorem d_Op_part_2 : decode b_Op_part 2 = .ok (.iload_n 2, 1) := by decide +kernel
theorem d_Op_isUpperByte_0 : decode b_Op_isUpperByte 0 = .ok (.iload_n 2, 1) := by decide +kernel
theorem d_Op_isUpperByte_1 : decode b_Op_isUpperByte 1 = .ok (.iconst 1, 1) := by decide +kernel
theorem d_Op_isUpperByte_2 : decode b_Op_isUpperByte 2 = .ok (.if_icmp .ne 28, 3) := by decide +kernel
theorem d_Op_isUpperByte_30 : decode b_Op_isUpperByte 30 = .ok (.iconst 0, 1) := by decide +kernel
theorem d_Op_isUpperByte_31 : decode b_Op_isUpperByte 31 = .ok (.ireturn, 1) := by decide +kernel
theorem d_Op_isUpperByte_5 : decode b_Op_isUpperByte 5 = .ok (.aload_n 0, 1) := by decide +kernel
theorem d_Op_isUpperByte_6 : decode b_Op_isUpperByte 6 = .ok (.getfield 15, 3) := by decide +kernel
theorem d_Op_isUpperByte_9 : decode b_Op_isUpperByte 9 = .ok (.getfield 138, 3) := by decide +kernel
theorem d_Op_isUpperByte_12 : decode b_Op_isUpperByte 12 = .ok (.ifCond .ne 18, 3) := by decide +kernel
theorem d_Op_isUpperByte_15 : decode b_Op_isUpperByte 15 = .ok (.iload_n 1, 1) := by decide +kernel
theorem d_Op_isUpperByte_16 : decode b_Op_isUpperByte 16 = .ok (.iconst 4, 1) := by decide +kernel
theorem d_Op_isUpperByte_17 : decode b_Op_isUpperByte 17 = .ok (.if_icmp .lt 13, 3) := by decide +kernel
theorem d_Op_isUpperByte_20 : decode b_Op_isUpperByte 20 = .ok (.iload_n 1, 1) := by decide +kernel
theorem d_Op_isUpperByte_21 : decode b_Op_isUpperByte 21 = .ok (.bipush 8, 2) := by decide +kernel
theorem d_Op_isUpperByte_23 : decode b_Op_isUpperByte 23 = .ok (.if_icmp .ge 7, 3) := by decide +kernel
theorem d_Op_isUpperByte_26 : decode b_Op_isUpperByte 26 = .ok (.iconst 1, 1) := by decide +kernel
theorem d_Op_isUpperByte_27 : decode b_Op_isUpperByte 27 = .ok (.goto 4, 3) := by decide +kernel
theorem d_Op_part_3 : decode b_Op_part 3 = .ok (.invokevirtual 119, 3) := by decide +kernel
theorem d_Op_part_6 : decode b_Op_part 6 = .ok (.ifCond .eq 22, 3) := by decide +kernel
theorem d_Op_part_28 : decode b_Op_part 28 = .ok (.aload_n 0, 1) := by decide +kernel
theorem d_Op_part_29 : decode b_Op_part 29 = .ok (.getfield 9, 3) := by decide +kernel
theorem d_Op_part_32 : decode b_Op_part 32 = .ok (.getfield 123, 3) := by decide +kernel
theorem d_Op_part_35 : decode b_Op_part 35 = .ok (.iload_n 1, 1) := by decide +kernel
theorem d_Op_part_36 : decode b_Op_part 36 = .ok (.bipush 15, 2) := by decide +kernel
theorem d_Op_part_38 : decode b_Op_part 38 = .ok (.iand, 1) := by decide +kernel
theorem d_Op_part_39 : decode b_Op_part 39 = .ok (.laload, 1) := by decide +kernel
theorem d_Op_part_40 : decode b_Op_part 40 = .ok (.iload_n 2, 1) := by decide +kernel
theorem d_Ar_maskOf_0 : decode b_Ar_maskOf 0 = .ok (.iload_n 0, 1) := by decide +kernel
theorem d_Ar_maskOf_1 : decode b_Ar_maskOf 1 = .ok (.bipush 8, 2) := by decide +kernel
theorem d_Ar_maskOf_3 : decode b_Ar_maskOf 3 = .ok (.if_icmp .lt 9, 3) := by decide +kernel
theorem d_Ar_maskOf_12 : decode b_Ar_maskOf 12 = .ok (.lconst 1, 1) := by decide +kernel
theorem d_Ar_maskOf_13 : decode b_Ar_maskOf 13 = .ok (.bipush 8, 2) := by decide +kernel
theorem d_Ar_maskOf_15 : decode b_Ar_maskOf 15 = .ok (.iload_n 0, 1) := by decide +kernel
theorem d_Ar_maskOf_16 : decode b_Ar_maskOf 16 = .ok (.imul, 1) := by decide +kernel
theorem d_Ar_maskOf_17 : decode b_Ar_maskOf 17 = .ok (.lshl, 1) := by decide +kernel
theorem d_Ar_maskOf_18 : decode b_Ar_maskOf 18 = .ok (.lconst 1, 1) := by decide +kernel
theorem d_Ar_maskOf_19 : decode b_Ar_maskOf 19 = .ok (.lsub, 1) := by decide +kernel
theorem d_Ar_maskOf_20 : decode b_Ar_maskOf 20 = .ok (.lreturn, 1) := by decide +kernel
theorem d_Ar_maskOf_6 : decode b_Ar_maskOf 6 = .ok (.ldc2_w 15, 3) := by decide +kernel
theorem d_Ar_maskOf_9 : decode b_Ar_maskOf 9 = .ok (.goto 11, 3) := by decide +kernel
theorem d_Op_part_41 : decode b_Op_part 41 = .ok (.invokestatic 131, 3) := by decide +kernel
theorem d_Op_part_44 : decode b_Op_part 44 = .ok (.land, 1) := by decide +kernel
theorem d_Op_part_45 : decode b_Op_part 45 = .ok (.lreturn, 1) := by decide +kernel
theorem d_Op_part_9 : decode b_Op_part 9 = .ok (.aload_n 0, 1) := by decide +kernel
theorem d_Op_part_10 : decode b_Op_part 10 = .ok (.getfield 9, 3) := by decide +kernel
theorem d_Op_part_13 : decode b_Op_part 13 = .ok (.getfield 123, 3) := by decide +kernel
theorem d_Op_part_16 : decode b_Op_part 16 = .ok (.iload_n 1, 1) := by decide +kernel
theorem d_Op_part_17 : decode b_Op_part 17 = .ok (.iconst 3, 1) := by decide +kernel
theorem d_Op_part_18 : decode b_Op_part 18 = .ok (.iand, 1) := by decide +kernel
theorem d_Op_part_19 : decode b_Op_part 19 = .ok (.laload, 1) := by decide +kernel
theorem d_Op_part_20 : decode b_Op_part 20 = .ok (.bipush 8, 2) := by decide +kernel
theorem d_Op_part_22 : decode b_Op_part 22 = .ok (.lushr, 1) := by decide +kernel
theorem d_Op_part_23 : decode b_Op_part 23 = .ok (.ldc2_w 129, 3) := by decide +kernel
theorem d_Op_part_26 : decode b_Op_part 26 = .ok (.land, 1) := by decide +kernel
theorem d_Op_part_27 : decode b_Op_part 27 = .ok (.lreturn, 1) := by decide +kernel
theorem d_Fl_execute_82 : decode b_Fl_execute 82 = .ok (.invokevirtual 41, 3) := by decide +kernel
theorem d_Fl_execute_85 : decode b_Fl_execute 85 = .ok (.aload_n 0, 1) := by decide +kernel
theorem d_Fl_execute_86 : decode b_Fl_execute 86 = .ok (.getfield 15, 3) := by decide +kernel
theorem d_De_sizeOnStack_0 : decode b_De_sizeOnStack 0 = .ok (.aload_n 0, 1) := by decide +kernel
theorem d_De_sizeOnStack_1 : decode b_De_sizeOnStack 1 = .ok (.invokevirtual 100, 3) := by decide +kernel
theorem d_De_sizeOnStack_4 : decode b_De_sizeOnStack 4 = .ok (.iconst 2, 1) := by decide +kernel
theorem d_De_sizeOnStack_5 : decode b_De_sizeOnStack 5 = .ok (.if_icmp .ne 7, 3) := by decide +kernel
theorem d_De_sizeOnStack_12 : decode b_De_sizeOnStack 12 = .ok (.bipush 8, 2) := by decide +kernel
theorem d_De_sizeOnStack_14 : decode b_De_sizeOnStack 14 = .ok (.ireturn, 1) := by decide +kernel
theorem d_De_sizeOnStack_8 : decode b_De_sizeOnStack 8 = .ok (.iconst 2, 1) := by decide +kernel
theorem d_De_sizeOnStack_9 : decode b_De_sizeOnStack 9 = .ok (.goto 5, 3) := by decide +kernel
theorem d_Fl_execute_89 : decode b_Fl_execute 89 = .ok (.invokevirtual 47, 3) := by decide +kernel
theorem d_Fl_push_0 : decode b_Fl_push 0 = .ok (.aload_n 0, 1) := by decide +kernel
theorem d_Fl_push_1 : decode b_Fl_push 1 = .ok (.getfield 9, 3) := by decide +kernel
theorem d_Fl_push_4 : decode b_Fl_push 4 = .ok (.getfield 101, 3) := by decide +kernel
theorem d_Fl_push_7 : decode b_Fl_push 7 = .ok (.iconst 4, 1) := by decide +kernel
theorem d_Fl_push_8 : decode b_Fl_push 8 = .ok (.laload, 1) := by decide +kernel
theorem d_Fl_push_9 : decode b_Fl_push 9 = .ok (.iload_n 3, 1) := by decide +kernel
theorem d_Fl_push_10 : decode b_Fl_push 10 = .ok (.i2l, 1) := by decide +kernel
theorem d_Fl_push_11 : decode b_Fl_push 11 = .ok (.lsub, 1) := by decide +kernel
theorem d_Fl_push_12 : decode b_Fl_push 12 = .ok (.lstore 4, 2) := by decide +kernel
theorem d_Fl_push_14 : decode b_Fl_push 14 = .ok (.aload_n 0, 1) := by decide +kernel
theorem d_Fl_push_15 : decode b_Fl_push 15 = .ok (.getfield 27, 3) := by decide +kernel
theorem d_Fl_push_18 : decode b_Fl_push 18 = .ok (.lload 4, 2) := by decide +kernel
theorem d_Fl_push_20 : decode b_Fl_push 20 = .ok (.iload_n 3, 1) := by decide +kernel
theorem d_Fl_push_21 : decode b_Fl_push 21 = .ok (.iconst 1, 1) := by decide +kernel
theorem d_Fl_push_22 : decode b_Fl_push 22 = .ok (.iconst 1, 1) := by decide +kernel
theorem d_Sp_find_0 : decode b_Sp_find 0 = .ok (.aload_n 0, 1) := by decide +kernel
theorem d_Sp_find_1 : decode b_Sp_find 1 = .ok (.iload_n 3, 1) := by decide +kernel
theorem d_Sp_find_2 : decode b_Sp_find 2 = .ok (.aload_n 0, 1) := by decide +kernel
theorem d_Sp_find_3 : decode b_Sp_find 3 = .ok (.getfield 9, 3) := by decide +kernel
theorem d_Sp_find_6 : decode b_Sp_find 6 = .ok (.arraylength, 1) := by decide +kernel
theorem d_Sp_find_7 : decode b_Sp_find 7 = .ok (.invokestatic 19, 3) := by decide +kernel
theorem d_Sp_find_10 : decode b_Sp_find 10 = .ok (.putfield 25, 3) := by decide +kernel
theorem d_Sp_find_13 : decode b_Sp_find 13 = .ok (.iconst 0, 1) := by decide +kernel
theorem d_Sp_find_14 : decode b_Sp_find 14 = .ok (.istore 6, 2) := by decide +kernel
theorem d_Sp_find_16 : decode b_Sp_find 16 = .ok (.iload 6, 2) := by decide +kernel
theorem d_Sp_find_18 : decode b_Sp_find 18 = .ok (.aload_n 0, 1) := by decide +kernel
theorem d_Sp_find_19 : decode b_Sp_find 19 = .ok (.getfield 25, 3) := by decide +kernel
theorem d_Sp_find_22 : decode b_Sp_find 22 = .ok (.if_icmp .ge 112, 3) := by decide +kernel
theorem d_Sp_find_134 : decode b_Sp_find 134 = .ok (.iconst (-1), 1) := by decide +kernel
theorem d_Sp_find_135 : decode b_Sp_find 135 = .ok (.ireturn, 1) := by decide +kernel
theorem d_Sp_find_25 : decode b_Sp_find 25 = .ok (.lload_n 1, 1) := by decide +kernel
theorem d_Sp_find_26 : decode b_Sp_find 26 = .ok (.iload 6, 2) := by decide +kernel
theorem d_Sp_find_28 : decode b_Sp_find 28 = .ok (.i2l, 1) := by decide +kernel
theorem d_Sp_find_29 : decode b_Sp_find 29 = .ok (.ladd, 1) := by decide +kernel
theorem d_Sp_find_30 : decode b_Sp_find 30 = .ok (.lstore 7, 2) := by decide +kernel
theorem d_Sp_find_32 : decode b_Sp_find 32 = .ok (.iload 6, 2) := by decide +kernel
theorem d_Sp_find_34 : decode b_Sp_find 34 = .ok (.ifCond .le 35, 3) := by decide +kernel
theorem d_Sp_find_69 : decode b_Sp_find 69 = .ok (.aload_n 0, 1) := by decide +kernel
theorem d_Sp_find_70 : decode b_Sp_find 70 = .ok (.getfield 9, 3) := by decide +kernel
theorem d_Sp_find_73 : decode b_Sp_find 73 = .ok (.iload 6, 2) := by decide +kernel
theorem d_Sp_find_75 : decode b_Sp_find 75 = .ok (.aload_n 0, 1) := by decide +kernel
theorem d_Sp_find_76 : decode b_Sp_find 76 = .ok (.getfield 15, 3) := by decide +kernel
theorem d_Sp_find_79 : decode b_Sp_find 79 = .ok (.lload 7, 2) := by decide +kernel
theorem d_Sp_find_81 : decode b_Sp_find 81 = .ok (.iload 4, 2) := by decide +kernel
theorem d_Sp_find_83 : decode b_Sp_find 83 = .ok (.invokevirtual 33, 3) := by decide +kernel
theorem d_Sp_find_86 : decode b_Sp_find 86 = .ok (.lastore, 1) := by decide +kernel
theorem d_Sp_find_87 : decode b_Sp_find 87 = .ok (.aload_n 0, 1) := by decide +kernel
theorem d_Sp_find_88 : decode b_Sp_find 88 = .ok (.getfield 9, 3) := by decide +kernel
theorem d_Sp_find_91 : decode b_Sp_find 91 = .ok (.iload 6, 2) := by decide +kernel
theorem d_Sp_find_93 : decode b_Sp_find 93 = .ok (.laload, 1) := by decide +kernel
theorem d_Sp_find_94 : decode b_Sp_find 94 = .ok (.lconst 0, 1) := by decide +kernel
theorem d_Sp_find_95 : decode b_Sp_find 95 = .ok (.lcmp, 1) := by decide +kernel
theorem d_Sp_find_96 : decode b_Sp_find 96 = .ok (.ifCond .ge 32, 3) := by decide +kernel
theorem d_Sp_find_128 : decode b_Sp_find 128 = .ok (.iinc 6 1, 3) := by decide +kernel
theorem d_Sp_find_131 : decode b_Sp_find 131 = .ok (.goto (-115), 3) := by decide +kernel
theorem d_Sp_find_99 : decode b_Sp_find 99 = .ok (.aload_n 0, 1) := by decide +kernel
theorem d_Sp_find_100 : decode b_Sp_find 100 = .ok (.getfield 15, 3) := by decide +kernel
theorem d_Sp_find_103 : decode b_Sp_find 103 = .ok (.lload 7, 2) := by decide +kernel
theorem d_Sp_find_105 : decode b_Sp_find 105 = .ok (.aload_n 0, 1) := by decide +kernel
theorem d_Sp_find_106 : decode b_Sp_find 106 = .ok (.getfield 9, 3) := by decide +kernel
theorem d_Sp_find_109 : decode b_Sp_find 109 = .ok (.iload 6, 2) := by decide +kernel
theorem d_Sp_find_111 : decode b_Sp_find 111 = .ok (.laload, 1) := by decide +kernel
theorem d_Sp_find_112 : decode b_Sp_find 112 = .ok (.iload 5, 2) := by decide +kernel
theorem d_Sp_find_114 : decode b_Sp_find 114 = .ok (.ifCond .eq 8, 3) := by decide +kernel
theorem d_Sp_find_122 : decode b_Sp_find 122 = .ok (.bipush 13, 2) := by decide +kernel
theorem d_Sp_find_124 : decode b_Sp_find 124 = .ok (.invokevirtual 37, 3) := by decide +kernel
theorem d_Sp_find_127 : decode b_Sp_find 127 = .ok (.ireturn, 1) := by decide +kernel
theorem d_Sp_find_117 : decode b_Sp_find 117 = .ok (.bipush 12, 2) := by decide +kernel
theorem d_Sp_find_119 : decode b_Sp_find 119 = .ok (.goto 5, 3) := by decide +kernel
theorem d_Sp_find_37 : decode b_Sp_find 37 = .ok (.lload 7, 2) := by decide +kernel
theorem d_Sp_find_39 : decode b_Sp_find 39 = .ok (.ldc2_w 31, 3) := by decide +kernel
theorem d_Sp_find_42 : decode b_Sp_find 42 = .ok (.land, 1) := by decide +kernel
theorem d_Sp_find_43 : decode b_Sp_find 43 = .ok (.lconst 0, 1) := by decide +kernel
theorem d_Sp_find_44 : decode b_Sp_find 44 = .ok (.lcmp, 1) := by decide +kernel
theorem d_Sp_find_45 : decode b_Sp_find 45 = .ok (.ifCond .eq 24, 3) := by decide +kernel
theorem d_Sp_find_48 : decode b_Sp_find 48 = .ok (.aload_n 0, 1) := by decide +kernel
theorem d_Sp_find_49 : decode b_Sp_find 49 = .ok (.getfield 9, 3) := by decide +kernel
theorem d_Sp_find_52 : decode b_Sp_find 52 = .ok (.iload 6, 2) := by decide +kernel
theorem d_Sp_find_54 : decode b_Sp_find 54 = .ok (.aload_n 0, 1) := by decide +kernel
theorem d_Sp_find_55 : decode b_Sp_find 55 = .ok (.getfield 9, 3) := by decide +kernel
theorem d_Sp_find_58 : decode b_Sp_find 58 = .ok (.iload 6, 2) := by decide +kernel
theorem d_Sp_find_60 : decode b_Sp_find 60 = .ok (.iconst 1, 1) := by decide +kernel
theorem d_Sp_find_61 : decode b_Sp_find 61 = .ok (.isub, 1) := by decide +kernel
theorem d_Sp_find_62 : decode b_Sp_find 62 = .ok (.laload, 1) := by decide +kernel
theorem d_Sp_find_63 : decode b_Sp_find 63 = .ok (.lconst 1, 1) := by decide +kernel
theorem d_Sp_find_64 : decode b_Sp_find 64 = .ok (.ladd, 1) := by decide +kernel
theorem d_Sp_find_65 : decode b_Sp_find 65 = .ok (.lastore, 1) := by decide +kernel
theorem d_Sp_find_66 : decode b_Sp_find 66 = .ok (.goto 62, 3) := by decide +kernel
theorem d_Fl_push_23 : decode b_Fl_push 23 = .ok (.invokevirtual 127, 3) := by decide +kernel
theorem d_Fl_push_26 : decode b_Fl_push 26 = .ok (.istore 6, 2) := by decide +kernel
theorem d_Fl_push_28 : decode b_Fl_push 28 = .ok (.iload 6, 2) := by decide +kernel
theorem d_Fl_push_30 : decode b_Fl_push 30 = .ok (.iconst (-1), 1) := by decide +kernel
theorem d_Fl_push_31 : decode b_Fl_push 31 = .ok (.if_icmp .ne 22, 3) := by decide +kernel
theorem d_Fl_push_53 : decode b_Fl_push 53 = .ok (.iload 6, 2) := by decide +kernel
theorem d_Fl_push_55 : decode b_Fl_push 55 = .ok (.ireturn, 1) := by decide +kernel
theorem d_Fl_push_34 : decode b_Fl_push 34 = .ok (.aload_n 0, 1) := by decide +kernel
theorem d_Fl_push_35 : decode b_Fl_push 35 = .ok (.getfield 27, 3) := by decide +kernel
theorem d_Fl_push_38 : decode b_Fl_push 38 = .ok (.lload_n 1, 1) := by decide +kernel
theorem d_Sp_put_0 : decode b_Sp_put 0 = .ok (.iconst 0, 1) := by decide +kernel
theorem d_Sp_put_1 : decode b_Sp_put 1 = .ok (.istore_n 3, 1) := by decide +kernel
theorem d_Sp_put_2 : decode b_Sp_put 2 = .ok (.iload_n 3, 1) := by decide +kernel
theorem d_Sp_put_3 : decode b_Sp_put 3 = .ok (.aload_n 0, 1) := by decide +kernel
theorem d_Sp_put_4 : decode b_Sp_put 4 = .ok (.getfield 25, 3) := by decide +kernel
theorem d_Sp_put_7 : decode b_Sp_put 7 = .ok (.if_icmp .ge 28, 3) := by decide +kernel
theorem d_Sp_put_35 : decode b_Sp_put 35 = .ok (.return_, 1) := by decide +kernel
theorem d_Sp_put_10 : decode b_Sp_put 10 = .ok (.aload_n 0, 1) := by decide +kernel
theorem d_Sp_put_11 : decode b_Sp_put 11 = .ok (.getfield 15, 3) := by decide +kernel
theorem d_Sp_put_14 : decode b_Sp_put 14 = .ok (.aload_n 0, 1) := by decide +kernel
theorem d_Sp_put_15 : decode b_Sp_put 15 = .ok (.getfield 9, 3) := by decide +kernel
theorem d_Sp_put_18 : decode b_Sp_put 18 = .ok (.iload_n 3, 1) := by decide +kernel
theorem d_Sp_put_19 : decode b_Sp_put 19 = .ok (.laload, 1) := by decide +kernel
theorem d_Sp_put_20 : decode b_Sp_put 20 = .ok (.lload_n 1, 1) := by decide +kernel
theorem d_Sp_put_21 : decode b_Sp_put 21 = .ok (.bipush 8, 2) := by decide +kernel
theorem d_Sp_put_23 : decode b_Sp_put 23 = .ok (.iload_n 3, 1) := by decide +kernel
theorem d_Sp_put_24 : decode b_Sp_put 24 = .ok (.imul, 1) := by decide +kernel
theorem d_Sp_put_25 : decode b_Sp_put 25 = .ok (.lushr, 1) := by decide +kernel
theorem d_Sp_put_26 : decode b_Sp_put 26 = .ok (.invokevirtual 45, 3) := by decide +kernel
theorem d_Sp_put_29 : decode b_Sp_put 29 = .ok (.iinc 3 1, 3) := by decide +kernel
theorem d_Sp_put_32 : decode b_Sp_put 32 = .ok (.goto (-30), 3) := by decide +kernel
theorem d_Fl_push_39 : decode b_Fl_push 39 = .ok (.invokevirtual 133, 3) := by decide +kernel
theorem d_Fl_push_42 : decode b_Fl_push 42 = .ok (.aload_n 0, 1) := by decide +kernel
theorem d_Fl_push_43 : decode b_Fl_push 43 = .ok (.getfield 9, 3) := by decide +kernel
theorem d_Fl_push_46 : decode b_Fl_push 46 = .ok (.getfield 101, 3) := by decide +kernel
theorem d_Fl_push_49 : decode b_Fl_push 49 = .ok (.iconst 4, 1) := by decide +kernel
theorem d_Fl_push_50 : decode b_Fl_push 50 = .ok (.lload 4, 2) := by decide +kernel
theorem d_Fl_push_52 : decode b_Fl_push 52 = .ok (.lastore, 1) := by decide +kernel
theorem d_Fl_execute_92 : decode b_Fl_execute 92 = .ok (.invokevirtual 50, 3) := by decide +kernel
theorem d_Fl_execute_95 : decode b_Fl_execute 95 = .ok (.ireturn, 1) := by decide +kernel
theorem d_Fl_execute_96 : decode b_Fl_execute 96 = .ok (.aload_n 0, 1) := by decide +kernel
theorem d_Fl_execute_97 : decode b_Fl_execute 97 = .ok (.aload_n 0, 1) := by decide +kernel
theorem d_Fl_execute_98 : decode b_Fl_execute 98 = .ok (.getfield 15, 3) := by decide +kernel
theorem d_Fl_execute_101 : decode b_Fl_execute 101 = .ok (.invokevirtual 37, 3) := by decide +kernel
theorem d_Fl_popRegister_0 : decode b_Fl_popRegister 0 = .ok (.aload_n 0, 1) := by decide +kernel
theorem d_Fl_popRegister_1 : decode b_Fl_popRegister 1 = .ok (.getfield 15, 3) := by decide +kernel
theorem d_Fl_popRegister_4 : decode b_Fl_popRegister 4 = .ok (.invokevirtual 47, 3) := by decide +kernel
theorem d_Fl_popRegister_7 : decode b_Fl_popRegister 7 = .ok (.istore_n 2, 1) := by decide +kernel
theorem d_Fl_popRegister_8 : decode b_Fl_popRegister 8 = .ok (.aload_n 0, 1) := by decide +kernel
theorem d_Fl_popRegister_9 : decode b_Fl_popRegister 9 = .ok (.iload_n 2, 1) := by decide +kernel
theorem d_Fl_findTop_0 : decode b_Fl_findTop 0 = .ok (.aload_n 0, 1) := by decide +kernel
theorem d_Fl_findTop_1 : decode b_Fl_findTop 1 = .ok (.getfield 27, 3) := by decide +kernel
theorem d_Fl_findTop_4 : decode b_Fl_findTop 4 = .ok (.aload_n 0, 1) := by decide +kernel
theorem d_Fl_findTop_5 : decode b_Fl_findTop 5 = .ok (.getfield 9, 3) := by decide +kernel
theorem d_Fl_findTop_8 : decode b_Fl_findTop 8 = .ok (.getfield 101, 3) := by decide +kernel
theorem d_Fl_findTop_11 : decode b_Fl_findTop 11 = .ok (.iconst 4, 1) := by decide +kernel
theorem d_Fl_findTop_12 : decode b_Fl_findTop 12 = .ok (.laload, 1) := by decide +kernel
theorem d_Fl_findTop_13 : decode b_Fl_findTop 13 = .ok (.iload_n 1, 1) := by decide +kernel
theorem d_Fl_findTop_14 : decode b_Fl_findTop 14 = .ok (.iconst 0, 1) := by decide +kernel
theorem d_Fl_findTop_15 : decode b_Fl_findTop 15 = .ok (.iconst 1, 1) := by decide +kernel
theorem d_Fl_findTop_16 : decode b_Fl_findTop 16 = .ok (.invokevirtual 127, 3) := by decide +kernel
theorem d_Fl_findTop_19 : decode b_Fl_findTop 19 = .ok (.ireturn, 1) := by decide +kernel
theorem d_Fl_popRegister_10 : decode b_Fl_popRegister 10 = .ok (.invokevirtual 137, 3) := by decide +kernel
theorem d_Fl_popRegister_13 : decode b_Fl_popRegister 13 = .ok (.istore_n 3, 1) := by decide +kernel
theorem d_Fl_popRegister_14 : decode b_Fl_popRegister 14 = .ok (.iload_n 3, 1) := by decide +kernel
theorem d_Fl_popRegister_15 : decode b_Fl_popRegister 15 = .ok (.iconst (-1), 1) := by decide +kernel
theorem d_Fl_popRegister_16 : decode b_Fl_popRegister 16 = .ok (.if_icmp .ne 33, 3) := by decide +kernel
theorem d_Fl_popRegister_49 : decode b_Fl_popRegister 49 = .ok (.iload_n 3, 1) := by decide +kernel
theorem d_Fl_popRegister_50 : decode b_Fl_popRegister 50 = .ok (.ireturn, 1) := by decide +kernel
theorem d_Fl_popRegister_19 : decode b_Fl_popRegister 19 = .ok (.aload_n 0, 1) := by decide +kernel
theorem d_Fl_popRegister_20 : decode b_Fl_popRegister 20 = .ok (.getfield 9, 3) := by decide +kernel
theorem d_Fl_popRegister_23 : decode b_Fl_popRegister 23 = .ok (.getfield 101, 3) := by decide +kernel
theorem d_Fl_popRegister_26 : decode b_Fl_popRegister 26 = .ok (.iconst 4, 1) := by decide +kernel
theorem d_Fl_popRegister_27 : decode b_Fl_popRegister 27 = .ok (.dup2, 1) := by decide +kernel
theorem d_Fl_popRegister_28 : decode b_Fl_popRegister 28 = .ok (.laload, 1) := by decide +kernel
theorem d_Fl_popRegister_29 : decode b_Fl_popRegister 29 = .ok (.iload_n 2, 1) := by decide +kernel
theorem d_Fl_popRegister_30 : decode b_Fl_popRegister 30 = .ok (.i2l, 1) := by decide +kernel
theorem d_Fl_popRegister_31 : decode b_Fl_popRegister 31 = .ok (.ladd, 1) := by decide +kernel
theorem d_Fl_popRegister_32 : decode b_Fl_popRegister 32 = .ok (.lastore, 1) := by decide +kernel
theorem d_Fl_popRegister_33 : decode b_Fl_popRegister 33 = .ok (.aload_n 0, 1) := by decide +kernel
theorem d_Fl_popRegister_34 : decode b_Fl_popRegister 34 = .ok (.getfield 19, 3) := by decide +kernel
theorem d_Fl_popRegister_37 : decode b_Fl_popRegister 37 = .ok (.iload_n 1, 1) := by decide +kernel
theorem d_Fl_popRegister_38 : decode b_Fl_popRegister 38 = .ok (.aload_n 0, 1) := by decide +kernel
theorem d_Fl_popRegister_39 : decode b_Fl_popRegister 39 = .ok (.getfield 27, 3) := by decide +kernel
theorem d_Sp_value_0 : decode b_Sp_value 0 = .ok (.lconst 0, 1) := by decide +kernel
theorem d_Sp_value_1 : decode b_Sp_value 1 = .ok (.lstore_n 1, 1) := by decide +kernel
theorem d_Sp_value_2 : decode b_Sp_value 2 = .ok (.iconst 0, 1) := by decide +kernel
theorem d_Sp_value_3 : decode b_Sp_value 3 = .ok (.istore_n 3, 1) := by decide +kernel
theorem d_Sp_value_4 : decode b_Sp_value 4 = .ok (.iload_n 3, 1) := by decide +kernel
theorem d_Sp_value_5 : decode b_Sp_value 5 = .ok (.aload_n 0, 1) := by decide +kernel
theorem d_Sp_value_6 : decode b_Sp_value 6 = .ok (.getfield 25, 3) := by decide +kernel
theorem d_Sp_value_9 : decode b_Sp_value 9 = .ok (.if_icmp .ge 31, 3) := by decide +kernel
theorem d_Sp_value_40 : decode b_Sp_value 40 = .ok (.lload_n 1, 1) := by decide +kernel
theorem d_Sp_value_41 : decode b_Sp_value 41 = .ok (.lreturn, 1) := by decide +kernel
theorem d_Sp_value_12 : decode b_Sp_value 12 = .ok (.lload_n 1, 1) := by decide +kernel
theorem d_Sp_value_13 : decode b_Sp_value 13 = .ok (.aload_n 0, 1) := by decide +kernel
theorem d_Sp_value_14 : decode b_Sp_value 14 = .ok (.getfield 15, 3) := by decide +kernel
theorem d_Sp_value_17 : decode b_Sp_value 17 = .ok (.aload_n 0, 1) := by decide +kernel
theorem d_Sp_value_18 : decode b_Sp_value 18 = .ok (.getfield 9, 3) := by decide +kernel
theorem d_Sp_value_21 : decode b_Sp_value 21 = .ok (.iload_n 3, 1) := by decide +kernel
theorem d_Sp_value_22 : decode b_Sp_value 22 = .ok (.laload, 1) := by decide +kernel
theorem d_Sp_value_23 : decode b_Sp_value 23 = .ok (.invokevirtual 41, 3) := by decide +kernel
theorem d_Sp_value_26 : decode b_Sp_value 26 = .ok (.i2l, 1) := by decide +kernel
theorem d_Sp_value_27 : decode b_Sp_value 27 = .ok (.bipush 8, 2) := by decide +kernel
theorem d_Sp_value_29 : decode b_Sp_value 29 = .ok (.iload_n 3, 1) := by decide +kernel
theorem d_Sp_value_30 : decode b_Sp_value 30 = .ok (.imul, 1) := by decide +kernel
theorem d_Sp_value_31 : decode b_Sp_value 31 = .ok (.lshl, 1) := by decide +kernel
theorem d_Sp_value_32 : decode b_Sp_value 32 = .ok (.lor, 1) := by decide +kernel
theorem d_Sp_value_33 : decode b_Sp_value 33 = .ok (.lstore_n 1, 1) := by decide +kernel
theorem d_Sp_value_34 : decode b_Sp_value 34 = .ok (.iinc 3 1, 3) := by decide +kernel
theorem d_Sp_value_37 : decode b_Sp_value 37 = .ok (.goto (-33), 3) := by decide +kernel
theorem d_Fl_popRegister_42 : decode b_Fl_popRegister 42 = .ok (.invokevirtual 140, 3) := by decide +kernel
theorem d_Fl_popRegister_45 : decode b_Fl_popRegister 45 = .ok (.iload_n 2, 1) := by decide +kernel
theorem d_Op_putPart_0 : decode b_Op_putPart 0 = .ok (.aload_n 0, 1) := by decide +kernel
theorem d_Op_putPart_1 : decode b_Op_putPart 1 = .ok (.iload_n 1, 1) := by decide +kernel
theorem d_Op_putPart_2 : decode b_Op_putPart 2 = .ok (.iload 4, 2) := by decide +kernel
theorem d_Op_putPart_4 : decode b_Op_putPart 4 = .ok (.invokevirtual 119, 3) := by decide +kernel
theorem d_Op_putPart_7 : decode b_Op_putPart 7 = .ok (.ifCond .eq 43, 3) := by decide +kernel
theorem d_Op_putPart_50 : decode b_Op_putPart 50 = .ok (.iload 4, 2) := by decide +kernel
theorem d_Op_putPart_52 : decode b_Op_putPart 52 = .ok (.invokestatic 131, 3) := by decide +kernel
theorem d_Op_putPart_55 : decode b_Op_putPart 55 = .ok (.lstore 5, 2) := by decide +kernel
theorem d_Op_putPart_57 : decode b_Op_putPart 57 = .ok (.iload 4, 2) := by decide +kernel
theorem d_Op_putPart_59 : decode b_Op_putPart 59 = .ok (.iconst 4, 1) := by decide +kernel
theorem d_Op_putPart_60 : decode b_Op_putPart 60 = .ok (.if_icmp .ge 25, 3) := by decide +kernel
theorem d_Op_putPart_85 : decode b_Op_putPart 85 = .ok (.lconst 0, 1) := by decide +kernel
theorem d_Op_putPart_86 : decode b_Op_putPart 86 = .ok (.lstore 7, 2) := by decide +kernel
theorem d_Op_putPart_88 : decode b_Op_putPart 88 = .ok (.aload_n 0, 1) := by decide +kernel
theorem d_Op_putPart_89 : decode b_Op_putPart 89 = .ok (.getfield 9, 3) := by decide +kernel
theorem d_Op_putPart_92 : decode b_Op_putPart 92 = .ok (.getfield 123, 3) := by decide +kernel
theorem d_Op_putPart_95 : decode b_Op_putPart 95 = .ok (.iload_n 1, 1) := by decide +kernel
theorem d_Op_putPart_96 : decode b_Op_putPart 96 = .ok (.bipush 15, 2) := by decide +kernel
theorem d_Op_putPart_98 : decode b_Op_putPart 98 = .ok (.iand, 1) := by decide +kernel
theorem d_Op_putPart_99 : decode b_Op_putPart 99 = .ok (.lload 7, 2) := by decide +kernel
theorem d_Op_putPart_101 : decode b_Op_putPart 101 = .ok (.lload_n 2, 1) := by decide +kernel
theorem d_Op_putPart_102 : decode b_Op_putPart 102 = .ok (.lload 5, 2) := by decide +kernel
theorem d_Op_putPart_104 : decode b_Op_putPart 104 = .ok (.land, 1) := by decide +kernel
theorem d_Op_putPart_105 : decode b_Op_putPart 105 = .ok (.lor, 1) := by decide +kernel
theorem d_Op_putPart_106 : decode b_Op_putPart 106 = .ok (.lastore, 1) := by decide +kernel
theorem d_Op_putPart_107 : decode b_Op_putPart 107 = .ok (.return_, 1) := by decide +kernel
theorem d_Op_putPart_63 : decode b_Op_putPart 63 = .ok (.aload_n 0, 1) := by decide +kernel
theorem d_Op_putPart_64 : decode b_Op_putPart 64 = .ok (.getfield 9, 3) := by decide +kernel
theorem d_Op_putPart_67 : decode b_Op_putPart 67 = .ok (.getfield 123, 3) := by decide +kernel
theorem d_Op_putPart_70 : decode b_Op_putPart 70 = .ok (.iload_n 1, 1) := by decide +kernel
theorem d_Op_putPart_71 : decode b_Op_putPart 71 = .ok (.bipush 15, 2) := by decide +kernel
theorem d_Op_putPart_73 : decode b_Op_putPart 73 = .ok (.iand, 1) := by decide +kernel
theorem d_Op_putPart_74 : decode b_Op_putPart 74 = .ok (.laload, 1) := by decide +kernel
theorem d_Op_putPart_75 : decode b_Op_putPart 75 = .ok (.lload 5, 2) := by decide +kernel
theorem d_Op_putPart_77 : decode b_Op_putPart 77 = .ok (.ldc2_w 136, 3) := by decide +kernel
theorem d_Op_putPart_80 : decode b_Op_putPart 80 = .ok (.lxor, 1) := by decide +kernel
theorem d_Op_putPart_81 : decode b_Op_putPart 81 = .ok (.land, 1) := by decide +kernel
theorem d_Op_putPart_82 : decode b_Op_putPart 82 = .ok (.goto 4, 3) := by decide +kernel
theorem d_Op_putPart_10 : decode b_Op_putPart 10 = .ok (.aload_n 0, 1) := by decide +kernel
theorem d_Op_putPart_11 : decode b_Op_putPart 11 = .ok (.getfield 9, 3) := by decide +kernel
theorem d_Op_putPart_14 : decode b_Op_putPart 14 = .ok (.getfield 123, 3) := by decide +kernel
theorem d_Op_putPart_17 : decode b_Op_putPart 17 = .ok (.iload_n 1, 1) := by decide +kernel
theorem d_Op_putPart_18 : decode b_Op_putPart 18 = .ok (.iconst 3, 1) := by decide +kernel
theorem d_Op_putPart_19 : decode b_Op_putPart 19 = .ok (.iand, 1) := by decide +kernel
theorem d_Op_putPart_20 : decode b_Op_putPart 20 = .ok (.laload, 1) := by decide +kernel
theorem d_Op_putPart_21 : decode b_Op_putPart 21 = .ok (.ldc2_w 134, 3) := by decide +kernel
theorem d_Op_putPart_24 : decode b_Op_putPart 24 = .ok (.land, 1) := by decide +kernel
theorem d_Op_putPart_25 : decode b_Op_putPart 25 = .ok (.lstore 5, 2) := by decide +kernel
theorem d_Op_putPart_27 : decode b_Op_putPart 27 = .ok (.aload_n 0, 1) := by decide +kernel
theorem d_Op_putPart_28 : decode b_Op_putPart 28 = .ok (.getfield 9, 3) := by decide +kernel
theorem d_Op_putPart_31 : decode b_Op_putPart 31 = .ok (.getfield 123, 3) := by decide +kernel
theorem d_Op_putPart_34 : decode b_Op_putPart 34 = .ok (.iload_n 1, 1) := by decide +kernel
theorem d_Op_putPart_35 : decode b_Op_putPart 35 = .ok (.iconst 3, 1) := by decide +kernel
theorem d_Op_putPart_36 : decode b_Op_putPart 36 = .ok (.iand, 1) := by decide +kernel
theorem d_Op_putPart_37 : decode b_Op_putPart 37 = .ok (.lload 5, 2) := by decide +kernel
theorem d_Op_putPart_39 : decode b_Op_putPart 39 = .ok (.lload_n 2, 1) := by decide +kernel
theorem d_Op_putPart_40 : decode b_Op_putPart 40 = .ok (.ldc2_w 129, 3) := by decide +kernel
theorem d_Op_putPart_43 : decode b_Op_putPart 43 = .ok (.land, 1) := by decide +kernel
theorem d_Op_putPart_44 : decode b_Op_putPart 44 = .ok (.bipush 8, 2) := by decide +kernel
theorem d_Op_putPart_46 : decode b_Op_putPart 46 = .ok (.lshl, 1) := by decide +kernel
theorem d_Op_putPart_47 : decode b_Op_putPart 47 = .ok (.lor, 1) := by decide +kernel
theorem d_Op_putPart_48 : decode b_Op_putPart 48 = .ok (.lastore, 1) := by decide +kernel
theorem d_Op_putPart_49 : decode b_Op_putPart 49 = .ok (.return_, 1) := by decide +kernel
theorem d_Fl_popRegister_46 : decode b_Fl_popRegister 46 = .ok (.invokevirtual 141, 3) := by decide +kernel
theorem d_Fl_execute_104 : decode b_Fl_execute 104 = .ok (.invokevirtual 54, 3) := by decide +kernel
theorem d_Fl_execute_107 : decode b_Fl_execute 107 = .ok (.ireturn, 1) := by decide +kernel
theorem d_Fl_execute_108 : decode b_Fl_execute 108 = .ok (.aload_n 0, 1) := by decide +kernel
theorem d_Fl_execute_109 : decode b_Fl_execute 109 = .ok (.getfield 23, 3) := by decide +kernel
theorem d_Fl_execute_112 : decode b_Fl_execute 112 = .ok (.aload_n 0, 1) := by decide +kernel
theorem d_Fl_execute_113 : decode b_Fl_execute 113 = .ok (.getfield 15, 3) := by decide +kernel
theorem d_Fl_execute_116 : decode b_Fl_execute 116 = .ok (.getfield 31, 3) := by decide +kernel
theorem d_Ar_holds_0 : decode b_Ar_holds 0 = .ok (.aload_n 0, 1) := by decide +kernel
theorem d_Ar_holds_1 : decode b_Ar_holds 1 = .ok (.getfield 9, 3) := by decide +kernel
theorem d_Ar_holds_4 : decode b_Ar_holds 4 = .ok (.getfield 17, 3) := by decide +kernel
theorem d_Ar_holds_7 : decode b_Ar_holds 7 = .ok (.istore_n 2, 1) := by decide +kernel
theorem d_Ar_holds_8 : decode b_Ar_holds 8 = .ok (.iload_n 2, 1) := by decide +kernel
theorem d_Ar_holds_9 : decode b_Ar_holds 9 = .ok (.sipush 128, 3) := by decide +kernel
theorem d_Ar_holds_12 : decode b_Ar_holds 12 = .ok (.iand, 1) := by decide +kernel
theorem d_Ar_holds_13 : decode b_Ar_holds 13 = .ok (.ifCond .eq 7, 3) := by decide +kernel
theorem d_Ar_holds_20 : decode b_Ar_holds 20 = .ok (.iconst 0, 1) := by decide +kernel
theorem d_Ar_holds_21 : decode b_Ar_holds 21 = .ok (.iload_n 2, 1) := by decide +kernel
theorem d_Ar_holds_22 : decode b_Ar_holds 22 = .ok (.sipush 2048, 3) := by decide +kernel
theorem d_Ar_holds_25 : decode b_Ar_holds 25 = .ok (.iand, 1) := by decide +kernel
theorem d_Ar_holds_26 : decode b_Ar_holds 26 = .ok (.ifCond .eq 7, 3) := by decide +kernel
theorem d_Ar_holds_33 : decode b_Ar_holds 33 = .ok (.iconst 0, 1) := by decide +kernel
theorem d_Ar_holds_34 : decode b_Ar_holds 34 = .ok (.if_icmp .eq 7, 3) := by decide +kernel
theorem d_Ar_holds_41 : decode b_Ar_holds 41 = .ok (.iconst 0, 1) := by decide +kernel
theorem d_Ar_holds_42 : decode b_Ar_holds 42 = .ok (.istore_n 3, 1) := by decide +kernel
theorem d_Ar_holds_43 : decode b_Ar_holds 43 = .ok (.iload_n 1, 1) := by decide +kernel
theorem d_Ar_holds_44 : decode b_Ar_holds 44 = .ok (.iconst 1, 1) := by decide +kernel
theorem d_Ar_holds_45 : decode b_Ar_holds 45 = .ok (.ishr, 1) := by decide +kernel
theorem d_Ar_holds_46 : decode b_Ar_holds 46 = .ok (.bipush 7, 2) := by decide +kernel
theorem d_Ar_holds_48 : decode b_Ar_holds 48 = .ok (.iand, 1) := by decide +kernel
theorem d_Ar_holds_49 : decode b_Ar_holds 49 = .ok (.tableswitch 151 0 6 #[43, 61, 77, 94, 111, 129, 145], 43) := by decide +kernel
theorem d_Ar_holds_92 : decode b_Ar_holds 92 = .ok (.iload_n 2, 1) := by decide +kernel
theorem d_Ar_holds_93 : decode b_Ar_holds 93 = .ok (.sipush 2048, 3) := by decide +kernel
theorem d_Ar_holds_96 : decode b_Ar_holds 96 = .ok (.iand, 1) := by decide +kernel
theorem d_Ar_holds_97 : decode b_Ar_holds 97 = .ok (.ifCond .eq 7, 3) := by decide +kernel
theorem d_Ar_holds_104 : decode b_Ar_holds 104 = .ok (.iconst 0, 1) := by decide +kernel
theorem d_Ar_holds_105 : decode b_Ar_holds 105 = .ok (.istore 4, 2) := by decide +kernel
theorem d_Ar_holds_107 : decode b_Ar_holds 107 = .ok (.goto 111, 3) := by decide +kernel
theorem d_Ar_holds_218 : decode b_Ar_holds 218 = .ok (.iload 4, 2) := by decide +kernel
theorem d_Ar_holds_220 : decode b_Ar_holds 220 = .ok (.iload_n 1, 1) := by decide +kernel
theorem d_Ar_holds_221 : decode b_Ar_holds 221 = .ok (.iconst 1, 1) := by decide +kernel
theorem d_Ar_holds_222 : decode b_Ar_holds 222 = .ok (.iand, 1) := by decide +kernel
theorem d_Ar_holds_223 : decode b_Ar_holds 223 = .ok (.ifCond .eq 7, 3) := by decide +kernel
theorem d_Ar_holds_230 : decode b_Ar_holds 230 = .ok (.iconst 0, 1) := by decide +kernel
theorem d_Ar_holds_231 : decode b_Ar_holds 231 = .ok (.if_icmp .eq 7, 3) := by decide +kernel
theorem d_Ar_holds_238 : decode b_Ar_holds 238 = .ok (.iconst 0, 1) := by decide +kernel
theorem d_Ar_holds_239 : decode b_Ar_holds 239 = .ok (.ireturn, 1) := by decide +kernel
theorem d_Ar_holds_234 : decode b_Ar_holds 234 = .ok (.iconst 1, 1) := by decide +kernel
theorem d_Ar_holds_235 : decode b_Ar_holds 235 = .ok (.goto 4, 3) := by decide +kernel
theorem d_Ar_holds_226 : decode b_Ar_holds 226 = .ok (.iconst 1, 1) := by decide +kernel
theorem d_Ar_holds_227 : decode b_Ar_holds 227 = .ok (.goto 4, 3) := by decide +kernel
theorem d_Ar_holds_100 : decode b_Ar_holds 100 = .ok (.iconst 1, 1) := by decide +kernel
theorem d_Ar_holds_101 : decode b_Ar_holds 101 = .ok (.goto 4, 3) := by decide +kernel
theorem d_Ar_holds_110 : decode b_Ar_holds 110 = .ok (.iload_n 2, 1) := by decide +kernel
theorem d_Ar_holds_111 : decode b_Ar_holds 111 = .ok (.iconst 1, 1) := by decide +kernel
theorem d_Ar_holds_112 : decode b_Ar_holds 112 = .ok (.iand, 1) := by decide +kernel
theorem d_Ar_holds_113 : decode b_Ar_holds 113 = .ok (.ifCond .eq 7, 3) := by decide +kernel
theorem d_Ar_holds_120 : decode b_Ar_holds 120 = .ok (.iconst 0, 1) := by decide +kernel
theorem d_Ar_holds_121 : decode b_Ar_holds 121 = .ok (.istore 4, 2) := by decide +kernel
theorem d_Ar_holds_123 : decode b_Ar_holds 123 = .ok (.goto 95, 3) := by decide +kernel
theorem d_Ar_holds_116 : decode b_Ar_holds 116 = .ok (.iconst 1, 1) := by decide +kernel
theorem d_Ar_holds_117 : decode b_Ar_holds 117 = .ok (.goto 4, 3) := by decide +kernel
theorem d_Ar_holds_126 : decode b_Ar_holds 126 = .ok (.iload_n 2, 1) := by decide +kernel
theorem d_Ar_holds_127 : decode b_Ar_holds 127 = .ok (.bipush 64, 2) := by decide +kernel
theorem d_Ar_holds_129 : decode b_Ar_holds 129 = .ok (.iand, 1) := by decide +kernel
theorem d_Ar_holds_130 : decode b_Ar_holds 130 = .ok (.ifCond .eq 7, 3) := by decide +kernel
theorem d_Ar_holds_137 : decode b_Ar_holds 137 = .ok (.iconst 0, 1) := by decide +kernel
theorem d_Ar_holds_138 : decode b_Ar_holds 138 = .ok (.istore 4, 2) := by decide +kernel
theorem d_Ar_holds_140 : decode b_Ar_holds 140 = .ok (.goto 78, 3) := by decide +kernel
theorem d_Ar_holds_133 : decode b_Ar_holds 133 = .ok (.iconst 1, 1) := by decide +kernel
theorem d_Ar_holds_134 : decode b_Ar_holds 134 = .ok (.goto 4, 3) := by decide +kernel
theorem d_Ar_holds_143 : decode b_Ar_holds 143 = .ok (.iload_n 2, 1) := by decide +kernel
theorem d_Ar_holds_144 : decode b_Ar_holds 144 = .ok (.bipush 65, 2) := by decide +kernel
theorem d_Ar_holds_146 : decode b_Ar_holds 146 = .ok (.iand, 1) := by decide +kernel
theorem d_Ar_holds_147 : decode b_Ar_holds 147 = .ok (.ifCond .eq 7, 3) := by decide +kernel
theorem d_Ar_holds_154 : decode b_Ar_holds 154 = .ok (.iconst 0, 1) := by decide +kernel
theorem d_Ar_holds_155 : decode b_Ar_holds 155 = .ok (.istore 4, 2) := by decide +kernel
theorem d_Ar_holds_157 : decode b_Ar_holds 157 = .ok (.goto 61, 3) := by decide +kernel
theorem d_Ar_holds_150 : decode b_Ar_holds 150 = .ok (.iconst 1, 1) := by decide +kernel
theorem d_Ar_holds_151 : decode b_Ar_holds 151 = .ok (.goto 4, 3) := by decide +kernel
theorem d_Ar_holds_160 : decode b_Ar_holds 160 = .ok (.iload_n 2, 1) := by decide +kernel
theorem d_Ar_holds_161 : decode b_Ar_holds 161 = .ok (.sipush 128, 3) := by decide +kernel
theorem d_Ar_holds_164 : decode b_Ar_holds 164 = .ok (.iand, 1) := by decide +kernel
theorem d_Ar_holds_165 : decode b_Ar_holds 165 = .ok (.ifCond .eq 7, 3) := by decide +kernel
theorem d_Ar_holds_172 : decode b_Ar_holds 172 = .ok (.iconst 0, 1) := by decide +kernel
theorem d_Ar_holds_173 : decode b_Ar_holds 173 = .ok (.istore 4, 2) := by decide +kernel
theorem d_Ar_holds_175 : decode b_Ar_holds 175 = .ok (.goto 43, 3) := by decide +kernel
theorem d_Ar_holds_168 : decode b_Ar_holds 168 = .ok (.iconst 1, 1) := by decide +kernel
theorem d_Ar_holds_169 : decode b_Ar_holds 169 = .ok (.goto 4, 3) := by decide +kernel
theorem d_Ar_holds_178 : decode b_Ar_holds 178 = .ok (.iload_n 2, 1) := by decide +kernel
theorem d_Ar_holds_179 : decode b_Ar_holds 179 = .ok (.iconst 4, 1) := by decide +kernel
theorem d_Ar_holds_180 : decode b_Ar_holds 180 = .ok (.iand, 1) := by decide +kernel
theorem d_Ar_holds_181 : decode b_Ar_holds 181 = .ok (.ifCond .eq 7, 3) := by decide +kernel
theorem d_Ar_holds_188 : decode b_Ar_holds 188 = .ok (.iconst 0, 1) := by decide +kernel
theorem d_Ar_holds_189 : decode b_Ar_holds 189 = .ok (.istore 4, 2) := by decide +kernel
theorem d_Ar_holds_191 : decode b_Ar_holds 191 = .ok (.goto 27, 3) := by decide +kernel
theorem d_Ar_holds_184 : decode b_Ar_holds 184 = .ok (.iconst 1, 1) := by decide +kernel
theorem d_Ar_holds_185 : decode b_Ar_holds 185 = .ok (.goto 4, 3) := by decide +kernel
theorem d_Ar_holds_194 : decode b_Ar_holds 194 = .ok (.iload_n 3, 1) := by decide +kernel
theorem d_Ar_holds_195 : decode b_Ar_holds 195 = .ok (.istore 4, 2) := by decide +kernel
theorem d_Ar_holds_197 : decode b_Ar_holds 197 = .ok (.goto 21, 3) := by decide +kernel
theorem d_Ar_holds_200 : decode b_Ar_holds 200 = .ok (.iload_n 3, 1) := by decide +kernel
theorem d_Ar_holds_201 : decode b_Ar_holds 201 = .ok (.ifCond .ne 10, 3) := by decide +kernel
theorem d_Ar_holds_211 : decode b_Ar_holds 211 = .ok (.iconst 1, 1) := by decide +kernel
theorem d_Ar_holds_212 : decode b_Ar_holds 212 = .ok (.goto 4, 3) := by decide +kernel
theorem d_Ar_holds_216 : decode b_Ar_holds 216 = .ok (.istore 4, 2) := by decide +kernel
theorem d_Ar_holds_204 : decode b_Ar_holds 204 = .ok (.iload_n 2, 1) := by decide +kernel
theorem d_Ar_holds_205 : decode b_Ar_holds 205 = .ok (.bipush 64, 2) := by decide +kernel
theorem d_Ar_holds_207 : decode b_Ar_holds 207 = .ok (.iand, 1) := by decide +kernel
theorem d_Ar_holds_208 : decode b_Ar_holds 208 = .ok (.ifCond .eq 7, 3) := by decide +kernel
theorem d_Ar_holds_215 : decode b_Ar_holds 215 = .ok (.iconst 0, 1) := by decide +kernel
theorem d_Ar_holds_37 : decode b_Ar_holds 37 = .ok (.iconst 1, 1) := by decide +kernel
theorem d_Ar_holds_38 : decode b_Ar_holds 38 = .ok (.goto 4, 3) := by decide +kernel
theorem d_Ar_holds_29 : decode b_Ar_holds 29 = .ok (.iconst 1, 1) := by decide +kernel
theorem d_Ar_holds_30 : decode b_Ar_holds 30 = .ok (.goto 4, 3) := by decide +kernel
theorem d_Ar_holds_16 : decode b_Ar_holds 16 = .ok (.iconst 1, 1) := by decide +kernel
theorem d_Ar_holds_17 : decode b_Ar_holds 17 = .ok (.goto 4, 3) := by decide +kernel
theorem d_Fl_execute_119 : decode b_Fl_execute 119 = .ok (.invokevirtual 58, 3) := by decide +kernel
theorem d_Fl_execute_122 : decode b_Fl_execute 122 = .ok (.ifCond .eq 25, 3) := by decide +kernel
theorem d_Fl_execute_147 : decode b_Fl_execute 147 = .ok (.iconst (-1), 1) := by decide +kernel
theorem d_Fl_execute_148 : decode b_Fl_execute 148 = .ok (.ireturn, 1) := by decide +kernel
theorem d_Fl_execute_125 : decode b_Fl_execute 125 = .ok (.aload_n 0, 1) := by decide +kernel
theorem d_Fl_execute_126 : decode b_Fl_execute 126 = .ok (.aload_n 0, 1) := by decide +kernel
theorem d_Fl_execute_127 : decode b_Fl_execute 127 = .ok (.getfield 15, 3) := by decide +kernel
theorem d_Fl_execute_130 : decode b_Fl_execute 130 = .ok (.getfield 64, 3) := by decide +kernel
theorem d_Fl_execute_133 : decode b_Fl_execute 133 = .ok (.aload_n 0, 1) := by decide +kernel
theorem d_Fl_execute_134 : decode b_Fl_execute 134 = .ok (.getfield 15, 3) := by decide +kernel
theorem d_Fl_execute_137 : decode b_Fl_execute 137 = .ok (.getfield 68, 3) := by decide +kernel
theorem d_Fl_execute_140 : decode b_Fl_execute 140 = .ok (.ladd, 1) := by decide +kernel
theorem d_Fl_jump_0 : decode b_Fl_jump 0 = .ok (.lload_n 1, 1) := by decide +kernel
theorem d_Fl_jump_1 : decode b_Fl_jump 1 = .ok (.invokestatic 121, 3) := by decide +kernel
theorem d_Fl_jump_4 : decode b_Fl_jump 4 = .ok (.ifCond .eq 6, 3) := by decide +kernel
theorem d_Fl_jump_10 : decode b_Fl_jump 10 = .ok (.aload_n 0, 1) := by decide +kernel
theorem d_Fl_jump_11 : decode b_Fl_jump 11 = .ok (.getfield 15, 3) := by decide +kernel
theorem d_Fl_jump_14 : decode b_Fl_jump 14 = .ok (.lload_n 1, 1) := by decide +kernel
theorem d_Fl_jump_15 : decode b_Fl_jump 15 = .ok (.putfield 64, 3) := by decide +kernel
theorem d_Fl_jump_18 : decode b_Fl_jump 18 = .ok (.iconst (-1), 1) := by decide +kernel
theorem d_Fl_jump_19 : decode b_Fl_jump 19 = .ok (.ireturn, 1) := by decide +kernel
theorem d_Fl_jump_7 : decode b_Fl_jump 7 = .ok (.bipush 13, 2) := by decide +kernel
theorem d_Fl_jump_9 : decode b_Fl_jump 9 = .ok (.ireturn, 1) := by decide +kernel
theorem d_Fl_execute_141 : decode b_Fl_execute 141 = .ok (.invokevirtual 71, 3) := by decide +kernel
theorem d_Fl_execute_144 : decode b_Fl_execute 144 = .ok (.goto 4, 3) := by decide +kernel
theorem d_Fl_execute_149 : decode b_Fl_execute 149 = .ok (.aload_n 0, 1) := by decide +kernel
theorem d_Fl_execute_150 : decode b_Fl_execute 150 = .ok (.getfield 15, 3) := by decide +kernel
theorem d_Fl_execute_153 : decode b_Fl_execute 153 = .ok (.getfield 31, 3) := by decide +kernel
theorem d_Fl_execute_156 : decode b_Fl_execute 156 = .ok (.lookupswitch 421 #[(104, 156), (106, 156), (143, 175), (156, 205), (157, 227), (194, 232), (195, 232), (201, 237), (224, 242), (225, 242), (226, 242), (227, 247), (232, 285), (233, 305), (235, 305), (255, 325), (261, 411), (263, 416)], 156) := by decide +kernel
theorem d_Fl_execute_312 : decode b_Fl_execute 312 = .ok (.aload_n 0, 1) := by decide +kernel
theorem d_Fl_execute_313 : decode b_Fl_execute 313 = .ok (.aload_n 0, 1) := by decide +kernel
theorem d_Fl_execute_314 : decode b_Fl_execute 314 = .ok (.getfield 15, 3) := by decide +kernel
theorem d_Fl_execute_317 : decode b_Fl_execute 317 = .ok (.getfield 68, 3) := by decide +kernel
theorem d_Fl_execute_320 : decode b_Fl_execute 320 = .ok (.aload_n 0, 1) := by decide +kernel
theorem d_Fl_execute_321 : decode b_Fl_execute 321 = .ok (.getfield 15, 3) := by decide +kernel
theorem d_Fl_execute_324 : decode b_Fl_execute 324 = .ok (.invokevirtual 47, 3) := by decide +kernel
theorem d_Fl_execute_327 : decode b_Fl_execute 327 = .ok (.invokevirtual 50, 3) := by decide +kernel
theorem d_Fl_execute_330 : decode b_Fl_execute 330 = .ok (.ireturn, 1) := by decide +kernel
theorem d_Fl_execute_331 : decode b_Fl_execute 331 = .ok (.aload_n 0, 1) := by decide +kernel
theorem d_Fl_execute_332 : decode b_Fl_execute 332 = .ok (.getfield 15, 3) := by decide +kernel
theorem d_Fl_execute_335 : decode b_Fl_execute 335 = .ok (.getfield 75, 3) := by decide +kernel
theorem d_Fl_execute_338 : decode b_Fl_execute 338 = .ok (.iconst 3, 1) := by decide +kernel
theorem d_Fl_execute_339 : decode b_Fl_execute 339 = .ok (.if_icmp .ne 17, 3) := by decide +kernel
theorem d_Fl_execute_356 : decode b_Fl_execute 356 = .ok (.aload_n 0, 1) := by decide +kernel
theorem d_Fl_popMemory_0 : decode b_Fl_popMemory 0 = .ok (.aload_n 0, 1) := by decide +kernel
theorem d_Fl_popMemory_1 : decode b_Fl_popMemory 1 = .ok (.getfield 15, 3) := by decide +kernel
theorem d_Fl_popMemory_4 : decode b_Fl_popMemory 4 = .ok (.invokevirtual 47, 3) := by decide +kernel
theorem d_Fl_popMemory_7 : decode b_Fl_popMemory 7 = .ok (.istore_n 1, 1) := by decide +kernel
theorem d_Fl_popMemory_8 : decode b_Fl_popMemory 8 = .ok (.aload_n 0, 1) := by decide +kernel
theorem d_Fl_popMemory_9 : decode b_Fl_popMemory 9 = .ok (.iload_n 1, 1) := by decide +kernel
theorem d_Fl_popMemory_10 : decode b_Fl_popMemory 10 = .ok (.invokevirtual 137, 3) := by decide +kernel
theorem d_Fl_popMemory_13 : decode b_Fl_popMemory 13 = .ok (.istore_n 2, 1) := by decide +kernel
theorem d_Fl_popMemory_14 : decode b_Fl_popMemory 14 = .ok (.iload_n 2, 1) := by decide +kernel
theorem d_Fl_popMemory_15 : decode b_Fl_popMemory 15 = .ok (.iconst (-1), 1) := by decide +kernel
theorem d_Fl_popMemory_16 : decode b_Fl_popMemory 16 = .ok (.if_icmp .ne 21, 3) := by decide +kernel
theorem d_Fl_popMemory_37 : decode b_Fl_popMemory 37 = .ok (.iload_n 2, 1) := by decide +kernel
theorem d_Fl_popMemory_38 : decode b_Fl_popMemory 38 = .ok (.iconst (-1), 1) := by decide +kernel
theorem d_Fl_popMemory_39 : decode b_Fl_popMemory 39 = .ok (.if_icmp .ne 31, 3) := by decide +kernel
theorem d_Fl_popMemory_70 : decode b_Fl_popMemory 70 = .ok (.iload_n 2, 1) := by decide +kernel
theorem d_Fl_popMemory_71 : decode b_Fl_popMemory 71 = .ok (.ireturn, 1) := by decide +kernel
theorem d_Fl_popMemory_42 : decode b_Fl_popMemory 42 = .ok (.aload_n 0, 1) := by decide +kernel
theorem d_Fl_popMemory_43 : decode b_Fl_popMemory 43 = .ok (.getfield 19, 3) := by decide +kernel
theorem d_Fl_popMemory_46 : decode b_Fl_popMemory 46 = .ok (.aload_n 0, 1) := by decide +kernel
theorem d_Fl_popMemory_47 : decode b_Fl_popMemory 47 = .ok (.getfield 27, 3) := by decide +kernel
theorem d_Fl_popMemory_50 : decode b_Fl_popMemory 50 = .ok (.invokevirtual 140, 3) := by decide +kernel
theorem d_Op_put_0 : decode b_Op_put 0 = .ok (.aload_n 0, 1) := by decide +kernel
theorem d_Op_put_1 : decode b_Op_put 1 = .ok (.getfield 15, 3) := by decide +kernel
theorem d_Op_put_4 : decode b_Op_put 4 = .ok (.getfield 31, 3) := by decide +kernel
theorem d_Op_put_7 : decode b_Op_put 7 = .ok (.iconst 3, 1) := by decide +kernel
theorem d_Op_put_8 : decode b_Op_put 8 = .ok (.if_icmp .ne 22, 3) := by decide +kernel
theorem d_Op_put_30 : decode b_Op_put 30 = .ok (.aload_n 0, 1) := by decide +kernel
theorem d_Op_put_31 : decode b_Op_put 31 = .ok (.getfield 19, 3) := by decide +kernel
theorem d_Op_put_34 : decode b_Op_put 34 = .ok (.lload_n 1, 1) := by decide +kernel
theorem d_Op_put_35 : decode b_Op_put 35 = .ok (.invokevirtual 112, 3) := by decide +kernel
theorem d_Op_put_38 : decode b_Op_put 38 = .ok (.return_, 1) := by decide +kernel
theorem d_Op_put_11 : decode b_Op_put 11 = .ok (.aload_n 0, 1) := by decide +kernel
theorem d_Op_put_12 : decode b_Op_put 12 = .ok (.aload_n 0, 1) := by decide +kernel
theorem d_Op_put_13 : decode b_Op_put 13 = .ok (.getfield 15, 3) := by decide +kernel
theorem d_De_registerE_0 : decode b_De_registerE 0 = .ok (.aload_n 0, 1) := by decide +kernel
theorem d_De_registerE_1 : decode b_De_registerE 1 = .ok (.getfield 106, 3) := by decide +kernel
theorem d_De_registerE_4 : decode b_De_registerE 4 = .ok (.aload_n 0, 1) := by decide +kernel
theorem d_De_registerE_5 : decode b_De_registerE 5 = .ok (.iconst 1, 1) := by decide +kernel
theorem d_De_registerE_6 : decode b_De_registerE 6 = .ok (.invokevirtual 113, 3) := by decide +kernel
theorem d_De_registerE_9 : decode b_De_registerE 9 = .ok (.ior, 1) := by decide +kernel
theorem d_De_registerE_10 : decode b_De_registerE 10 = .ok (.ireturn, 1) := by decide +kernel
theorem d_Op_put_16 : decode b_Op_put 16 = .ok (.invokevirtual 98, 3) := by decide +kernel
theorem d_Op_put_19 : decode b_Op_put 19 = .ok (.lload_n 1, 1) := by decide +kernel
theorem d_Op_put_20 : decode b_Op_put 20 = .ok (.aload_n 0, 1) := by decide +kernel
theorem d_Op_put_21 : decode b_Op_put 21 = .ok (.getfield 27, 3) := by decide +kernel
theorem d_Op_put_24 : decode b_Op_put 24 = .ok (.invokevirtual 108, 3) := by decide +kernel
theorem d_Op_put_27 : decode b_Op_put 27 = .ok (.goto 11, 3) := by decide +kernel
theorem d_Fl_popMemory_53 : decode b_Fl_popMemory 53 = .ok (.invokevirtual 153, 3) := by decide +kernel
theorem d_Fl_popMemory_56 : decode b_Fl_popMemory 56 = .ok (.aload_n 0, 1) := by decide +kernel
theorem d_Fl_popMemory_57 : decode b_Fl_popMemory 57 = .ok (.getfield 9, 3) := by decide +kernel
theorem d_Fl_popMemory_60 : decode b_Fl_popMemory 60 = .ok (.getfield 101, 3) := by decide +kernel
theorem d_Fl_popMemory_63 : decode b_Fl_popMemory 63 = .ok (.iconst 4, 1) := by decide +kernel
theorem d_Fl_popMemory_64 : decode b_Fl_popMemory 64 = .ok (.dup2, 1) := by decide +kernel
theorem d_Fl_popMemory_65 : decode b_Fl_popMemory 65 = .ok (.laload, 1) := by decide +kernel
theorem d_Fl_popMemory_66 : decode b_Fl_popMemory 66 = .ok (.iload_n 1, 1) := by decide +kernel
theorem d_Fl_popMemory_67 : decode b_Fl_popMemory 67 = .ok (.i2l, 1) := by decide +kernel
theorem d_Fl_popMemory_68 : decode b_Fl_popMemory 68 = .ok (.ladd, 1) := by decide +kernel
theorem d_Fl_popMemory_69 : decode b_Fl_popMemory 69 = .ok (.lastore, 1) := by decide +kernel
theorem d_Fl_popMemory_19 : decode b_Fl_popMemory 19 = .ok (.aload_n 0, 1) := by decide +kernel
theorem d_Fl_popMemory_20 : decode b_Fl_popMemory 20 = .ok (.getfield 19, 3) := by decide +kernel
theorem d_Fl_popMemory_23 : decode b_Fl_popMemory 23 = .ok (.aload_n 0, 1) := by decide +kernel
theorem d_Fl_popMemory_24 : decode b_Fl_popMemory 24 = .ok (.getfield 15, 3) := by decide +kernel
theorem d_Fl_popMemory_27 : decode b_Fl_popMemory 27 = .ok (.iload_n 1, 1) := by decide +kernel
theorem d_Fl_popMemory_28 : decode b_Fl_popMemory 28 = .ok (.i2l, 1) := by decide +kernel
theorem d_De_placeOfE_0 : decode b_De_placeOfE 0 = .ok (.aload_n 0, 1) := by decide +kernel
theorem d_De_placeOfE_1 : decode b_De_placeOfE 1 = .ok (.getfield 125, 3) := by decide +kernel
theorem d_De_placeOfE_4 : decode b_De_placeOfE 4 = .ok (.lstore_n 3, 1) := by decide +kernel
theorem d_De_placeOfE_5 : decode b_De_placeOfE 5 = .ok (.aload_n 0, 1) := by decide +kernel
theorem d_De_placeOfE_6 : decode b_De_placeOfE 6 = .ok (.getfield 116, 3) := by decide +kernel
theorem d_De_placeOfE_9 : decode b_De_placeOfE 9 = .ok (.bipush (-2), 2) := by decide +kernel
theorem d_De_placeOfE_11 : decode b_De_placeOfE 11 = .ok (.if_icmp .ne 13, 3) := by decide +kernel
theorem d_De_placeOfE_24 : decode b_De_placeOfE 24 = .ok (.aload_n 0, 1) := by decide +kernel
theorem d_De_placeOfE_25 : decode b_De_placeOfE 25 = .ok (.getfield 116, 3) := by decide +kernel
theorem d_De_placeOfE_28 : decode b_De_placeOfE 28 = .ok (.ifCond .lt 35, 3) := by decide +kernel
theorem d_De_placeOfE_63 : decode b_De_placeOfE 63 = .ok (.aload_n 0, 1) := by decide +kernel
theorem d_De_placeOfE_64 : decode b_De_placeOfE 64 = .ok (.getfield 119, 3) := by decide +kernel
theorem d_De_placeOfE_67 : decode b_De_placeOfE 67 = .ok (.ifCond .lt 26, 3) := by decide +kernel
theorem d_De_placeOfE_93 : decode b_De_placeOfE 93 = .ok (.lload_n 3, 1) := by decide +kernel
theorem d_De_placeOfE_94 : decode b_De_placeOfE 94 = .ok (.lreturn, 1) := by decide +kernel
theorem d_De_placeOfE_70 : decode b_De_placeOfE 70 = .ok (.lload_n 3, 1) := by decide +kernel
theorem d_De_placeOfE_71 : decode b_De_placeOfE 71 = .ok (.aload_n 0, 1) := by decide +kernel
theorem d_De_placeOfE_72 : decode b_De_placeOfE 72 = .ok (.getfield 9, 3) := by decide +kernel
theorem d_De_placeOfE_75 : decode b_De_placeOfE 75 = .ok (.getfield 158, 3) := by decide +kernel
theorem d_De_placeOfE_78 : decode b_De_placeOfE 78 = .ok (.aload_n 0, 1) := by decide +kernel
theorem d_De_placeOfE_79 : decode b_De_placeOfE 79 = .ok (.getfield 119, 3) := by decide +kernel
