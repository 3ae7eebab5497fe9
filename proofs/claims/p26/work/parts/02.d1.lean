theorem dL_cell_0 : decode cL_cell 0 = .ok (.iload_n 1, 1) := by decide +kernel
theorem dL_cell_1 : decode cL_cell 1 = .ok (.aload_n 0, 1) := by decide +kernel
theorem dL_cell_2 : decode cL_cell 2 = .ok (.arraylength, 1) := by decide +kernel
theorem dL_cell_3 : decode cL_cell 3 = .ok (.if_icmp .ge 9, 3) := by decide +kernel
theorem dL_cell_6 : decode cL_cell 6 = .ok (.aload_n 0, 1) := by decide +kernel
theorem dL_cell_7 : decode cL_cell 7 = .ok (.iload_n 1, 1) := by decide +kernel
theorem dL_cell_8 : decode cL_cell 8 = .ok (.iaload, 1) := by decide +kernel
theorem dL_cell_9 : decode cL_cell 9 = .ok (.goto 12, 3) := by decide +kernel
theorem dL_cell_12 : decode cL_cell 12 = .ok (.ldc 7, 2) := by decide +kernel
theorem dL_cell_14 : decode cL_cell 14 = .ok (.iload_n 1, 1) := by decide +kernel
theorem dL_cell_15 : decode cL_cell 15 = .ok (.iconst 5, 1) := by decide +kernel
theorem dL_cell_16 : decode cL_cell 16 = .ok (.iadd, 1) := by decide +kernel
theorem dL_cell_17 : decode cL_cell 17 = .ok (.imul, 1) := by decide +kernel
theorem dL_cell_18 : decode cL_cell 18 = .ok (.ldc 8, 2) := by decide +kernel
theorem dL_cell_20 : decode cL_cell 20 = .ok (.iadd, 1) := by decide +kernel
theorem dL_cell_21 : decode cL_cell 21 = .ok (.ireturn, 1) := by decide +kernel
theorem dL_low_0 : decode cL_low 0 = .ok (.iload_n 0, 1) := by decide +kernel
theorem dL_low_1 : decode cL_low 1 = .ok (.ldc 9, 2) := by decide +kernel
theorem dL_low_3 : decode cL_low 3 = .ok (.iand, 1) := by decide +kernel
theorem dL_low_4 : decode cL_low 4 = .ok (.iload_n 1, 1) := by decide +kernel
theorem dL_low_5 : decode cL_low 5 = .ok (.irem, 1) := by decide +kernel
theorem dL_low_6 : decode cL_low 6 = .ok (.ireturn, 1) := by decide +kernel
theorem dL_isOn_0 : decode cL_isOn 0 = .ok (.aload_n 0, 1) := by decide +kernel
theorem dL_isOn_1 : decode cL_isOn 1 = .ok (.iload_n 1, 1) := by decide +kernel
theorem dL_isOn_2 : decode cL_isOn 2 = .ok (.iconst 2, 1) := by decide +kernel
theorem dL_isOn_3 : decode cL_isOn 3 = .ok (.invokevirtual 10, 3) := by decide +kernel
theorem dL_isOn_6 : decode cL_isOn 6 = .ok (.iconst 1, 1) := by decide +kernel
theorem dL_isOn_7 : decode cL_isOn 7 = .ok (.if_icmp .ne 7, 3) := by decide +kernel
theorem dL_isOn_10 : decode cL_isOn 10 = .ok (.iconst 1, 1) := by decide +kernel
theorem dL_isOn_11 : decode cL_isOn 11 = .ok (.goto 4, 3) := by decide +kernel
theorem dL_isOn_14 : decode cL_isOn 14 = .ok (.iconst 0, 1) := by decide +kernel
theorem dL_isOn_15 : decode cL_isOn 15 = .ok (.ireturn, 1) := by decide +kernel
theorem dL_isThere_0 : decode cL_isThere 0 = .ok (.aload_n 0, 1) := by decide +kernel
theorem dL_isThere_1 : decode cL_isThere 1 = .ok (.iload_n 1, 1) := by decide +kernel
theorem dL_isThere_2 : decode cL_isThere 2 = .ok (.iconst 0, 1) := by decide +kernel
theorem dL_isThere_3 : decode cL_isThere 3 = .ok (.invokevirtual 10, 3) := by decide +kernel
theorem dL_isThere_6 : decode cL_isThere 6 = .ok (.ifCond .lt 7, 3) := by decide +kernel
theorem dL_isThere_9 : decode cL_isThere 9 = .ok (.iconst 1, 1) := by decide +kernel
theorem dL_isThere_10 : decode cL_isThere 10 = .ok (.goto 4, 3) := by decide +kernel
theorem dL_isThere_13 : decode cL_isThere 13 = .ok (.iconst 0, 1) := by decide +kernel
theorem dL_isThere_14 : decode cL_isThere 14 = .ok (.ireturn, 1) := by decide +kernel
theorem dL_isLamp_0 : decode cL_isLamp 0 = .ok (.aload_n 0, 1) := by decide +kernel
theorem dL_isLamp_1 : decode cL_isLamp 1 = .ok (.iload_n 1, 1) := by decide +kernel
theorem dL_isLamp_2 : decode cL_isLamp 2 = .ok (.bipush 6, 2) := by decide +kernel
theorem dL_isLamp_4 : decode cL_isLamp 4 = .ok (.invokevirtual 10, 3) := by decide +kernel
theorem dL_isLamp_7 : decode cL_isLamp 7 = .ok (.istore_n 2, 1) := by decide +kernel
theorem dL_isLamp_8 : decode cL_isLamp 8 = .ok (.aload_n 0, 1) := by decide +kernel
theorem dL_isLamp_9 : decode cL_isLamp 9 = .ok (.iload_n 1, 1) := by decide +kernel
theorem dL_isLamp_10 : decode cL_isLamp 10 = .ok (.bipush 7, 2) := by decide +kernel
theorem dL_isLamp_12 : decode cL_isLamp 12 = .ok (.invokevirtual 10, 3) := by decide +kernel
theorem dL_isLamp_15 : decode cL_isLamp 15 = .ok (.istore_n 3, 1) := by decide +kernel
theorem dL_isLamp_16 : decode cL_isLamp 16 = .ok (.aload_n 0, 1) := by decide +kernel
theorem dL_isLamp_17 : decode cL_isLamp 17 = .ok (.iload_n 1, 1) := by decide +kernel
theorem dL_isLamp_18 : decode cL_isLamp 18 = .ok (.bipush 8, 2) := by decide +kernel
theorem dL_isLamp_20 : decode cL_isLamp 20 = .ok (.invokevirtual 10, 3) := by decide +kernel
theorem dL_isLamp_23 : decode cL_isLamp 23 = .ok (.istore 4, 2) := by decide +kernel
theorem dL_isLamp_25 : decode cL_isLamp 25 = .ok (.aload_n 0, 1) := by decide +kernel
theorem dL_isLamp_26 : decode cL_isLamp 26 = .ok (.iload_n 1, 1) := by decide +kernel
theorem dL_isLamp_27 : decode cL_isLamp 27 = .ok (.invokestatic 16, 3) := by decide +kernel
theorem dL_isLamp_30 : decode cL_isLamp 30 = .ok (.istore 5, 2) := by decide +kernel
theorem dL_isLamp_32 : decode cL_isLamp 32 = .ok (.aload_n 0, 1) := by decide +kernel
theorem dL_isLamp_33 : decode cL_isLamp 33 = .ok (.iload_n 1, 1) := by decide +kernel
theorem dL_isLamp_34 : decode cL_isLamp 34 = .ok (.iconst 0, 1) := by decide +kernel
theorem dL_isLamp_35 : decode cL_isLamp 35 = .ok (.invokevirtual 10, 3) := by decide +kernel
theorem dL_isLamp_38 : decode cL_isLamp 38 = .ok (.bipush 100, 2) := by decide +kernel
theorem dL_isLamp_40 : decode cL_isLamp 40 = .ok (.aload_n 0, 1) := by decide +kernel
theorem dL_isLamp_41 : decode cL_isLamp 41 = .ok (.bipush 9, 2) := by decide +kernel
theorem dL_isLamp_43 : decode cL_isLamp 43 = .ok (.invokevirtual 22, 3) := by decide +kernel
theorem dL_isLamp_46 : decode cL_isLamp 46 = .ok (.imul, 1) := by decide +kernel
theorem dL_isLamp_47 : decode cL_isLamp 47 = .ok (.if_icmp .ge 121, 3) := by decide +kernel
theorem dL_isLamp_50 : decode cL_isLamp 50 = .ok (.aload_n 0, 1) := by decide +kernel
theorem dL_isLamp_51 : decode cL_isLamp 51 = .ok (.iload_n 1, 1) := by decide +kernel
theorem dL_isLamp_52 : decode cL_isLamp 52 = .ok (.iconst 1, 1) := by decide +kernel
theorem dL_isLamp_53 : decode cL_isLamp 53 = .ok (.invokevirtual 10, 3) := by decide +kernel
theorem dL_isLamp_56 : decode cL_isLamp 56 = .ok (.bipush 50, 2) := by decide +kernel
theorem dL_isLamp_58 : decode cL_isLamp 58 = .ok (.if_icmp .lt 110, 3) := by decide +kernel
theorem dL_isLamp_61 : decode cL_isLamp 61 = .ok (.aload_n 0, 1) := by decide +kernel
theorem dL_isLamp_62 : decode cL_isLamp 62 = .ok (.iload_n 1, 1) := by decide +kernel
theorem dL_isLamp_63 : decode cL_isLamp 63 = .ok (.iconst 1, 1) := by decide +kernel
theorem dL_isLamp_64 : decode cL_isLamp 64 = .ok (.invokevirtual 10, 3) := by decide +kernel
theorem dL_isLamp_67 : decode cL_isLamp 67 = .ok (.sipush 150, 3) := by decide +kernel
theorem dL_isLamp_70 : decode cL_isLamp 70 = .ok (.if_icmp .gt 98, 3) := by decide +kernel
theorem dL_isLamp_73 : decode cL_isLamp 73 = .ok (.aload_n 0, 1) := by decide +kernel
theorem dL_isLamp_74 : decode cL_isLamp 74 = .ok (.iload_n 1, 1) := by decide +kernel
theorem dL_isLamp_75 : decode cL_isLamp 75 = .ok (.iconst 3, 1) := by decide +kernel
theorem dL_isLamp_76 : decode cL_isLamp 76 = .ok (.invokevirtual 10, 3) := by decide +kernel
theorem dL_isLamp_79 : decode cL_isLamp 79 = .ok (.ifCond .lt 89, 3) := by decide +kernel
theorem dL_isLamp_82 : decode cL_isLamp 82 = .ok (.aload_n 0, 1) := by decide +kernel
theorem dL_isLamp_83 : decode cL_isLamp 83 = .ok (.iload_n 1, 1) := by decide +kernel
theorem dL_isLamp_84 : decode cL_isLamp 84 = .ok (.iconst 5, 1) := by decide +kernel
theorem dL_isLamp_85 : decode cL_isLamp 85 = .ok (.invokevirtual 10, 3) := by decide +kernel
theorem dL_isLamp_88 : decode cL_isLamp 88 = .ok (.aload_n 0, 1) := by decide +kernel
theorem dL_isLamp_89 : decode cL_isLamp 89 = .ok (.iconst 0, 1) := by decide +kernel
theorem dL_isLamp_90 : decode cL_isLamp 90 = .ok (.invokevirtual 22, 3) := by decide +kernel
theorem dL_isLamp_93 : decode cL_isLamp 93 = .ok (.if_icmp .gt 75, 3) := by decide +kernel
theorem dL_isLamp_96 : decode cL_isLamp 96 = .ok (.aload_n 0, 1) := by decide +kernel
theorem dL_isLamp_97 : decode cL_isLamp 97 = .ok (.iload_n 1, 1) := by decide +kernel
theorem dL_isLamp_98 : decode cL_isLamp 98 = .ok (.iconst 4, 1) := by decide +kernel
theorem dL_isLamp_99 : decode cL_isLamp 99 = .ok (.invokevirtual 10, 3) := by decide +kernel
theorem dL_isLamp_102 : decode cL_isLamp 102 = .ok (.ifCond .ne 7, 3) := by decide +kernel
theorem dL_isLamp_105 : decode cL_isLamp 105 = .ok (.iconst 1, 1) := by decide +kernel
theorem dL_isLamp_106 : decode cL_isLamp 106 = .ok (.goto 4, 3) := by decide +kernel
theorem dL_isLamp_109 : decode cL_isLamp 109 = .ok (.iconst 0, 1) := by decide +kernel
theorem dL_isLamp_110 : decode cL_isLamp 110 = .ok (.aload_n 0, 1) := by decide +kernel
theorem dL_isLamp_111 : decode cL_isLamp 111 = .ok (.iload_n 1, 1) := by decide +kernel
theorem dL_isLamp_112 : decode cL_isLamp 112 = .ok (.iconst 5, 1) := by decide +kernel
theorem dL_isLamp_113 : decode cL_isLamp 113 = .ok (.invokevirtual 10, 3) := by decide +kernel
theorem dL_isLamp_116 : decode cL_isLamp 116 = .ok (.ifCond .ne 7, 3) := by decide +kernel
theorem dL_isLamp_119 : decode cL_isLamp 119 = .ok (.iconst 1, 1) := by decide +kernel
theorem dL_isLamp_120 : decode cL_isLamp 120 = .ok (.goto 4, 3) := by decide +kernel
theorem dL_isLamp_123 : decode cL_isLamp 123 = .ok (.iconst 0, 1) := by decide +kernel
theorem dL_isLamp_124 : decode cL_isLamp 124 = .ok (.if_icmp .ne 44, 3) := by decide +kernel
theorem dL_isLamp_127 : decode cL_isLamp 127 = .ok (.iload_n 2, 1) := by decide +kernel
theorem dL_isLamp_128 : decode cL_isLamp 128 = .ok (.iload_n 1, 1) := by decide +kernel
theorem dL_isLamp_129 : decode cL_isLamp 129 = .ok (.ishr, 1) := by decide +kernel
theorem dL_isLamp_130 : decode cL_isLamp 130 = .ok (.iconst 1, 1) := by decide +kernel
theorem dL_isLamp_131 : decode cL_isLamp 131 = .ok (.iand, 1) := by decide +kernel
theorem dL_isLamp_132 : decode cL_isLamp 132 = .ok (.ifCond .ne 36, 3) := by decide +kernel
theorem dL_isLamp_135 : decode cL_isLamp 135 = .ok (.iload_n 3, 1) := by decide +kernel
theorem dL_isLamp_136 : decode cL_isLamp 136 = .ok (.ifCond .eq 7, 3) := by decide +kernel
theorem dL_isLamp_139 : decode cL_isLamp 139 = .ok (.iconst 1, 1) := by decide +kernel
theorem dL_isLamp_140 : decode cL_isLamp 140 = .ok (.goto 4, 3) := by decide +kernel
theorem dL_isLamp_143 : decode cL_isLamp 143 = .ok (.iconst 0, 1) := by decide +kernel
theorem dL_isLamp_144 : decode cL_isLamp 144 = .ok (.iload 5, 2) := by decide +kernel
theorem dL_isLamp_146 : decode cL_isLamp 146 = .ok (.if_icmp .ne 22, 3) := by decide +kernel
theorem dL_isLamp_149 : decode cL_isLamp 149 = .ok (.iload 4, 2) := by decide +kernel
theorem dL_isLamp_151 : decode cL_isLamp 151 = .ok (.ifCond .eq 7, 3) := by decide +kernel
theorem dL_isLamp_154 : decode cL_isLamp 154 = .ok (.iconst 1, 1) := by decide +kernel
theorem dL_isLamp_155 : decode cL_isLamp 155 = .ok (.goto 4, 3) := by decide +kernel
theorem dL_isLamp_158 : decode cL_isLamp 158 = .ok (.iconst 0, 1) := by decide +kernel
theorem dL_isLamp_159 : decode cL_isLamp 159 = .ok (.iload 5, 2) := by decide +kernel
theorem dL_isLamp_161 : decode cL_isLamp 161 = .ok (.if_icmp .ne 7, 3) := by decide +kernel
theorem dL_isLamp_164 : decode cL_isLamp 164 = .ok (.iconst 1, 1) := by decide +kernel
theorem dL_isLamp_165 : decode cL_isLamp 165 = .ok (.goto 4, 3) := by decide +kernel
theorem dL_isLamp_168 : decode cL_isLamp 168 = .ok (.iconst 0, 1) := by decide +kernel
theorem dL_isLamp_169 : decode cL_isLamp 169 = .ok (.istore 6, 2) := by decide +kernel
theorem dL_isLamp_171 : decode cL_isLamp 171 = .ok (.iconst 0, 1) := by decide +kernel
theorem dL_isLamp_172 : decode cL_isLamp 172 = .ok (.istore 7, 2) := by decide +kernel
theorem dL_isLamp_174 : decode cL_isLamp 174 = .ok (.iload 7, 2) := by decide +kernel
theorem dL_isLamp_176 : decode cL_isLamp 176 = .ok (.bipush 16, 2) := by decide +kernel
theorem dL_isLamp_178 : decode cL_isLamp 178 = .ok (.if_icmp .ge 201, 3) := by decide +kernel
theorem dL_isLamp_181 : decode cL_isLamp 181 = .ok (.iload 6, 2) := by decide +kernel
theorem dL_isLamp_183 : decode cL_isLamp 183 = .ok (.ifCond .eq 196, 3) := by decide +kernel
theorem dL_isLamp_186 : decode cL_isLamp 186 = .ok (.iload_n 2, 1) := by decide +kernel
theorem dL_isLamp_187 : decode cL_isLamp 187 = .ok (.iload 7, 2) := by decide +kernel
theorem dL_isLamp_189 : decode cL_isLamp 189 = .ok (.ishr, 1) := by decide +kernel
theorem dL_isLamp_190 : decode cL_isLamp 190 = .ok (.iconst 1, 1) := by decide +kernel
theorem dL_isLamp_191 : decode cL_isLamp 191 = .ok (.iand, 1) := by decide +kernel
theorem dL_isLamp_192 : decode cL_isLamp 192 = .ok (.iconst 1, 1) := by decide +kernel
theorem dL_isLamp_193 : decode cL_isLamp 193 = .ok (.if_icmp .ne 7, 3) := by decide +kernel
theorem dL_isLamp_196 : decode cL_isLamp 196 = .ok (.iconst 1, 1) := by decide +kernel
theorem dL_isLamp_197 : decode cL_isLamp 197 = .ok (.goto 4, 3) := by decide +kernel
theorem dL_isLamp_200 : decode cL_isLamp 200 = .ok (.iconst 0, 1) := by decide +kernel
theorem dL_isLamp_201 : decode cL_isLamp 201 = .ok (.istore 8, 2) := by decide +kernel
theorem dL_isLamp_203 : decode cL_isLamp 203 = .ok (.iload_n 3, 1) := by decide +kernel
theorem dL_isLamp_204 : decode cL_isLamp 204 = .ok (.iload 7, 2) := by decide +kernel
theorem dL_isLamp_206 : decode cL_isLamp 206 = .ok (.ishr, 1) := by decide +kernel
theorem dL_isLamp_207 : decode cL_isLamp 207 = .ok (.iconst 1, 1) := by decide +kernel
theorem dL_isLamp_208 : decode cL_isLamp 208 = .ok (.iand, 1) := by decide +kernel
theorem dL_isLamp_209 : decode cL_isLamp 209 = .ok (.iconst 1, 1) := by decide +kernel
theorem dL_isLamp_210 : decode cL_isLamp 210 = .ok (.if_icmp .ne 7, 3) := by decide +kernel
theorem dL_isLamp_213 : decode cL_isLamp 213 = .ok (.iconst 1, 1) := by decide +kernel
theorem dL_isLamp_214 : decode cL_isLamp 214 = .ok (.goto 4, 3) := by decide +kernel
theorem dL_isLamp_217 : decode cL_isLamp 217 = .ok (.iconst 0, 1) := by decide +kernel
theorem dL_isLamp_218 : decode cL_isLamp 218 = .ok (.istore 9, 2) := by decide +kernel
theorem dL_isLamp_220 : decode cL_isLamp 220 = .ok (.iload 8, 2) := by decide +kernel
theorem dL_isLamp_222 : decode cL_isLamp 222 = .ok (.ifCond .eq 28, 3) := by decide +kernel
theorem dL_isLamp_225 : decode cL_isLamp 225 = .ok (.aload_n 0, 1) := by decide +kernel
theorem dL_isLamp_226 : decode cL_isLamp 226 = .ok (.iload 7, 2) := by decide +kernel
theorem dL_isLamp_228 : decode cL_isLamp 228 = .ok (.invokestatic 26, 3) := by decide +kernel
theorem dL_isLamp_231 : decode cL_isLamp 231 = .ok (.ifCond .eq 23, 3) := by decide +kernel
theorem dL_isLamp_234 : decode cL_isLamp 234 = .ok (.aload_n 0, 1) := by decide +kernel
theorem dL_isLamp_235 : decode cL_isLamp 235 = .ok (.iload 7, 2) := by decide +kernel
theorem dL_isLamp_237 : decode cL_isLamp 237 = .ok (.bipush 6, 2) := by decide +kernel
theorem dL_isLamp_239 : decode cL_isLamp 239 = .ok (.invokevirtual 10, 3) := by decide +kernel
theorem dL_isLamp_242 : decode cL_isLamp 242 = .ok (.iload_n 1, 1) := by decide +kernel
theorem dL_isLamp_243 : decode cL_isLamp 243 = .ok (.ishr, 1) := by decide +kernel
theorem dL_isLamp_244 : decode cL_isLamp 244 = .ok (.iconst 1, 1) := by decide +kernel
theorem dL_isLamp_245 : decode cL_isLamp 245 = .ok (.iand, 1) := by decide +kernel
theorem dL_isLamp_246 : decode cL_isLamp 246 = .ok (.iconst 1, 1) := by decide +kernel
theorem dL_isLamp_247 : decode cL_isLamp 247 = .ok (.if_icmp .ne 7, 3) := by decide +kernel
theorem dL_isLamp_250 : decode cL_isLamp 250 = .ok (.iconst 1, 1) := by decide +kernel
theorem dL_isLamp_251 : decode cL_isLamp 251 = .ok (.goto 4, 3) := by decide +kernel
theorem dL_isLamp_254 : decode cL_isLamp 254 = .ok (.iconst 0, 1) := by decide +kernel
theorem dL_isLamp_255 : decode cL_isLamp 255 = .ok (.istore 6, 2) := by decide +kernel
theorem dL_isLamp_257 : decode cL_isLamp 257 = .ok (.iload 6, 2) := by decide +kernel
theorem dL_isLamp_259 : decode cL_isLamp 259 = .ok (.ifCond .eq 111, 3) := by decide +kernel
theorem dL_isLamp_262 : decode cL_isLamp 262 = .ok (.iload 9, 2) := by decide +kernel
theorem dL_isLamp_264 : decode cL_isLamp 264 = .ok (.ifCond .eq 24, 3) := by decide +kernel
theorem dL_isLamp_267 : decode cL_isLamp 267 = .ok (.aload_n 0, 1) := by decide +kernel
theorem dL_isLamp_268 : decode cL_isLamp 268 = .ok (.iload 7, 2) := by decide +kernel
theorem dL_isLamp_270 : decode cL_isLamp 270 = .ok (.invokestatic 16, 3) := by decide +kernel
theorem dL_isLamp_273 : decode cL_isLamp 273 = .ok (.ifCond .eq 97, 3) := by decide +kernel
theorem dL_isLamp_276 : decode cL_isLamp 276 = .ok (.aload_n 0, 1) := by decide +kernel
theorem dL_isLamp_277 : decode cL_isLamp 277 = .ok (.iload 7, 2) := by decide +kernel
theorem dL_isLamp_279 : decode cL_isLamp 279 = .ok (.bipush 7, 2) := by decide +kernel
theorem dL_isLamp_281 : decode cL_isLamp 281 = .ok (.invokevirtual 10, 3) := by decide +kernel
theorem dL_isLamp_284 : decode cL_isLamp 284 = .ok (.iload_n 3, 1) := by decide +kernel
theorem dL_isLamp_285 : decode cL_isLamp 285 = .ok (.if_icmp .ne 85, 3) := by decide +kernel
theorem dL_isLamp_288 : decode cL_isLamp 288 = .ok (.iload 8, 2) := by decide +kernel
theorem dL_isLamp_290 : decode cL_isLamp 290 = .ok (.ifCond .eq 22, 3) := by decide +kernel
theorem dL_isLamp_293 : decode cL_isLamp 293 = .ok (.iload 5, 2) := by decide +kernel
theorem dL_isLamp_295 : decode cL_isLamp 295 = .ok (.ifCond .eq 17, 3) := by decide +kernel
theorem dL_isLamp_298 : decode cL_isLamp 298 = .ok (.aload_n 0, 1) := by decide +kernel
theorem dL_isLamp_299 : decode cL_isLamp 299 = .ok (.iload 7, 2) := by decide +kernel
theorem dL_isLamp_301 : decode cL_isLamp 301 = .ok (.invokestatic 16, 3) := by decide +kernel
theorem dL_isLamp_304 : decode cL_isLamp 304 = .ok (.ifCond .eq 8, 3) := by decide +kernel
theorem dL_isLamp_307 : decode cL_isLamp 307 = .ok (.iload 9, 2) := by decide +kernel
theorem dL_isLamp_309 : decode cL_isLamp 309 = .ok (.ifCond .eq 61, 3) := by decide +kernel
theorem dL_isLamp_312 : decode cL_isLamp 312 = .ok (.iload 4, 2) := by decide +kernel
theorem dL_isLamp_314 : decode cL_isLamp 314 = .ok (.iload 7, 2) := by decide +kernel
theorem dL_isLamp_316 : decode cL_isLamp 316 = .ok (.ishr, 1) := by decide +kernel
theorem dL_isLamp_317 : decode cL_isLamp 317 = .ok (.iconst 1, 1) := by decide +kernel
theorem dL_isLamp_318 : decode cL_isLamp 318 = .ok (.iand, 1) := by decide +kernel
theorem dL_isLamp_319 : decode cL_isLamp 319 = .ok (.iconst 1, 1) := by decide +kernel
theorem dL_isLamp_320 : decode cL_isLamp 320 = .ok (.if_icmp .ne 7, 3) := by decide +kernel
theorem dL_isLamp_323 : decode cL_isLamp 323 = .ok (.iconst 1, 1) := by decide +kernel
theorem dL_isLamp_324 : decode cL_isLamp 324 = .ok (.goto 4, 3) := by decide +kernel
theorem dL_isLamp_327 : decode cL_isLamp 327 = .ok (.iconst 0, 1) := by decide +kernel
theorem dL_isLamp_328 : decode cL_isLamp 328 = .ok (.iload 5, 2) := by decide +kernel
theorem dL_isLamp_330 : decode cL_isLamp 330 = .ok (.ifCond .eq 32, 3) := by decide +kernel
theorem dL_isLamp_333 : decode cL_isLamp 333 = .ok (.aload_n 0, 1) := by decide +kernel
theorem dL_isLamp_334 : decode cL_isLamp 334 = .ok (.iload 7, 2) := by decide +kernel
theorem dL_isLamp_336 : decode cL_isLamp 336 = .ok (.invokestatic 16, 3) := by decide +kernel
theorem dL_isLamp_339 : decode cL_isLamp 339 = .ok (.ifCond .eq 23, 3) := by decide +kernel
theorem dL_isLamp_342 : decode cL_isLamp 342 = .ok (.aload_n 0, 1) := by decide +kernel
theorem dL_isLamp_343 : decode cL_isLamp 343 = .ok (.iload 7, 2) := by decide +kernel
theorem dL_isLamp_345 : decode cL_isLamp 345 = .ok (.iconst 0, 1) := by decide +kernel
theorem dL_isLamp_346 : decode cL_isLamp 346 = .ok (.invokevirtual 10, 3) := by decide +kernel
theorem dL_isLamp_349 : decode cL_isLamp 349 = .ok (.aload_n 0, 1) := by decide +kernel
theorem dL_isLamp_350 : decode cL_isLamp 350 = .ok (.iload_n 1, 1) := by decide +kernel
theorem dL_isLamp_351 : decode cL_isLamp 351 = .ok (.iconst 0, 1) := by decide +kernel
theorem dL_isLamp_352 : decode cL_isLamp 352 = .ok (.invokevirtual 10, 3) := by decide +kernel
theorem dL_isLamp_355 : decode cL_isLamp 355 = .ok (.if_icmp .ne 7, 3) := by decide +kernel
theorem dL_isLamp_358 : decode cL_isLamp 358 = .ok (.iconst 1, 1) := by decide +kernel
theorem dL_isLamp_359 : decode cL_isLamp 359 = .ok (.goto 4, 3) := by decide +kernel
theorem dL_isLamp_362 : decode cL_isLamp 362 = .ok (.iconst 0, 1) := by decide +kernel
theorem dL_isLamp_363 : decode cL_isLamp 363 = .ok (.if_icmp .ne 7, 3) := by decide +kernel
theorem dL_isLamp_366 : decode cL_isLamp 366 = .ok (.iconst 1, 1) := by decide +kernel
theorem dL_isLamp_367 : decode cL_isLamp 367 = .ok (.goto 4, 3) := by decide +kernel
theorem dL_isLamp_370 : decode cL_isLamp 370 = .ok (.iconst 0, 1) := by decide +kernel
theorem dL_isLamp_371 : decode cL_isLamp 371 = .ok (.istore 6, 2) := by decide +kernel
theorem dL_isLamp_373 : decode cL_isLamp 373 = .ok (.iinc 7 1, 3) := by decide +kernel
theorem dL_isLamp_376 : decode cL_isLamp 376 = .ok (.goto (-202), 3) := by decide +kernel
theorem dL_isLamp_379 : decode cL_isLamp 379 = .ok (.iload 6, 2) := by decide +kernel
theorem dL_isLamp_381 : decode cL_isLamp 381 = .ok (.ireturn, 1) := by decide +kernel
theorem dL_holds_0 : decode cL_holds 0 = .ok (.iconst 0, 1) := by decide +kernel
theorem dL_holds_1 : decode cL_holds 1 = .ok (.istore_n 1, 1) := by decide +kernel
theorem dL_holds_2 : decode cL_holds 2 = .ok (.iconst 0, 1) := by decide +kernel
theorem dL_holds_3 : decode cL_holds 3 = .ok (.istore_n 2, 1) := by decide +kernel
theorem dL_holds_4 : decode cL_holds 4 = .ok (.iconst 0, 1) := by decide +kernel
theorem dL_holds_5 : decode cL_holds 5 = .ok (.istore_n 3, 1) := by decide +kernel
theorem dL_holds_6 : decode cL_holds 6 = .ok (.iconst 0, 1) := by decide +kernel
theorem dL_holds_7 : decode cL_holds 7 = .ok (.istore 4, 2) := by decide +kernel
theorem dL_holds_9 : decode cL_holds 9 = .ok (.iconst 0, 1) := by decide +kernel
theorem dL_holds_10 : decode cL_holds 10 = .ok (.istore 5, 2) := by decide +kernel
theorem dL_holds_12 : decode cL_holds 12 = .ok (.bipush (-5), 2) := by decide +kernel
theorem dL_holds_14 : decode cL_holds 14 = .ok (.istore 6, 2) := by decide +kernel
theorem dL_holds_16 : decode cL_holds 16 = .ok (.iconst 0, 1) := by decide +kernel
theorem dL_holds_17 : decode cL_holds 17 = .ok (.istore 7, 2) := by decide +kernel
theorem dL_holds_19 : decode cL_holds 19 = .ok (.iload 7, 2) := by decide +kernel
theorem dL_holds_21 : decode cL_holds 21 = .ok (.bipush 16, 2) := by decide +kernel
theorem dL_holds_23 : decode cL_holds 23 = .ok (.if_icmp .ge 202, 3) := by decide +kernel
theorem dL_holds_26 : decode cL_holds 26 = .ok (.aload_n 0, 1) := by decide +kernel
theorem dL_holds_27 : decode cL_holds 27 = .ok (.iload 7, 2) := by decide +kernel
theorem dL_holds_29 : decode cL_holds 29 = .ok (.invokestatic 26, 3) := by decide +kernel
theorem dL_holds_32 : decode cL_holds 32 = .ok (.ifCond .eq 187, 3) := by decide +kernel
theorem dL_holds_35 : decode cL_holds 35 = .ok (.iinc 1 1, 3) := by decide +kernel
theorem dL_holds_38 : decode cL_holds 38 = .ok (.iload_n 2, 1) := by decide +kernel
theorem dL_holds_39 : decode cL_holds 39 = .ok (.aload_n 0, 1) := by decide +kernel
theorem dL_holds_40 : decode cL_holds 40 = .ok (.iload 7, 2) := by decide +kernel
theorem dL_holds_42 : decode cL_holds 42 = .ok (.invokestatic 16, 3) := by decide +kernel
theorem dL_holds_45 : decode cL_holds 45 = .ok (.ifCond .eq 7, 3) := by decide +kernel
theorem dL_holds_48 : decode cL_holds 48 = .ok (.iconst 1, 1) := by decide +kernel
theorem dL_holds_49 : decode cL_holds 49 = .ok (.goto 4, 3) := by decide +kernel
theorem dL_holds_52 : decode cL_holds 52 = .ok (.iconst 0, 1) := by decide +kernel
theorem dL_holds_53 : decode cL_holds 53 = .ok (.iadd, 1) := by decide +kernel
theorem dL_holds_54 : decode cL_holds 54 = .ok (.istore_n 2, 1) := by decide +kernel
theorem dL_holds_55 : decode cL_holds 55 = .ok (.iload 4, 2) := by decide +kernel
theorem dL_holds_57 : decode cL_holds 57 = .ok (.aload_n 0, 1) := by decide +kernel
theorem dL_holds_58 : decode cL_holds 58 = .ok (.iload 7, 2) := by decide +kernel
theorem dL_holds_60 : decode cL_holds 60 = .ok (.iconst 4, 1) := by decide +kernel
theorem dL_holds_61 : decode cL_holds 61 = .ok (.invokevirtual 10, 3) := by decide +kernel
theorem dL_holds_64 : decode cL_holds 64 = .ok (.iadd, 1) := by decide +kernel
theorem dL_holds_65 : decode cL_holds 65 = .ok (.istore 4, 2) := by decide +kernel
theorem dL_holds_67 : decode cL_holds 67 = .ok (.iload 5, 2) := by decide +kernel
theorem dL_holds_69 : decode cL_holds 69 = .ok (.aload_n 0, 1) := by decide +kernel
theorem dL_holds_70 : decode cL_holds 70 = .ok (.iload 7, 2) := by decide +kernel
theorem dL_holds_72 : decode cL_holds 72 = .ok (.bipush 9, 2) := by decide +kernel
theorem dL_holds_74 : decode cL_holds 74 = .ok (.invokevirtual 10, 3) := by decide +kernel
theorem dL_holds_77 : decode cL_holds 77 = .ok (.iadd, 1) := by decide +kernel
theorem dL_holds_78 : decode cL_holds 78 = .ok (.istore 5, 2) := by decide +kernel
theorem dL_holds_80 : decode cL_holds 80 = .ok (.iconst 0, 1) := by decide +kernel
theorem dL_holds_81 : decode cL_holds 81 = .ok (.istore 8, 2) := by decide +kernel
theorem dL_holds_83 : decode cL_holds 83 = .ok (.iload 8, 2) := by decide +kernel
theorem dL_holds_85 : decode cL_holds 85 = .ok (.bipush 16, 2) := by decide +kernel
theorem dL_holds_87 : decode cL_holds 87 = .ok (.if_icmp .ge 121, 3) := by decide +kernel
theorem dL_holds_90 : decode cL_holds 90 = .ok (.iload_n 3, 1) := by decide +kernel
theorem dL_holds_91 : decode cL_holds 91 = .ok (.aload_n 0, 1) := by decide +kernel
theorem dL_holds_92 : decode cL_holds 92 = .ok (.iload 7, 2) := by decide +kernel
theorem dL_holds_94 : decode cL_holds 94 = .ok (.bipush 6, 2) := by decide +kernel
theorem dL_holds_96 : decode cL_holds 96 = .ok (.invokevirtual 10, 3) := by decide +kernel
theorem dL_holds_99 : decode cL_holds 99 = .ok (.iload 8, 2) := by decide +kernel
theorem dL_holds_101 : decode cL_holds 101 = .ok (.ishr, 1) := by decide +kernel
theorem dL_holds_102 : decode cL_holds 102 = .ok (.iconst 1, 1) := by decide +kernel
theorem dL_holds_103 : decode cL_holds 103 = .ok (.iand, 1) := by decide +kernel
theorem dL_holds_104 : decode cL_holds 104 = .ok (.iadd, 1) := by decide +kernel
theorem dL_holds_105 : decode cL_holds 105 = .ok (.istore_n 3, 1) := by decide +kernel
theorem dL_holds_106 : decode cL_holds 106 = .ok (.aload_n 0, 1) := by decide +kernel
theorem dL_holds_107 : decode cL_holds 107 = .ok (.iload 7, 2) := by decide +kernel
theorem dL_holds_109 : decode cL_holds 109 = .ok (.iload 8, 2) := by decide +kernel
theorem dL_holds_111 : decode cL_holds 111 = .ok (.invokevirtual 29, 3) := by decide +kernel
theorem dL_holds_114 : decode cL_holds 114 = .ok (.istore 9, 2) := by decide +kernel
theorem dL_holds_116 : decode cL_holds 116 = .ok (.aload_n 0, 1) := by decide +kernel
theorem dL_holds_117 : decode cL_holds 117 = .ok (.iload 8, 2) := by decide +kernel
theorem dL_holds_119 : decode cL_holds 119 = .ok (.invokestatic 26, 3) := by decide +kernel
theorem dL_holds_122 : decode cL_holds 122 = .ok (.ifCond .eq 38, 3) := by decide +kernel
theorem dL_holds_125 : decode cL_holds 125 = .ok (.iload 9, 2) := by decide +kernel
theorem dL_holds_127 : decode cL_holds 127 = .ok (.aload_n 0, 1) := by decide +kernel
theorem dL_holds_128 : decode cL_holds 128 = .ok (.iload 8, 2) := by decide +kernel
theorem dL_holds_130 : decode cL_holds 130 = .ok (.iload 7, 2) := by decide +kernel
theorem dL_holds_132 : decode cL_holds 132 = .ok (.invokevirtual 29, 3) := by decide +kernel
theorem dL_holds_135 : decode cL_holds 135 = .ok (.if_icmp .ne 31, 3) := by decide +kernel
theorem dL_holds_138 : decode cL_holds 138 = .ok (.iload 9, 2) := by decide +kernel
theorem dL_holds_140 : decode cL_holds 140 = .ok (.ifCond .lt 26, 3) := by decide +kernel
theorem dL_holds_143 : decode cL_holds 143 = .ok (.iload 9, 2) := by decide +kernel
theorem dL_holds_145 : decode cL_holds 145 = .ok (.bipush 50, 2) := by decide +kernel
theorem dL_holds_147 : decode cL_holds 147 = .ok (.aload_n 0, 1) := by decide +kernel
theorem dL_holds_148 : decode cL_holds 148 = .ok (.bipush 9, 2) := by decide +kernel
theorem dL_holds_150 : decode cL_holds 150 = .ok (.invokevirtual 22, 3) := by decide +kernel
theorem dL_holds_153 : decode cL_holds 153 = .ok (.imul, 1) := by decide +kernel
theorem dL_holds_154 : decode cL_holds 154 = .ok (.if_icmp .le 14, 3) := by decide +kernel
theorem dL_holds_157 : decode cL_holds 157 = .ok (.goto 9, 3) := by decide +kernel
theorem dL_holds_160 : decode cL_holds 160 = .ok (.iload 9, 2) := by decide +kernel
theorem dL_holds_162 : decode cL_holds 162 = .ok (.iconst (-1), 1) := by decide +kernel
theorem dL_holds_163 : decode cL_holds 163 = .ok (.if_icmp .eq 5, 3) := by decide +kernel
theorem dL_holds_166 : decode cL_holds 166 = .ok (.iconst 0, 1) := by decide +kernel
theorem dL_holds_167 : decode cL_holds 167 = .ok (.ireturn, 1) := by decide +kernel
theorem dL_holds_168 : decode cL_holds 168 = .ok (.aload_n 0, 1) := by decide +kernel
theorem dL_holds_169 : decode cL_holds 169 = .ok (.iload 7, 2) := by decide +kernel
theorem dL_holds_171 : decode cL_holds 171 = .ok (.invokestatic 16, 3) := by decide +kernel
theorem dL_holds_174 : decode cL_holds 174 = .ok (.ifCond .eq 24, 3) := by decide +kernel
theorem dL_holds_177 : decode cL_holds 177 = .ok (.aload_n 0, 1) := by decide +kernel
theorem dL_holds_178 : decode cL_holds 178 = .ok (.iload 8, 2) := by decide +kernel
theorem dL_holds_180 : decode cL_holds 180 = .ok (.invokestatic 16, 3) := by decide +kernel
theorem dL_holds_183 : decode cL_holds 183 = .ok (.ifCond .eq 15, 3) := by decide +kernel
theorem dL_holds_186 : decode cL_holds 186 = .ok (.iload 9, 2) := by decide +kernel
theorem dL_holds_188 : decode cL_holds 188 = .ok (.iload 6, 2) := by decide +kernel
theorem dL_holds_190 : decode cL_holds 190 = .ok (.if_icmp .le 8, 3) := by decide +kernel
theorem dL_holds_193 : decode cL_holds 193 = .ok (.iload 9, 2) := by decide +kernel
theorem dL_holds_195 : decode cL_holds 195 = .ok (.goto 5, 3) := by decide +kernel
theorem dL_holds_198 : decode cL_holds 198 = .ok (.iload 6, 2) := by decide +kernel
theorem dL_holds_200 : decode cL_holds 200 = .ok (.istore 6, 2) := by decide +kernel
theorem dL_holds_202 : decode cL_holds 202 = .ok (.iinc 8 1, 3) := by decide +kernel
theorem dL_holds_205 : decode cL_holds 205 = .ok (.goto (-122), 3) := by decide +kernel
theorem dL_holds_208 : decode cL_holds 208 = .ok (.aload_n 0, 1) := by decide +kernel
theorem dL_holds_209 : decode cL_holds 209 = .ok (.iload 7, 2) := by decide +kernel
theorem dL_holds_211 : decode cL_holds 211 = .ok (.invokestatic 32, 3) := by decide +kernel
theorem dL_holds_214 : decode cL_holds 214 = .ok (.ifCond .ne 5, 3) := by decide +kernel
theorem dL_holds_217 : decode cL_holds 217 = .ok (.iconst 0, 1) := by decide +kernel
theorem dL_holds_218 : decode cL_holds 218 = .ok (.ireturn, 1) := by decide +kernel
theorem dL_holds_219 : decode cL_holds 219 = .ok (.iinc 7 1, 3) := by decide +kernel
theorem dL_holds_222 : decode cL_holds 222 = .ok (.goto (-203), 3) := by decide +kernel
theorem dL_holds_225 : decode cL_holds 225 = .ok (.aload_n 0, 1) := by decide +kernel
theorem dL_holds_226 : decode cL_holds 226 = .ok (.iconst 1, 1) := by decide +kernel
theorem dL_holds_227 : decode cL_holds 227 = .ok (.invokevirtual 22, 3) := by decide +kernel
theorem dL_holds_230 : decode cL_holds 230 = .ok (.iload_n 1, 1) := by decide +kernel
theorem dL_holds_231 : decode cL_holds 231 = .ok (.if_icmp .ne 157, 3) := by decide +kernel
theorem dL_holds_234 : decode cL_holds 234 = .ok (.aload_n 0, 1) := by decide +kernel
theorem dL_holds_235 : decode cL_holds 235 = .ok (.iconst 2, 1) := by decide +kernel
theorem dL_holds_236 : decode cL_holds 236 = .ok (.invokevirtual 22, 3) := by decide +kernel
theorem dL_holds_239 : decode cL_holds 239 = .ok (.iload_n 2, 1) := by decide +kernel
theorem dL_holds_240 : decode cL_holds 240 = .ok (.if_icmp .ne 148, 3) := by decide +kernel
theorem dL_holds_243 : decode cL_holds 243 = .ok (.iconst 2, 1) := by decide +kernel
theorem dL_holds_244 : decode cL_holds 244 = .ok (.aload_n 0, 1) := by decide +kernel
theorem dL_holds_245 : decode cL_holds 245 = .ok (.iconst 3, 1) := by decide +kernel
theorem dL_holds_246 : decode cL_holds 246 = .ok (.invokevirtual 22, 3) := by decide +kernel
theorem dL_holds_249 : decode cL_holds 249 = .ok (.imul, 1) := by decide +kernel
theorem dL_holds_250 : decode cL_holds 250 = .ok (.iload_n 3, 1) := by decide +kernel
theorem dL_holds_251 : decode cL_holds 251 = .ok (.if_icmp .ne 137, 3) := by decide +kernel
theorem dL_holds_254 : decode cL_holds 254 = .ok (.aload_n 0, 1) := by decide +kernel
theorem dL_holds_255 : decode cL_holds 255 = .ok (.iconst 4, 1) := by decide +kernel
theorem dL_holds_256 : decode cL_holds 256 = .ok (.invokevirtual 22, 3) := by decide +kernel
theorem dL_holds_259 : decode cL_holds 259 = .ok (.iload_n 2, 1) := by decide +kernel
theorem dL_holds_260 : decode cL_holds 260 = .ok (.if_icmp .gt 128, 3) := by decide +kernel
theorem dL_holds_263 : decode cL_holds 263 = .ok (.aload_n 0, 1) := by decide +kernel
theorem dL_holds_264 : decode cL_holds 264 = .ok (.iconst 4, 1) := by decide +kernel
theorem dL_holds_265 : decode cL_holds 265 = .ok (.invokevirtual 22, 3) := by decide +kernel
theorem dL_holds_268 : decode cL_holds 268 = .ok (.ifCond .le 7, 3) := by decide +kernel
theorem dL_holds_271 : decode cL_holds 271 = .ok (.iconst 1, 1) := by decide +kernel
theorem dL_holds_272 : decode cL_holds 272 = .ok (.goto 4, 3) := by decide +kernel
theorem dL_holds_275 : decode cL_holds 275 = .ok (.iconst 0, 1) := by decide +kernel
theorem dL_holds_276 : decode cL_holds 276 = .ok (.iload_n 2, 1) := by decide +kernel
theorem dL_holds_277 : decode cL_holds 277 = .ok (.ifCond .le 7, 3) := by decide +kernel
theorem dL_holds_280 : decode cL_holds 280 = .ok (.iconst 1, 1) := by decide +kernel
theorem dL_holds_281 : decode cL_holds 281 = .ok (.goto 4, 3) := by decide +kernel
theorem dL_holds_284 : decode cL_holds 284 = .ok (.iconst 0, 1) := by decide +kernel
theorem dL_holds_285 : decode cL_holds 285 = .ok (.if_icmp .ne 103, 3) := by decide +kernel
theorem dL_holds_288 : decode cL_holds 288 = .ok (.aload_n 0, 1) := by decide +kernel
theorem dL_holds_289 : decode cL_holds 289 = .ok (.iconst 5, 1) := by decide +kernel
theorem dL_holds_290 : decode cL_holds 290 = .ok (.invokevirtual 22, 3) := by decide +kernel
theorem dL_holds_293 : decode cL_holds 293 = .ok (.iload 4, 2) := by decide +kernel
theorem dL_holds_295 : decode cL_holds 295 = .ok (.if_icmp .lt 93, 3) := by decide +kernel
theorem dL_holds_298 : decode cL_holds 298 = .ok (.aload_n 0, 1) := by decide +kernel
theorem dL_holds_299 : decode cL_holds 299 = .ok (.bipush 6, 2) := by decide +kernel
theorem dL_holds_301 : decode cL_holds 301 = .ok (.invokevirtual 22, 3) := by decide +kernel
theorem dL_holds_304 : decode cL_holds 304 = .ok (.iload 5, 2) := by decide +kernel
theorem dL_holds_306 : decode cL_holds 306 = .ok (.if_icmp .lt 82, 3) := by decide +kernel
theorem dL_holds_309 : decode cL_holds 309 = .ok (.aload_n 0, 1) := by decide +kernel
theorem dL_holds_310 : decode cL_holds 310 = .ok (.bipush 7, 2) := by decide +kernel
theorem dL_holds_312 : decode cL_holds 312 = .ok (.invokevirtual 22, 3) := by decide +kernel
theorem dL_holds_315 : decode cL_holds 315 = .ok (.aload_n 0, 1) := by decide +kernel
theorem dL_holds_316 : decode cL_holds 316 = .ok (.iconst 0, 1) := by decide +kernel
theorem dL_holds_317 : decode cL_holds 317 = .ok (.invokevirtual 22, 3) := by decide +kernel
theorem dL_holds_320 : decode cL_holds 320 = .ok (.if_icmp .gt 68, 3) := by decide +kernel
theorem dL_holds_323 : decode cL_holds 323 = .ok (.aload_n 0, 1) := by decide +kernel
theorem dL_holds_324 : decode cL_holds 324 = .ok (.bipush 8, 2) := by decide +kernel
theorem dL_holds_326 : decode cL_holds 326 = .ok (.invokevirtual 22, 3) := by decide +kernel
theorem dL_holds_329 : decode cL_holds 329 = .ok (.bipush 16, 2) := by decide +kernel
theorem dL_holds_331 : decode cL_holds 331 = .ok (.if_icmp .gt 57, 3) := by decide +kernel
theorem dL_holds_334 : decode cL_holds 334 = .ok (.aload_n 0, 1) := by decide +kernel
theorem dL_holds_335 : decode cL_holds 335 = .ok (.bipush 8, 2) := by decide +kernel
theorem dL_holds_337 : decode cL_holds 337 = .ok (.invokevirtual 22, 3) := by decide +kernel
theorem dL_holds_340 : decode cL_holds 340 = .ok (.iconst 1, 1) := by decide +kernel
theorem dL_holds_341 : decode cL_holds 341 = .ok (.if_icmp .eq 47, 3) := by decide +kernel
theorem dL_holds_344 : decode cL_holds 344 = .ok (.aload_n 0, 1) := by decide +kernel
theorem dL_holds_345 : decode cL_holds 345 = .ok (.bipush 8, 2) := by decide +kernel
theorem dL_holds_347 : decode cL_holds 347 = .ok (.invokevirtual 22, 3) := by decide +kernel
theorem dL_holds_350 : decode cL_holds 350 = .ok (.ifCond .ne 7, 3) := by decide +kernel
theorem dL_holds_353 : decode cL_holds 353 = .ok (.iconst 1, 1) := by decide +kernel
theorem dL_holds_354 : decode cL_holds 354 = .ok (.goto 4, 3) := by decide +kernel
theorem dL_holds_357 : decode cL_holds 357 = .ok (.iconst 0, 1) := by decide +kernel
theorem dL_holds_358 : decode cL_holds 358 = .ok (.aload_n 0, 1) := by decide +kernel
theorem dL_holds_359 : decode cL_holds 359 = .ok (.bipush 7, 2) := by decide +kernel
theorem dL_holds_361 : decode cL_holds 361 = .ok (.invokevirtual 22, 3) := by decide +kernel
theorem dL_holds_364 : decode cL_holds 364 = .ok (.ifCond .ne 7, 3) := by decide +kernel
theorem dL_holds_367 : decode cL_holds 367 = .ok (.iconst 1, 1) := by decide +kernel
theorem dL_holds_368 : decode cL_holds 368 = .ok (.goto 4, 3) := by decide +kernel
theorem dL_holds_371 : decode cL_holds 371 = .ok (.iconst 0, 1) := by decide +kernel
theorem dL_holds_372 : decode cL_holds 372 = .ok (.if_icmp .ne 16, 3) := by decide +kernel
theorem dL_holds_375 : decode cL_holds 375 = .ok (.aload_n 0, 1) := by decide +kernel
theorem dL_holds_376 : decode cL_holds 376 = .ok (.invokevirtual 35, 3) := by decide +kernel
theorem dL_holds_379 : decode cL_holds 379 = .ok (.iload 6, 2) := by decide +kernel
theorem dL_holds_381 : decode cL_holds 381 = .ok (.if_icmp .ne 7, 3) := by decide +kernel
theorem dL_holds_384 : decode cL_holds 384 = .ok (.iconst 1, 1) := by decide +kernel
theorem dL_holds_385 : decode cL_holds 385 = .ok (.goto 4, 3) := by decide +kernel
theorem dL_holds_388 : decode cL_holds 388 = .ok (.iconst 0, 1) := by decide +kernel
theorem dL_holds_389 : decode cL_holds 389 = .ok (.istore 7, 2) := by decide +kernel
theorem dL_holds_391 : decode cL_holds 391 = .ok (.aload_n 0, 1) := by decide +kernel
theorem dL_holds_392 : decode cL_holds 392 = .ok (.invokevirtual 39, 3) := by decide +kernel
theorem dL_holds_395 : decode cL_holds 395 = .ok (.istore 8, 2) := by decide +kernel
theorem dL_holds_397 : decode cL_holds 397 = .ok (.iload 7, 2) := by decide +kernel
theorem dL_holds_399 : decode cL_holds 399 = .ok (.ifCond .eq 106, 3) := by decide +kernel
theorem dL_holds_402 : decode cL_holds 402 = .ok (.iload 8, 2) := by decide +kernel
theorem dL_holds_404 : decode cL_holds 404 = .ok (.ifCond .ne 7, 3) := by decide +kernel
theorem dL_holds_407 : decode cL_holds 407 = .ok (.iconst 1, 1) := by decide +kernel
theorem dL_holds_408 : decode cL_holds 408 = .ok (.goto 4, 3) := by decide +kernel
theorem dL_holds_411 : decode cL_holds 411 = .ok (.iconst 0, 1) := by decide +kernel
theorem dL_holds_412 : decode cL_holds 412 = .ok (.iload 6, 2) := by decide +kernel
theorem dL_holds_414 : decode cL_holds 414 = .ok (.ifCond .ne 7, 3) := by decide +kernel
theorem dL_holds_417 : decode cL_holds 417 = .ok (.iconst 1, 1) := by decide +kernel
theorem dL_holds_418 : decode cL_holds 418 = .ok (.goto 4, 3) := by decide +kernel
theorem dL_holds_421 : decode cL_holds 421 = .ok (.iconst 0, 1) := by decide +kernel
theorem dL_holds_422 : decode cL_holds 422 = .ok (.if_icmp .ne 83, 3) := by decide +kernel
theorem dL_holds_425 : decode cL_holds 425 = .ok (.iload_n 2, 1) := by decide +kernel
theorem dL_holds_426 : decode cL_holds 426 = .ok (.ifCond .gt 28, 3) := by decide +kernel
theorem dL_holds_429 : decode cL_holds 429 = .ok (.iload 8, 2) := by decide +kernel
theorem dL_holds_431 : decode cL_holds 431 = .ok (.bipush (-5), 2) := by decide +kernel
theorem dL_holds_433 : decode cL_holds 433 = .ok (.if_icmp .ne 72, 3) := by decide +kernel
theorem dL_holds_436 : decode cL_holds 436 = .ok (.aload_n 0, 1) := by decide +kernel
theorem dL_holds_437 : decode cL_holds 437 = .ok (.iconst 0, 1) := by decide +kernel
theorem dL_holds_438 : decode cL_holds 438 = .ok (.invokevirtual 42, 3) := by decide +kernel
theorem dL_holds_441 : decode cL_holds 441 = .ok (.bipush (-5), 2) := by decide +kernel
theorem dL_holds_443 : decode cL_holds 443 = .ok (.if_icmp .ne 62, 3) := by decide +kernel
theorem dL_holds_446 : decode cL_holds 446 = .ok (.aload_n 0, 1) := by decide +kernel
theorem dL_holds_447 : decode cL_holds 447 = .ok (.invokevirtual 45, 3) := by decide +kernel
theorem dL_holds_450 : decode cL_holds 450 = .ok (.iconst 1, 1) := by decide +kernel
theorem dL_holds_451 : decode cL_holds 451 = .ok (.if_icmp .ne 54, 3) := by decide +kernel
theorem dL_holds_454 : decode cL_holds 454 = .ok (.aload_n 0, 1) := by decide +kernel
theorem dL_holds_455 : decode cL_holds 455 = .ok (.invokevirtual 45, 3) := by decide +kernel
theorem dL_holds_458 : decode cL_holds 458 = .ok (.iconst 2, 1) := by decide +kernel
theorem dL_holds_459 : decode cL_holds 459 = .ok (.if_icmp .ne 7, 3) := by decide +kernel
theorem dL_holds_462 : decode cL_holds 462 = .ok (.iconst 1, 1) := by decide +kernel
theorem dL_holds_463 : decode cL_holds 463 = .ok (.goto 4, 3) := by decide +kernel
theorem dL_holds_466 : decode cL_holds 466 = .ok (.iconst 0, 1) := by decide +kernel
theorem dL_holds_467 : decode cL_holds 467 = .ok (.aload_n 0, 1) := by decide +kernel
theorem dL_holds_468 : decode cL_holds 468 = .ok (.iconst 4, 1) := by decide +kernel
theorem dL_holds_469 : decode cL_holds 469 = .ok (.invokevirtual 22, 3) := by decide +kernel
theorem dL_holds_472 : decode cL_holds 472 = .ok (.iconst 1, 1) := by decide +kernel
theorem dL_holds_473 : decode cL_holds 473 = .ok (.if_icmp .le 12, 3) := by decide +kernel
theorem dL_holds_476 : decode cL_holds 476 = .ok (.iload 6, 2) := by decide +kernel
theorem dL_holds_478 : decode cL_holds 478 = .ok (.ifCond .le 7, 3) := by decide +kernel
theorem dL_holds_481 : decode cL_holds 481 = .ok (.iconst 1, 1) := by decide +kernel
theorem dL_holds_482 : decode cL_holds 482 = .ok (.goto 4, 3) := by decide +kernel
theorem dL_holds_485 : decode cL_holds 485 = .ok (.iconst 0, 1) := by decide +kernel
theorem dL_holds_486 : decode cL_holds 486 = .ok (.if_icmp .ne 19, 3) := by decide +kernel
theorem dL_holds_489 : decode cL_holds 489 = .ok (.iload 6, 2) := by decide +kernel
theorem dL_holds_491 : decode cL_holds 491 = .ok (.ifCond .ne 10, 3) := by decide +kernel
theorem dL_holds_494 : decode cL_holds 494 = .ok (.aload_n 0, 1) := by decide +kernel
theorem dL_holds_495 : decode cL_holds 495 = .ok (.invokevirtual 45, 3) := by decide +kernel
theorem dL_holds_498 : decode cL_holds 498 = .ok (.ifCond .ne 7, 3) := by decide +kernel
theorem dL_holds_501 : decode cL_holds 501 = .ok (.iconst 1, 1) := by decide +kernel
theorem dL_holds_502 : decode cL_holds 502 = .ok (.goto 4, 3) := by decide +kernel
theorem dL_holds_505 : decode cL_holds 505 = .ok (.iconst 0, 1) := by decide +kernel
theorem dL_holds_506 : decode cL_holds 506 = .ok (.ireturn, 1) := by decide +kernel
theorem dL_tale_0 : decode cL_tale 0 = .ok (.ldc2_w 48, 3) := by decide +kernel
theorem dL_tale_3 : decode cL_tale 3 = .ok (.lstore_n 1, 1) := by decide +kernel
theorem dL_tale_4 : decode cL_tale 4 = .ok (.iconst 0, 1) := by decide +kernel
theorem dL_tale_5 : decode cL_tale 5 = .ok (.istore_n 3, 1) := by decide +kernel
theorem dL_tale_6 : decode cL_tale 6 = .ok (.iload_n 3, 1) := by decide +kernel
theorem dL_tale_7 : decode cL_tale 7 = .ok (.bipush 12, 2) := by decide +kernel
theorem dL_tale_9 : decode cL_tale 9 = .ok (.if_icmp .ge 22, 3) := by decide +kernel
theorem dL_tale_12 : decode cL_tale 12 = .ok (.ldc2_w 50, 3) := by decide +kernel
theorem dL_tale_15 : decode cL_tale 15 = .ok (.lload_n 1, 1) := by decide +kernel
theorem dL_tale_16 : decode cL_tale 16 = .ok (.lmul, 1) := by decide +kernel
theorem dL_tale_17 : decode cL_tale 17 = .ok (.aload_n 0, 1) := by decide +kernel
theorem dL_tale_18 : decode cL_tale 18 = .ok (.iload_n 3, 1) := by decide +kernel
theorem dL_tale_19 : decode cL_tale 19 = .ok (.invokevirtual 22, 3) := by decide +kernel
theorem dL_tale_22 : decode cL_tale 22 = .ok (.i2l, 1) := by decide +kernel
theorem dL_tale_23 : decode cL_tale 23 = .ok (.ladd, 1) := by decide +kernel
theorem dL_tale_24 : decode cL_tale 24 = .ok (.lstore_n 1, 1) := by decide +kernel
theorem dL_tale_25 : decode cL_tale 25 = .ok (.iinc 3 1, 3) := by decide +kernel
theorem dL_tale_28 : decode cL_tale 28 = .ok (.goto (-22), 3) := by decide +kernel
theorem dL_tale_31 : decode cL_tale 31 = .ok (.iconst 0, 1) := by decide +kernel
theorem dL_tale_32 : decode cL_tale 32 = .ok (.istore_n 3, 1) := by decide +kernel
theorem dL_tale_33 : decode cL_tale 33 = .ok (.iload_n 3, 1) := by decide +kernel
theorem dL_tale_34 : decode cL_tale 34 = .ok (.sipush 160, 3) := by decide +kernel
theorem dL_tale_37 : decode cL_tale 37 = .ok (.if_icmp .ge 29, 3) := by decide +kernel
theorem dL_tale_40 : decode cL_tale 40 = .ok (.ldc2_w 50, 3) := by decide +kernel
theorem dL_tale_43 : decode cL_tale 43 = .ok (.lload_n 1, 1) := by decide +kernel
theorem dL_tale_44 : decode cL_tale 44 = .ok (.lmul, 1) := by decide +kernel
theorem dL_tale_45 : decode cL_tale 45 = .ok (.aload_n 0, 1) := by decide +kernel
theorem dL_tale_46 : decode cL_tale 46 = .ok (.iload_n 3, 1) := by decide +kernel
theorem dL_tale_47 : decode cL_tale 47 = .ok (.bipush 10, 2) := by decide +kernel
theorem dL_tale_49 : decode cL_tale 49 = .ok (.idiv, 1) := by decide +kernel
theorem dL_tale_50 : decode cL_tale 50 = .ok (.iload_n 3, 1) := by decide +kernel
theorem dL_tale_51 : decode cL_tale 51 = .ok (.bipush 10, 2) := by decide +kernel
theorem dL_tale_53 : decode cL_tale 53 = .ok (.irem, 1) := by decide +kernel
theorem dL_tale_54 : decode cL_tale 54 = .ok (.invokevirtual 10, 3) := by decide +kernel
theorem dL_tale_57 : decode cL_tale 57 = .ok (.i2l, 1) := by decide +kernel
theorem dL_tale_58 : decode cL_tale 58 = .ok (.ladd, 1) := by decide +kernel
theorem dL_tale_59 : decode cL_tale 59 = .ok (.lstore_n 1, 1) := by decide +kernel
theorem dL_tale_60 : decode cL_tale 60 = .ok (.iinc 3 1, 3) := by decide +kernel
theorem dL_tale_63 : decode cL_tale 63 = .ok (.goto (-30), 3) := by decide +kernel
theorem dL_tale_66 : decode cL_tale 66 = .ok (.lload_n 1, 1) := by decide +kernel
theorem dL_tale_67 : decode cL_tale 67 = .ok (.lreturn, 1) := by decide +kernel
theorem dL_nextSo_0 : decode cL_nextSo 0 = .ok (.aload_n 0, 1) := by decide +kernel
theorem dL_nextSo_1 : decode cL_nextSo 1 = .ok (.iconst 0, 1) := by decide +kernel
theorem dL_nextSo_2 : decode cL_nextSo 2 = .ok (.invokevirtual 42, 3) := by decide +kernel
theorem dL_nextSo_5 : decode cL_nextSo 5 = .ok (.istore_n 1, 1) := by decide +kernel
theorem dL_nextSo_6 : decode cL_nextSo 6 = .ok (.aload_n 0, 1) := by decide +kernel
theorem dL_nextSo_7 : decode cL_nextSo 7 = .ok (.iconst 1, 1) := by decide +kernel
theorem dL_nextSo_8 : decode cL_nextSo 8 = .ok (.invokevirtual 42, 3) := by decide +kernel
theorem dL_nextSo_11 : decode cL_nextSo 11 = .ok (.istore_n 2, 1) := by decide +kernel
theorem dL_nextSo_12 : decode cL_nextSo 12 = .ok (.aload_n 0, 1) := by decide +kernel
theorem dL_nextSo_13 : decode cL_nextSo 13 = .ok (.iconst 0, 1) := by decide +kernel
theorem dL_nextSo_14 : decode cL_nextSo 14 = .ok (.invokevirtual 22, 3) := by decide +kernel
theorem dL_nextSo_17 : decode cL_nextSo 17 = .ok (.istore_n 3, 1) := by decide +kernel
theorem dL_nextSo_18 : decode cL_nextSo 18 = .ok (.aload_n 0, 1) := by decide +kernel
theorem dL_nextSo_19 : decode cL_nextSo 19 = .ok (.iconst 5, 1) := by decide +kernel
theorem dL_nextSo_20 : decode cL_nextSo 20 = .ok (.invokevirtual 22, 3) := by decide +kernel
theorem dL_nextSo_23 : decode cL_nextSo 23 = .ok (.istore 4, 2) := by decide +kernel
theorem dL_nextSo_25 : decode cL_nextSo 25 = .ok (.iconst 0, 1) := by decide +kernel
theorem dL_nextSo_26 : decode cL_nextSo 26 = .ok (.istore 5, 2) := by decide +kernel
theorem dL_nextSo_28 : decode cL_nextSo 28 = .ok (.iload_n 1, 1) := by decide +kernel
theorem dL_nextSo_29 : decode cL_nextSo 29 = .ok (.bipush (-5), 2) := by decide +kernel
theorem dL_nextSo_31 : decode cL_nextSo 31 = .ok (.if_icmp .ne 23, 3) := by decide +kernel
theorem dL_nextSo_34 : decode cL_nextSo 34 = .ok (.iload_n 2, 1) := by decide +kernel
theorem dL_nextSo_35 : decode cL_nextSo 35 = .ok (.bipush (-5), 2) := by decide +kernel
theorem dL_nextSo_37 : decode cL_nextSo 37 = .ok (.if_icmp .ne 15, 3) := by decide +kernel
theorem dL_nextSo_40 : decode cL_nextSo 40 = .ok (.aload_n 0, 1) := by decide +kernel
theorem dL_nextSo_41 : decode cL_nextSo 41 = .ok (.iconst 2, 1) := by decide +kernel
theorem dL_nextSo_42 : decode cL_nextSo 42 = .ok (.invokevirtual 22, 3) := by decide +kernel
theorem dL_nextSo_45 : decode cL_nextSo 45 = .ok (.ifCond .ne 7, 3) := by decide +kernel
theorem dL_nextSo_48 : decode cL_nextSo 48 = .ok (.iconst 1, 1) := by decide +kernel
theorem dL_nextSo_49 : decode cL_nextSo 49 = .ok (.goto 4, 3) := by decide +kernel
theorem dL_nextSo_52 : decode cL_nextSo 52 = .ok (.iconst 0, 1) := by decide +kernel
theorem dL_nextSo_53 : decode cL_nextSo 53 = .ok (.ireturn, 1) := by decide +kernel
theorem dL_nextSo_54 : decode cL_nextSo 54 = .ok (.iload_n 1, 1) := by decide +kernel
theorem dL_nextSo_55 : decode cL_nextSo 55 = .ok (.ifCond .le 47, 3) := by decide +kernel
theorem dL_nextSo_58 : decode cL_nextSo 58 = .ok (.iload_n 1, 1) := by decide +kernel
theorem dL_nextSo_59 : decode cL_nextSo 59 = .ok (.sipush 400, 3) := by decide +kernel
theorem dL_nextSo_62 : decode cL_nextSo 62 = .ok (.if_icmp .gt 40, 3) := by decide +kernel
theorem dL_nextSo_65 : decode cL_nextSo 65 = .ok (.iload_n 1, 1) := by decide +kernel
theorem dL_nextSo_66 : decode cL_nextSo 66 = .ok (.iconst 1, 1) := by decide +kernel
theorem dL_nextSo_67 : decode cL_nextSo 67 = .ok (.if_icmp .eq 23, 3) := by decide +kernel
theorem dL_nextSo_70 : decode cL_nextSo 70 = .ok (.aload_n 0, 1) := by decide +kernel
theorem dL_nextSo_71 : decode cL_nextSo 71 = .ok (.iload_n 1, 1) := by decide +kernel
theorem dL_nextSo_72 : decode cL_nextSo 72 = .ok (.iconst 1, 1) := by decide +kernel
theorem dL_nextSo_73 : decode cL_nextSo 73 = .ok (.isub, 1) := by decide +kernel
theorem dL_nextSo_74 : decode cL_nextSo 74 = .ok (.invokevirtual 52, 3) := by decide +kernel
theorem dL_nextSo_77 : decode cL_nextSo 77 = .ok (.ifCond .ne 25, 3) := by decide +kernel
theorem dL_nextSo_80 : decode cL_nextSo 80 = .ok (.aload_n 0, 1) := by decide +kernel
theorem dL_nextSo_81 : decode cL_nextSo 81 = .ok (.iconst 5, 1) := by decide +kernel
theorem dL_nextSo_82 : decode cL_nextSo 82 = .ok (.invokevirtual 22, 3) := by decide +kernel
theorem dL_nextSo_85 : decode cL_nextSo 85 = .ok (.iload 4, 2) := by decide +kernel
theorem dL_nextSo_87 : decode cL_nextSo 87 = .ok (.if_icmp .ne 15, 3) := by decide +kernel
theorem dL_nextSo_90 : decode cL_nextSo 90 = .ok (.aload_n 0, 1) := by decide +kernel
theorem dL_nextSo_91 : decode cL_nextSo 91 = .ok (.iconst 1, 1) := by decide +kernel
theorem dL_nextSo_92 : decode cL_nextSo 92 = .ok (.invokevirtual 52, 3) := by decide +kernel
theorem dL_nextSo_95 : decode cL_nextSo 95 = .ok (.ifCond .le 7, 3) := by decide +kernel
theorem dL_nextSo_98 : decode cL_nextSo 98 = .ok (.iconst 1, 1) := by decide +kernel
theorem dL_nextSo_99 : decode cL_nextSo 99 = .ok (.goto 4, 3) := by decide +kernel
theorem dL_nextSo_102 : decode cL_nextSo 102 = .ok (.iconst 0, 1) := by decide +kernel
theorem dL_nextSo_103 : decode cL_nextSo 103 = .ok (.istore 6, 2) := by decide +kernel
theorem dL_nextSo_105 : decode cL_nextSo 105 = .ok (.iconst 0, 1) := by decide +kernel
theorem dL_nextSo_106 : decode cL_nextSo 106 = .ok (.istore 7, 2) := by decide +kernel
theorem dL_nextSo_108 : decode cL_nextSo 108 = .ok (.iload 7, 2) := by decide +kernel
theorem dL_nextSo_110 : decode cL_nextSo 110 = .ok (.bipush 16, 2) := by decide +kernel
theorem dL_nextSo_112 : decode cL_nextSo 112 = .ok (.if_icmp .ge 77, 3) := by decide +kernel
theorem dL_nextSo_115 : decode cL_nextSo 115 = .ok (.iload 5, 2) := by decide +kernel
theorem dL_nextSo_117 : decode cL_nextSo 117 = .ok (.iload_n 2, 1) := by decide +kernel
theorem dL_nextSo_118 : decode cL_nextSo 118 = .ok (.iload 7, 2) := by decide +kernel
theorem dL_nextSo_120 : decode cL_nextSo 120 = .ok (.ishr, 1) := by decide +kernel
theorem dL_nextSo_121 : decode cL_nextSo 121 = .ok (.iconst 1, 1) := by decide +kernel
theorem dL_nextSo_122 : decode cL_nextSo 122 = .ok (.iand, 1) := by decide +kernel
theorem dL_nextSo_123 : decode cL_nextSo 123 = .ok (.iadd, 1) := by decide +kernel
theorem dL_nextSo_124 : decode cL_nextSo 124 = .ok (.istore 5, 2) := by decide +kernel
theorem dL_nextSo_126 : decode cL_nextSo 126 = .ok (.iload 6, 2) := by decide +kernel
theorem dL_nextSo_128 : decode cL_nextSo 128 = .ok (.ifCond .eq 52, 3) := by decide +kernel
theorem dL_nextSo_131 : decode cL_nextSo 131 = .ok (.iload_n 2, 1) := by decide +kernel
theorem dL_nextSo_132 : decode cL_nextSo 132 = .ok (.iload 7, 2) := by decide +kernel
theorem dL_nextSo_134 : decode cL_nextSo 134 = .ok (.ishr, 1) := by decide +kernel
theorem dL_nextSo_135 : decode cL_nextSo 135 = .ok (.iconst 1, 1) := by decide +kernel
theorem dL_nextSo_136 : decode cL_nextSo 136 = .ok (.iand, 1) := by decide +kernel
theorem dL_nextSo_137 : decode cL_nextSo 137 = .ok (.iconst 1, 1) := by decide +kernel
theorem dL_nextSo_138 : decode cL_nextSo 138 = .ok (.if_icmp .ne 7, 3) := by decide +kernel
theorem dL_nextSo_141 : decode cL_nextSo 141 = .ok (.iconst 1, 1) := by decide +kernel
theorem dL_nextSo_142 : decode cL_nextSo 142 = .ok (.goto 4, 3) := by decide +kernel
theorem dL_nextSo_145 : decode cL_nextSo 145 = .ok (.iconst 0, 1) := by decide +kernel
theorem dL_nextSo_146 : decode cL_nextSo 146 = .ok (.aload_n 0, 1) := by decide +kernel
theorem dL_nextSo_147 : decode cL_nextSo 147 = .ok (.iload 7, 2) := by decide +kernel
theorem dL_nextSo_149 : decode cL_nextSo 149 = .ok (.invokestatic 26, 3) := by decide +kernel
theorem dL_nextSo_152 : decode cL_nextSo 152 = .ok (.ifCond .eq 20, 3) := by decide +kernel
theorem dL_nextSo_155 : decode cL_nextSo 155 = .ok (.aload_n 0, 1) := by decide +kernel
theorem dL_nextSo_156 : decode cL_nextSo 156 = .ok (.iload 7, 2) := by decide +kernel
theorem dL_nextSo_158 : decode cL_nextSo 158 = .ok (.iconst 5, 1) := by decide +kernel
theorem dL_nextSo_159 : decode cL_nextSo 159 = .ok (.invokevirtual 10, 3) := by decide +kernel
theorem dL_nextSo_162 : decode cL_nextSo 162 = .ok (.iload_n 3, 1) := by decide +kernel
theorem dL_nextSo_163 : decode cL_nextSo 163 = .ok (.iload_n 1, 1) := by decide +kernel
theorem dL_nextSo_164 : decode cL_nextSo 164 = .ok (.iadd, 1) := by decide +kernel
theorem dL_nextSo_165 : decode cL_nextSo 165 = .ok (.if_icmp .ne 7, 3) := by decide +kernel
theorem dL_nextSo_168 : decode cL_nextSo 168 = .ok (.iconst 1, 1) := by decide +kernel
theorem dL_nextSo_169 : decode cL_nextSo 169 = .ok (.goto 4, 3) := by decide +kernel
theorem dL_nextSo_172 : decode cL_nextSo 172 = .ok (.iconst 0, 1) := by decide +kernel
theorem dL_nextSo_173 : decode cL_nextSo 173 = .ok (.if_icmp .ne 7, 3) := by decide +kernel
theorem dL_nextSo_176 : decode cL_nextSo 176 = .ok (.iconst 1, 1) := by decide +kernel
theorem dL_nextSo_177 : decode cL_nextSo 177 = .ok (.goto 4, 3) := by decide +kernel
theorem dL_nextSo_180 : decode cL_nextSo 180 = .ok (.iconst 0, 1) := by decide +kernel
theorem dL_nextSo_181 : decode cL_nextSo 181 = .ok (.istore 6, 2) := by decide +kernel
theorem dL_nextSo_183 : decode cL_nextSo 183 = .ok (.iinc 7 1, 3) := by decide +kernel
theorem dL_nextSo_186 : decode cL_nextSo 186 = .ok (.goto (-78), 3) := by decide +kernel
theorem dL_nextSo_189 : decode cL_nextSo 189 = .ok (.iload 6, 2) := by decide +kernel
theorem dL_nextSo_191 : decode cL_nextSo 191 = .ok (.ifCond .eq 59, 3) := by decide +kernel
theorem dL_nextSo_194 : decode cL_nextSo 194 = .ok (.aload_n 0, 1) := by decide +kernel
theorem dL_nextSo_195 : decode cL_nextSo 195 = .ok (.iconst 5, 1) := by decide +kernel
theorem dL_nextSo_196 : decode cL_nextSo 196 = .ok (.invokevirtual 22, 3) := by decide +kernel
theorem dL_nextSo_199 : decode cL_nextSo 199 = .ok (.iload 4, 2) := by decide +kernel
theorem dL_nextSo_201 : decode cL_nextSo 201 = .ok (.iload 5, 2) := by decide +kernel
theorem dL_nextSo_203 : decode cL_nextSo 203 = .ok (.iadd, 1) := by decide +kernel
theorem dL_nextSo_204 : decode cL_nextSo 204 = .ok (.if_icmp .ne 46, 3) := by decide +kernel
theorem dL_nextSo_207 : decode cL_nextSo 207 = .ok (.aload_n 0, 1) := by decide +kernel
theorem dL_nextSo_208 : decode cL_nextSo 208 = .ok (.iconst 0, 1) := by decide +kernel
theorem dL_nextSo_209 : decode cL_nextSo 209 = .ok (.invokevirtual 22, 3) := by decide +kernel
theorem dL_nextSo_212 : decode cL_nextSo 212 = .ok (.iload_n 3, 1) := by decide +kernel
theorem dL_nextSo_213 : decode cL_nextSo 213 = .ok (.iload_n 1, 1) := by decide +kernel
theorem dL_nextSo_214 : decode cL_nextSo 214 = .ok (.iadd, 1) := by decide +kernel
theorem dL_nextSo_215 : decode cL_nextSo 215 = .ok (.if_icmp .ne 35, 3) := by decide +kernel
theorem dL_nextSo_218 : decode cL_nextSo 218 = .ok (.aload_n 0, 1) := by decide +kernel
theorem dL_nextSo_219 : decode cL_nextSo 219 = .ok (.invokevirtual 55, 3) := by decide +kernel
theorem dL_nextSo_222 : decode cL_nextSo 222 = .ok (.ifCond .lt 28, 3) := by decide +kernel
theorem dL_nextSo_225 : decode cL_nextSo 225 = .ok (.iload_n 1, 1) := by decide +kernel
theorem dL_nextSo_226 : decode cL_nextSo 226 = .ok (.iconst 1, 1) := by decide +kernel
theorem dL_nextSo_227 : decode cL_nextSo 227 = .ok (.if_icmp .eq 10, 3) := by decide +kernel
theorem dL_nextSo_230 : decode cL_nextSo 230 = .ok (.aload_n 0, 1) := by decide +kernel
theorem dL_nextSo_231 : decode cL_nextSo 231 = .ok (.invokevirtual 55, 3) := by decide +kernel
theorem dL_nextSo_234 : decode cL_nextSo 234 = .ok (.ifCond .lt 16, 3) := by decide +kernel
theorem dL_nextSo_237 : decode cL_nextSo 237 = .ok (.aload_n 0, 1) := by decide +kernel
theorem dL_nextSo_238 : decode cL_nextSo 238 = .ok (.iconst 0, 1) := by decide +kernel
theorem dL_nextSo_239 : decode cL_nextSo 239 = .ok (.invokevirtual 22, 3) := by decide +kernel
theorem dL_nextSo_242 : decode cL_nextSo 242 = .ok (.iload_n 3, 1) := by decide +kernel
theorem dL_nextSo_243 : decode cL_nextSo 243 = .ok (.if_icmp .ne 7, 3) := by decide +kernel
theorem dL_nextSo_246 : decode cL_nextSo 246 = .ok (.iconst 1, 1) := by decide +kernel
theorem dL_nextSo_247 : decode cL_nextSo 247 = .ok (.goto 4, 3) := by decide +kernel
theorem dL_nextSo_250 : decode cL_nextSo 250 = .ok (.iconst 0, 1) := by decide +kernel
theorem dL_nextSo_251 : decode cL_nextSo 251 = .ok (.ireturn, 1) := by decide +kernel
theorem dL_togetherSo_0 : decode cL_togetherSo 0 = .ok (.aload_n 0, 1) := by decide +kernel
theorem dL_togetherSo_1 : decode cL_togetherSo 1 = .ok (.invokevirtual 39, 3) := by decide +kernel
theorem dL_togetherSo_4 : decode cL_togetherSo 4 = .ok (.istore_n 1, 1) := by decide +kernel
theorem dL_togetherSo_5 : decode cL_togetherSo 5 = .ok (.iload_n 1, 1) := by decide +kernel
theorem dL_togetherSo_6 : decode cL_togetherSo 6 = .ok (.iconst 1, 1) := by decide +kernel
theorem dL_togetherSo_7 : decode cL_togetherSo 7 = .ok (.if_icmp .lt 10, 3) := by decide +kernel
theorem dL_togetherSo_10 : decode cL_togetherSo 10 = .ok (.iload_n 1, 1) := by decide +kernel
theorem dL_togetherSo_11 : decode cL_togetherSo 11 = .ok (.sipush 999, 3) := by decide +kernel
theorem dL_togetherSo_14 : decode cL_togetherSo 14 = .ok (.if_icmp .le 62, 3) := by decide +kernel
theorem dL_togetherSo_17 : decode cL_togetherSo 17 = .ok (.iload_n 1, 1) := by decide +kernel
theorem dL_togetherSo_18 : decode cL_togetherSo 18 = .ok (.ifCond .eq 52, 3) := by decide +kernel
theorem dL_togetherSo_21 : decode cL_togetherSo 21 = .ok (.iload_n 1, 1) := by decide +kernel
theorem dL_togetherSo_22 : decode cL_togetherSo 22 = .ok (.bipush (-5), 2) := by decide +kernel
theorem dL_togetherSo_24 : decode cL_togetherSo 24 = .ok (.if_icmp .eq 46, 3) := by decide +kernel
theorem dL_togetherSo_27 : decode cL_togetherSo 27 = .ok (.iload_n 1, 1) := by decide +kernel
theorem dL_togetherSo_28 : decode cL_togetherSo 28 = .ok (.sipush 2000, 3) := by decide +kernel
theorem dL_togetherSo_31 : decode cL_togetherSo 31 = .ok (.if_icmp .gt 43, 3) := by decide +kernel
theorem dL_togetherSo_34 : decode cL_togetherSo 34 = .ok (.aload_n 0, 1) := by decide +kernel
theorem dL_togetherSo_35 : decode cL_togetherSo 35 = .ok (.sipush 999, 3) := by decide +kernel
theorem dL_togetherSo_38 : decode cL_togetherSo 38 = .ok (.invokevirtual 52, 3) := by decide +kernel
theorem dL_togetherSo_41 : decode cL_togetherSo 41 = .ok (.ifCond .lt 33, 3) := by decide +kernel
theorem dL_togetherSo_44 : decode cL_togetherSo 44 = .ok (.aload_n 0, 1) := by decide +kernel
theorem dL_togetherSo_45 : decode cL_togetherSo 45 = .ok (.invokevirtual 35, 3) := by decide +kernel
theorem dL_togetherSo_48 : decode cL_togetherSo 48 = .ok (.ifCond .le 26, 3) := by decide +kernel
theorem dL_togetherSo_51 : decode cL_togetherSo 51 = .ok (.aload_n 0, 1) := by decide +kernel
theorem dL_togetherSo_52 : decode cL_togetherSo 52 = .ok (.invokevirtual 39, 3) := by decide +kernel
theorem dL_togetherSo_55 : decode cL_togetherSo 55 = .ok (.iload_n 1, 1) := by decide +kernel
theorem dL_togetherSo_56 : decode cL_togetherSo 56 = .ok (.sipush 999, 3) := by decide +kernel
theorem dL_togetherSo_59 : decode cL_togetherSo 59 = .ok (.isub, 1) := by decide +kernel
theorem dL_togetherSo_60 : decode cL_togetherSo 60 = .ok (.if_icmp .ne 14, 3) := by decide +kernel
theorem dL_togetherSo_63 : decode cL_togetherSo 63 = .ok (.aload_n 0, 1) := by decide +kernel
theorem dL_togetherSo_64 : decode cL_togetherSo 64 = .ok (.invokevirtual 55, 3) := by decide +kernel
theorem dL_togetherSo_67 : decode cL_togetherSo 67 = .ok (.ifCond .lt 7, 3) := by decide +kernel
theorem dL_togetherSo_70 : decode cL_togetherSo 70 = .ok (.iconst 1, 1) := by decide +kernel
theorem dL_togetherSo_71 : decode cL_togetherSo 71 = .ok (.goto 4, 3) := by decide +kernel
theorem dL_togetherSo_74 : decode cL_togetherSo 74 = .ok (.iconst 0, 1) := by decide +kernel
theorem dL_togetherSo_75 : decode cL_togetherSo 75 = .ok (.ireturn, 1) := by decide +kernel
theorem dL_togetherSo_76 : decode cL_togetherSo 76 = .ok (.aload_n 0, 1) := by decide +kernel
theorem dL_togetherSo_77 : decode cL_togetherSo 77 = .ok (.iload_n 1, 1) := by decide +kernel
theorem dL_togetherSo_78 : decode cL_togetherSo 78 = .ok (.invokevirtual 52, 3) := by decide +kernel
theorem dL_togetherSo_81 : decode cL_togetherSo 81 = .ok (.ifCond .lt 21, 3) := by decide +kernel
theorem dL_togetherSo_84 : decode cL_togetherSo 84 = .ok (.aload_n 0, 1) := by decide +kernel
theorem dL_togetherSo_85 : decode cL_togetherSo 85 = .ok (.invokevirtual 35, 3) := by decide +kernel
theorem dL_togetherSo_88 : decode cL_togetherSo 88 = .ok (.ifCond .ne 14, 3) := by decide +kernel
theorem dL_togetherSo_91 : decode cL_togetherSo 91 = .ok (.aload_n 0, 1) := by decide +kernel
theorem dL_togetherSo_92 : decode cL_togetherSo 92 = .ok (.invokevirtual 55, 3) := by decide +kernel
theorem dL_togetherSo_95 : decode cL_togetherSo 95 = .ok (.ifCond .lt 7, 3) := by decide +kernel
theorem dL_togetherSo_98 : decode cL_togetherSo 98 = .ok (.iconst 1, 1) := by decide +kernel
theorem dL_togetherSo_99 : decode cL_togetherSo 99 = .ok (.goto 4, 3) := by decide +kernel
theorem dL_togetherSo_102 : decode cL_togetherSo 102 = .ok (.iconst 0, 1) := by decide +kernel
theorem dL_togetherSo_103 : decode cL_togetherSo 103 = .ok (.istore_n 2, 1) := by decide +kernel
theorem dL_togetherSo_104 : decode cL_togetherSo 104 = .ok (.iload_n 2, 1) := by decide +kernel
theorem dL_togetherSo_105 : decode cL_togetherSo 105 = .ok (.ifCond .eq 36, 3) := by decide +kernel
theorem dL_togetherSo_108 : decode cL_togetherSo 108 = .ok (.iload_n 1, 1) := by decide +kernel
theorem dL_togetherSo_109 : decode cL_togetherSo 109 = .ok (.iconst 1, 1) := by decide +kernel
theorem dL_togetherSo_110 : decode cL_togetherSo 110 = .ok (.if_icmp .eq 27, 3) := by decide +kernel
theorem dL_togetherSo_113 : decode cL_togetherSo 113 = .ok (.aload_n 0, 1) := by decide +kernel
theorem dL_togetherSo_114 : decode cL_togetherSo 114 = .ok (.iload_n 1, 1) := by decide +kernel
theorem dL_togetherSo_115 : decode cL_togetherSo 115 = .ok (.iconst 1, 1) := by decide +kernel
theorem dL_togetherSo_116 : decode cL_togetherSo 116 = .ok (.isub, 1) := by decide +kernel
theorem dL_togetherSo_117 : decode cL_togetherSo 117 = .ok (.invokevirtual 52, 3) := by decide +kernel
theorem dL_togetherSo_120 : decode cL_togetherSo 120 = .ok (.ifCond .lt 21, 3) := by decide +kernel
theorem dL_togetherSo_123 : decode cL_togetherSo 123 = .ok (.aload_n 0, 1) := by decide +kernel
theorem dL_togetherSo_124 : decode cL_togetherSo 124 = .ok (.invokevirtual 35, 3) := by decide +kernel
theorem dL_togetherSo_127 : decode cL_togetherSo 127 = .ok (.ifCond .le 14, 3) := by decide +kernel
theorem dL_togetherSo_130 : decode cL_togetherSo 130 = .ok (.aload_n 0, 1) := by decide +kernel
theorem dL_togetherSo_131 : decode cL_togetherSo 131 = .ok (.invokevirtual 55, 3) := by decide +kernel
theorem dL_togetherSo_134 : decode cL_togetherSo 134 = .ok (.ifCond .lt 7, 3) := by decide +kernel
theorem dL_togetherSo_137 : decode cL_togetherSo 137 = .ok (.iconst 1, 1) := by decide +kernel
theorem dL_togetherSo_138 : decode cL_togetherSo 138 = .ok (.goto 4, 3) := by decide +kernel
theorem dL_togetherSo_141 : decode cL_togetherSo 141 = .ok (.iconst 0, 1) := by decide +kernel
theorem dL_togetherSo_142 : decode cL_togetherSo 142 = .ok (.ireturn, 1) := by decide +kernel
theorem dL_linkedSo_0 : decode cL_linkedSo 0 = .ok (.aload_n 0, 1) := by decide +kernel
theorem dL_linkedSo_1 : decode cL_linkedSo 1 = .ok (.iload_n 1, 1) := by decide +kernel
theorem dL_linkedSo_2 : decode cL_linkedSo 2 = .ok (.iload_n 2, 1) := by decide +kernel
theorem dL_linkedSo_3 : decode cL_linkedSo 3 = .ok (.invokevirtual 58, 3) := by decide +kernel
theorem dL_linkedSo_6 : decode cL_linkedSo 6 = .ok (.istore_n 3, 1) := by decide +kernel
theorem dL_linkedSo_7 : decode cL_linkedSo 7 = .ok (.aload_n 0, 1) := by decide +kernel
theorem dL_linkedSo_8 : decode cL_linkedSo 8 = .ok (.iload_n 1, 1) := by decide +kernel
theorem dL_linkedSo_9 : decode cL_linkedSo 9 = .ok (.invokestatic 26, 3) := by decide +kernel
theorem dL_linkedSo_12 : decode cL_linkedSo 12 = .ok (.ifCond .eq 11, 3) := by decide +kernel
theorem dL_linkedSo_15 : decode cL_linkedSo 15 = .ok (.aload_n 0, 1) := by decide +kernel
theorem dL_linkedSo_16 : decode cL_linkedSo 16 = .ok (.iload_n 2, 1) := by decide +kernel
theorem dL_linkedSo_17 : decode cL_linkedSo 17 = .ok (.invokestatic 26, 3) := by decide +kernel
theorem dL_linkedSo_20 : decode cL_linkedSo 20 = .ok (.ifCond .ne 14, 3) := by decide +kernel
theorem dL_linkedSo_23 : decode cL_linkedSo 23 = .ok (.iload_n 3, 1) := by decide +kernel
theorem dL_linkedSo_24 : decode cL_linkedSo 24 = .ok (.iconst (-1), 1) := by decide +kernel
theorem dL_linkedSo_25 : decode cL_linkedSo 25 = .ok (.if_icmp .ne 7, 3) := by decide +kernel
theorem dL_linkedSo_28 : decode cL_linkedSo 28 = .ok (.iconst 1, 1) := by decide +kernel
theorem dL_linkedSo_29 : decode cL_linkedSo 29 = .ok (.goto 4, 3) := by decide +kernel
theorem dL_linkedSo_32 : decode cL_linkedSo 32 = .ok (.iconst 0, 1) := by decide +kernel
theorem dL_linkedSo_33 : decode cL_linkedSo 33 = .ok (.ireturn, 1) := by decide +kernel
theorem dL_linkedSo_34 : decode cL_linkedSo 34 = .ok (.iload_n 1, 1) := by decide +kernel
theorem dL_linkedSo_35 : decode cL_linkedSo 35 = .ok (.iload_n 2, 1) := by decide +kernel
theorem dL_linkedSo_36 : decode cL_linkedSo 36 = .ok (.if_icmp .ne 15, 3) := by decide +kernel
theorem dL_linkedSo_39 : decode cL_linkedSo 39 = .ok (.iload_n 3, 1) := by decide +kernel
theorem dL_linkedSo_40 : decode cL_linkedSo 40 = .ok (.bipush (-2), 2) := by decide +kernel
theorem dL_linkedSo_42 : decode cL_linkedSo 42 = .ok (.if_icmp .ne 7, 3) := by decide +kernel
theorem dL_linkedSo_45 : decode cL_linkedSo 45 = .ok (.iconst 1, 1) := by decide +kernel
theorem dL_linkedSo_46 : decode cL_linkedSo 46 = .ok (.goto 4, 3) := by decide +kernel
theorem dL_linkedSo_49 : decode cL_linkedSo 49 = .ok (.iconst 0, 1) := by decide +kernel
theorem dL_linkedSo_50 : decode cL_linkedSo 50 = .ok (.ireturn, 1) := by decide +kernel
theorem dL_linkedSo_51 : decode cL_linkedSo 51 = .ok (.aload_n 0, 1) := by decide +kernel
theorem dL_linkedSo_52 : decode cL_linkedSo 52 = .ok (.iload_n 1, 1) := by decide +kernel
theorem dL_linkedSo_53 : decode cL_linkedSo 53 = .ok (.bipush 6, 2) := by decide +kernel
theorem dL_linkedSo_55 : decode cL_linkedSo 55 = .ok (.invokevirtual 10, 3) := by decide +kernel
theorem dL_linkedSo_58 : decode cL_linkedSo 58 = .ok (.iload_n 2, 1) := by decide +kernel
theorem dL_linkedSo_59 : decode cL_linkedSo 59 = .ok (.ishr, 1) := by decide +kernel
theorem dL_linkedSo_60 : decode cL_linkedSo 60 = .ok (.iconst 1, 1) := by decide +kernel
theorem dL_linkedSo_61 : decode cL_linkedSo 61 = .ok (.iand, 1) := by decide +kernel
theorem dL_linkedSo_62 : decode cL_linkedSo 62 = .ok (.iconst 1, 1) := by decide +kernel
theorem dL_linkedSo_63 : decode cL_linkedSo 63 = .ok (.if_icmp .ne 7, 3) := by decide +kernel
theorem dL_linkedSo_66 : decode cL_linkedSo 66 = .ok (.iconst 1, 1) := by decide +kernel
theorem dL_linkedSo_67 : decode cL_linkedSo 67 = .ok (.goto 4, 3) := by decide +kernel
theorem dL_linkedSo_70 : decode cL_linkedSo 70 = .ok (.iconst 0, 1) := by decide +kernel
theorem dL_linkedSo_71 : decode cL_linkedSo 71 = .ok (.istore 4, 2) := by decide +kernel
theorem dL_linkedSo_73 : decode cL_linkedSo 73 = .ok (.aload_n 0, 1) := by decide +kernel
theorem dL_linkedSo_74 : decode cL_linkedSo 74 = .ok (.iconst 3, 1) := by decide +kernel
theorem dL_linkedSo_75 : decode cL_linkedSo 75 = .ok (.invokevirtual 22, 3) := by decide +kernel
theorem dL_linkedSo_78 : decode cL_linkedSo 78 = .ok (.istore 5, 2) := by decide +kernel
theorem dL_linkedSo_80 : decode cL_linkedSo 80 = .ok (.aload_n 0, 1) := by decide +kernel
theorem dL_linkedSo_81 : decode cL_linkedSo 81 = .ok (.iload_n 1, 1) := by decide +kernel
theorem dL_linkedSo_82 : decode cL_linkedSo 82 = .ok (.iload_n 2, 1) := by decide +kernel
theorem dL_linkedSo_83 : decode cL_linkedSo 83 = .ok (.iload 4, 2) := by decide +kernel
theorem dL_linkedSo_85 : decode cL_linkedSo 85 = .ok (.ifCond .ne 7, 3) := by decide +kernel
theorem dL_linkedSo_88 : decode cL_linkedSo 88 = .ok (.iconst 1, 1) := by decide +kernel
theorem dL_linkedSo_89 : decode cL_linkedSo 89 = .ok (.goto 4, 3) := by decide +kernel
theorem dL_linkedSo_92 : decode cL_linkedSo 92 = .ok (.iconst 0, 1) := by decide +kernel
theorem dL_linkedSo_93 : decode cL_linkedSo 93 = .ok (.invokevirtual 61, 3) := by decide +kernel
theorem dL_linkedSo_96 : decode cL_linkedSo 96 = .ok (.iload 5, 2) := by decide +kernel
theorem dL_linkedSo_98 : decode cL_linkedSo 98 = .ok (.iload 4, 2) := by decide +kernel
theorem dL_linkedSo_100 : decode cL_linkedSo 100 = .ok (.ifCond .eq 7, 3) := by decide +kernel
theorem dL_linkedSo_103 : decode cL_linkedSo 103 = .ok (.iconst (-1), 1) := by decide +kernel
theorem dL_linkedSo_104 : decode cL_linkedSo 104 = .ok (.goto 4, 3) := by decide +kernel
theorem dL_linkedSo_107 : decode cL_linkedSo 107 = .ok (.iconst 1, 1) := by decide +kernel
theorem dL_linkedSo_108 : decode cL_linkedSo 108 = .ok (.iadd, 1) := by decide +kernel
theorem dL_linkedSo_109 : decode cL_linkedSo 109 = .ok (.if_icmp .ne 32, 3) := by decide +kernel
theorem dL_linkedSo_112 : decode cL_linkedSo 112 = .ok (.aload_n 0, 1) := by decide +kernel
theorem dL_linkedSo_113 : decode cL_linkedSo 113 = .ok (.invokevirtual 39, 3) := by decide +kernel
theorem dL_linkedSo_116 : decode cL_linkedSo 116 = .ok (.iload_n 3, 1) := by decide +kernel
theorem dL_linkedSo_117 : decode cL_linkedSo 117 = .ok (.if_icmp .ne 24, 3) := by decide +kernel
theorem dL_linkedSo_120 : decode cL_linkedSo 120 = .ok (.aload_n 0, 1) := by decide +kernel
theorem dL_linkedSo_121 : decode cL_linkedSo 121 = .ok (.invokevirtual 55, 3) := by decide +kernel
theorem dL_linkedSo_124 : decode cL_linkedSo 124 = .ok (.ifCond .lt 17, 3) := by decide +kernel
theorem dL_linkedSo_127 : decode cL_linkedSo 127 = .ok (.aload_n 0, 1) := by decide +kernel
theorem dL_linkedSo_128 : decode cL_linkedSo 128 = .ok (.iconst 3, 1) := by decide +kernel
theorem dL_linkedSo_129 : decode cL_linkedSo 129 = .ok (.invokevirtual 22, 3) := by decide +kernel
theorem dL_linkedSo_132 : decode cL_linkedSo 132 = .ok (.iload 5, 2) := by decide +kernel
theorem dL_linkedSo_134 : decode cL_linkedSo 134 = .ok (.if_icmp .ne 7, 3) := by decide +kernel
theorem dL_linkedSo_137 : decode cL_linkedSo 137 = .ok (.iconst 1, 1) := by decide +kernel
theorem dL_linkedSo_138 : decode cL_linkedSo 138 = .ok (.goto 4, 3) := by decide +kernel
theorem dL_linkedSo_141 : decode cL_linkedSo 141 = .ok (.iconst 0, 1) := by decide +kernel
theorem dL_linkedSo_142 : decode cL_linkedSo 142 = .ok (.ireturn, 1) := by decide +kernel
theorem dL_bestSo_0 : decode cL_bestSo 0 = .ok (.bipush (-5), 2) := by decide +kernel
theorem dL_bestSo_2 : decode cL_bestSo 2 = .ok (.istore_n 1, 1) := by decide +kernel
theorem dL_bestSo_3 : decode cL_bestSo 3 = .ok (.bipush (-5), 2) := by decide +kernel
theorem dL_bestSo_5 : decode cL_bestSo 5 = .ok (.istore_n 2, 1) := by decide +kernel
theorem dL_bestSo_6 : decode cL_bestSo 6 = .ok (.iconst 0, 1) := by decide +kernel
theorem dL_bestSo_7 : decode cL_bestSo 7 = .ok (.istore_n 3, 1) := by decide +kernel
theorem dL_bestSo_8 : decode cL_bestSo 8 = .ok (.iload_n 3, 1) := by decide +kernel
theorem dL_bestSo_9 : decode cL_bestSo 9 = .ok (.sipush 256, 3) := by decide +kernel
theorem dL_bestSo_12 : decode cL_bestSo 12 = .ok (.if_icmp .ge 142, 3) := by decide +kernel
theorem dL_bestSo_15 : decode cL_bestSo 15 = .ok (.iload_n 3, 1) := by decide +kernel
theorem dL_bestSo_16 : decode cL_bestSo 16 = .ok (.bipush 16, 2) := by decide +kernel
theorem dL_bestSo_18 : decode cL_bestSo 18 = .ok (.idiv, 1) := by decide +kernel
theorem dL_bestSo_19 : decode cL_bestSo 19 = .ok (.istore 4, 2) := by decide +kernel
theorem dL_bestSo_21 : decode cL_bestSo 21 = .ok (.iload_n 3, 1) := by decide +kernel
theorem dL_bestSo_22 : decode cL_bestSo 22 = .ok (.bipush 16, 2) := by decide +kernel
theorem dL_bestSo_24 : decode cL_bestSo 24 = .ok (.irem, 1) := by decide +kernel
theorem dL_bestSo_25 : decode cL_bestSo 25 = .ok (.istore 5, 2) := by decide +kernel
theorem dL_bestSo_27 : decode cL_bestSo 27 = .ok (.iload 4, 2) := by decide +kernel
theorem dL_bestSo_29 : decode cL_bestSo 29 = .ok (.iload 5, 2) := by decide +kernel
theorem dL_bestSo_31 : decode cL_bestSo 31 = .ok (.if_icmp .ge 117, 3) := by decide +kernel
theorem dL_bestSo_34 : decode cL_bestSo 34 = .ok (.aload_n 0, 1) := by decide +kernel
theorem dL_bestSo_35 : decode cL_bestSo 35 = .ok (.iload 4, 2) := by decide +kernel
theorem dL_bestSo_37 : decode cL_bestSo 37 = .ok (.invokestatic 16, 3) := by decide +kernel
theorem dL_bestSo_40 : decode cL_bestSo 40 = .ok (.ifCond .eq 108, 3) := by decide +kernel
theorem dL_bestSo_43 : decode cL_bestSo 43 = .ok (.aload_n 0, 1) := by decide +kernel
theorem dL_bestSo_44 : decode cL_bestSo 44 = .ok (.iload 5, 2) := by decide +kernel
theorem dL_bestSo_46 : decode cL_bestSo 46 = .ok (.invokestatic 16, 3) := by decide +kernel
theorem dL_bestSo_49 : decode cL_bestSo 49 = .ok (.ifCond .eq 99, 3) := by decide +kernel
theorem dL_bestSo_52 : decode cL_bestSo 52 = .ok (.aload_n 0, 1) := by decide +kernel
theorem dL_bestSo_53 : decode cL_bestSo 53 = .ok (.iload 4, 2) := by decide +kernel
theorem dL_bestSo_55 : decode cL_bestSo 55 = .ok (.bipush 6, 2) := by decide +kernel
theorem dL_bestSo_57 : decode cL_bestSo 57 = .ok (.invokevirtual 10, 3) := by decide +kernel
theorem dL_bestSo_60 : decode cL_bestSo 60 = .ok (.iload 5, 2) := by decide +kernel
theorem dL_bestSo_62 : decode cL_bestSo 62 = .ok (.ishr, 1) := by decide +kernel
theorem dL_bestSo_63 : decode cL_bestSo 63 = .ok (.iconst 1, 1) := by decide +kernel
theorem dL_bestSo_64 : decode cL_bestSo 64 = .ok (.iand, 1) := by decide +kernel
theorem dL_bestSo_65 : decode cL_bestSo 65 = .ok (.ifCond .ne 83, 3) := by decide +kernel
theorem dL_bestSo_68 : decode cL_bestSo 68 = .ok (.aload_n 0, 1) := by decide +kernel
theorem dL_bestSo_69 : decode cL_bestSo 69 = .ok (.iload 4, 2) := by decide +kernel
theorem dL_bestSo_71 : decode cL_bestSo 71 = .ok (.iload 5, 2) := by decide +kernel
theorem dL_bestSo_73 : decode cL_bestSo 73 = .ok (.iconst 1, 1) := by decide +kernel
theorem dL_bestSo_74 : decode cL_bestSo 74 = .ok (.invokevirtual 61, 3) := by decide +kernel
theorem dL_bestSo_77 : decode cL_bestSo 77 = .ok (.istore 6, 2) := by decide +kernel
theorem dL_bestSo_79 : decode cL_bestSo 79 = .ok (.aload_n 0, 1) := by decide +kernel
theorem dL_bestSo_80 : decode cL_bestSo 80 = .ok (.bipush 100, 2) := by decide +kernel
theorem dL_bestSo_82 : decode cL_bestSo 82 = .ok (.invokevirtual 52, 3) := by decide +kernel
theorem dL_bestSo_85 : decode cL_bestSo 85 = .ok (.istore 7, 2) := by decide +kernel
theorem dL_bestSo_87 : decode cL_bestSo 87 = .ok (.aload_n 0, 1) := by decide +kernel
theorem dL_bestSo_88 : decode cL_bestSo 88 = .ok (.invokevirtual 35, 3) := by decide +kernel
theorem dL_bestSo_91 : decode cL_bestSo 91 = .ok (.istore 8, 2) := by decide +kernel
theorem dL_bestSo_93 : decode cL_bestSo 93 = .ok (.iload_n 1, 1) := by decide +kernel
theorem dL_bestSo_94 : decode cL_bestSo 94 = .ok (.ifCond .lt 9, 3) := by decide +kernel
theorem dL_bestSo_97 : decode cL_bestSo 97 = .ok (.iload 8, 2) := by decide +kernel
theorem dL_bestSo_99 : decode cL_bestSo 99 = .ok (.iload_n 2, 1) := by decide +kernel
theorem dL_bestSo_100 : decode cL_bestSo 100 = .ok (.if_icmp .ge 7, 3) := by decide +kernel
theorem dL_bestSo_103 : decode cL_bestSo 103 = .ok (.iload_n 3, 1) := by decide +kernel
theorem dL_bestSo_104 : decode cL_bestSo 104 = .ok (.goto 4, 3) := by decide +kernel
theorem dL_bestSo_107 : decode cL_bestSo 107 = .ok (.iload_n 1, 1) := by decide +kernel
theorem dL_bestSo_108 : decode cL_bestSo 108 = .ok (.istore_n 1, 1) := by decide +kernel
theorem dL_bestSo_109 : decode cL_bestSo 109 = .ok (.iload_n 1, 1) := by decide +kernel
theorem dL_bestSo_110 : decode cL_bestSo 110 = .ok (.iload_n 3, 1) := by decide +kernel
theorem dL_bestSo_111 : decode cL_bestSo 111 = .ok (.if_icmp .ne 8, 3) := by decide +kernel
theorem dL_bestSo_114 : decode cL_bestSo 114 = .ok (.iload 8, 2) := by decide +kernel
theorem dL_bestSo_116 : decode cL_bestSo 116 = .ok (.goto 4, 3) := by decide +kernel
theorem dL_bestSo_119 : decode cL_bestSo 119 = .ok (.iload_n 2, 1) := by decide +kernel
theorem dL_bestSo_120 : decode cL_bestSo 120 = .ok (.istore_n 2, 1) := by decide +kernel
theorem dL_bestSo_121 : decode cL_bestSo 121 = .ok (.iload 6, 2) := by decide +kernel
theorem dL_bestSo_123 : decode cL_bestSo 123 = .ok (.iconst 1, 1) := by decide +kernel
theorem dL_bestSo_124 : decode cL_bestSo 124 = .ok (.if_icmp .lt 22, 3) := by decide +kernel
theorem dL_bestSo_127 : decode cL_bestSo 127 = .ok (.iload 7, 2) := by decide +kernel
theorem dL_bestSo_129 : decode cL_bestSo 129 = .ok (.ifCond .lt 17, 3) := by decide +kernel
theorem dL_bestSo_132 : decode cL_bestSo 132 = .ok (.aload_n 0, 1) := by decide +kernel
theorem dL_bestSo_133 : decode cL_bestSo 133 = .ok (.invokevirtual 55, 3) := by decide +kernel
theorem dL_bestSo_136 : decode cL_bestSo 136 = .ok (.ifCond .lt 10, 3) := by decide +kernel
theorem dL_bestSo_139 : decode cL_bestSo 139 = .ok (.aload_n 0, 1) := by decide +kernel
theorem dL_bestSo_140 : decode cL_bestSo 140 = .ok (.invokevirtual 55, 3) := by decide +kernel
theorem dL_bestSo_143 : decode cL_bestSo 143 = .ok (.ifCond .ge 5, 3) := by decide +kernel
theorem dL_bestSo_146 : decode cL_bestSo 146 = .ok (.iconst 0, 1) := by decide +kernel
theorem dL_bestSo_147 : decode cL_bestSo 147 = .ok (.ireturn, 1) := by decide +kernel
theorem dL_bestSo_148 : decode cL_bestSo 148 = .ok (.iinc 3 1, 3) := by decide +kernel
theorem dL_bestSo_151 : decode cL_bestSo 151 = .ok (.goto (-143), 3) := by decide +kernel
theorem dL_bestSo_154 : decode cL_bestSo 154 = .ok (.iload_n 1, 1) := by decide +kernel
theorem dL_bestSo_155 : decode cL_bestSo 155 = .ok (.ifCond .ge 31, 3) := by decide +kernel
theorem dL_bestSo_158 : decode cL_bestSo 158 = .ok (.aload_n 0, 1) := by decide +kernel
theorem dL_bestSo_159 : decode cL_bestSo 159 = .ok (.iconst 0, 1) := by decide +kernel
theorem dL_bestSo_160 : decode cL_bestSo 160 = .ok (.invokevirtual 65, 3) := by decide +kernel
theorem dL_bestSo_163 : decode cL_bestSo 163 = .ok (.bipush (-5), 2) := by decide +kernel
theorem dL_bestSo_165 : decode cL_bestSo 165 = .ok (.if_icmp .ne 17, 3) := by decide +kernel
theorem dL_bestSo_168 : decode cL_bestSo 168 = .ok (.aload_n 0, 1) := by decide +kernel
theorem dL_bestSo_169 : decode cL_bestSo 169 = .ok (.iconst 2, 1) := by decide +kernel
theorem dL_bestSo_170 : decode cL_bestSo 170 = .ok (.invokevirtual 65, 3) := by decide +kernel
theorem dL_bestSo_173 : decode cL_bestSo 173 = .ok (.bipush (-5), 2) := by decide +kernel
theorem dL_bestSo_175 : decode cL_bestSo 175 = .ok (.if_icmp .ne 7, 3) := by decide +kernel
theorem dL_bestSo_178 : decode cL_bestSo 178 = .ok (.iconst 1, 1) := by decide +kernel
theorem dL_bestSo_179 : decode cL_bestSo 179 = .ok (.goto 45, 3) := by decide +kernel
theorem dL_bestSo_182 : decode cL_bestSo 182 = .ok (.iconst 0, 1) := by decide +kernel
theorem dL_bestSo_183 : decode cL_bestSo 183 = .ok (.goto 41, 3) := by decide +kernel
theorem dL_bestSo_186 : decode cL_bestSo 186 = .ok (.aload_n 0, 1) := by decide +kernel
theorem dL_bestSo_187 : decode cL_bestSo 187 = .ok (.iconst 0, 1) := by decide +kernel
theorem dL_bestSo_188 : decode cL_bestSo 188 = .ok (.invokevirtual 65, 3) := by decide +kernel
theorem dL_bestSo_191 : decode cL_bestSo 191 = .ok (.iload_n 1, 1) := by decide +kernel
theorem dL_bestSo_192 : decode cL_bestSo 192 = .ok (.bipush 16, 2) := by decide +kernel
theorem dL_bestSo_194 : decode cL_bestSo 194 = .ok (.idiv, 1) := by decide +kernel
theorem dL_bestSo_195 : decode cL_bestSo 195 = .ok (.if_icmp .ne 28, 3) := by decide +kernel
theorem dL_bestSo_198 : decode cL_bestSo 198 = .ok (.aload_n 0, 1) := by decide +kernel
theorem dL_bestSo_199 : decode cL_bestSo 199 = .ok (.iconst 1, 1) := by decide +kernel
theorem dL_bestSo_200 : decode cL_bestSo 200 = .ok (.invokevirtual 65, 3) := by decide +kernel
theorem dL_bestSo_203 : decode cL_bestSo 203 = .ok (.iload_n 1, 1) := by decide +kernel
theorem dL_bestSo_204 : decode cL_bestSo 204 = .ok (.bipush 16, 2) := by decide +kernel
theorem dL_bestSo_206 : decode cL_bestSo 206 = .ok (.irem, 1) := by decide +kernel
theorem dL_bestSo_207 : decode cL_bestSo 207 = .ok (.if_icmp .ne 16, 3) := by decide +kernel
theorem dL_bestSo_210 : decode cL_bestSo 210 = .ok (.aload_n 0, 1) := by decide +kernel
theorem dL_bestSo_211 : decode cL_bestSo 211 = .ok (.iconst 2, 1) := by decide +kernel
theorem dL_bestSo_212 : decode cL_bestSo 212 = .ok (.invokevirtual 65, 3) := by decide +kernel
theorem dL_bestSo_215 : decode cL_bestSo 215 = .ok (.iload_n 2, 1) := by decide +kernel
theorem dL_bestSo_216 : decode cL_bestSo 216 = .ok (.if_icmp .ne 7, 3) := by decide +kernel
theorem dL_bestSo_219 : decode cL_bestSo 219 = .ok (.iconst 1, 1) := by decide +kernel
theorem dL_bestSo_220 : decode cL_bestSo 220 = .ok (.goto 4, 3) := by decide +kernel
theorem dL_bestSo_223 : decode cL_bestSo 223 = .ok (.iconst 0, 1) := by decide +kernel
theorem dL_bestSo_224 : decode cL_bestSo 224 = .ok (.ireturn, 1) := by decide +kernel
theorem dL_passSo_0 : decode cL_passSo 0 = .ok (.aload_n 0, 1) := by decide +kernel
theorem dL_passSo_1 : decode cL_passSo 1 = .ok (.iload_n 1, 1) := by decide +kernel
theorem dL_passSo_2 : decode cL_passSo 2 = .ok (.invokevirtual 52, 3) := by decide +kernel
theorem dL_passSo_5 : decode cL_passSo 5 = .ok (.istore_n 3, 1) := by decide +kernel
theorem dL_passSo_6 : decode cL_passSo 6 = .ok (.aload_n 0, 1) := by decide +kernel
theorem dL_passSo_7 : decode cL_passSo 7 = .ok (.iload_n 2, 1) := by decide +kernel
theorem dL_passSo_8 : decode cL_passSo 8 = .ok (.invokevirtual 52, 3) := by decide +kernel
theorem dL_passSo_11 : decode cL_passSo 11 = .ok (.istore 4, 2) := by decide +kernel
theorem dL_passSo_13 : decode cL_passSo 13 = .ok (.aload_n 0, 1) := by decide +kernel
theorem dL_passSo_14 : decode cL_passSo 14 = .ok (.invokestatic 68, 3) := by decide +kernel
theorem dL_passSo_17 : decode cL_passSo 17 = .ok (.lstore 5, 2) := by decide +kernel
theorem dL_passSo_19 : decode cL_passSo 19 = .ok (.iload_n 3, 1) := by decide +kernel
theorem dL_passSo_20 : decode cL_passSo 20 = .ok (.ifCond .lt 26, 3) := by decide +kernel
theorem dL_passSo_23 : decode cL_passSo 23 = .ok (.iload 4, 2) := by decide +kernel
theorem dL_passSo_25 : decode cL_passSo 25 = .ok (.ifCond .lt 21, 3) := by decide +kernel
theorem dL_passSo_28 : decode cL_passSo 28 = .ok (.aload_n 0, 1) := by decide +kernel
theorem dL_passSo_29 : decode cL_passSo 29 = .ok (.invokevirtual 55, 3) := by decide +kernel
theorem dL_passSo_32 : decode cL_passSo 32 = .ok (.ifCond .lt 14, 3) := by decide +kernel
theorem dL_passSo_35 : decode cL_passSo 35 = .ok (.aload_n 0, 1) := by decide +kernel
theorem dL_passSo_36 : decode cL_passSo 36 = .ok (.invokevirtual 55, 3) := by decide +kernel
theorem dL_passSo_39 : decode cL_passSo 39 = .ok (.ifCond .lt 7, 3) := by decide +kernel
theorem dL_passSo_42 : decode cL_passSo 42 = .ok (.iconst 1, 1) := by decide +kernel
theorem dL_passSo_43 : decode cL_passSo 43 = .ok (.goto 4, 3) := by decide +kernel
theorem dL_passSo_46 : decode cL_passSo 46 = .ok (.iconst 0, 1) := by decide +kernel
theorem dL_passSo_47 : decode cL_passSo 47 = .ok (.istore 7, 2) := by decide +kernel
theorem dL_passSo_49 : decode cL_passSo 49 = .ok (.iload 7, 2) := by decide +kernel
theorem dL_passSo_51 : decode cL_passSo 51 = .ok (.ifCond .eq 31, 3) := by decide +kernel
theorem dL_passSo_54 : decode cL_passSo 54 = .ok (.aload_n 0, 1) := by decide +kernel
theorem dL_passSo_55 : decode cL_passSo 55 = .ok (.iload_n 1, 1) := by decide +kernel
theorem dL_passSo_56 : decode cL_passSo 56 = .ok (.iload_n 2, 1) := by decide +kernel
theorem dL_passSo_57 : decode cL_passSo 57 = .ok (.iadd, 1) := by decide +kernel
theorem dL_passSo_58 : decode cL_passSo 58 = .ok (.invokevirtual 52, 3) := by decide +kernel
theorem dL_passSo_61 : decode cL_passSo 61 = .ok (.iload_n 3, 1) := by decide +kernel
theorem dL_passSo_62 : decode cL_passSo 62 = .ok (.iload 4, 2) := by decide +kernel
theorem dL_passSo_64 : decode cL_passSo 64 = .ok (.iadd, 1) := by decide +kernel
theorem dL_passSo_65 : decode cL_passSo 65 = .ok (.if_icmp .ne 17, 3) := by decide +kernel
theorem dL_passSo_68 : decode cL_passSo 68 = .ok (.aload_n 0, 1) := by decide +kernel
theorem dL_passSo_69 : decode cL_passSo 69 = .ok (.invokestatic 68, 3) := by decide +kernel
theorem dL_passSo_72 : decode cL_passSo 72 = .ok (.lload 5, 2) := by decide +kernel
theorem dL_passSo_74 : decode cL_passSo 74 = .ok (.lcmp, 1) := by decide +kernel
theorem dL_passSo_75 : decode cL_passSo 75 = .ok (.ifCond .ne 7, 3) := by decide +kernel
theorem dL_passSo_78 : decode cL_passSo 78 = .ok (.iconst 1, 1) := by decide +kernel
theorem dL_passSo_79 : decode cL_passSo 79 = .ok (.goto 4, 3) := by decide +kernel
theorem dL_passSo_82 : decode cL_passSo 82 = .ok (.iconst 0, 1) := by decide +kernel
theorem dL_passSo_83 : decode cL_passSo 83 = .ok (.ireturn, 1) := by decide +kernel
theorem dL_twins_0 : decode cL_twins 0 = .ok (.aload_n 0, 1) := by decide +kernel
theorem dL_twins_1 : decode cL_twins 1 = .ok (.iconst 1, 1) := by decide +kernel
theorem dL_twins_2 : decode cL_twins 2 = .ok (.invokevirtual 22, 3) := by decide +kernel
theorem dL_twins_5 : decode cL_twins 5 = .ok (.bipush 14, 2) := by decide +kernel
theorem dL_twins_7 : decode cL_twins 7 = .ok (.if_icmp .le 5, 3) := by decide +kernel
theorem dL_twins_10 : decode cL_twins 10 = .ok (.iconst 1, 1) := by decide +kernel
theorem dL_twins_11 : decode cL_twins 11 = .ok (.ireturn, 1) := by decide +kernel
theorem dL_twins_12 : decode cL_twins 12 = .ok (.iload_n 1, 1) := by decide +kernel
theorem dL_twins_13 : decode cL_twins 13 = .ok (.aload_n 0, 1) := by decide +kernel
theorem dL_twins_14 : decode cL_twins 14 = .ok (.bipush 9, 2) := by decide +kernel
theorem dL_twins_16 : decode cL_twins 16 = .ok (.invokevirtual 22, 3) := by decide +kernel
theorem dL_twins_19 : decode cL_twins 19 = .ok (.invokestatic 72, 3) := by decide +kernel
theorem dL_twins_22 : decode cL_twins 22 = .ok (.istore_n 2, 1) := by decide +kernel
theorem dL_twins_23 : decode cL_twins 23 = .ok (.bipush 50, 2) := by decide +kernel
theorem dL_twins_25 : decode cL_twins 25 = .ok (.iload_n 1, 1) := by decide +kernel
theorem dL_twins_26 : decode cL_twins 26 = .ok (.bipush 7, 2) := by decide +kernel
theorem dL_twins_28 : decode cL_twins 28 = .ok (.ishr, 1) := by decide +kernel
theorem dL_twins_29 : decode cL_twins 29 = .ok (.bipush 101, 2) := by decide +kernel
theorem dL_twins_31 : decode cL_twins 31 = .ok (.invokestatic 72, 3) := by decide +kernel
theorem dL_twins_34 : decode cL_twins 34 = .ok (.iadd, 1) := by decide +kernel
theorem dL_twins_35 : decode cL_twins 35 = .ok (.istore_n 3, 1) := by decide +kernel
theorem dL_twins_36 : decode cL_twins 36 = .ok (.aload_n 0, 1) := by decide +kernel
theorem dL_twins_37 : decode cL_twins 37 = .ok (.iload_n 2, 1) := by decide +kernel
theorem dL_twins_38 : decode cL_twins 38 = .ok (.iload_n 3, 1) := by decide +kernel
theorem dL_twins_39 : decode cL_twins 39 = .ok (.invokevirtual 75, 3) := by decide +kernel
theorem dL_twins_42 : decode cL_twins 42 = .ok (.istore 4, 2) := by decide +kernel
theorem dL_twins_44 : decode cL_twins 44 = .ok (.aload_n 0, 1) := by decide +kernel
theorem dL_twins_45 : decode cL_twins 45 = .ok (.iload_n 2, 1) := by decide +kernel
theorem dL_twins_46 : decode cL_twins 46 = .ok (.iload_n 3, 1) := by decide +kernel
theorem dL_twins_47 : decode cL_twins 47 = .ok (.invokevirtual 75, 3) := by decide +kernel
theorem dL_twins_50 : decode cL_twins 50 = .ok (.istore 5, 2) := by decide +kernel
theorem dL_twins_52 : decode cL_twins 52 = .ok (.iconst 0, 1) := by decide +kernel
theorem dL_twins_53 : decode cL_twins 53 = .ok (.istore 6, 2) := by decide +kernel
theorem dL_twins_55 : decode cL_twins 55 = .ok (.iload 6, 2) := by decide +kernel
theorem dL_twins_57 : decode cL_twins 57 = .ok (.bipush 16, 2) := by decide +kernel
theorem dL_twins_59 : decode cL_twins 59 = .ok (.if_icmp .ge 71, 3) := by decide +kernel
theorem dL_twins_62 : decode cL_twins 62 = .ok (.iload 6, 2) := by decide +kernel
theorem dL_twins_64 : decode cL_twins 64 = .ok (.iload 4, 2) := by decide +kernel
theorem dL_twins_66 : decode cL_twins 66 = .ok (.if_icmp .eq 58, 3) := by decide +kernel
theorem dL_twins_69 : decode cL_twins 69 = .ok (.iload 6, 2) := by decide +kernel
theorem dL_twins_71 : decode cL_twins 71 = .ok (.iload 5, 2) := by decide +kernel
theorem dL_twins_73 : decode cL_twins 73 = .ok (.if_icmp .eq 51, 3) := by decide +kernel
theorem dL_twins_76 : decode cL_twins 76 = .ok (.aload_n 0, 1) := by decide +kernel
theorem dL_twins_77 : decode cL_twins 77 = .ok (.iload 6, 2) := by decide +kernel
theorem dL_twins_79 : decode cL_twins 79 = .ok (.invokestatic 26, 3) := by decide +kernel
theorem dL_twins_82 : decode cL_twins 82 = .ok (.ifCond .eq 42, 3) := by decide +kernel
theorem dL_twins_85 : decode cL_twins 85 = .ok (.iload_n 1, 1) := by decide +kernel
theorem dL_twins_86 : decode cL_twins 86 = .ok (.iload 6, 2) := by decide +kernel
theorem dL_twins_88 : decode cL_twins 88 = .ok (.ishr, 1) := by decide +kernel
theorem dL_twins_89 : decode cL_twins 89 = .ok (.iconst 3, 1) := by decide +kernel
theorem dL_twins_90 : decode cL_twins 90 = .ok (.invokestatic 72, 3) := by decide +kernel
theorem dL_twins_93 : decode cL_twins 93 = .ok (.ifCond .ne 31, 3) := by decide +kernel
theorem dL_twins_96 : decode cL_twins 96 = .ok (.aload_n 0, 1) := by decide +kernel
theorem dL_twins_97 : decode cL_twins 97 = .ok (.iload 4, 2) := by decide +kernel
theorem dL_twins_99 : decode cL_twins 99 = .ok (.iload 6, 2) := by decide +kernel
theorem dL_twins_101 : decode cL_twins 101 = .ok (.iconst 1, 1) := by decide +kernel
theorem dL_twins_102 : decode cL_twins 102 = .ok (.invokevirtual 61, 3) := by decide +kernel
theorem dL_twins_105 : decode cL_twins 105 = .ok (.iconst 1, 1) := by decide +kernel
theorem dL_twins_106 : decode cL_twins 106 = .ok (.if_icmp .lt 16, 3) := by decide +kernel
theorem dL_twins_109 : decode cL_twins 109 = .ok (.aload_n 0, 1) := by decide +kernel
theorem dL_twins_110 : decode cL_twins 110 = .ok (.iload 5, 2) := by decide +kernel
theorem dL_twins_112 : decode cL_twins 112 = .ok (.iload 6, 2) := by decide +kernel
theorem dL_twins_114 : decode cL_twins 114 = .ok (.iconst 1, 1) := by decide +kernel
theorem dL_twins_115 : decode cL_twins 115 = .ok (.invokevirtual 61, 3) := by decide +kernel
theorem dL_twins_118 : decode cL_twins 118 = .ok (.iconst 1, 1) := by decide +kernel
theorem dL_twins_119 : decode cL_twins 119 = .ok (.if_icmp .ge 5, 3) := by decide +kernel
theorem dL_twins_122 : decode cL_twins 122 = .ok (.iconst 0, 1) := by decide +kernel
theorem dL_twins_123 : decode cL_twins 123 = .ok (.ireturn, 1) := by decide +kernel
theorem dL_twins_124 : decode cL_twins 124 = .ok (.iinc 6 1, 3) := by decide +kernel
theorem dL_twins_127 : decode cL_twins 127 = .ok (.goto (-72), 3) := by decide +kernel
theorem dL_twins_130 : decode cL_twins 130 = .ok (.iload_n 1, 1) := by decide +kernel
theorem dL_twins_131 : decode cL_twins 131 = .ok (.iconst 3, 1) := by decide +kernel
theorem dL_twins_132 : decode cL_twins 132 = .ok (.ishr, 1) := by decide +kernel
theorem dL_twins_133 : decode cL_twins 133 = .ok (.iconst 2, 1) := by decide +kernel
theorem dL_twins_134 : decode cL_twins 134 = .ok (.invokestatic 72, 3) := by decide +kernel
theorem dL_twins_137 : decode cL_twins 137 = .ok (.ifCond .ne 18, 3) := by decide +kernel
theorem dL_twins_140 : decode cL_twins 140 = .ok (.aload_n 0, 1) := by decide +kernel
theorem dL_twins_141 : decode cL_twins 141 = .ok (.iload 4, 2) := by decide +kernel
theorem dL_twins_143 : decode cL_twins 143 = .ok (.iload 5, 2) := by decide +kernel
theorem dL_twins_145 : decode cL_twins 145 = .ok (.iconst 1, 1) := by decide +kernel
theorem dL_twins_146 : decode cL_twins 146 = .ok (.invokevirtual 61, 3) := by decide +kernel
theorem dL_twins_149 : decode cL_twins 149 = .ok (.iconst 1, 1) := by decide +kernel
theorem dL_twins_150 : decode cL_twins 150 = .ok (.if_icmp .ge 5, 3) := by decide +kernel
theorem dL_twins_153 : decode cL_twins 153 = .ok (.iconst 0, 1) := by decide +kernel
theorem dL_twins_154 : decode cL_twins 154 = .ok (.ireturn, 1) := by decide +kernel
theorem dL_twins_155 : decode cL_twins 155 = .ok (.iconst 0, 1) := by decide +kernel
theorem dL_twins_156 : decode cL_twins 156 = .ok (.istore 6, 2) := by decide +kernel
theorem dL_twins_158 : decode cL_twins 158 = .ok (.iload 6, 2) := by decide +kernel
theorem dL_twins_160 : decode cL_twins 160 = .ok (.iconst 5, 1) := by decide +kernel
theorem dL_twins_161 : decode cL_twins 161 = .ok (.if_icmp .ge 128, 3) := by decide +kernel
theorem dL_twins_164 : decode cL_twins 164 = .ok (.aload_n 0, 1) := by decide +kernel
theorem dL_twins_165 : decode cL_twins 165 = .ok (.iconst 1, 1) := by decide +kernel
theorem dL_twins_166 : decode cL_twins 166 = .ok (.iload_n 1, 1) := by decide +kernel
theorem dL_twins_167 : decode cL_twins 167 = .ok (.iconst 3, 1) := by decide +kernel
theorem dL_twins_168 : decode cL_twins 168 = .ok (.iload 6, 2) := by decide +kernel
theorem dL_twins_170 : decode cL_twins 170 = .ok (.imul, 1) := by decide +kernel
theorem dL_twins_171 : decode cL_twins 171 = .ok (.ishr, 1) := by decide +kernel
theorem dL_twins_172 : decode cL_twins 172 = .ok (.bipush 90, 2) := by decide +kernel
theorem dL_twins_174 : decode cL_twins 174 = .ok (.invokestatic 72, 3) := by decide +kernel
theorem dL_twins_177 : decode cL_twins 177 = .ok (.iadd, 1) := by decide +kernel
theorem dL_twins_178 : decode cL_twins 178 = .ok (.invokevirtual 52, 3) := by decide +kernel
theorem dL_twins_181 : decode cL_twins 181 = .ok (.istore 7, 2) := by decide +kernel
theorem dL_twins_183 : decode cL_twins 183 = .ok (.iload 7, 2) := by decide +kernel
theorem dL_twins_185 : decode cL_twins 185 = .ok (.ifCond .lt 88, 3) := by decide +kernel
theorem dL_twins_188 : decode cL_twins 188 = .ok (.aload_n 0, 1) := by decide +kernel
theorem dL_twins_189 : decode cL_twins 189 = .ok (.iload 4, 2) := by decide +kernel
theorem dL_twins_191 : decode cL_twins 191 = .ok (.iconst 0, 1) := by decide +kernel
theorem dL_twins_192 : decode cL_twins 192 = .ok (.invokevirtual 10, 3) := by decide +kernel
theorem dL_twins_195 : decode cL_twins 195 = .ok (.aload_n 0, 1) := by decide +kernel
theorem dL_twins_196 : decode cL_twins 196 = .ok (.iload 5, 2) := by decide +kernel
theorem dL_twins_198 : decode cL_twins 198 = .ok (.iconst 0, 1) := by decide +kernel
theorem dL_twins_199 : decode cL_twins 199 = .ok (.invokevirtual 10, 3) := by decide +kernel
theorem dL_twins_202 : decode cL_twins 202 = .ok (.if_icmp .ne 71, 3) := by decide +kernel
theorem dL_twins_205 : decode cL_twins 205 = .ok (.aload_n 0, 1) := by decide +kernel
theorem dL_twins_206 : decode cL_twins 206 = .ok (.iload 4, 2) := by decide +kernel
theorem dL_twins_208 : decode cL_twins 208 = .ok (.iconst 4, 1) := by decide +kernel
theorem dL_twins_209 : decode cL_twins 209 = .ok (.invokevirtual 10, 3) := by decide +kernel
theorem dL_twins_212 : decode cL_twins 212 = .ok (.aload_n 0, 1) := by decide +kernel
theorem dL_twins_213 : decode cL_twins 213 = .ok (.iload 5, 2) := by decide +kernel
theorem dL_twins_215 : decode cL_twins 215 = .ok (.iconst 4, 1) := by decide +kernel
theorem dL_twins_216 : decode cL_twins 216 = .ok (.invokevirtual 10, 3) := by decide +kernel
theorem dL_twins_219 : decode cL_twins 219 = .ok (.if_icmp .ne 54, 3) := by decide +kernel
theorem dL_twins_222 : decode cL_twins 222 = .ok (.aload_n 0, 1) := by decide +kernel
theorem dL_twins_223 : decode cL_twins 223 = .ok (.iload 4, 2) := by decide +kernel
theorem dL_twins_225 : decode cL_twins 225 = .ok (.iconst 5, 1) := by decide +kernel
theorem dL_twins_226 : decode cL_twins 226 = .ok (.invokevirtual 10, 3) := by decide +kernel
theorem dL_twins_229 : decode cL_twins 229 = .ok (.aload_n 0, 1) := by decide +kernel
theorem dL_twins_230 : decode cL_twins 230 = .ok (.iload 5, 2) := by decide +kernel
theorem dL_twins_232 : decode cL_twins 232 = .ok (.iconst 5, 1) := by decide +kernel
theorem dL_twins_233 : decode cL_twins 233 = .ok (.invokevirtual 10, 3) := by decide +kernel
theorem dL_twins_236 : decode cL_twins 236 = .ok (.if_icmp .ne 37, 3) := by decide +kernel
theorem dL_twins_239 : decode cL_twins 239 = .ok (.aload_n 0, 1) := by decide +kernel
theorem dL_twins_240 : decode cL_twins 240 = .ok (.iload 4, 2) := by decide +kernel
theorem dL_twins_242 : decode cL_twins 242 = .ok (.bipush 9, 2) := by decide +kernel
theorem dL_twins_244 : decode cL_twins 244 = .ok (.invokevirtual 10, 3) := by decide +kernel
theorem dL_twins_247 : decode cL_twins 247 = .ok (.aload_n 0, 1) := by decide +kernel
theorem dL_twins_248 : decode cL_twins 248 = .ok (.iload 5, 2) := by decide +kernel
theorem dL_twins_250 : decode cL_twins 250 = .ok (.bipush 9, 2) := by decide +kernel
theorem dL_twins_252 : decode cL_twins 252 = .ok (.invokevirtual 10, 3) := by decide +kernel
theorem dL_twins_255 : decode cL_twins 255 = .ok (.if_icmp .ne 18, 3) := by decide +kernel
theorem dL_twins_258 : decode cL_twins 258 = .ok (.aload_n 0, 1) := by decide +kernel
theorem dL_twins_259 : decode cL_twins 259 = .ok (.iload 4, 2) := by decide +kernel
theorem dL_twins_261 : decode cL_twins 261 = .ok (.iload 5, 2) := by decide +kernel
theorem dL_twins_263 : decode cL_twins 263 = .ok (.invokevirtual 29, 3) := by decide +kernel
theorem dL_twins_266 : decode cL_twins 266 = .ok (.ifCond .ne 7, 3) := by decide +kernel
theorem dL_twins_269 : decode cL_twins 269 = .ok (.iconst 1, 1) := by decide +kernel
theorem dL_twins_270 : decode cL_twins 270 = .ok (.goto 4, 3) := by decide +kernel
theorem dL_twins_273 : decode cL_twins 273 = .ok (.iconst 0, 1) := by decide +kernel
theorem dL_twins_274 : decode cL_twins 274 = .ok (.istore 8, 2) := by decide +kernel
theorem dL_twins_276 : decode cL_twins 276 = .ok (.iload 8, 2) := by decide +kernel
theorem dL_twins_278 : decode cL_twins 278 = .ok (.ifCond .ne 5, 3) := by decide +kernel
theorem dL_twins_281 : decode cL_twins 281 = .ok (.iconst 0, 1) := by decide +kernel
theorem dL_twins_282 : decode cL_twins 282 = .ok (.ireturn, 1) := by decide +kernel
theorem dL_twins_283 : decode cL_twins 283 = .ok (.iinc 6 1, 3) := by decide +kernel
theorem dL_twins_286 : decode cL_twins 286 = .ok (.goto (-128), 3) := by decide +kernel
theorem dL_twins_289 : decode cL_twins 289 = .ok (.iconst 1, 1) := by decide +kernel
theorem dL_twins_290 : decode cL_twins 290 = .ok (.ireturn, 1) := by decide +kernel
theorem dL_act_0 : decode cL_act 0 = .ok (.iload_n 2, 1) := by decide +kernel
theorem dL_act_1 : decode cL_act 1 = .ok (.bipush 6, 2) := by decide +kernel
theorem dL_act_3 : decode cL_act 3 = .ok (.invokestatic 72, 3) := by decide +kernel
theorem dL_act_6 : decode cL_act 6 = .ok (.istore_n 3, 1) := by decide +kernel
theorem dL_act_7 : decode cL_act 7 = .ok (.iload_n 2, 1) := by decide +kernel
theorem dL_act_8 : decode cL_act 8 = .ok (.iconst 3, 1) := by decide +kernel
theorem dL_act_9 : decode cL_act 9 = .ok (.ishr, 1) := by decide +kernel
theorem dL_act_10 : decode cL_act 10 = .ok (.bipush 6, 2) := by decide +kernel
theorem dL_act_12 : decode cL_act 12 = .ok (.invokestatic 72, 3) := by decide +kernel
theorem dL_act_15 : decode cL_act 15 = .ok (.istore 4, 2) := by decide +kernel
theorem dL_act_17 : decode cL_act 17 = .ok (.iload_n 1, 1) := by decide +kernel
theorem dL_act_18 : decode cL_act 18 = .ok (.bipush 15, 2) := by decide +kernel
theorem dL_act_20 : decode cL_act 20 = .ok (.invokestatic 72, 3) := by decide +kernel
theorem dL_act_23 : decode cL_act 23 = .ok (.tableswitch 707 0 13 #[69, 69, 171, 307, 388, 388, 432, 432, 432, 451, 533, 642, 666, 686], 69) := by decide +kernel
theorem dL_act_92 : decode cL_act 92 = .ok (.aload_n 0, 1) := by decide +kernel
theorem dL_act_93 : decode cL_act 93 = .ok (.iconst 1, 1) := by decide +kernel
theorem dL_act_94 : decode cL_act 94 = .ok (.invokevirtual 22, 3) := by decide +kernel
theorem dL_act_97 : decode cL_act 97 = .ok (.istore 5, 2) := by decide +kernel
theorem dL_act_99 : decode cL_act 99 = .ok (.aload_n 0, 1) := by decide +kernel
theorem dL_act_100 : decode cL_act 100 = .ok (.iload_n 2, 1) := by decide +kernel
theorem dL_act_101 : decode cL_act 101 = .ok (.iconst 2, 1) := by decide +kernel
theorem dL_act_102 : decode cL_act 102 = .ok (.ishr, 1) := by decide +kernel
theorem dL_act_103 : decode cL_act 103 = .ok (.aload_n 0, 1) := by decide +kernel
theorem dL_act_104 : decode cL_act 104 = .ok (.bipush 9, 2) := by decide +kernel
theorem dL_act_106 : decode cL_act 106 = .ok (.invokevirtual 22, 3) := by decide +kernel
theorem dL_act_109 : decode cL_act 109 = .ok (.invokestatic 72, 3) := by decide +kernel
theorem dL_act_112 : decode cL_act 112 = .ok (.bipush 50, 2) := by decide +kernel
theorem dL_act_114 : decode cL_act 114 = .ok (.iload_n 2, 1) := by decide +kernel
theorem dL_act_115 : decode cL_act 115 = .ok (.bipush 9, 2) := by decide +kernel
theorem dL_act_117 : decode cL_act 117 = .ok (.ishr, 1) := by decide +kernel
theorem dL_act_118 : decode cL_act 118 = .ok (.bipush 101, 2) := by decide +kernel
theorem dL_act_120 : decode cL_act 120 = .ok (.invokestatic 72, 3) := by decide +kernel
theorem dL_act_123 : decode cL_act 123 = .ok (.iadd, 1) := by decide +kernel
theorem dL_act_124 : decode cL_act 124 = .ok (.invokevirtual 75, 3) := by decide +kernel
theorem dL_act_127 : decode cL_act 127 = .ok (.istore 6, 2) := by decide +kernel
theorem dL_act_129 : decode cL_act 129 = .ok (.iload 5, 2) := by decide +kernel
theorem dL_act_131 : decode cL_act 131 = .ok (.bipush 16, 2) := by decide +kernel
theorem dL_act_133 : decode cL_act 133 = .ok (.if_icmp .ne 18, 3) := by decide +kernel
theorem dL_act_136 : decode cL_act 136 = .ok (.iload 6, 2) := by decide +kernel
theorem dL_act_138 : decode cL_act 138 = .ok (.bipush (-3), 2) := by decide +kernel
theorem dL_act_140 : decode cL_act 140 = .ok (.if_icmp .ne 7, 3) := by decide +kernel
theorem dL_act_143 : decode cL_act 143 = .ok (.iconst 1, 1) := by decide +kernel
theorem dL_act_144 : decode cL_act 144 = .ok (.goto 49, 3) := by decide +kernel
theorem dL_act_147 : decode cL_act 147 = .ok (.iconst 0, 1) := by decide +kernel
theorem dL_act_148 : decode cL_act 148 = .ok (.goto 45, 3) := by decide +kernel
theorem dL_act_151 : decode cL_act 151 = .ok (.iload 6, 2) := by decide +kernel
theorem dL_act_153 : decode cL_act 153 = .ok (.ifCond .lt 39, 3) := by decide +kernel
theorem dL_act_156 : decode cL_act 156 = .ok (.aload_n 0, 1) := by decide +kernel
theorem dL_act_157 : decode cL_act 157 = .ok (.iconst 1, 1) := by decide +kernel
theorem dL_act_158 : decode cL_act 158 = .ok (.invokevirtual 22, 3) := by decide +kernel
theorem dL_act_161 : decode cL_act 161 = .ok (.iload 5, 2) := by decide +kernel
theorem dL_act_163 : decode cL_act 163 = .ok (.iconst 1, 1) := by decide +kernel
theorem dL_act_164 : decode cL_act 164 = .ok (.iadd, 1) := by decide +kernel
theorem dL_act_165 : decode cL_act 165 = .ok (.if_icmp .ne 27, 3) := by decide +kernel
theorem dL_act_168 : decode cL_act 168 = .ok (.aload_n 0, 1) := by decide +kernel
theorem dL_act_169 : decode cL_act 169 = .ok (.iload 6, 2) := by decide +kernel
theorem dL_act_171 : decode cL_act 171 = .ok (.invokestatic 16, 3) := by decide +kernel
theorem dL_act_174 : decode cL_act 174 = .ok (.ifCond .eq 18, 3) := by decide +kernel
theorem dL_act_177 : decode cL_act 177 = .ok (.aload_n 0, 1) := by decide +kernel
theorem dL_act_178 : decode cL_act 178 = .ok (.iload 6, 2) := by decide +kernel
theorem dL_act_180 : decode cL_act 180 = .ok (.bipush 6, 2) := by decide +kernel
theorem dL_act_182 : decode cL_act 182 = .ok (.invokevirtual 10, 3) := by decide +kernel
theorem dL_act_185 : decode cL_act 185 = .ok (.ifCond .ne 7, 3) := by decide +kernel
theorem dL_act_188 : decode cL_act 188 = .ok (.iconst 1, 1) := by decide +kernel
theorem dL_act_189 : decode cL_act 189 = .ok (.goto 4, 3) := by decide +kernel
theorem dL_act_192 : decode cL_act 192 = .ok (.iconst 0, 1) := by decide +kernel
theorem dL_act_193 : decode cL_act 193 = .ok (.ireturn, 1) := by decide +kernel
theorem dL_act_194 : decode cL_act 194 = .ok (.aload_n 0, 1) := by decide +kernel
theorem dL_act_195 : decode cL_act 195 = .ok (.invokestatic 68, 3) := by decide +kernel
theorem dL_act_198 : decode cL_act 198 = .ok (.lstore 5, 2) := by decide +kernel
theorem dL_act_200 : decode cL_act 200 = .ok (.iconst 0, 1) := by decide +kernel
theorem dL_act_201 : decode cL_act 201 = .ok (.istore 7, 2) := by decide +kernel
theorem dL_act_203 : decode cL_act 203 = .ok (.iconst 0, 1) := by decide +kernel
theorem dL_act_204 : decode cL_act 204 = .ok (.istore 8, 2) := by decide +kernel
theorem dL_act_206 : decode cL_act 206 = .ok (.iload 8, 2) := by decide +kernel
theorem dL_act_208 : decode cL_act 208 = .ok (.bipush 16, 2) := by decide +kernel
theorem dL_act_210 : decode cL_act 210 = .ok (.if_icmp .ge 34, 3) := by decide +kernel
theorem dL_act_213 : decode cL_act 213 = .ok (.aload_n 0, 1) := by decide +kernel
theorem dL_act_214 : decode cL_act 214 = .ok (.iload_n 3, 1) := by decide +kernel
theorem dL_act_215 : decode cL_act 215 = .ok (.invokestatic 26, 3) := by decide +kernel
theorem dL_act_218 : decode cL_act 218 = .ok (.ifCond .eq 26, 3) := by decide +kernel
theorem dL_act_221 : decode cL_act 221 = .ok (.iload 7, 2) := by decide +kernel
theorem dL_act_223 : decode cL_act 223 = .ok (.aload_n 0, 1) := by decide +kernel
theorem dL_act_224 : decode cL_act 224 = .ok (.iload_n 3, 1) := by decide +kernel
theorem dL_act_225 : decode cL_act 225 = .ok (.bipush 6, 2) := by decide +kernel
theorem dL_act_227 : decode cL_act 227 = .ok (.invokevirtual 10, 3) := by decide +kernel
theorem dL_act_230 : decode cL_act 230 = .ok (.iload 8, 2) := by decide +kernel
theorem dL_act_232 : decode cL_act 232 = .ok (.ishr, 1) := by decide +kernel
theorem dL_act_233 : decode cL_act 233 = .ok (.iconst 1, 1) := by decide +kernel
theorem dL_act_234 : decode cL_act 234 = .ok (.iand, 1) := by decide +kernel
theorem dL_act_235 : decode cL_act 235 = .ok (.iadd, 1) := by decide +kernel
theorem dL_act_236 : decode cL_act 236 = .ok (.istore 7, 2) := by decide +kernel
theorem dL_act_238 : decode cL_act 238 = .ok (.iinc 8 1, 3) := by decide +kernel
theorem dL_act_241 : decode cL_act 241 = .ok (.goto (-35), 3) := by decide +kernel
theorem dL_act_244 : decode cL_act 244 = .ok (.aload_n 0, 1) := by decide +kernel
theorem dL_act_245 : decode cL_act 245 = .ok (.iload_n 3, 1) := by decide +kernel
theorem dL_act_246 : decode cL_act 246 = .ok (.invokestatic 26, 3) := by decide +kernel
theorem dL_act_249 : decode cL_act 249 = .ok (.ifCond .eq 56, 3) := by decide +kernel
theorem dL_act_252 : decode cL_act 252 = .ok (.aload_n 0, 1) := by decide +kernel
theorem dL_act_253 : decode cL_act 253 = .ok (.iload_n 3, 1) := by decide +kernel
theorem dL_act_254 : decode cL_act 254 = .ok (.invokevirtual 78, 3) := by decide +kernel
theorem dL_act_257 : decode cL_act 257 = .ok (.iload 7, 2) := by decide +kernel
theorem dL_act_259 : decode cL_act 259 = .ok (.if_icmp .ne 42, 3) := by decide +kernel
theorem dL_act_262 : decode cL_act 262 = .ok (.aload_n 0, 1) := by decide +kernel
theorem dL_act_263 : decode cL_act 263 = .ok (.iload_n 3, 1) := by decide +kernel
theorem dL_act_264 : decode cL_act 264 = .ok (.invokestatic 26, 3) := by decide +kernel
theorem dL_act_267 : decode cL_act 267 = .ok (.ifCond .ne 34, 3) := by decide +kernel
theorem dL_act_270 : decode cL_act 270 = .ok (.iload_n 2, 1) := by decide +kernel
theorem dL_act_271 : decode cL_act 271 = .ok (.iconst 4, 1) := by decide +kernel
theorem dL_act_272 : decode cL_act 272 = .ok (.ishr, 1) := by decide +kernel
theorem dL_act_273 : decode cL_act 273 = .ok (.iconst 3, 1) := by decide +kernel
theorem dL_act_274 : decode cL_act 274 = .ok (.invokestatic 72, 3) := by decide +kernel
theorem dL_act_277 : decode cL_act 277 = .ok (.ifCond .eq 20, 3) := by decide +kernel
theorem dL_act_280 : decode cL_act 280 = .ok (.aload_n 0, 1) := by decide +kernel
theorem dL_act_281 : decode cL_act 281 = .ok (.invokevirtual 55, 3) := by decide +kernel
theorem dL_act_284 : decode cL_act 284 = .ok (.ifCond .lt 17, 3) := by decide +kernel
theorem dL_act_287 : decode cL_act 287 = .ok (.aload_n 0, 1) := by decide +kernel
theorem dL_act_288 : decode cL_act 288 = .ok (.invokestatic 68, 3) := by decide +kernel
theorem dL_act_291 : decode cL_act 291 = .ok (.lload 5, 2) := by decide +kernel
theorem dL_act_293 : decode cL_act 293 = .ok (.lcmp, 1) := by decide +kernel
theorem dL_act_294 : decode cL_act 294 = .ok (.ifCond .ne 7, 3) := by decide +kernel
theorem dL_act_297 : decode cL_act 297 = .ok (.iconst 1, 1) := by decide +kernel
theorem dL_act_298 : decode cL_act 298 = .ok (.goto 31, 3) := by decide +kernel
theorem dL_act_301 : decode cL_act 301 = .ok (.iconst 0, 1) := by decide +kernel
theorem dL_act_302 : decode cL_act 302 = .ok (.goto 27, 3) := by decide +kernel
theorem dL_act_305 : decode cL_act 305 = .ok (.aload_n 0, 1) := by decide +kernel
theorem dL_act_306 : decode cL_act 306 = .ok (.iload_n 3, 1) := by decide +kernel
theorem dL_act_307 : decode cL_act 307 = .ok (.invokevirtual 78, 3) := by decide +kernel
theorem dL_act_310 : decode cL_act 310 = .ok (.iconst (-1), 1) := by decide +kernel
theorem dL_act_311 : decode cL_act 311 = .ok (.if_icmp .ne 17, 3) := by decide +kernel
theorem dL_act_314 : decode cL_act 314 = .ok (.aload_n 0, 1) := by decide +kernel
theorem dL_act_315 : decode cL_act 315 = .ok (.invokestatic 68, 3) := by decide +kernel
theorem dL_act_318 : decode cL_act 318 = .ok (.lload 5, 2) := by decide +kernel
theorem dL_act_320 : decode cL_act 320 = .ok (.lcmp, 1) := by decide +kernel
theorem dL_act_321 : decode cL_act 321 = .ok (.ifCond .ne 7, 3) := by decide +kernel
theorem dL_act_324 : decode cL_act 324 = .ok (.iconst 1, 1) := by decide +kernel
theorem dL_act_325 : decode cL_act 325 = .ok (.goto 4, 3) := by decide +kernel
theorem dL_act_328 : decode cL_act 328 = .ok (.iconst 0, 1) := by decide +kernel
theorem dL_act_329 : decode cL_act 329 = .ok (.ireturn, 1) := by decide +kernel
theorem dL_act_330 : decode cL_act 330 = .ok (.iload_n 2, 1) := by decide +kernel
theorem dL_act_331 : decode cL_act 331 = .ok (.iconst 4, 1) := by decide +kernel
theorem dL_act_332 : decode cL_act 332 = .ok (.ishr, 1) := by decide +kernel
theorem dL_act_333 : decode cL_act 333 = .ok (.iconst 3, 1) := by decide +kernel
theorem dL_act_334 : decode cL_act 334 = .ok (.invokestatic 72, 3) := by decide +kernel
theorem dL_act_337 : decode cL_act 337 = .ok (.ifCond .le 7, 3) := by decide +kernel
theorem dL_act_340 : decode cL_act 340 = .ok (.iconst 1, 1) := by decide +kernel
theorem dL_act_341 : decode cL_act 341 = .ok (.goto 4, 3) := by decide +kernel
theorem dL_act_344 : decode cL_act 344 = .ok (.iconst 0, 1) := by decide +kernel
theorem dL_act_345 : decode cL_act 345 = .ok (.istore 5, 2) := by decide +kernel
theorem dL_act_347 : decode cL_act 347 = .ok (.aload_n 0, 1) := by decide +kernel
theorem dL_act_348 : decode cL_act 348 = .ok (.iload_n 3, 1) := by decide +kernel
theorem dL_act_349 : decode cL_act 349 = .ok (.iload 5, 2) := by decide +kernel
theorem dL_act_351 : decode cL_act 351 = .ok (.invokevirtual 81, 3) := by decide +kernel
theorem dL_act_354 : decode cL_act 354 = .ok (.istore 6, 2) := by decide +kernel
theorem dL_act_356 : decode cL_act 356 = .ok (.aload_n 0, 1) := by decide +kernel
theorem dL_act_357 : decode cL_act 357 = .ok (.iload_n 3, 1) := by decide +kernel
theorem dL_act_358 : decode cL_act 358 = .ok (.invokestatic 26, 3) := by decide +kernel
theorem dL_act_361 : decode cL_act 361 = .ok (.ifCond .ne 17, 3) := by decide +kernel
theorem dL_act_364 : decode cL_act 364 = .ok (.iload 6, 2) := by decide +kernel
theorem dL_act_366 : decode cL_act 366 = .ok (.iconst (-1), 1) := by decide +kernel
theorem dL_act_367 : decode cL_act 367 = .ok (.if_icmp .ne 7, 3) := by decide +kernel
theorem dL_act_370 : decode cL_act 370 = .ok (.iconst 1, 1) := by decide +kernel
theorem dL_act_371 : decode cL_act 371 = .ok (.goto 39, 3) := by decide +kernel
theorem dL_act_374 : decode cL_act 374 = .ok (.iconst 0, 1) := by decide +kernel
theorem dL_act_375 : decode cL_act 375 = .ok (.goto 35, 3) := by decide +kernel
theorem dL_act_378 : decode cL_act 378 = .ok (.iload 6, 2) := by decide +kernel
theorem dL_act_380 : decode cL_act 380 = .ok (.bipush (-5), 2) := by decide +kernel
theorem dL_act_382 : decode cL_act 382 = .ok (.if_icmp .eq 13, 3) := by decide +kernel
theorem dL_act_385 : decode cL_act 385 = .ok (.iload 6, 2) := by decide +kernel
theorem dL_act_387 : decode cL_act 387 = .ok (.aload_n 0, 1) := by decide +kernel
theorem dL_act_388 : decode cL_act 388 = .ok (.iconst 2, 1) := by decide +kernel
theorem dL_act_389 : decode cL_act 389 = .ok (.invokevirtual 22, 3) := by decide +kernel
theorem dL_act_392 : decode cL_act 392 = .ok (.if_icmp .ne 17, 3) := by decide +kernel
theorem dL_act_395 : decode cL_act 395 = .ok (.aload_n 0, 1) := by decide +kernel
theorem dL_act_396 : decode cL_act 396 = .ok (.iload_n 3, 1) := by decide +kernel
theorem dL_act_397 : decode cL_act 397 = .ok (.invokestatic 16, 3) := by decide +kernel
theorem dL_act_400 : decode cL_act 400 = .ok (.iload 5, 2) := by decide +kernel
theorem dL_act_402 : decode cL_act 402 = .ok (.if_icmp .ne 7, 3) := by decide +kernel
theorem dL_act_405 : decode cL_act 405 = .ok (.iconst 1, 1) := by decide +kernel
theorem dL_act_406 : decode cL_act 406 = .ok (.goto 4, 3) := by decide +kernel
theorem dL_act_409 : decode cL_act 409 = .ok (.iconst 0, 1) := by decide +kernel
theorem dL_act_410 : decode cL_act 410 = .ok (.ireturn, 1) := by decide +kernel
theorem dL_act_411 : decode cL_act 411 = .ok (.aload_n 0, 1) := by decide +kernel
theorem dL_act_412 : decode cL_act 412 = .ok (.iload_n 3, 1) := by decide +kernel
theorem dL_act_413 : decode cL_act 413 = .ok (.iload 4, 2) := by decide +kernel
theorem dL_act_415 : decode cL_act 415 = .ok (.invokestatic 85, 3) := by decide +kernel
theorem dL_act_418 : decode cL_act 418 = .ok (.ifCond .eq 35, 3) := by decide +kernel
theorem dL_act_421 : decode cL_act 421 = .ok (.aload_n 0, 1) := by decide +kernel
theorem dL_act_422 : decode cL_act 422 = .ok (.iload_n 3, 1) := by decide +kernel
theorem dL_act_423 : decode cL_act 423 = .ok (.iload 4, 2) := by decide +kernel
theorem dL_act_425 : decode cL_act 425 = .ok (.iload_n 2, 1) := by decide +kernel
theorem dL_act_426 : decode cL_act 426 = .ok (.bipush 6, 2) := by decide +kernel
theorem dL_act_428 : decode cL_act 428 = .ok (.ishr, 1) := by decide +kernel
theorem dL_act_429 : decode cL_act 429 = .ok (.iconst 4, 1) := by decide +kernel
theorem dL_act_430 : decode cL_act 430 = .ok (.invokestatic 72, 3) := by decide +kernel
theorem dL_act_433 : decode cL_act 433 = .ok (.ifCond .le 7, 3) := by decide +kernel
theorem dL_act_436 : decode cL_act 436 = .ok (.iconst 1, 1) := by decide +kernel
theorem dL_act_437 : decode cL_act 437 = .ok (.goto 4, 3) := by decide +kernel
theorem dL_act_440 : decode cL_act 440 = .ok (.iconst 0, 1) := by decide +kernel
theorem dL_act_441 : decode cL_act 441 = .ok (.invokevirtual 61, 3) := by decide +kernel
theorem dL_act_444 : decode cL_act 444 = .ok (.bipush (-5), 2) := by decide +kernel
theorem dL_act_446 : decode cL_act 446 = .ok (.if_icmp .lt 7, 3) := by decide +kernel
theorem dL_act_449 : decode cL_act 449 = .ok (.iconst 1, 1) := by decide +kernel
theorem dL_act_450 : decode cL_act 450 = .ok (.goto 4, 3) := by decide +kernel
theorem dL_act_453 : decode cL_act 453 = .ok (.iconst 0, 1) := by decide +kernel
theorem dL_act_454 : decode cL_act 454 = .ok (.ireturn, 1) := by decide +kernel
theorem dL_act_455 : decode cL_act 455 = .ok (.aload_n 0, 1) := by decide +kernel
theorem dL_act_456 : decode cL_act 456 = .ok (.iload_n 3, 1) := by decide +kernel
theorem dL_act_457 : decode cL_act 457 = .ok (.iload 4, 2) := by decide +kernel
theorem dL_act_459 : decode cL_act 459 = .ok (.iconst 1, 1) := by decide +kernel
theorem dL_act_460 : decode cL_act 460 = .ok (.invokevirtual 61, 3) := by decide +kernel
theorem dL_act_463 : decode cL_act 463 = .ok (.bipush (-5), 2) := by decide +kernel
theorem dL_act_465 : decode cL_act 465 = .ok (.if_icmp .lt 7, 3) := by decide +kernel
theorem dL_act_468 : decode cL_act 468 = .ok (.iconst 1, 1) := by decide +kernel
theorem dL_act_469 : decode cL_act 469 = .ok (.goto 4, 3) := by decide +kernel
theorem dL_act_472 : decode cL_act 472 = .ok (.iconst 0, 1) := by decide +kernel
theorem dL_act_473 : decode cL_act 473 = .ok (.ireturn, 1) := by decide +kernel
theorem dL_act_474 : decode cL_act 474 = .ok (.aload_n 0, 1) := by decide +kernel
theorem dL_act_475 : decode cL_act 475 = .ok (.iload_n 3, 1) := by decide +kernel
theorem dL_act_476 : decode cL_act 476 = .ok (.iconst 0, 1) := by decide +kernel
theorem dL_act_477 : decode cL_act 477 = .ok (.invokevirtual 10, 3) := by decide +kernel
theorem dL_act_480 : decode cL_act 480 = .ok (.istore 5, 2) := by decide +kernel
theorem dL_act_482 : decode cL_act 482 = .ok (.aload_n 0, 1) := by decide +kernel
theorem dL_act_483 : decode cL_act 483 = .ok (.iload_n 3, 1) := by decide +kernel
theorem dL_act_484 : decode cL_act 484 = .ok (.iload_n 2, 1) := by decide +kernel
theorem dL_act_485 : decode cL_act 485 = .ok (.iconst 4, 1) := by decide +kernel
theorem dL_act_486 : decode cL_act 486 = .ok (.ishr, 1) := by decide +kernel
theorem dL_act_487 : decode cL_act 487 = .ok (.aload_n 0, 1) := by decide +kernel
theorem dL_act_488 : decode cL_act 488 = .ok (.bipush 9, 2) := by decide +kernel
theorem dL_act_490 : decode cL_act 490 = .ok (.invokevirtual 22, 3) := by decide +kernel
theorem dL_act_493 : decode cL_act 493 = .ok (.invokestatic 72, 3) := by decide +kernel
theorem dL_act_496 : decode cL_act 496 = .ok (.bipush 100, 2) := by decide +kernel
theorem dL_act_498 : decode cL_act 498 = .ok (.invokevirtual 89, 3) := by decide +kernel
theorem dL_act_501 : decode cL_act 501 = .ok (.istore 6, 2) := by decide +kernel
theorem dL_act_503 : decode cL_act 503 = .ok (.iload 6, 2) := by decide +kernel
theorem dL_act_505 : decode cL_act 505 = .ok (.iload 5, 2) := by decide +kernel
theorem dL_act_507 : decode cL_act 507 = .ok (.if_icmp .ne 47, 3) := by decide +kernel
theorem dL_act_510 : decode cL_act 510 = .ok (.iload 5, 2) := by decide +kernel
theorem dL_act_512 : decode cL_act 512 = .ok (.ifCond .lt 38, 3) := by decide +kernel
theorem dL_act_515 : decode cL_act 515 = .ok (.aload_n 0, 1) := by decide +kernel
theorem dL_act_516 : decode cL_act 516 = .ok (.iload_n 3, 1) := by decide +kernel
theorem dL_act_517 : decode cL_act 517 = .ok (.iconst 0, 1) := by decide +kernel
theorem dL_act_518 : decode cL_act 518 = .ok (.invokevirtual 10, 3) := by decide +kernel
theorem dL_act_521 : decode cL_act 521 = .ok (.bipush 100, 2) := by decide +kernel
theorem dL_act_523 : decode cL_act 523 = .ok (.iload_n 2, 1) := by decide +kernel
theorem dL_act_524 : decode cL_act 524 = .ok (.iconst 4, 1) := by decide +kernel
theorem dL_act_525 : decode cL_act 525 = .ok (.ishr, 1) := by decide +kernel
theorem dL_act_526 : decode cL_act 526 = .ok (.aload_n 0, 1) := by decide +kernel
theorem dL_act_527 : decode cL_act 527 = .ok (.bipush 9, 2) := by decide +kernel
theorem dL_act_529 : decode cL_act 529 = .ok (.invokevirtual 22, 3) := by decide +kernel
theorem dL_act_532 : decode cL_act 532 = .ok (.invokestatic 72, 3) := by decide +kernel
theorem dL_act_535 : decode cL_act 535 = .ok (.imul, 1) := by decide +kernel
theorem dL_act_536 : decode cL_act 536 = .ok (.if_icmp .ne 18, 3) := by decide +kernel
theorem dL_act_539 : decode cL_act 539 = .ok (.aload_n 0, 1) := by decide +kernel
theorem dL_act_540 : decode cL_act 540 = .ok (.iload_n 3, 1) := by decide +kernel
theorem dL_act_541 : decode cL_act 541 = .ok (.iconst 1, 1) := by decide +kernel
theorem dL_act_542 : decode cL_act 542 = .ok (.invokevirtual 10, 3) := by decide +kernel
theorem dL_act_545 : decode cL_act 545 = .ok (.bipush 100, 2) := by decide +kernel
theorem dL_act_547 : decode cL_act 547 = .ok (.if_icmp .ne 7, 3) := by decide +kernel
theorem dL_act_550 : decode cL_act 550 = .ok (.iconst 1, 1) := by decide +kernel
theorem dL_act_551 : decode cL_act 551 = .ok (.goto 4, 3) := by decide +kernel
theorem dL_act_554 : decode cL_act 554 = .ok (.iconst 0, 1) := by decide +kernel
theorem dL_act_555 : decode cL_act 555 = .ok (.ireturn, 1) := by decide +kernel
theorem dL_act_556 : decode cL_act 556 = .ok (.iload_n 2, 1) := by decide +kernel
theorem dL_act_557 : decode cL_act 557 = .ok (.iconst 3, 1) := by decide +kernel
theorem dL_act_558 : decode cL_act 558 = .ok (.invokestatic 72, 3) := by decide +kernel
theorem dL_act_561 : decode cL_act 561 = .ok (.istore 5, 2) := by decide +kernel
theorem dL_act_563 : decode cL_act 563 = .ok (.iload 5, 2) := by decide +kernel
theorem dL_act_565 : decode cL_act 565 = .ok (.ifCond .ne 17, 3) := by decide +kernel
theorem dL_act_568 : decode cL_act 568 = .ok (.bipush 10, 2) := by decide +kernel
theorem dL_act_570 : decode cL_act 570 = .ok (.iload_n 2, 1) := by decide +kernel
theorem dL_act_571 : decode cL_act 571 = .ok (.iconst 2, 1) := by decide +kernel
theorem dL_act_572 : decode cL_act 572 = .ok (.ishr, 1) := by decide +kernel
theorem dL_act_573 : decode cL_act 573 = .ok (.bipush 60, 2) := by decide +kernel
theorem dL_act_575 : decode cL_act 575 = .ok (.invokestatic 72, 3) := by decide +kernel
theorem dL_act_578 : decode cL_act 578 = .ok (.iadd, 1) := by decide +kernel
theorem dL_act_579 : decode cL_act 579 = .ok (.goto 28, 3) := by decide +kernel
theorem dL_act_582 : decode cL_act 582 = .ok (.iload 5, 2) := by decide +kernel
theorem dL_act_584 : decode cL_act 584 = .ok (.iconst 1, 1) := by decide +kernel
theorem dL_act_585 : decode cL_act 585 = .ok (.if_icmp .ne 14, 3) := by decide +kernel
theorem dL_act_588 : decode cL_act 588 = .ok (.iload_n 2, 1) := by decide +kernel
theorem dL_act_589 : decode cL_act 589 = .ok (.iconst 2, 1) := by decide +kernel
theorem dL_act_590 : decode cL_act 590 = .ok (.ishr, 1) := by decide +kernel
theorem dL_act_591 : decode cL_act 591 = .ok (.bipush 101, 2) := by decide +kernel
theorem dL_act_593 : decode cL_act 593 = .ok (.invokestatic 72, 3) := by decide +kernel
theorem dL_act_596 : decode cL_act 596 = .ok (.goto 11, 3) := by decide +kernel
theorem dL_act_599 : decode cL_act 599 = .ok (.iload_n 2, 1) := by decide +kernel
theorem dL_act_600 : decode cL_act 600 = .ok (.iconst 2, 1) := by decide +kernel
theorem dL_act_601 : decode cL_act 601 = .ok (.ishr, 1) := by decide +kernel
theorem dL_act_602 : decode cL_act 602 = .ok (.bipush 6, 2) := by decide +kernel
theorem dL_act_604 : decode cL_act 604 = .ok (.invokestatic 72, 3) := by decide +kernel
theorem dL_act_607 : decode cL_act 607 = .ok (.istore 6, 2) := by decide +kernel
theorem dL_act_609 : decode cL_act 609 = .ok (.aload_n 0, 1) := by decide +kernel
theorem dL_act_610 : decode cL_act 610 = .ok (.bipush 9, 2) := by decide +kernel
theorem dL_act_612 : decode cL_act 612 = .ok (.iload 5, 2) := by decide +kernel
theorem dL_act_614 : decode cL_act 614 = .ok (.iadd, 1) := by decide +kernel
theorem dL_act_615 : decode cL_act 615 = .ok (.invokevirtual 22, 3) := by decide +kernel
theorem dL_act_618 : decode cL_act 618 = .ok (.istore 7, 2) := by decide +kernel
theorem dL_act_620 : decode cL_act 620 = .ok (.aload_n 0, 1) := by decide +kernel
theorem dL_act_621 : decode cL_act 621 = .ok (.iload 5, 2) := by decide +kernel
theorem dL_act_623 : decode cL_act 623 = .ok (.iload 6, 2) := by decide +kernel
theorem dL_act_625 : decode cL_act 625 = .ok (.invokevirtual 93, 3) := by decide +kernel
theorem dL_act_628 : decode cL_act 628 = .ok (.iload 7, 2) := by decide +kernel
theorem dL_act_630 : decode cL_act 630 = .ok (.iload 6, 2) := by decide +kernel
theorem dL_act_632 : decode cL_act 632 = .ok (.if_icmp .ne 8, 3) := by decide +kernel
theorem dL_act_635 : decode cL_act 635 = .ok (.bipush (-5), 2) := by decide +kernel
theorem dL_act_637 : decode cL_act 637 = .ok (.goto 5, 3) := by decide +kernel
theorem dL_act_640 : decode cL_act 640 = .ok (.iload 7, 2) := by decide +kernel
theorem dL_act_642 : decode cL_act 642 = .ok (.if_icmp .ne 21, 3) := by decide +kernel
theorem dL_act_645 : decode cL_act 645 = .ok (.aload_n 0, 1) := by decide +kernel
theorem dL_act_646 : decode cL_act 646 = .ok (.bipush 9, 2) := by decide +kernel
theorem dL_act_648 : decode cL_act 648 = .ok (.iload 5, 2) := by decide +kernel
theorem dL_act_650 : decode cL_act 650 = .ok (.iadd, 1) := by decide +kernel
theorem dL_act_651 : decode cL_act 651 = .ok (.invokevirtual 22, 3) := by decide +kernel
theorem dL_act_654 : decode cL_act 654 = .ok (.iload 6, 2) := by decide +kernel
theorem dL_act_656 : decode cL_act 656 = .ok (.if_icmp .ne 7, 3) := by decide +kernel
theorem dL_act_659 : decode cL_act 659 = .ok (.iconst 1, 1) := by decide +kernel
theorem dL_act_660 : decode cL_act 660 = .ok (.goto 4, 3) := by decide +kernel
theorem dL_act_663 : decode cL_act 663 = .ok (.iconst 0, 1) := by decide +kernel
theorem dL_act_664 : decode cL_act 664 = .ok (.ireturn, 1) := by decide +kernel
theorem dL_act_665 : decode cL_act 665 = .ok (.aload_n 0, 1) := by decide +kernel
theorem dL_act_666 : decode cL_act 666 = .ok (.iconst 1, 1) := by decide +kernel
theorem dL_act_667 : decode cL_act 667 = .ok (.iload_n 2, 1) := by decide +kernel
theorem dL_act_668 : decode cL_act 668 = .ok (.bipush 60, 2) := by decide +kernel
theorem dL_act_670 : decode cL_act 670 = .ok (.invokestatic 72, 3) := by decide +kernel
theorem dL_act_673 : decode cL_act 673 = .ok (.iadd, 1) := by decide +kernel
theorem dL_act_674 : decode cL_act 674 = .ok (.iconst 1, 1) := by decide +kernel
theorem dL_act_675 : decode cL_act 675 = .ok (.iload_n 2, 1) := by decide +kernel
theorem dL_act_676 : decode cL_act 676 = .ok (.bipush 7, 2) := by decide +kernel
theorem dL_act_678 : decode cL_act 678 = .ok (.ishr, 1) := by decide +kernel
theorem dL_act_679 : decode cL_act 679 = .ok (.bipush 60, 2) := by decide +kernel
theorem dL_act_681 : decode cL_act 681 = .ok (.invokestatic 72, 3) := by decide +kernel
theorem dL_act_684 : decode cL_act 684 = .ok (.iadd, 1) := by decide +kernel
theorem dL_act_685 : decode cL_act 685 = .ok (.invokestatic 96, 3) := by decide +kernel
theorem dL_act_688 : decode cL_act 688 = .ok (.ireturn, 1) := by decide +kernel
theorem dL_act_689 : decode cL_act 689 = .ok (.aload_n 0, 1) := by decide +kernel
theorem dL_act_690 : decode cL_act 690 = .ok (.invokestatic 99, 3) := by decide +kernel
theorem dL_act_693 : decode cL_act 693 = .ok (.ifCond .eq 14, 3) := by decide +kernel
theorem dL_act_696 : decode cL_act 696 = .ok (.aload_n 0, 1) := by decide +kernel
theorem dL_act_697 : decode cL_act 697 = .ok (.invokestatic 103, 3) := by decide +kernel
theorem dL_act_700 : decode cL_act 700 = .ok (.ifCond .eq 7, 3) := by decide +kernel
theorem dL_act_703 : decode cL_act 703 = .ok (.iconst 1, 1) := by decide +kernel
theorem dL_act_704 : decode cL_act 704 = .ok (.goto 4, 3) := by decide +kernel
theorem dL_act_707 : decode cL_act 707 = .ok (.iconst 0, 1) := by decide +kernel
theorem dL_act_708 : decode cL_act 708 = .ok (.ireturn, 1) := by decide +kernel
theorem dL_act_709 : decode cL_act 709 = .ok (.iload_n 2, 1) := by decide +kernel
theorem dL_act_710 : decode cL_act 710 = .ok (.iconst 4, 1) := by decide +kernel
theorem dL_act_711 : decode cL_act 711 = .ok (.invokestatic 72, 3) := by decide +kernel
theorem dL_act_714 : decode cL_act 714 = .ok (.ifCond .gt 10, 3) := by decide +kernel
theorem dL_act_717 : decode cL_act 717 = .ok (.aload_n 0, 1) := by decide +kernel
theorem dL_act_718 : decode cL_act 718 = .ok (.invokestatic 106, 3) := by decide +kernel
theorem dL_act_721 : decode cL_act 721 = .ok (.ifCond .eq 7, 3) := by decide +kernel
theorem dL_act_724 : decode cL_act 724 = .ok (.iconst 1, 1) := by decide +kernel
theorem dL_act_725 : decode cL_act 725 = .ok (.goto 4, 3) := by decide +kernel
theorem dL_act_728 : decode cL_act 728 = .ok (.iconst 0, 1) := by decide +kernel
theorem dL_act_729 : decode cL_act 729 = .ok (.ireturn, 1) := by decide +kernel
theorem dL_act_730 : decode cL_act 730 = .ok (.aload_n 0, 1) := by decide +kernel
theorem dL_act_731 : decode cL_act 731 = .ok (.iload_n 2, 1) := by decide +kernel
theorem dL_act_732 : decode cL_act 732 = .ok (.invokestatic 109, 3) := by decide +kernel
theorem dL_act_735 : decode cL_act 735 = .ok (.ireturn, 1) := by decide +kernel
theorem dL_law_0 : decode cL_law 0 = .ok (.new 11, 3) := by decide +kernel
theorem dL_law_3 : decode cL_law 3 = .ok (.dup, 1) := by decide +kernel
theorem dL_law_4 : decode cL_law 4 = .ok (.invokespecial 112, 3) := by decide +kernel
theorem dL_law_7 : decode cL_law 7 = .ok (.astore_n 1, 1) := by decide +kernel
theorem dL_law_8 : decode cL_law 8 = .ok (.aload_n 1, 1) := by decide +kernel
theorem dL_law_9 : decode cL_law 9 = .ok (.invokestatic 113, 3) := by decide +kernel
theorem dL_law_12 : decode cL_law 12 = .ok (.ifCond .eq 22, 3) := by decide +kernel
theorem dL_law_15 : decode cL_law 15 = .ok (.aload_n 1, 1) := by decide +kernel
theorem dL_law_16 : decode cL_law 16 = .ok (.invokevirtual 116, 3) := by decide +kernel
theorem dL_law_19 : decode cL_law 19 = .ok (.bipush (-5), 2) := by decide +kernel
theorem dL_law_21 : decode cL_law 21 = .ok (.if_icmp .ne 13, 3) := by decide +kernel
theorem dL_law_24 : decode cL_law 24 = .ok (.aload_n 1, 1) := by decide +kernel
theorem dL_law_25 : decode cL_law 25 = .ok (.iconst 0, 1) := by decide +kernel
theorem dL_law_26 : decode cL_law 26 = .ok (.invokevirtual 65, 3) := by decide +kernel
theorem dL_law_29 : decode cL_law 29 = .ok (.bipush (-5), 2) := by decide +kernel
theorem dL_law_31 : decode cL_law 31 = .ok (.if_icmp .eq 5, 3) := by decide +kernel
theorem dL_law_34 : decode cL_law 34 = .ok (.iconst 0, 1) := by decide +kernel
theorem dL_law_35 : decode cL_law 35 = .ok (.ireturn, 1) := by decide +kernel
theorem dL_law_36 : decode cL_law 36 = .ok (.iconst 0, 1) := by decide +kernel
theorem dL_law_37 : decode cL_law 37 = .ok (.istore_n 2, 1) := by decide +kernel
theorem dL_law_38 : decode cL_law 38 = .ok (.iload_n 2, 1) := by decide +kernel
theorem dL_law_39 : decode cL_law 39 = .ok (.bipush 30, 2) := by decide +kernel
theorem dL_law_41 : decode cL_law 41 = .ok (.if_icmp .ge 50, 3) := by decide +kernel
theorem dL_law_44 : decode cL_law 44 = .ok (.aload_n 1, 1) := by decide +kernel
theorem dL_law_45 : decode cL_law 45 = .ok (.iload_n 2, 1) := by decide +kernel
theorem dL_law_46 : decode cL_law 46 = .ok (.iconst 4, 1) := by decide +kernel
theorem dL_law_47 : decode cL_law 47 = .ok (.if_icmp .ge 7, 3) := by decide +kernel
theorem dL_law_50 : decode cL_law 50 = .ok (.iconst 0, 1) := by decide +kernel
theorem dL_law_51 : decode cL_law 51 = .ok (.goto 10, 3) := by decide +kernel
theorem dL_law_54 : decode cL_law 54 = .ok (.aload_n 0, 1) := by decide +kernel
theorem dL_law_55 : decode cL_law 55 = .ok (.iconst 2, 1) := by decide +kernel
theorem dL_law_56 : decode cL_law 56 = .ok (.iload_n 2, 1) := by decide +kernel
theorem dL_law_57 : decode cL_law 57 = .ok (.imul, 1) := by decide +kernel
theorem dL_law_58 : decode cL_law 58 = .ok (.invokestatic 119, 3) := by decide +kernel
theorem dL_law_61 : decode cL_law 61 = .ok (.aload_n 0, 1) := by decide +kernel
theorem dL_law_62 : decode cL_law 62 = .ok (.iconst 2, 1) := by decide +kernel
theorem dL_law_63 : decode cL_law 63 = .ok (.iload_n 2, 1) := by decide +kernel
theorem dL_law_64 : decode cL_law 64 = .ok (.imul, 1) := by decide +kernel
theorem dL_law_65 : decode cL_law 65 = .ok (.iconst 1, 1) := by decide +kernel
theorem dL_law_66 : decode cL_law 66 = .ok (.iadd, 1) := by decide +kernel
theorem dL_law_67 : decode cL_law 67 = .ok (.invokestatic 119, 3) := by decide +kernel
theorem dL_law_70 : decode cL_law 70 = .ok (.invokestatic 123, 3) := by decide +kernel
theorem dL_law_73 : decode cL_law 73 = .ok (.ifCond .eq 10, 3) := by decide +kernel
theorem dL_law_76 : decode cL_law 76 = .ok (.aload_n 1, 1) := by decide +kernel
theorem dL_law_77 : decode cL_law 77 = .ok (.invokestatic 113, 3) := by decide +kernel
theorem dL_law_80 : decode cL_law 80 = .ok (.ifCond .ne 5, 3) := by decide +kernel
theorem dL_law_83 : decode cL_law 83 = .ok (.iconst 0, 1) := by decide +kernel
theorem dL_law_84 : decode cL_law 84 = .ok (.ireturn, 1) := by decide +kernel
theorem dL_law_85 : decode cL_law 85 = .ok (.iinc 2 1, 3) := by decide +kernel
theorem dL_law_88 : decode cL_law 88 = .ok (.goto (-50), 3) := by decide +kernel
theorem dL_law_91 : decode cL_law 91 = .ok (.aload_n 1, 1) := by decide +kernel
theorem dL_law_92 : decode cL_law 92 = .ok (.invokestatic 103, 3) := by decide +kernel
theorem dL_law_95 : decode cL_law 95 = .ok (.ifCond .eq 14, 3) := by decide +kernel
theorem dL_law_98 : decode cL_law 98 = .ok (.aload_n 1, 1) := by decide +kernel
theorem dL_law_99 : decode cL_law 99 = .ok (.invokestatic 99, 3) := by decide +kernel
theorem dL_law_102 : decode cL_law 102 = .ok (.ifCond .eq 7, 3) := by decide +kernel
theorem dL_law_105 : decode cL_law 105 = .ok (.iconst 1, 1) := by decide +kernel
theorem dL_law_106 : decode cL_law 106 = .ok (.goto 4, 3) := by decide +kernel
theorem dL_law_109 : decode cL_law 109 = .ok (.iconst 0, 1) := by decide +kernel
theorem dL_law_110 : decode cL_law 110 = .ok (.ireturn, 1) := by decide +kernel
