theorem dL_isSound_147 : decode cL_isSound 147 = .ok (.goto 4, 3) := by decide +kernel
theorem dL_isSound_150 : decode cL_isSound 150 = .ok (.iconst 0, 1) := by decide +kernel
theorem dL_isSound_151 : decode cL_isSound 151 = .ok (.if_icmp .ne 88, 3) := by decide +kernel
theorem dL_isSound_154 : decode cL_isSound 154 = .ok (.aload_n 0, 1) := by decide +kernel
theorem dL_isSound_155 : decode cL_isSound 155 = .ok (.iload 4, 2) := by decide +kernel
theorem dL_isSound_157 : decode cL_isSound 157 = .ok (.iload_n 3, 1) := by decide +kernel
theorem dL_isSound_158 : decode cL_isSound 158 = .ok (.iconst 4, 1) := by decide +kernel
theorem dL_isSound_159 : decode cL_isSound 159 = .ok (.invokevirtual 75, 3) := by decide +kernel
theorem dL_isSound_162 : decode cL_isSound 162 = .ok (.ifCond .ne 7, 3) := by decide +kernel
theorem dL_isSound_165 : decode cL_isSound 165 = .ok (.iconst 1, 1) := by decide +kernel
theorem dL_isSound_166 : decode cL_isSound 166 = .ok (.goto 4, 3) := by decide +kernel
theorem dL_isSound_169 : decode cL_isSound 169 = .ok (.iconst 0, 1) := by decide +kernel
theorem dL_isSound_170 : decode cL_isSound 170 = .ok (.iload 5, 2) := by decide +kernel
theorem dL_isSound_172 : decode cL_isSound 172 = .ok (.iconst 4, 1) := by decide +kernel
theorem dL_isSound_173 : decode cL_isSound 173 = .ok (.iand, 1) := by decide +kernel
theorem dL_isSound_174 : decode cL_isSound 174 = .ok (.ifCond .le 7, 3) := by decide +kernel
theorem dL_isSound_177 : decode cL_isSound 177 = .ok (.iconst 1, 1) := by decide +kernel
theorem dL_isSound_178 : decode cL_isSound 178 = .ok (.goto 4, 3) := by decide +kernel
theorem dL_isSound_181 : decode cL_isSound 181 = .ok (.iconst 0, 1) := by decide +kernel
theorem dL_isSound_182 : decode cL_isSound 182 = .ok (.if_icmp .ne 57, 3) := by decide +kernel
theorem dL_isSound_185 : decode cL_isSound 185 = .ok (.aload_n 0, 1) := by decide +kernel
theorem dL_isSound_186 : decode cL_isSound 186 = .ok (.iload 4, 2) := by decide +kernel
theorem dL_isSound_188 : decode cL_isSound 188 = .ok (.iload_n 3, 1) := by decide +kernel
theorem dL_isSound_189 : decode cL_isSound 189 = .ok (.invokevirtual 65, 3) := by decide +kernel
theorem dL_isSound_192 : decode cL_isSound 192 = .ok (.ifCond .lt 7, 3) := by decide +kernel
theorem dL_isSound_195 : decode cL_isSound 195 = .ok (.iconst 1, 1) := by decide +kernel
theorem dL_isSound_196 : decode cL_isSound 196 = .ok (.goto 4, 3) := by decide +kernel
theorem dL_isSound_199 : decode cL_isSound 199 = .ok (.iconst 0, 1) := by decide +kernel
theorem dL_isSound_200 : decode cL_isSound 200 = .ok (.iload 5, 2) := by decide +kernel
theorem dL_isSound_202 : decode cL_isSound 202 = .ok (.iconst 1, 1) := by decide +kernel
theorem dL_isSound_203 : decode cL_isSound 203 = .ok (.iand, 1) := by decide +kernel
theorem dL_isSound_204 : decode cL_isSound 204 = .ok (.ifCond .le 7, 3) := by decide +kernel
theorem dL_isSound_207 : decode cL_isSound 207 = .ok (.iconst 1, 1) := by decide +kernel
theorem dL_isSound_208 : decode cL_isSound 208 = .ok (.goto 4, 3) := by decide +kernel
theorem dL_isSound_211 : decode cL_isSound 211 = .ok (.iconst 0, 1) := by decide +kernel
theorem dL_isSound_212 : decode cL_isSound 212 = .ok (.if_icmp .ne 27, 3) := by decide +kernel
theorem dL_isSound_215 : decode cL_isSound 215 = .ok (.aload_n 0, 1) := by decide +kernel
theorem dL_isSound_216 : decode cL_isSound 216 = .ok (.iload_n 3, 1) := by decide +kernel
theorem dL_isSound_217 : decode cL_isSound 217 = .ok (.iconst 4, 1) := by decide +kernel
theorem dL_isSound_218 : decode cL_isSound 218 = .ok (.invokevirtual 33, 3) := by decide +kernel
theorem dL_isSound_221 : decode cL_isSound 221 = .ok (.iload 4, 2) := by decide +kernel
theorem dL_isSound_223 : decode cL_isSound 223 = .ok (.ishr, 1) := by decide +kernel
theorem dL_isSound_224 : decode cL_isSound 224 = .ok (.iconst 1, 1) := by decide +kernel
theorem dL_isSound_225 : decode cL_isSound 225 = .ok (.iand, 1) := by decide +kernel
theorem dL_isSound_226 : decode cL_isSound 226 = .ok (.iload 5, 2) := by decide +kernel
theorem dL_isSound_228 : decode cL_isSound 228 = .ok (.iconst 1, 1) := by decide +kernel
theorem dL_isSound_229 : decode cL_isSound 229 = .ok (.ishr, 1) := by decide +kernel
theorem dL_isSound_230 : decode cL_isSound 230 = .ok (.iconst 1, 1) := by decide +kernel
theorem dL_isSound_231 : decode cL_isSound 231 = .ok (.iand, 1) := by decide +kernel
theorem dL_isSound_232 : decode cL_isSound 232 = .ok (.if_icmp .ne 7, 3) := by decide +kernel
theorem dL_isSound_235 : decode cL_isSound 235 = .ok (.iconst 1, 1) := by decide +kernel
theorem dL_isSound_236 : decode cL_isSound 236 = .ok (.goto 4, 3) := by decide +kernel
theorem dL_isSound_239 : decode cL_isSound 239 = .ok (.iconst 0, 1) := by decide +kernel
theorem dL_isSound_240 : decode cL_isSound 240 = .ok (.istore_n 2, 1) := by decide +kernel
theorem dL_isSound_241 : decode cL_isSound 241 = .ok (.iinc 4 1, 3) := by decide +kernel
theorem dL_isSound_244 : decode cL_isSound 244 = .ok (.goto (-226), 3) := by decide +kernel
theorem dL_isSound_247 : decode cL_isSound 247 = .ok (.iinc 3 1, 3) := by decide +kernel
theorem dL_isSound_250 : decode cL_isSound 250 = .ok (.goto (-244), 3) := by decide +kernel
theorem dL_isSound_253 : decode cL_isSound 253 = .ok (.iload_n 2, 1) := by decide +kernel
theorem dL_isSound_254 : decode cL_isSound 254 = .ok (.ifCond .eq 65, 3) := by decide +kernel
theorem dL_isSound_257 : decode cL_isSound 257 = .ok (.aload_n 0, 1) := by decide +kernel
theorem dL_isSound_258 : decode cL_isSound 258 = .ok (.bipush 6, 2) := by decide +kernel
theorem dL_isSound_260 : decode cL_isSound 260 = .ok (.invokevirtual 40, 3) := by decide +kernel
theorem dL_isSound_263 : decode cL_isSound 263 = .ok (.iload_n 1, 1) := by decide +kernel
theorem dL_isSound_264 : decode cL_isSound 264 = .ok (.if_icmp .ne 55, 3) := by decide +kernel
theorem dL_isSound_267 : decode cL_isSound 267 = .ok (.aload_n 0, 1) := by decide +kernel
theorem dL_isSound_268 : decode cL_isSound 268 = .ok (.iconst 2, 1) := by decide +kernel
theorem dL_isSound_269 : decode cL_isSound 269 = .ok (.invokevirtual 40, 3) := by decide +kernel
theorem dL_isSound_272 : decode cL_isSound 272 = .ok (.aload_n 0, 1) := by decide +kernel
theorem dL_isSound_273 : decode cL_isSound 273 = .ok (.iconst 1, 1) := by decide +kernel
theorem dL_isSound_274 : decode cL_isSound 274 = .ok (.invokevirtual 40, 3) := by decide +kernel
theorem dL_isSound_277 : decode cL_isSound 277 = .ok (.aload_n 0, 1) := by decide +kernel
theorem dL_isSound_278 : decode cL_isSound 278 = .ok (.iconst 3, 1) := by decide +kernel
theorem dL_isSound_279 : decode cL_isSound 279 = .ok (.invokevirtual 40, 3) := by decide +kernel
theorem dL_isSound_282 : decode cL_isSound 282 = .ok (.iadd, 1) := by decide +kernel
theorem dL_isSound_283 : decode cL_isSound 283 = .ok (.aload_n 0, 1) := by decide +kernel
theorem dL_isSound_284 : decode cL_isSound 284 = .ok (.iconst 4, 1) := by decide +kernel
theorem dL_isSound_285 : decode cL_isSound 285 = .ok (.invokevirtual 40, 3) := by decide +kernel
theorem dL_isSound_288 : decode cL_isSound 288 = .ok (.iadd, 1) := by decide +kernel
theorem dL_isSound_289 : decode cL_isSound 289 = .ok (.if_icmp .ne 30, 3) := by decide +kernel
theorem dL_isSound_292 : decode cL_isSound 292 = .ok (.aload_n 0, 1) := by decide +kernel
theorem dL_isSound_293 : decode cL_isSound 293 = .ok (.bipush 7, 2) := by decide +kernel
theorem dL_isSound_295 : decode cL_isSound 295 = .ok (.invokevirtual 40, 3) := by decide +kernel
theorem dL_isSound_298 : decode cL_isSound 298 = .ok (.aload_n 0, 1) := by decide +kernel
theorem dL_isSound_299 : decode cL_isSound 299 = .ok (.iconst 1, 1) := by decide +kernel
theorem dL_isSound_300 : decode cL_isSound 300 = .ok (.invokevirtual 40, 3) := by decide +kernel
theorem dL_isSound_303 : decode cL_isSound 303 = .ok (.if_icmp .gt 16, 3) := by decide +kernel
theorem dL_isSound_306 : decode cL_isSound 306 = .ok (.aload_n 0, 1) := by decide +kernel
theorem dL_isSound_307 : decode cL_isSound 307 = .ok (.iconst 0, 1) := by decide +kernel
theorem dL_isSound_308 : decode cL_isSound 308 = .ok (.invokevirtual 53, 3) := by decide +kernel
theorem dL_isSound_311 : decode cL_isSound 311 = .ok (.iload_n 1, 1) := by decide +kernel
theorem dL_isSound_312 : decode cL_isSound 312 = .ok (.if_icmp .ne 7, 3) := by decide +kernel
theorem dL_isSound_315 : decode cL_isSound 315 = .ok (.iconst 1, 1) := by decide +kernel
theorem dL_isSound_316 : decode cL_isSound 316 = .ok (.goto 4, 3) := by decide +kernel
theorem dL_isSound_319 : decode cL_isSound 319 = .ok (.iconst 0, 1) := by decide +kernel
theorem dL_isSound_320 : decode cL_isSound 320 = .ok (.ireturn, 1) := by decide +kernel
theorem dL_law_0 : decode cL_law 0 = .ok (.new 16, 3) := by decide +kernel
theorem dL_law_3 : decode cL_law 3 = .ok (.dup, 1) := by decide +kernel
theorem dL_law_4 : decode cL_law 4 = .ok (.invokespecial 78, 3) := by decide +kernel
theorem dL_law_7 : decode cL_law 7 = .ok (.astore_n 1, 1) := by decide +kernel
theorem dL_law_8 : decode cL_law 8 = .ok (.new 16, 3) := by decide +kernel
theorem dL_law_11 : decode cL_law 11 = .ok (.dup, 1) := by decide +kernel
theorem dL_law_12 : decode cL_law 12 = .ok (.invokespecial 78, 3) := by decide +kernel
theorem dL_law_15 : decode cL_law 15 = .ok (.astore_n 2, 1) := by decide +kernel
theorem dL_law_16 : decode cL_law 16 = .ok (.iconst 1, 1) := by decide +kernel
theorem dL_law_17 : decode cL_law 17 = .ok (.istore_n 3, 1) := by decide +kernel
theorem dL_law_18 : decode cL_law 18 = .ok (.iconst 0, 1) := by decide +kernel
theorem dL_law_19 : decode cL_law 19 = .ok (.istore 4, 2) := by decide +kernel
theorem dL_law_21 : decode cL_law 21 = .ok (.iload 4, 2) := by decide +kernel
theorem dL_law_23 : decode cL_law 23 = .ok (.iconst 3, 1) := by decide +kernel
theorem dL_law_24 : decode cL_law 24 = .ok (.if_icmp .ge 78, 3) := by decide +kernel
theorem dL_law_27 : decode cL_law 27 = .ok (.aload_n 0, 1) := by decide +kernel
theorem dL_law_28 : decode cL_law 28 = .ok (.iload 4, 2) := by decide +kernel
theorem dL_law_30 : decode cL_law 30 = .ok (.invokestatic 79, 3) := by decide +kernel
theorem dL_law_33 : decode cL_law 33 = .ok (.bipush 10, 2) := by decide +kernel
theorem dL_law_35 : decode cL_law 35 = .ok (.invokestatic 9, 3) := by decide +kernel
theorem dL_law_38 : decode cL_law 38 = .ok (.istore 5, 2) := by decide +kernel
theorem dL_law_40 : decode cL_law 40 = .ok (.aload_n 0, 1) := by decide +kernel
theorem dL_law_41 : decode cL_law 41 = .ok (.iload 4, 2) := by decide +kernel
theorem dL_law_43 : decode cL_law 43 = .ok (.invokestatic 79, 3) := by decide +kernel
theorem dL_law_46 : decode cL_law 46 = .ok (.iconst 4, 1) := by decide +kernel
theorem dL_law_47 : decode cL_law 47 = .ok (.ishr, 1) := by decide +kernel
theorem dL_law_48 : decode cL_law 48 = .ok (.bipush 8, 2) := by decide +kernel
theorem dL_law_50 : decode cL_law 50 = .ok (.invokestatic 9, 3) := by decide +kernel
theorem dL_law_53 : decode cL_law 53 = .ok (.iconst 5, 1) := by decide +kernel
theorem dL_law_54 : decode cL_law 54 = .ok (.ior, 1) := by decide +kernel
theorem dL_law_55 : decode cL_law 55 = .ok (.istore 6, 2) := by decide +kernel
theorem dL_law_57 : decode cL_law 57 = .ok (.iload_n 3, 1) := by decide +kernel
theorem dL_law_58 : decode cL_law 58 = .ok (.ifCond .eq 36, 3) := by decide +kernel
theorem dL_law_61 : decode cL_law 61 = .ok (.aload_n 1, 1) := by decide +kernel
theorem dL_law_62 : decode cL_law 62 = .ok (.iload 5, 2) := by decide +kernel
theorem dL_law_64 : decode cL_law 64 = .ok (.iload 6, 2) := by decide +kernel
theorem dL_law_66 : decode cL_law 66 = .ok (.invokevirtual 83, 3) := by decide +kernel
theorem dL_law_69 : decode cL_law 69 = .ok (.iload 4, 2) := by decide +kernel
theorem dL_law_71 : decode cL_law 71 = .ok (.if_icmp .ne 23, 3) := by decide +kernel
theorem dL_law_74 : decode cL_law 74 = .ok (.aload_n 2, 1) := by decide +kernel
theorem dL_law_75 : decode cL_law 75 = .ok (.bipush 9, 2) := by decide +kernel
theorem dL_law_77 : decode cL_law 77 = .ok (.iload 5, 2) := by decide +kernel
theorem dL_law_79 : decode cL_law 79 = .ok (.isub, 1) := by decide +kernel
theorem dL_law_80 : decode cL_law 80 = .ok (.iload 6, 2) := by decide +kernel
theorem dL_law_82 : decode cL_law 82 = .ok (.invokevirtual 83, 3) := by decide +kernel
theorem dL_law_85 : decode cL_law 85 = .ok (.iload 4, 2) := by decide +kernel
theorem dL_law_87 : decode cL_law 87 = .ok (.if_icmp .ne 7, 3) := by decide +kernel
theorem dL_law_90 : decode cL_law 90 = .ok (.iconst 1, 1) := by decide +kernel
theorem dL_law_91 : decode cL_law 91 = .ok (.goto 4, 3) := by decide +kernel
theorem dL_law_94 : decode cL_law 94 = .ok (.iconst 0, 1) := by decide +kernel
theorem dL_law_95 : decode cL_law 95 = .ok (.istore_n 3, 1) := by decide +kernel
theorem dL_law_96 : decode cL_law 96 = .ok (.iinc 4 1, 3) := by decide +kernel
theorem dL_law_99 : decode cL_law 99 = .ok (.goto (-78), 3) := by decide +kernel
theorem dL_law_102 : decode cL_law 102 = .ok (.iconst 3, 1) := by decide +kernel
theorem dL_law_103 : decode cL_law 103 = .ok (.istore 4, 2) := by decide +kernel
theorem dL_law_105 : decode cL_law 105 = .ok (.iload 4, 2) := by decide +kernel
theorem dL_law_107 : decode cL_law 107 = .ok (.bipush 41, 2) := by decide +kernel
theorem dL_law_109 : decode cL_law 109 = .ok (.if_icmp .ge 48, 3) := by decide +kernel
theorem dL_law_112 : decode cL_law 112 = .ok (.iload_n 3, 1) := by decide +kernel
theorem dL_law_113 : decode cL_law 113 = .ok (.ifCond .eq 44, 3) := by decide +kernel
theorem dL_law_116 : decode cL_law 116 = .ok (.aload_n 1, 1) := by decide +kernel
theorem dL_law_117 : decode cL_law 117 = .ok (.aload_n 2, 1) := by decide +kernel
theorem dL_law_118 : decode cL_law 118 = .ok (.aload_n 0, 1) := by decide +kernel
theorem dL_law_119 : decode cL_law 119 = .ok (.iload 4, 2) := by decide +kernel
theorem dL_law_121 : decode cL_law 121 = .ok (.invokestatic 79, 3) := by decide +kernel
theorem dL_law_124 : decode cL_law 124 = .ok (.invokestatic 86, 3) := by decide +kernel
theorem dL_law_127 : decode cL_law 127 = .ok (.ifCond .eq 22, 3) := by decide +kernel
theorem dL_law_130 : decode cL_law 130 = .ok (.aload_n 1, 1) := by decide +kernel
theorem dL_law_131 : decode cL_law 131 = .ok (.aload_n 2, 1) := by decide +kernel
theorem dL_law_132 : decode cL_law 132 = .ok (.invokestatic 90, 3) := by decide +kernel
theorem dL_law_135 : decode cL_law 135 = .ok (.ifCond .eq 14, 3) := by decide +kernel
theorem dL_law_138 : decode cL_law 138 = .ok (.aload_n 1, 1) := by decide +kernel
theorem dL_law_139 : decode cL_law 139 = .ok (.invokestatic 94, 3) := by decide +kernel
theorem dL_law_142 : decode cL_law 142 = .ok (.ifCond .eq 7, 3) := by decide +kernel
theorem dL_law_145 : decode cL_law 145 = .ok (.iconst 1, 1) := by decide +kernel
theorem dL_law_146 : decode cL_law 146 = .ok (.goto 4, 3) := by decide +kernel
theorem dL_law_149 : decode cL_law 149 = .ok (.iconst 0, 1) := by decide +kernel
theorem dL_law_150 : decode cL_law 150 = .ok (.istore_n 3, 1) := by decide +kernel
theorem dL_law_151 : decode cL_law 151 = .ok (.iinc 4 1, 3) := by decide +kernel
theorem dL_law_154 : decode cL_law 154 = .ok (.goto (-49), 3) := by decide +kernel
theorem dL_law_157 : decode cL_law 157 = .ok (.iload_n 3, 1) := by decide +kernel
theorem dL_law_158 : decode cL_law 158 = .ok (.ireturn, 1) := by decide +kernel
