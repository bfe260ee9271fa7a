theorem dL_areAlike_157 : decode cL_areAlike 157 = .ok (.isub, 1) := by decide +kernel
theorem dL_areAlike_158 : decode cL_areAlike 158 = .ok (.invokevirtual 62, 3) := by decide +kernel
theorem dL_areAlike_161 : decode cL_areAlike 161 = .ok (.if_icmp .ne 7, 3) := by decide +kernel
theorem dL_areAlike_164 : decode cL_areAlike 164 = .ok (.iconst 1, 1) := by decide +kernel
theorem dL_areAlike_165 : decode cL_areAlike 165 = .ok (.goto 4, 3) := by decide +kernel
theorem dL_areAlike_168 : decode cL_areAlike 168 = .ok (.iconst 0, 1) := by decide +kernel
theorem dL_areAlike_169 : decode cL_areAlike 169 = .ok (.istore_n 2, 1) := by decide +kernel
theorem dL_areAlike_170 : decode cL_areAlike 170 = .ok (.iconst 0, 1) := by decide +kernel
theorem dL_areAlike_171 : decode cL_areAlike 171 = .ok (.istore 4, 2) := by decide +kernel
theorem dL_areAlike_173 : decode cL_areAlike 173 = .ok (.iload 4, 2) := by decide +kernel
theorem dL_areAlike_175 : decode cL_areAlike 175 = .ok (.iconst 3, 1) := by decide +kernel
theorem dL_areAlike_176 : decode cL_areAlike 176 = .ok (.if_icmp .ge 141, 3) := by decide +kernel
theorem dL_areAlike_179 : decode cL_areAlike 179 = .ok (.aload_n 0, 1) := by decide +kernel
theorem dL_areAlike_180 : decode cL_areAlike 180 = .ok (.iload_n 3, 1) := by decide +kernel
theorem dL_areAlike_181 : decode cL_areAlike 181 = .ok (.iload 4, 2) := by decide +kernel
theorem dL_areAlike_183 : decode cL_areAlike 183 = .ok (.invokevirtual 65, 3) := by decide +kernel
theorem dL_areAlike_186 : decode cL_areAlike 186 = .ok (.istore 5, 2) := by decide +kernel
theorem dL_areAlike_188 : decode cL_areAlike 188 = .ok (.iload_n 2, 1) := by decide +kernel
theorem dL_areAlike_189 : decode cL_areAlike 189 = .ok (.ifCond .eq 120, 3) := by decide +kernel
theorem dL_areAlike_192 : decode cL_areAlike 192 = .ok (.aload_n 0, 1) := by decide +kernel
theorem dL_areAlike_193 : decode cL_areAlike 193 = .ok (.iload_n 3, 1) := by decide +kernel
theorem dL_areAlike_194 : decode cL_areAlike 194 = .ok (.iload 4, 2) := by decide +kernel
theorem dL_areAlike_196 : decode cL_areAlike 196 = .ok (.invokevirtual 68, 3) := by decide +kernel
theorem dL_areAlike_199 : decode cL_areAlike 199 = .ok (.aload_n 1, 1) := by decide +kernel
theorem dL_areAlike_200 : decode cL_areAlike 200 = .ok (.bipush 9, 2) := by decide +kernel
theorem dL_areAlike_202 : decode cL_areAlike 202 = .ok (.iload_n 3, 1) := by decide +kernel
theorem dL_areAlike_203 : decode cL_areAlike 203 = .ok (.isub, 1) := by decide +kernel
theorem dL_areAlike_204 : decode cL_areAlike 204 = .ok (.iload 4, 2) := by decide +kernel
theorem dL_areAlike_206 : decode cL_areAlike 206 = .ok (.invokevirtual 68, 3) := by decide +kernel
theorem dL_areAlike_209 : decode cL_areAlike 209 = .ok (.if_icmp .ne 100, 3) := by decide +kernel
theorem dL_areAlike_212 : decode cL_areAlike 212 = .ok (.iload 5, 2) := by decide +kernel
theorem dL_areAlike_214 : decode cL_areAlike 214 = .ok (.aload_n 1, 1) := by decide +kernel
theorem dL_areAlike_215 : decode cL_areAlike 215 = .ok (.bipush 9, 2) := by decide +kernel
theorem dL_areAlike_217 : decode cL_areAlike 217 = .ok (.iload_n 3, 1) := by decide +kernel
theorem dL_areAlike_218 : decode cL_areAlike 218 = .ok (.isub, 1) := by decide +kernel
theorem dL_areAlike_219 : decode cL_areAlike 219 = .ok (.iload 4, 2) := by decide +kernel
theorem dL_areAlike_221 : decode cL_areAlike 221 = .ok (.invokevirtual 65, 3) := by decide +kernel
theorem dL_areAlike_224 : decode cL_areAlike 224 = .ok (.if_icmp .ne 85, 3) := by decide +kernel
theorem dL_areAlike_227 : decode cL_areAlike 227 = .ok (.iload 5, 2) := by decide +kernel
theorem dL_areAlike_229 : decode cL_areAlike 229 = .ok (.iconst 1, 1) := by decide +kernel
theorem dL_areAlike_230 : decode cL_areAlike 230 = .ok (.if_icmp .lt 31, 3) := by decide +kernel
theorem dL_areAlike_233 : decode cL_areAlike 233 = .ok (.aload_n 0, 1) := by decide +kernel
theorem dL_areAlike_234 : decode cL_areAlike 234 = .ok (.iload_n 3, 1) := by decide +kernel
theorem dL_areAlike_235 : decode cL_areAlike 235 = .ok (.iload 4, 2) := by decide +kernel
theorem dL_areAlike_237 : decode cL_areAlike 237 = .ok (.iload 5, 2) := by decide +kernel
theorem dL_areAlike_239 : decode cL_areAlike 239 = .ok (.iconst 1, 1) := by decide +kernel
theorem dL_areAlike_240 : decode cL_areAlike 240 = .ok (.isub, 1) := by decide +kernel
theorem dL_areAlike_241 : decode cL_areAlike 241 = .ok (.invokevirtual 71, 3) := by decide +kernel
theorem dL_areAlike_244 : decode cL_areAlike 244 = .ok (.aload_n 1, 1) := by decide +kernel
theorem dL_areAlike_245 : decode cL_areAlike 245 = .ok (.bipush 9, 2) := by decide +kernel
theorem dL_areAlike_247 : decode cL_areAlike 247 = .ok (.iload_n 3, 1) := by decide +kernel
theorem dL_areAlike_248 : decode cL_areAlike 248 = .ok (.isub, 1) := by decide +kernel
theorem dL_areAlike_249 : decode cL_areAlike 249 = .ok (.iload 4, 2) := by decide +kernel
theorem dL_areAlike_251 : decode cL_areAlike 251 = .ok (.iload 5, 2) := by decide +kernel
theorem dL_areAlike_253 : decode cL_areAlike 253 = .ok (.iconst 1, 1) := by decide +kernel
theorem dL_areAlike_254 : decode cL_areAlike 254 = .ok (.isub, 1) := by decide +kernel
theorem dL_areAlike_255 : decode cL_areAlike 255 = .ok (.invokevirtual 71, 3) := by decide +kernel
theorem dL_areAlike_258 : decode cL_areAlike 258 = .ok (.if_icmp .ne 51, 3) := by decide +kernel
theorem dL_areAlike_261 : decode cL_areAlike 261 = .ok (.aload_n 0, 1) := by decide +kernel
theorem dL_areAlike_262 : decode cL_areAlike 262 = .ok (.iload_n 3, 1) := by decide +kernel
theorem dL_areAlike_263 : decode cL_areAlike 263 = .ok (.iload 4, 2) := by decide +kernel
theorem dL_areAlike_265 : decode cL_areAlike 265 = .ok (.iconst 1, 1) := by decide +kernel
theorem dL_areAlike_266 : decode cL_areAlike 266 = .ok (.invokevirtual 75, 3) := by decide +kernel
theorem dL_areAlike_269 : decode cL_areAlike 269 = .ok (.aload_n 1, 1) := by decide +kernel
theorem dL_areAlike_270 : decode cL_areAlike 270 = .ok (.bipush 9, 2) := by decide +kernel
theorem dL_areAlike_272 : decode cL_areAlike 272 = .ok (.iload_n 3, 1) := by decide +kernel
theorem dL_areAlike_273 : decode cL_areAlike 273 = .ok (.isub, 1) := by decide +kernel
theorem dL_areAlike_274 : decode cL_areAlike 274 = .ok (.iload 4, 2) := by decide +kernel
theorem dL_areAlike_276 : decode cL_areAlike 276 = .ok (.iconst 1, 1) := by decide +kernel
theorem dL_areAlike_277 : decode cL_areAlike 277 = .ok (.invokevirtual 75, 3) := by decide +kernel
theorem dL_areAlike_280 : decode cL_areAlike 280 = .ok (.if_icmp .ne 29, 3) := by decide +kernel
theorem dL_areAlike_283 : decode cL_areAlike 283 = .ok (.aload_n 0, 1) := by decide +kernel
theorem dL_areAlike_284 : decode cL_areAlike 284 = .ok (.iload_n 3, 1) := by decide +kernel
theorem dL_areAlike_285 : decode cL_areAlike 285 = .ok (.iload 4, 2) := by decide +kernel
theorem dL_areAlike_287 : decode cL_areAlike 287 = .ok (.iconst 4, 1) := by decide +kernel
theorem dL_areAlike_288 : decode cL_areAlike 288 = .ok (.invokevirtual 75, 3) := by decide +kernel
theorem dL_areAlike_291 : decode cL_areAlike 291 = .ok (.aload_n 1, 1) := by decide +kernel
theorem dL_areAlike_292 : decode cL_areAlike 292 = .ok (.bipush 9, 2) := by decide +kernel
theorem dL_areAlike_294 : decode cL_areAlike 294 = .ok (.iload_n 3, 1) := by decide +kernel
theorem dL_areAlike_295 : decode cL_areAlike 295 = .ok (.isub, 1) := by decide +kernel
theorem dL_areAlike_296 : decode cL_areAlike 296 = .ok (.iload 4, 2) := by decide +kernel
theorem dL_areAlike_298 : decode cL_areAlike 298 = .ok (.iconst 4, 1) := by decide +kernel
theorem dL_areAlike_299 : decode cL_areAlike 299 = .ok (.invokevirtual 75, 3) := by decide +kernel
theorem dL_areAlike_302 : decode cL_areAlike 302 = .ok (.if_icmp .ne 7, 3) := by decide +kernel
theorem dL_areAlike_305 : decode cL_areAlike 305 = .ok (.iconst 1, 1) := by decide +kernel
theorem dL_areAlike_306 : decode cL_areAlike 306 = .ok (.goto 4, 3) := by decide +kernel
theorem dL_areAlike_309 : decode cL_areAlike 309 = .ok (.iconst 0, 1) := by decide +kernel
theorem dL_areAlike_310 : decode cL_areAlike 310 = .ok (.istore_n 2, 1) := by decide +kernel
theorem dL_areAlike_311 : decode cL_areAlike 311 = .ok (.iinc 4 1, 3) := by decide +kernel
theorem dL_areAlike_314 : decode cL_areAlike 314 = .ok (.goto (-141), 3) := by decide +kernel
theorem dL_areAlike_317 : decode cL_areAlike 317 = .ok (.iinc 3 1, 3) := by decide +kernel
theorem dL_areAlike_320 : decode cL_areAlike 320 = .ok (.goto (-248), 3) := by decide +kernel
theorem dL_areAlike_323 : decode cL_areAlike 323 = .ok (.iload_n 2, 1) := by decide +kernel
theorem dL_areAlike_324 : decode cL_areAlike 324 = .ok (.ireturn, 1) := by decide +kernel
theorem dL_isSound_0 : decode cL_isSound 0 = .ok (.iconst 0, 1) := by decide +kernel
theorem dL_isSound_1 : decode cL_isSound 1 = .ok (.istore_n 1, 1) := by decide +kernel
theorem dL_isSound_2 : decode cL_isSound 2 = .ok (.iconst 1, 1) := by decide +kernel
theorem dL_isSound_3 : decode cL_isSound 3 = .ok (.istore_n 2, 1) := by decide +kernel
theorem dL_isSound_4 : decode cL_isSound 4 = .ok (.iconst 0, 1) := by decide +kernel
theorem dL_isSound_5 : decode cL_isSound 5 = .ok (.istore_n 3, 1) := by decide +kernel
theorem dL_isSound_6 : decode cL_isSound 6 = .ok (.iload_n 3, 1) := by decide +kernel
theorem dL_isSound_7 : decode cL_isSound 7 = .ok (.iconst 3, 1) := by decide +kernel
theorem dL_isSound_8 : decode cL_isSound 8 = .ok (.if_icmp .ge 245, 3) := by decide +kernel
theorem dL_isSound_11 : decode cL_isSound 11 = .ok (.iload_n 2, 1) := by decide +kernel
theorem dL_isSound_12 : decode cL_isSound 12 = .ok (.ifCond .eq 241, 3) := by decide +kernel
theorem dL_isSound_15 : decode cL_isSound 15 = .ok (.iconst 0, 1) := by decide +kernel
theorem dL_isSound_16 : decode cL_isSound 16 = .ok (.istore 4, 2) := by decide +kernel
theorem dL_isSound_18 : decode cL_isSound 18 = .ok (.iload 4, 2) := by decide +kernel
theorem dL_isSound_20 : decode cL_isSound 20 = .ok (.bipush 10, 2) := by decide +kernel
theorem dL_isSound_22 : decode cL_isSound 22 = .ok (.if_icmp .ge 225, 3) := by decide +kernel
theorem dL_isSound_25 : decode cL_isSound 25 = .ok (.iload_n 2, 1) := by decide +kernel
theorem dL_isSound_26 : decode cL_isSound 26 = .ok (.ifCond .eq 221, 3) := by decide +kernel
theorem dL_isSound_29 : decode cL_isSound 29 = .ok (.aload_n 0, 1) := by decide +kernel
theorem dL_isSound_30 : decode cL_isSound 30 = .ok (.iload 4, 2) := by decide +kernel
theorem dL_isSound_32 : decode cL_isSound 32 = .ok (.iload_n 3, 1) := by decide +kernel
theorem dL_isSound_33 : decode cL_isSound 33 = .ok (.invokevirtual 68, 3) := by decide +kernel
theorem dL_isSound_36 : decode cL_isSound 36 = .ok (.istore 5, 2) := by decide +kernel
theorem dL_isSound_38 : decode cL_isSound 38 = .ok (.aload_n 0, 1) := by decide +kernel
theorem dL_isSound_39 : decode cL_isSound 39 = .ok (.iload_n 3, 1) := by decide +kernel
theorem dL_isSound_40 : decode cL_isSound 40 = .ok (.iconst 0, 1) := by decide +kernel
theorem dL_isSound_41 : decode cL_isSound 41 = .ok (.invokevirtual 33, 3) := by decide +kernel
theorem dL_isSound_44 : decode cL_isSound 44 = .ok (.iload 4, 2) := by decide +kernel
theorem dL_isSound_46 : decode cL_isSound 46 = .ok (.if_icmp .ne 7, 3) := by decide +kernel
theorem dL_isSound_49 : decode cL_isSound 49 = .ok (.iconst 1, 1) := by decide +kernel
theorem dL_isSound_50 : decode cL_isSound 50 = .ok (.goto 4, 3) := by decide +kernel
theorem dL_isSound_53 : decode cL_isSound 53 = .ok (.iconst 0, 1) := by decide +kernel
theorem dL_isSound_54 : decode cL_isSound 54 = .ok (.istore 6, 2) := by decide +kernel
theorem dL_isSound_56 : decode cL_isSound 56 = .ok (.iload_n 1, 1) := by decide +kernel
theorem dL_isSound_57 : decode cL_isSound 57 = .ok (.iload 5, 2) := by decide +kernel
theorem dL_isSound_59 : decode cL_isSound 59 = .ok (.iconst 1, 1) := by decide +kernel
theorem dL_isSound_60 : decode cL_isSound 60 = .ok (.iand, 1) := by decide +kernel
theorem dL_isSound_61 : decode cL_isSound 61 = .ok (.iadd, 1) := by decide +kernel
theorem dL_isSound_62 : decode cL_isSound 62 = .ok (.istore_n 1, 1) := by decide +kernel
theorem dL_isSound_63 : decode cL_isSound 63 = .ok (.iload 6, 2) := by decide +kernel
theorem dL_isSound_65 : decode cL_isSound 65 = .ok (.ifCond .eq 13, 3) := by decide +kernel
theorem dL_isSound_68 : decode cL_isSound 68 = .ok (.iload 5, 2) := by decide +kernel
theorem dL_isSound_70 : decode cL_isSound 70 = .ok (.bipush 7, 2) := by decide +kernel
theorem dL_isSound_72 : decode cL_isSound 72 = .ok (.if_icmp .ne 167, 3) := by decide +kernel
theorem dL_isSound_75 : decode cL_isSound 75 = .ok (.goto 17, 3) := by decide +kernel
theorem dL_isSound_78 : decode cL_isSound 78 = .ok (.iload 5, 2) := by decide +kernel
theorem dL_isSound_80 : decode cL_isSound 80 = .ok (.aload_n 0, 1) := by decide +kernel
theorem dL_isSound_81 : decode cL_isSound 81 = .ok (.iload_n 3, 1) := by decide +kernel
theorem dL_isSound_82 : decode cL_isSound 82 = .ok (.iconst 1, 1) := by decide +kernel
theorem dL_isSound_83 : decode cL_isSound 83 = .ok (.invokevirtual 33, 3) := by decide +kernel
theorem dL_isSound_86 : decode cL_isSound 86 = .ok (.iconst (-1), 1) := by decide +kernel
theorem dL_isSound_87 : decode cL_isSound 87 = .ok (.ixor, 1) := by decide +kernel
theorem dL_isSound_88 : decode cL_isSound 88 = .ok (.iand, 1) := by decide +kernel
theorem dL_isSound_89 : decode cL_isSound 89 = .ok (.ifCond .ne 150, 3) := by decide +kernel
theorem dL_isSound_92 : decode cL_isSound 92 = .ok (.aload_n 0, 1) := by decide +kernel
theorem dL_isSound_93 : decode cL_isSound 93 = .ok (.iload 4, 2) := by decide +kernel
theorem dL_isSound_95 : decode cL_isSound 95 = .ok (.iload_n 3, 1) := by decide +kernel
theorem dL_isSound_96 : decode cL_isSound 96 = .ok (.iconst 1, 1) := by decide +kernel
theorem dL_isSound_97 : decode cL_isSound 97 = .ok (.invokevirtual 75, 3) := by decide +kernel
theorem dL_isSound_100 : decode cL_isSound 100 = .ok (.ifCond .ne 7, 3) := by decide +kernel
theorem dL_isSound_103 : decode cL_isSound 103 = .ok (.iconst 1, 1) := by decide +kernel
theorem dL_isSound_104 : decode cL_isSound 104 = .ok (.goto 4, 3) := by decide +kernel
theorem dL_isSound_107 : decode cL_isSound 107 = .ok (.iconst 0, 1) := by decide +kernel
theorem dL_isSound_108 : decode cL_isSound 108 = .ok (.iload 5, 2) := by decide +kernel
theorem dL_isSound_110 : decode cL_isSound 110 = .ok (.iconst 1, 1) := by decide +kernel
theorem dL_isSound_111 : decode cL_isSound 111 = .ok (.iand, 1) := by decide +kernel
theorem dL_isSound_112 : decode cL_isSound 112 = .ok (.ifCond .le 7, 3) := by decide +kernel
theorem dL_isSound_115 : decode cL_isSound 115 = .ok (.iconst 1, 1) := by decide +kernel
theorem dL_isSound_116 : decode cL_isSound 116 = .ok (.goto 4, 3) := by decide +kernel
theorem dL_isSound_119 : decode cL_isSound 119 = .ok (.iconst 0, 1) := by decide +kernel
theorem dL_isSound_120 : decode cL_isSound 120 = .ok (.if_icmp .ne 119, 3) := by decide +kernel
theorem dL_isSound_123 : decode cL_isSound 123 = .ok (.aload_n 0, 1) := by decide +kernel
theorem dL_isSound_124 : decode cL_isSound 124 = .ok (.iload 4, 2) := by decide +kernel
theorem dL_isSound_126 : decode cL_isSound 126 = .ok (.iload_n 3, 1) := by decide +kernel
theorem dL_isSound_127 : decode cL_isSound 127 = .ok (.iconst 2, 1) := by decide +kernel
theorem dL_isSound_128 : decode cL_isSound 128 = .ok (.invokevirtual 75, 3) := by decide +kernel
theorem dL_isSound_131 : decode cL_isSound 131 = .ok (.ifCond .ne 7, 3) := by decide +kernel
theorem dL_isSound_134 : decode cL_isSound 134 = .ok (.iconst 1, 1) := by decide +kernel
theorem dL_isSound_135 : decode cL_isSound 135 = .ok (.goto 4, 3) := by decide +kernel
theorem dL_isSound_138 : decode cL_isSound 138 = .ok (.iconst 0, 1) := by decide +kernel
theorem dL_isSound_139 : decode cL_isSound 139 = .ok (.iload 5, 2) := by decide +kernel
theorem dL_isSound_141 : decode cL_isSound 141 = .ok (.iconst 2, 1) := by decide +kernel
theorem dL_isSound_142 : decode cL_isSound 142 = .ok (.iand, 1) := by decide +kernel
theorem dL_isSound_143 : decode cL_isSound 143 = .ok (.ifCond .le 7, 3) := by decide +kernel
theorem dL_isSound_146 : decode cL_isSound 146 = .ok (.iconst 1, 1) := by decide +kernel
