theorem dL_cell_0 : decode cL_cell 0 = .ok (.iload_n 1, 1) := by decide +kernel
theorem dL_cell_1 : decode cL_cell 1 = .ok (.aload_n 0, 1) := by decide +kernel
theorem dL_cell_2 : decode cL_cell 2 = .ok (.arraylength, 1) := by decide +kernel
theorem dL_cell_3 : decode cL_cell 3 = .ok (.if_icmp .ge 9, 3) := by decide +kernel
theorem dL_cell_6 : decode cL_cell 6 = .ok (.aload_n 0, 1) := by decide +kernel
theorem dL_cell_7 : decode cL_cell 7 = .ok (.iload_n 1, 1) := by decide +kernel
theorem dL_cell_8 : decode cL_cell 8 = .ok (.iaload, 1) := by decide +kernel
theorem dL_cell_9 : decode cL_cell 9 = .ok (.goto 11, 3) := by decide +kernel
theorem dL_cell_12 : decode cL_cell 12 = .ok (.ldc 7, 2) := by decide +kernel
theorem dL_cell_14 : decode cL_cell 14 = .ok (.iload_n 1, 1) := by decide +kernel
theorem dL_cell_15 : decode cL_cell 15 = .ok (.sipush 467, 3) := by decide +kernel
theorem dL_cell_18 : decode cL_cell 18 = .ok (.iadd, 1) := by decide +kernel
theorem dL_cell_19 : decode cL_cell 19 = .ok (.imul, 1) := by decide +kernel
theorem dL_cell_20 : decode cL_cell 20 = .ok (.ireturn, 1) := by decide +kernel
theorem dL_up_0 : decode cL_up 0 = .ok (.iload_n 0, 1) := by decide +kernel
theorem dL_up_1 : decode cL_up 1 = .ok (.ldc 8, 2) := by decide +kernel
theorem dL_up_3 : decode cL_up 3 = .ok (.iand, 1) := by decide +kernel
theorem dL_up_4 : decode cL_up 4 = .ok (.iload_n 1, 1) := by decide +kernel
theorem dL_up_5 : decode cL_up 5 = .ok (.irem, 1) := by decide +kernel
theorem dL_up_6 : decode cL_up 6 = .ok (.ireturn, 1) := by decide +kernel
theorem dL_isStep_0 : decode cL_isStep 0 = .ok (.iload_n 2, 1) := by decide +kernel
theorem dL_isStep_1 : decode cL_isStep 1 = .ok (.iconst 4, 1) := by decide +kernel
theorem dL_isStep_2 : decode cL_isStep 2 = .ok (.ishr, 1) := by decide +kernel
theorem dL_isStep_3 : decode cL_isStep 3 = .ok (.istore_n 3, 1) := by decide +kernel
theorem dL_isStep_4 : decode cL_isStep 4 = .ok (.iload_n 3, 1) := by decide +kernel
theorem dL_isStep_5 : decode cL_isStep 5 = .ok (.bipush 10, 2) := by decide +kernel
theorem dL_isStep_7 : decode cL_isStep 7 = .ok (.invokestatic 9, 3) := by decide +kernel
theorem dL_isStep_10 : decode cL_isStep 10 = .ok (.istore 4, 2) := by decide +kernel
theorem dL_isStep_12 : decode cL_isStep 12 = .ok (.iload_n 3, 1) := by decide +kernel
theorem dL_isStep_13 : decode cL_isStep 13 = .ok (.iconst 4, 1) := by decide +kernel
theorem dL_isStep_14 : decode cL_isStep 14 = .ok (.ishr, 1) := by decide +kernel
theorem dL_isStep_15 : decode cL_isStep 15 = .ok (.iconst 3, 1) := by decide +kernel
theorem dL_isStep_16 : decode cL_isStep 16 = .ok (.invokestatic 9, 3) := by decide +kernel
theorem dL_isStep_19 : decode cL_isStep 19 = .ok (.istore 5, 2) := by decide +kernel
theorem dL_isStep_21 : decode cL_isStep 21 = .ok (.iload_n 2, 1) := by decide +kernel
theorem dL_isStep_22 : decode cL_isStep 22 = .ok (.bipush 11, 2) := by decide +kernel
theorem dL_isStep_24 : decode cL_isStep 24 = .ok (.invokestatic 9, 3) := by decide +kernel
theorem dL_isStep_27 : decode cL_isStep 27 = .ok (.tableswitch 228 0 4 #[33, 81, 121, 164, 195], 33) := by decide +kernel
theorem dL_isStep_60 : decode cL_isStep 60 = .ok (.aload_n 0, 1) := by decide +kernel
theorem dL_isStep_61 : decode cL_isStep 61 = .ok (.iload 4, 2) := by decide +kernel
theorem dL_isStep_63 : decode cL_isStep 63 = .ok (.iload_n 3, 1) := by decide +kernel
theorem dL_isStep_64 : decode cL_isStep 64 = .ok (.bipush 6, 2) := by decide +kernel
theorem dL_isStep_66 : decode cL_isStep 66 = .ok (.ishr, 1) := by decide +kernel
theorem dL_isStep_67 : decode cL_isStep 67 = .ok (.bipush 120, 2) := by decide +kernel
theorem dL_isStep_69 : decode cL_isStep 69 = .ok (.invokestatic 9, 3) := by decide +kernel
theorem dL_isStep_72 : decode cL_isStep 72 = .ok (.bipush 80, 2) := by decide +kernel
theorem dL_isStep_74 : decode cL_isStep 74 = .ok (.isub, 1) := by decide +kernel
theorem dL_isStep_75 : decode cL_isStep 75 = .ok (.invokevirtual 15, 3) := by decide +kernel
theorem dL_isStep_78 : decode cL_isStep 78 = .ok (.aload_n 1, 1) := by decide +kernel
theorem dL_isStep_79 : decode cL_isStep 79 = .ok (.bipush 9, 2) := by decide +kernel
theorem dL_isStep_81 : decode cL_isStep 81 = .ok (.iload 4, 2) := by decide +kernel
theorem dL_isStep_83 : decode cL_isStep 83 = .ok (.isub, 1) := by decide +kernel
theorem dL_isStep_84 : decode cL_isStep 84 = .ok (.iload_n 3, 1) := by decide +kernel
theorem dL_isStep_85 : decode cL_isStep 85 = .ok (.bipush 6, 2) := by decide +kernel
theorem dL_isStep_87 : decode cL_isStep 87 = .ok (.ishr, 1) := by decide +kernel
theorem dL_isStep_88 : decode cL_isStep 88 = .ok (.bipush 120, 2) := by decide +kernel
theorem dL_isStep_90 : decode cL_isStep 90 = .ok (.invokestatic 9, 3) := by decide +kernel
theorem dL_isStep_93 : decode cL_isStep 93 = .ok (.bipush 80, 2) := by decide +kernel
theorem dL_isStep_95 : decode cL_isStep 95 = .ok (.isub, 1) := by decide +kernel
theorem dL_isStep_96 : decode cL_isStep 96 = .ok (.invokevirtual 15, 3) := by decide +kernel
theorem dL_isStep_99 : decode cL_isStep 99 = .ok (.if_icmp .ne 7, 3) := by decide +kernel
theorem dL_isStep_102 : decode cL_isStep 102 = .ok (.iconst 1, 1) := by decide +kernel
theorem dL_isStep_103 : decode cL_isStep 103 = .ok (.goto 4, 3) := by decide +kernel
theorem dL_isStep_106 : decode cL_isStep 106 = .ok (.iconst 0, 1) := by decide +kernel
theorem dL_isStep_107 : decode cL_isStep 107 = .ok (.ireturn, 1) := by decide +kernel
theorem dL_isStep_108 : decode cL_isStep 108 = .ok (.aload_n 0, 1) := by decide +kernel
theorem dL_isStep_109 : decode cL_isStep 109 = .ok (.iload 4, 2) := by decide +kernel
theorem dL_isStep_111 : decode cL_isStep 111 = .ok (.iload_n 3, 1) := by decide +kernel
theorem dL_isStep_112 : decode cL_isStep 112 = .ok (.iconst 4, 1) := by decide +kernel
theorem dL_isStep_113 : decode cL_isStep 113 = .ok (.ishr, 1) := by decide +kernel
theorem dL_isStep_114 : decode cL_isStep 114 = .ok (.bipush 101, 2) := by decide +kernel
theorem dL_isStep_116 : decode cL_isStep 116 = .ok (.invokestatic 9, 3) := by decide +kernel
theorem dL_isStep_119 : decode cL_isStep 119 = .ok (.invokevirtual 20, 3) := by decide +kernel
theorem dL_isStep_122 : decode cL_isStep 122 = .ok (.aload_n 1, 1) := by decide +kernel
theorem dL_isStep_123 : decode cL_isStep 123 = .ok (.bipush 9, 2) := by decide +kernel
theorem dL_isStep_125 : decode cL_isStep 125 = .ok (.iload 4, 2) := by decide +kernel
theorem dL_isStep_127 : decode cL_isStep 127 = .ok (.isub, 1) := by decide +kernel
theorem dL_isStep_128 : decode cL_isStep 128 = .ok (.iload_n 3, 1) := by decide +kernel
theorem dL_isStep_129 : decode cL_isStep 129 = .ok (.iconst 4, 1) := by decide +kernel
theorem dL_isStep_130 : decode cL_isStep 130 = .ok (.ishr, 1) := by decide +kernel
theorem dL_isStep_131 : decode cL_isStep 131 = .ok (.bipush 101, 2) := by decide +kernel
theorem dL_isStep_133 : decode cL_isStep 133 = .ok (.invokestatic 9, 3) := by decide +kernel
theorem dL_isStep_136 : decode cL_isStep 136 = .ok (.invokevirtual 20, 3) := by decide +kernel
theorem dL_isStep_139 : decode cL_isStep 139 = .ok (.if_icmp .ne 7, 3) := by decide +kernel
theorem dL_isStep_142 : decode cL_isStep 142 = .ok (.iconst 1, 1) := by decide +kernel
theorem dL_isStep_143 : decode cL_isStep 143 = .ok (.goto 4, 3) := by decide +kernel
theorem dL_isStep_146 : decode cL_isStep 146 = .ok (.iconst 0, 1) := by decide +kernel
theorem dL_isStep_147 : decode cL_isStep 147 = .ok (.ireturn, 1) := by decide +kernel
theorem dL_isStep_148 : decode cL_isStep 148 = .ok (.aload_n 0, 1) := by decide +kernel
theorem dL_isStep_149 : decode cL_isStep 149 = .ok (.iload 5, 2) := by decide +kernel
theorem dL_isStep_151 : decode cL_isStep 151 = .ok (.iload_n 3, 1) := by decide +kernel
theorem dL_isStep_152 : decode cL_isStep 152 = .ok (.bipush 6, 2) := by decide +kernel
theorem dL_isStep_154 : decode cL_isStep 154 = .ok (.ishr, 1) := by decide +kernel
theorem dL_isStep_155 : decode cL_isStep 155 = .ok (.bipush 8, 2) := by decide +kernel
theorem dL_isStep_157 : decode cL_isStep 157 = .ok (.invokestatic 9, 3) := by decide +kernel
theorem dL_isStep_160 : decode cL_isStep 160 = .ok (.iconst 5, 1) := by decide +kernel
theorem dL_isStep_161 : decode cL_isStep 161 = .ok (.ior, 1) := by decide +kernel
theorem dL_isStep_162 : decode cL_isStep 162 = .ok (.invokevirtual 23, 3) := by decide +kernel
theorem dL_isStep_165 : decode cL_isStep 165 = .ok (.aload_n 1, 1) := by decide +kernel
theorem dL_isStep_166 : decode cL_isStep 166 = .ok (.iload 5, 2) := by decide +kernel
theorem dL_isStep_168 : decode cL_isStep 168 = .ok (.iload_n 3, 1) := by decide +kernel
theorem dL_isStep_169 : decode cL_isStep 169 = .ok (.bipush 6, 2) := by decide +kernel
theorem dL_isStep_171 : decode cL_isStep 171 = .ok (.ishr, 1) := by decide +kernel
theorem dL_isStep_172 : decode cL_isStep 172 = .ok (.bipush 8, 2) := by decide +kernel
theorem dL_isStep_174 : decode cL_isStep 174 = .ok (.invokestatic 9, 3) := by decide +kernel
theorem dL_isStep_177 : decode cL_isStep 177 = .ok (.iconst 5, 1) := by decide +kernel
theorem dL_isStep_178 : decode cL_isStep 178 = .ok (.ior, 1) := by decide +kernel
theorem dL_isStep_179 : decode cL_isStep 179 = .ok (.invokevirtual 23, 3) := by decide +kernel
theorem dL_isStep_182 : decode cL_isStep 182 = .ok (.if_icmp .ne 7, 3) := by decide +kernel
theorem dL_isStep_185 : decode cL_isStep 185 = .ok (.iconst 1, 1) := by decide +kernel
theorem dL_isStep_186 : decode cL_isStep 186 = .ok (.goto 4, 3) := by decide +kernel
theorem dL_isStep_189 : decode cL_isStep 189 = .ok (.iconst 0, 1) := by decide +kernel
theorem dL_isStep_190 : decode cL_isStep 190 = .ok (.ireturn, 1) := by decide +kernel
theorem dL_isStep_191 : decode cL_isStep 191 = .ok (.aload_n 0, 1) := by decide +kernel
theorem dL_isStep_192 : decode cL_isStep 192 = .ok (.iload 5, 2) := by decide +kernel
theorem dL_isStep_194 : decode cL_isStep 194 = .ok (.iload 4, 2) := by decide +kernel
theorem dL_isStep_196 : decode cL_isStep 196 = .ok (.invokevirtual 26, 3) := by decide +kernel
theorem dL_isStep_199 : decode cL_isStep 199 = .ok (.bipush 9, 2) := by decide +kernel
theorem dL_isStep_201 : decode cL_isStep 201 = .ok (.aload_n 1, 1) := by decide +kernel
theorem dL_isStep_202 : decode cL_isStep 202 = .ok (.iload 5, 2) := by decide +kernel
theorem dL_isStep_204 : decode cL_isStep 204 = .ok (.bipush 9, 2) := by decide +kernel
theorem dL_isStep_206 : decode cL_isStep 206 = .ok (.iload 4, 2) := by decide +kernel
theorem dL_isStep_208 : decode cL_isStep 208 = .ok (.isub, 1) := by decide +kernel
theorem dL_isStep_209 : decode cL_isStep 209 = .ok (.invokevirtual 26, 3) := by decide +kernel
theorem dL_isStep_212 : decode cL_isStep 212 = .ok (.isub, 1) := by decide +kernel
theorem dL_isStep_213 : decode cL_isStep 213 = .ok (.if_icmp .ne 7, 3) := by decide +kernel
theorem dL_isStep_216 : decode cL_isStep 216 = .ok (.iconst 1, 1) := by decide +kernel
theorem dL_isStep_217 : decode cL_isStep 217 = .ok (.goto 4, 3) := by decide +kernel
theorem dL_isStep_220 : decode cL_isStep 220 = .ok (.iconst 0, 1) := by decide +kernel
theorem dL_isStep_221 : decode cL_isStep 221 = .ok (.ireturn, 1) := by decide +kernel
theorem dL_isStep_222 : decode cL_isStep 222 = .ok (.aload_n 0, 1) := by decide +kernel
theorem dL_isStep_223 : decode cL_isStep 223 = .ok (.iconst 1, 1) := by decide +kernel
theorem dL_isStep_224 : decode cL_isStep 224 = .ok (.iload_n 3, 1) := by decide +kernel
theorem dL_isStep_225 : decode cL_isStep 225 = .ok (.bipush 40, 2) := by decide +kernel
theorem dL_isStep_227 : decode cL_isStep 227 = .ok (.invokestatic 9, 3) := by decide +kernel
theorem dL_isStep_230 : decode cL_isStep 230 = .ok (.iadd, 1) := by decide +kernel
theorem dL_isStep_231 : decode cL_isStep 231 = .ok (.invokevirtual 29, 3) := by decide +kernel
theorem dL_isStep_234 : decode cL_isStep 234 = .ok (.aload_n 1, 1) := by decide +kernel
theorem dL_isStep_235 : decode cL_isStep 235 = .ok (.iconst 1, 1) := by decide +kernel
theorem dL_isStep_236 : decode cL_isStep 236 = .ok (.iload_n 3, 1) := by decide +kernel
theorem dL_isStep_237 : decode cL_isStep 237 = .ok (.bipush 40, 2) := by decide +kernel
theorem dL_isStep_239 : decode cL_isStep 239 = .ok (.invokestatic 9, 3) := by decide +kernel
theorem dL_isStep_242 : decode cL_isStep 242 = .ok (.iadd, 1) := by decide +kernel
theorem dL_isStep_243 : decode cL_isStep 243 = .ok (.invokevirtual 29, 3) := by decide +kernel
theorem dL_isStep_246 : decode cL_isStep 246 = .ok (.if_icmp .ne 7, 3) := by decide +kernel
theorem dL_isStep_249 : decode cL_isStep 249 = .ok (.iconst 1, 1) := by decide +kernel
theorem dL_isStep_250 : decode cL_isStep 250 = .ok (.goto 4, 3) := by decide +kernel
theorem dL_isStep_253 : decode cL_isStep 253 = .ok (.iconst 0, 1) := by decide +kernel
theorem dL_isStep_254 : decode cL_isStep 254 = .ok (.ireturn, 1) := by decide +kernel
theorem dL_isStep_255 : decode cL_isStep 255 = .ok (.iload 4, 2) := by decide +kernel
theorem dL_isStep_257 : decode cL_isStep 257 = .ok (.iconst 1, 1) := by decide +kernel
theorem dL_isStep_258 : decode cL_isStep 258 = .ok (.iadd, 1) := by decide +kernel
theorem dL_isStep_259 : decode cL_isStep 259 = .ok (.iload_n 3, 1) := by decide +kernel
theorem dL_isStep_260 : decode cL_isStep 260 = .ok (.bipush 6, 2) := by decide +kernel
theorem dL_isStep_262 : decode cL_isStep 262 = .ok (.ishr, 1) := by decide +kernel
theorem dL_isStep_263 : decode cL_isStep 263 = .ok (.bipush 9, 2) := by decide +kernel
theorem dL_isStep_265 : decode cL_isStep 265 = .ok (.invokestatic 9, 3) := by decide +kernel
theorem dL_isStep_268 : decode cL_isStep 268 = .ok (.iadd, 1) := by decide +kernel
theorem dL_isStep_269 : decode cL_isStep 269 = .ok (.bipush 10, 2) := by decide +kernel
theorem dL_isStep_271 : decode cL_isStep 271 = .ok (.irem, 1) := by decide +kernel
theorem dL_isStep_272 : decode cL_isStep 272 = .ok (.istore 6, 2) := by decide +kernel
theorem dL_isStep_274 : decode cL_isStep 274 = .ok (.iconst 1, 1) := by decide +kernel
theorem dL_isStep_275 : decode cL_isStep 275 = .ok (.iload_n 3, 1) := by decide +kernel
theorem dL_isStep_276 : decode cL_isStep 276 = .ok (.bipush 10, 2) := by decide +kernel
theorem dL_isStep_278 : decode cL_isStep 278 = .ok (.ishr, 1) := by decide +kernel
theorem dL_isStep_279 : decode cL_isStep 279 = .ok (.bipush 7, 2) := by decide +kernel
theorem dL_isStep_281 : decode cL_isStep 281 = .ok (.invokestatic 9, 3) := by decide +kernel
theorem dL_isStep_284 : decode cL_isStep 284 = .ok (.iadd, 1) := by decide +kernel
theorem dL_isStep_285 : decode cL_isStep 285 = .ok (.iload_n 3, 1) := by decide +kernel
theorem dL_isStep_286 : decode cL_isStep 286 = .ok (.bipush 13, 2) := by decide +kernel
theorem dL_isStep_288 : decode cL_isStep 288 = .ok (.ishr, 1) := by decide +kernel
theorem dL_isStep_289 : decode cL_isStep 289 = .ok (.iconst 2, 1) := by decide +kernel
theorem dL_isStep_290 : decode cL_isStep 290 = .ok (.invokestatic 9, 3) := by decide +kernel
theorem dL_isStep_293 : decode cL_isStep 293 = .ok (.iconst 5, 1) := by decide +kernel
theorem dL_isStep_294 : decode cL_isStep 294 = .ok (.imul, 1) := by decide +kernel
theorem dL_isStep_295 : decode cL_isStep 295 = .ok (.ior, 1) := by decide +kernel
theorem dL_isStep_296 : decode cL_isStep 296 = .ok (.istore 7, 2) := by decide +kernel
theorem dL_isStep_298 : decode cL_isStep 298 = .ok (.iload_n 3, 1) := by decide +kernel
theorem dL_isStep_299 : decode cL_isStep 299 = .ok (.bipush 15, 2) := by decide +kernel
