/-! the law: decode rows -/
theorem dL_lot_0 : decode cL_lot 0 = .ok (.iload_n 1, 1) := by decide +kernel
theorem dL_lot_1 : decode cL_lot 1 = .ok (.aload_n 0, 1) := by decide +kernel
theorem dL_lot_2 : decode cL_lot 2 = .ok (.arraylength, 1) := by decide +kernel
theorem dL_lot_3 : decode cL_lot 3 = .ok (.if_icmp .ge 9, 3) := by decide +kernel
theorem dL_lot_6 : decode cL_lot 6 = .ok (.aload_n 0, 1) := by decide +kernel
theorem dL_lot_7 : decode cL_lot 7 = .ok (.iload_n 1, 1) := by decide +kernel
theorem dL_lot_8 : decode cL_lot 8 = .ok (.iaload, 1) := by decide +kernel
theorem dL_lot_9 : decode cL_lot 9 = .ok (.goto 15, 3) := by decide +kernel
theorem dL_lot_12 : decode cL_lot 12 = .ok (.ldc 7, 2) := by decide +kernel
theorem dL_lot_14 : decode cL_lot 14 = .ok (.iload_n 1, 1) := by decide +kernel
theorem dL_lot_15 : decode cL_lot 15 = .ok (.sipush 2539, 3) := by decide +kernel
theorem dL_lot_18 : decode cL_lot 18 = .ok (.iadd, 1) := by decide +kernel
theorem dL_lot_19 : decode cL_lot 19 = .ok (.imul, 1) := by decide +kernel
theorem dL_lot_20 : decode cL_lot 20 = .ok (.sipush 2311, 3) := by decide +kernel
theorem dL_lot_23 : decode cL_lot 23 = .ok (.iadd, 1) := by decide +kernel
theorem dL_lot_24 : decode cL_lot 24 = .ok (.ireturn, 1) := by decide +kernel
theorem dL_low_0 : decode cL_low 0 = .ok (.iload_n 0, 1) := by decide +kernel
theorem dL_low_1 : decode cL_low 1 = .ok (.ldc 8, 2) := by decide +kernel
theorem dL_low_3 : decode cL_low 3 = .ok (.iand, 1) := by decide +kernel
theorem dL_low_4 : decode cL_low 4 = .ok (.iload_n 1, 1) := by decide +kernel
theorem dL_low_5 : decode cL_low 5 = .ok (.irem, 1) := by decide +kernel
theorem dL_low_6 : decode cL_low 6 = .ok (.ireturn, 1) := by decide +kernel
theorem dL_pair_0 : decode cL_pair 0 = .ok (.iconst 0, 1) := by decide +kernel
theorem dL_pair_1 : decode cL_pair 1 = .ok (.istore 4, 2) := by decide +kernel
theorem dL_pair_3 : decode cL_pair 3 = .ok (.aload_n 0, 1) := by decide +kernel
theorem dL_pair_4 : decode cL_pair 4 = .ok (.iload_n 1, 1) := by decide +kernel
theorem dL_pair_5 : decode cL_pair 5 = .ok (.iload_n 2, 1) := by decide +kernel
theorem dL_pair_6 : decode cL_pair 6 = .ok (.invokevirtual 9, 3) := by decide +kernel
theorem dL_pair_9 : decode cL_pair 9 = .ok (.istore 5, 2) := by decide +kernel
theorem dL_pair_11 : decode cL_pair 11 = .ok (.aload_n 0, 1) := by decide +kernel
theorem dL_pair_12 : decode cL_pair 12 = .ok (.iload_n 1, 1) := by decide +kernel
theorem dL_pair_13 : decode cL_pair 13 = .ok (.invokevirtual 15, 3) := by decide +kernel
theorem dL_pair_16 : decode cL_pair 16 = .ok (.i2l, 1) := by decide +kernel
theorem dL_pair_17 : decode cL_pair 17 = .ok (.aload_n 0, 1) := by decide +kernel
theorem dL_pair_18 : decode cL_pair 18 = .ok (.iload_n 2, 1) := by decide +kernel
theorem dL_pair_19 : decode cL_pair 19 = .ok (.invokevirtual 15, 3) := by decide +kernel
theorem dL_pair_22 : decode cL_pair 22 = .ok (.i2l, 1) := by decide +kernel
theorem dL_pair_23 : decode cL_pair 23 = .ok (.lmul, 1) := by decide +kernel
theorem dL_pair_24 : decode cL_pair 24 = .ok (.lstore 6, 2) := by decide +kernel
theorem dL_pair_26 : decode cL_pair 26 = .ok (.ldc2_w 19, 3) := by decide +kernel
theorem dL_pair_29 : decode cL_pair 29 = .ok (.lstore 8, 2) := by decide +kernel
theorem dL_pair_31 : decode cL_pair 31 = .ok (.iload_n 3, 1) := by decide +kernel
theorem dL_pair_32 : decode cL_pair 32 = .ok (.iconst 1, 1) := by decide +kernel
theorem dL_pair_33 : decode cL_pair 33 = .ok (.if_icmp .ne 7, 3) := by decide +kernel
theorem dL_pair_36 : decode cL_pair 36 = .ok (.iconst 1, 1) := by decide +kernel
theorem dL_pair_37 : decode cL_pair 37 = .ok (.goto 10, 3) := by decide +kernel
theorem dL_pair_40 : decode cL_pair 40 = .ok (.iload 5, 2) := by decide +kernel
theorem dL_pair_42 : decode cL_pair 42 = .ok (.bipush 16, 2) := by decide +kernel
theorem dL_pair_44 : decode cL_pair 44 = .ok (.idiv, 1) := by decide +kernel
theorem dL_pair_45 : decode cL_pair 45 = .ok (.iconst 1, 1) := by decide +kernel
theorem dL_pair_46 : decode cL_pair 46 = .ok (.iadd, 1) := by decide +kernel
theorem dL_pair_47 : decode cL_pair 47 = .ok (.istore 10, 2) := by decide +kernel
theorem dL_pair_49 : decode cL_pair 49 = .ok (.iload_n 3, 1) := by decide +kernel
theorem dL_pair_50 : decode cL_pair 50 = .ok (.iconst 1, 1) := by decide +kernel
theorem dL_pair_51 : decode cL_pair 51 = .ok (.if_icmp .ne 8, 3) := by decide +kernel
theorem dL_pair_54 : decode cL_pair 54 = .ok (.bipush 64, 2) := by decide +kernel
theorem dL_pair_56 : decode cL_pair 56 = .ok (.goto 6, 3) := by decide +kernel
theorem dL_pair_59 : decode cL_pair 59 = .ok (.sipush 576, 3) := by decide +kernel
theorem dL_pair_62 : decode cL_pair 62 = .ok (.istore 11, 2) := by decide +kernel
theorem dL_pair_64 : decode cL_pair 64 = .ok (.iconst 0, 1) := by decide +kernel
theorem dL_pair_65 : decode cL_pair 65 = .ok (.istore 12, 2) := by decide +kernel
theorem dL_pair_67 : decode cL_pair 67 = .ok (.iload 12, 2) := by decide +kernel
theorem dL_pair_69 : decode cL_pair 69 = .ok (.iload 5, 2) := by decide +kernel
theorem dL_pair_71 : decode cL_pair 71 = .ok (.if_icmp .ge 217, 3) := by decide +kernel
theorem dL_pair_74 : decode cL_pair 74 = .ok (.aload_n 0, 1) := by decide +kernel
theorem dL_pair_75 : decode cL_pair 75 = .ok (.iload_n 1, 1) := by decide +kernel
theorem dL_pair_76 : decode cL_pair 76 = .ok (.iload_n 2, 1) := by decide +kernel
theorem dL_pair_77 : decode cL_pair 77 = .ok (.iload 12, 2) := by decide +kernel
theorem dL_pair_79 : decode cL_pair 79 = .ok (.invokevirtual 21, 3) := by decide +kernel
theorem dL_pair_82 : decode cL_pair 82 = .ok (.lstore 13, 2) := by decide +kernel
theorem dL_pair_84 : decode cL_pair 84 = .ok (.aload_n 0, 1) := by decide +kernel
theorem dL_pair_85 : decode cL_pair 85 = .ok (.iload_n 1, 1) := by decide +kernel
theorem dL_pair_86 : decode cL_pair 86 = .ok (.iload_n 2, 1) := by decide +kernel
theorem dL_pair_87 : decode cL_pair 87 = .ok (.iload 12, 2) := by decide +kernel
theorem dL_pair_89 : decode cL_pair 89 = .ok (.invokevirtual 25, 3) := by decide +kernel
theorem dL_pair_92 : decode cL_pair 92 = .ok (.lstore 15, 2) := by decide +kernel
theorem dL_pair_94 : decode cL_pair 94 = .ok (.aload_n 0, 1) := by decide +kernel
theorem dL_pair_95 : decode cL_pair 95 = .ok (.iload_n 1, 1) := by decide +kernel
theorem dL_pair_96 : decode cL_pair 96 = .ok (.iload_n 2, 1) := by decide +kernel
theorem dL_pair_97 : decode cL_pair 97 = .ok (.iload 12, 2) := by decide +kernel
theorem dL_pair_99 : decode cL_pair 99 = .ok (.invokevirtual 28, 3) := by decide +kernel
theorem dL_pair_102 : decode cL_pair 102 = .ok (.istore 17, 2) := by decide +kernel
theorem dL_pair_104 : decode cL_pair 104 = .ok (.aload_n 0, 1) := by decide +kernel
theorem dL_pair_105 : decode cL_pair 105 = .ok (.iload_n 1, 1) := by decide +kernel
theorem dL_pair_106 : decode cL_pair 106 = .ok (.iload_n 2, 1) := by decide +kernel
theorem dL_pair_107 : decode cL_pair 107 = .ok (.iload 12, 2) := by decide +kernel
theorem dL_pair_109 : decode cL_pair 109 = .ok (.invokevirtual 32, 3) := by decide +kernel
theorem dL_pair_112 : decode cL_pair 112 = .ok (.istore 18, 2) := by decide +kernel
theorem dL_pair_114 : decode cL_pair 114 = .ok (.iload 4, 2) := by decide +kernel
theorem dL_pair_116 : decode cL_pair 116 = .ok (.iload 18, 2) := by decide +kernel
theorem dL_pair_118 : decode cL_pair 118 = .ok (.iadd, 1) := by decide +kernel
theorem dL_pair_119 : decode cL_pair 119 = .ok (.istore 4, 2) := by decide +kernel
theorem dL_pair_121 : decode cL_pair 121 = .ok (.lload 13, 2) := by decide +kernel
theorem dL_pair_123 : decode cL_pair 123 = .ok (.lconst 0, 1) := by decide +kernel
theorem dL_pair_124 : decode cL_pair 124 = .ok (.lcmp, 1) := by decide +kernel
theorem dL_pair_125 : decode cL_pair 125 = .ok (.ifCond .lt 74, 3) := by decide +kernel
theorem dL_pair_128 : decode cL_pair 128 = .ok (.lload 15, 2) := by decide +kernel
theorem dL_pair_130 : decode cL_pair 130 = .ok (.lconst 1, 1) := by decide +kernel
theorem dL_pair_131 : decode cL_pair 131 = .ok (.lcmp, 1) := by decide +kernel
theorem dL_pair_132 : decode cL_pair 132 = .ok (.ifCond .lt 67, 3) := by decide +kernel
theorem dL_pair_135 : decode cL_pair 135 = .ok (.lload 13, 2) := by decide +kernel
theorem dL_pair_137 : decode cL_pair 137 = .ok (.lconst 0, 1) := by decide +kernel
theorem dL_pair_138 : decode cL_pair 138 = .ok (.lcmp, 1) := by decide +kernel
theorem dL_pair_139 : decode cL_pair 139 = .ok (.ifCond .ne 7, 3) := by decide +kernel
theorem dL_pair_142 : decode cL_pair 142 = .ok (.iconst 1, 1) := by decide +kernel
theorem dL_pair_143 : decode cL_pair 143 = .ok (.goto 4, 3) := by decide +kernel
theorem dL_pair_146 : decode cL_pair 146 = .ok (.iconst 0, 1) := by decide +kernel
theorem dL_pair_147 : decode cL_pair 147 = .ok (.iload 17, 2) := by decide +kernel
theorem dL_pair_149 : decode cL_pair 149 = .ok (.bipush (-4), 2) := by decide +kernel
theorem dL_pair_151 : decode cL_pair 151 = .ok (.if_icmp .ne 7, 3) := by decide +kernel
theorem dL_pair_154 : decode cL_pair 154 = .ok (.iconst 1, 1) := by decide +kernel
theorem dL_pair_155 : decode cL_pair 155 = .ok (.goto 4, 3) := by decide +kernel
theorem dL_pair_158 : decode cL_pair 158 = .ok (.iconst 0, 1) := by decide +kernel
theorem dL_pair_159 : decode cL_pair 159 = .ok (.if_icmp .ne 40, 3) := by decide +kernel
theorem dL_pair_162 : decode cL_pair 162 = .ok (.lload 13, 2) := by decide +kernel
theorem dL_pair_164 : decode cL_pair 164 = .ok (.lconst 0, 1) := by decide +kernel
theorem dL_pair_165 : decode cL_pair 165 = .ok (.lcmp, 1) := by decide +kernel
theorem dL_pair_166 : decode cL_pair 166 = .ok (.ifCond .ne 26, 3) := by decide +kernel
theorem dL_pair_169 : decode cL_pair 169 = .ok (.iload 12, 2) := by decide +kernel
theorem dL_pair_171 : decode cL_pair 171 = .ok (.ifCond .gt 28, 3) := by decide +kernel
theorem dL_pair_174 : decode cL_pair 174 = .ok (.lload 15, 2) := by decide +kernel
theorem dL_pair_176 : decode cL_pair 176 = .ok (.lconst 1, 1) := by decide +kernel
theorem dL_pair_177 : decode cL_pair 177 = .ok (.lcmp, 1) := by decide +kernel
theorem dL_pair_178 : decode cL_pair 178 = .ok (.ifCond .ne 21, 3) := by decide +kernel
theorem dL_pair_181 : decode cL_pair 181 = .ok (.aload_n 0, 1) := by decide +kernel
theorem dL_pair_182 : decode cL_pair 182 = .ok (.iload_n 1, 1) := by decide +kernel
theorem dL_pair_183 : decode cL_pair 183 = .ok (.iload_n 2, 1) := by decide +kernel
theorem dL_pair_184 : decode cL_pair 184 = .ok (.invokevirtual 37, 3) := by decide +kernel
theorem dL_pair_187 : decode cL_pair 187 = .ok (.iload 18, 2) := by decide +kernel
theorem dL_pair_189 : decode cL_pair 189 = .ok (.if_icmp .ne 10, 3) := by decide +kernel
theorem dL_pair_192 : decode cL_pair 192 = .ok (.iload 18, 2) := by decide +kernel
theorem dL_pair_194 : decode cL_pair 194 = .ok (.iconst 4, 1) := by decide +kernel
theorem dL_pair_195 : decode cL_pair 195 = .ok (.irem, 1) := by decide +kernel
theorem dL_pair_196 : decode cL_pair 196 = .ok (.ifCond .eq 5, 3) := by decide +kernel
theorem dL_pair_199 : decode cL_pair 199 = .ok (.iconst 0, 1) := by decide +kernel
theorem dL_pair_200 : decode cL_pair 200 = .ok (.ireturn, 1) := by decide +kernel
theorem dL_pair_201 : decode cL_pair 201 = .ok (.lload 6, 2) := by decide +kernel
theorem dL_pair_203 : decode cL_pair 203 = .ok (.lload 6, 2) := by decide +kernel
theorem dL_pair_205 : decode cL_pair 205 = .ok (.lmul, 1) := by decide +kernel
theorem dL_pair_206 : decode cL_pair 206 = .ok (.lload 15, 2) := by decide +kernel
theorem dL_pair_208 : decode cL_pair 208 = .ok (.lrem, 1) := by decide +kernel
theorem dL_pair_209 : decode cL_pair 209 = .ok (.lconst 0, 1) := by decide +kernel
theorem dL_pair_210 : decode cL_pair 210 = .ok (.lcmp, 1) := by decide +kernel
theorem dL_pair_211 : decode cL_pair 211 = .ok (.ifCond .ne 17, 3) := by decide +kernel
theorem dL_pair_214 : decode cL_pair 214 = .ok (.lload 13, 2) := by decide +kernel
theorem dL_pair_216 : decode cL_pair 216 = .ok (.lload 6, 2) := by decide +kernel
theorem dL_pair_218 : decode cL_pair 218 = .ok (.lload 6, 2) := by decide +kernel
theorem dL_pair_220 : decode cL_pair 220 = .ok (.lmul, 1) := by decide +kernel
theorem dL_pair_221 : decode cL_pair 221 = .ok (.lload 15, 2) := by decide +kernel
theorem dL_pair_223 : decode cL_pair 223 = .ok (.ldiv, 1) := by decide +kernel
theorem dL_pair_224 : decode cL_pair 224 = .ok (.lmul, 1) := by decide +kernel
theorem dL_pair_225 : decode cL_pair 225 = .ok (.goto 6, 3) := by decide +kernel
theorem dL_pair_228 : decode cL_pair 228 = .ok (.ldc2_w 19, 3) := by decide +kernel
theorem dL_pair_231 : decode cL_pair 231 = .ok (.lstore 19, 2) := by decide +kernel
theorem dL_pair_233 : decode cL_pair 233 = .ok (.lload 19, 2) := by decide +kernel
theorem dL_pair_235 : decode cL_pair 235 = .ok (.lload 8, 2) := by decide +kernel
theorem dL_pair_237 : decode cL_pair 237 = .ok (.lcmp, 1) := by decide +kernel
theorem dL_pair_238 : decode cL_pair 238 = .ok (.ifCond .le 34, 3) := by decide +kernel
theorem dL_pair_241 : decode cL_pair 241 = .ok (.iload 12, 2) := by decide +kernel
theorem dL_pair_243 : decode cL_pair 243 = .ok (.iconst 1, 1) := by decide +kernel
theorem dL_pair_244 : decode cL_pair 244 = .ok (.iadd, 1) := by decide +kernel
theorem dL_pair_245 : decode cL_pair 245 = .ok (.iload 5, 2) := by decide +kernel
theorem dL_pair_247 : decode cL_pair 247 = .ok (.if_icmp .ge 27, 3) := by decide +kernel
theorem dL_pair_250 : decode cL_pair 250 = .ok (.iload 17, 2) := by decide +kernel
theorem dL_pair_252 : decode cL_pair 252 = .ok (.bipush (-4), 2) := by decide +kernel
theorem dL_pair_254 : decode cL_pair 254 = .ok (.if_icmp .eq 20, 3) := by decide +kernel
theorem dL_pair_257 : decode cL_pair 257 = .ok (.iload 17, 2) := by decide +kernel
theorem dL_pair_259 : decode cL_pair 259 = .ok (.aload_n 0, 1) := by decide +kernel
theorem dL_pair_260 : decode cL_pair 260 = .ok (.iload_n 1, 1) := by decide +kernel
theorem dL_pair_261 : decode cL_pair 261 = .ok (.iload_n 2, 1) := by decide +kernel
theorem dL_pair_262 : decode cL_pair 262 = .ok (.iload 12, 2) := by decide +kernel
theorem dL_pair_264 : decode cL_pair 264 = .ok (.iconst 1, 1) := by decide +kernel
theorem dL_pair_265 : decode cL_pair 265 = .ok (.iadd, 1) := by decide +kernel
theorem dL_pair_266 : decode cL_pair 266 = .ok (.invokevirtual 28, 3) := by decide +kernel
theorem dL_pair_269 : decode cL_pair 269 = .ok (.if_icmp .ge 5, 3) := by decide +kernel
theorem dL_pair_272 : decode cL_pair 272 = .ok (.iconst 0, 1) := by decide +kernel
theorem dL_pair_273 : decode cL_pair 273 = .ok (.ireturn, 1) := by decide +kernel
theorem dL_pair_274 : decode cL_pair 274 = .ok (.lload 19, 2) := by decide +kernel
theorem dL_pair_276 : decode cL_pair 276 = .ok (.lstore 8, 2) := by decide +kernel
theorem dL_pair_278 : decode cL_pair 278 = .ok (.iload 12, 2) := by decide +kernel
theorem dL_pair_280 : decode cL_pair 280 = .ok (.iload 10, 2) := by decide +kernel
theorem dL_pair_282 : decode cL_pair 282 = .ok (.iadd, 1) := by decide +kernel
theorem dL_pair_283 : decode cL_pair 283 = .ok (.istore 12, 2) := by decide +kernel
theorem dL_pair_285 : decode cL_pair 285 = .ok (.goto (-218), 3) := by decide +kernel
theorem dL_pair_288 : decode cL_pair 288 = .ok (.aload_n 0, 1) := by decide +kernel
theorem dL_pair_289 : decode cL_pair 289 = .ok (.iload_n 1, 1) := by decide +kernel
theorem dL_pair_290 : decode cL_pair 290 = .ok (.iload_n 2, 1) := by decide +kernel
theorem dL_pair_291 : decode cL_pair 291 = .ok (.iconst 0, 1) := by decide +kernel
theorem dL_pair_292 : decode cL_pair 292 = .ok (.invokevirtual 21, 3) := by decide +kernel
theorem dL_pair_295 : decode cL_pair 295 = .ok (.lconst 0, 1) := by decide +kernel
theorem dL_pair_296 : decode cL_pair 296 = .ok (.lcmp, 1) := by decide +kernel
theorem dL_pair_297 : decode cL_pair 297 = .ok (.ifCond .ne 7, 3) := by decide +kernel
theorem dL_pair_300 : decode cL_pair 300 = .ok (.iconst 1, 1) := by decide +kernel
theorem dL_pair_301 : decode cL_pair 301 = .ok (.goto 4, 3) := by decide +kernel
theorem dL_pair_304 : decode cL_pair 304 = .ok (.iconst 0, 1) := by decide +kernel
theorem dL_pair_305 : decode cL_pair 305 = .ok (.istore 12, 2) := by decide +kernel
theorem dL_pair_307 : decode cL_pair 307 = .ok (.iload 10, 2) := by decide +kernel
theorem dL_pair_309 : decode cL_pair 309 = .ok (.iconst 1, 1) := by decide +kernel
theorem dL_pair_310 : decode cL_pair 310 = .ok (.if_icmp .gt 10, 3) := by decide +kernel
theorem dL_pair_313 : decode cL_pair 313 = .ok (.iload 4, 2) := by decide +kernel
theorem dL_pair_315 : decode cL_pair 315 = .ok (.iload 11, 2) := by decide +kernel
theorem dL_pair_317 : decode cL_pair 317 = .ok (.if_icmp .ne 78, 3) := by decide +kernel
theorem dL_pair_320 : decode cL_pair 320 = .ok (.iload 12, 2) := by decide +kernel
theorem dL_pair_322 : decode cL_pair 322 = .ok (.ifCond .ne 12, 3) := by decide +kernel
theorem dL_pair_325 : decode cL_pair 325 = .ok (.aload_n 0, 1) := by decide +kernel
theorem dL_pair_326 : decode cL_pair 326 = .ok (.iload_n 1, 1) := by decide +kernel
theorem dL_pair_327 : decode cL_pair 327 = .ok (.iload_n 2, 1) := by decide +kernel
theorem dL_pair_328 : decode cL_pair 328 = .ok (.invokevirtual 37, 3) := by decide +kernel
theorem dL_pair_331 : decode cL_pair 331 = .ok (.ifCond .ne 64, 3) := by decide +kernel
theorem dL_pair_334 : decode cL_pair 334 = .ok (.aload_n 0, 1) := by decide +kernel
theorem dL_pair_335 : decode cL_pair 335 = .ok (.iload_n 1, 1) := by decide +kernel
theorem dL_pair_336 : decode cL_pair 336 = .ok (.iload_n 2, 1) := by decide +kernel
theorem dL_pair_337 : decode cL_pair 337 = .ok (.iload 5, 2) := by decide +kernel
theorem dL_pair_339 : decode cL_pair 339 = .ok (.invokevirtual 32, 3) := by decide +kernel
theorem dL_pair_342 : decode cL_pair 342 = .ok (.bipush (-4), 2) := by decide +kernel
theorem dL_pair_344 : decode cL_pair 344 = .ok (.if_icmp .ne 51, 3) := by decide +kernel
theorem dL_pair_347 : decode cL_pair 347 = .ok (.aload_n 0, 1) := by decide +kernel
theorem dL_pair_348 : decode cL_pair 348 = .ok (.iload_n 1, 1) := by decide +kernel
theorem dL_pair_349 : decode cL_pair 349 = .ok (.iload_n 2, 1) := by decide +kernel
theorem dL_pair_350 : decode cL_pair 350 = .ok (.iload 5, 2) := by decide +kernel
theorem dL_pair_352 : decode cL_pair 352 = .ok (.invokevirtual 21, 3) := by decide +kernel
theorem dL_pair_355 : decode cL_pair 355 = .ok (.ldc2_w 40, 3) := by decide +kernel
theorem dL_pair_358 : decode cL_pair 358 = .ok (.lcmp, 1) := by decide +kernel
theorem dL_pair_359 : decode cL_pair 359 = .ok (.ifCond .ne 36, 3) := by decide +kernel
theorem dL_pair_362 : decode cL_pair 362 = .ok (.aload_n 0, 1) := by decide +kernel
theorem dL_pair_363 : decode cL_pair 363 = .ok (.iload_n 1, 1) := by decide +kernel
theorem dL_pair_364 : decode cL_pair 364 = .ok (.iload_n 2, 1) := by decide +kernel
theorem dL_pair_365 : decode cL_pair 365 = .ok (.invokevirtual 42, 3) := by decide +kernel
theorem dL_pair_368 : decode cL_pair 368 = .ok (.iconst 4, 1) := by decide +kernel
theorem dL_pair_369 : decode cL_pair 369 = .ok (.irem, 1) := by decide +kernel
theorem dL_pair_370 : decode cL_pair 370 = .ok (.ifCond .ne 25, 3) := by decide +kernel
theorem dL_pair_373 : decode cL_pair 373 = .ok (.aload_n 0, 1) := by decide +kernel
theorem dL_pair_374 : decode cL_pair 374 = .ok (.iload_n 1, 1) := by decide +kernel
theorem dL_pair_375 : decode cL_pair 375 = .ok (.iload_n 2, 1) := by decide +kernel
theorem dL_pair_376 : decode cL_pair 376 = .ok (.invokevirtual 42, 3) := by decide +kernel
theorem dL_pair_379 : decode cL_pair 379 = .ok (.aload_n 0, 1) := by decide +kernel
theorem dL_pair_380 : decode cL_pair 380 = .ok (.iload_n 1, 1) := by decide +kernel
theorem dL_pair_381 : decode cL_pair 381 = .ok (.iload_n 2, 1) := by decide +kernel
theorem dL_pair_382 : decode cL_pair 382 = .ok (.invokevirtual 37, 3) := by decide +kernel
theorem dL_pair_385 : decode cL_pair 385 = .ok (.iadd, 1) := by decide +kernel
theorem dL_pair_386 : decode cL_pair 386 = .ok (.iload 11, 2) := by decide +kernel
theorem dL_pair_388 : decode cL_pair 388 = .ok (.if_icmp .gt 7, 3) := by decide +kernel
theorem dL_pair_391 : decode cL_pair 391 = .ok (.iconst 1, 1) := by decide +kernel
theorem dL_pair_392 : decode cL_pair 392 = .ok (.goto 4, 3) := by decide +kernel
theorem dL_pair_395 : decode cL_pair 395 = .ok (.iconst 0, 1) := by decide +kernel
theorem dL_pair_396 : decode cL_pair 396 = .ok (.ireturn, 1) := by decide +kernel
theorem dL_whole_0 : decode cL_whole 0 = .ok (.aload_n 0, 1) := by decide +kernel
theorem dL_whole_1 : decode cL_whole 1 = .ok (.invokevirtual 45, 3) := by decide +kernel
theorem dL_whole_4 : decode cL_whole 4 = .ok (.istore_n 2, 1) := by decide +kernel
theorem dL_whole_5 : decode cL_whole 5 = .ok (.iconst 0, 1) := by decide +kernel
theorem dL_whole_6 : decode cL_whole 6 = .ok (.istore_n 3, 1) := by decide +kernel
theorem dL_whole_7 : decode cL_whole 7 = .ok (.iconst (-1), 1) := by decide +kernel
theorem dL_whole_8 : decode cL_whole 8 = .ok (.istore 4, 2) := by decide +kernel
theorem dL_whole_10 : decode cL_whole 10 = .ok (.bipush (-4), 2) := by decide +kernel
theorem dL_whole_12 : decode cL_whole 12 = .ok (.istore 5, 2) := by decide +kernel
theorem dL_whole_14 : decode cL_whole 14 = .ok (.iconst 0, 1) := by decide +kernel
theorem dL_whole_15 : decode cL_whole 15 = .ok (.istore 6, 2) := by decide +kernel
theorem dL_whole_17 : decode cL_whole 17 = .ok (.iconst 0, 1) := by decide +kernel
theorem dL_whole_18 : decode cL_whole 18 = .ok (.istore 7, 2) := by decide +kernel
theorem dL_whole_20 : decode cL_whole 20 = .ok (.iload 7, 2) := by decide +kernel
theorem dL_whole_22 : decode cL_whole 22 = .ok (.iload_n 2, 1) := by decide +kernel
theorem dL_whole_23 : decode cL_whole 23 = .ok (.if_icmp .ge 245, 3) := by decide +kernel
theorem dL_whole_26 : decode cL_whole 26 = .ok (.iload 7, 2) := by decide +kernel
theorem dL_whole_28 : decode cL_whole 28 = .ok (.iconst 1, 1) := by decide +kernel
theorem dL_whole_29 : decode cL_whole 29 = .ok (.iadd, 1) := by decide +kernel
theorem dL_whole_30 : decode cL_whole 30 = .ok (.istore 8, 2) := by decide +kernel
theorem dL_whole_32 : decode cL_whole 32 = .ok (.iload 8, 2) := by decide +kernel
theorem dL_whole_34 : decode cL_whole 34 = .ok (.iload_n 2, 1) := by decide +kernel
theorem dL_whole_35 : decode cL_whole 35 = .ok (.if_icmp .ge 93, 3) := by decide +kernel
theorem dL_whole_38 : decode cL_whole 38 = .ok (.aload_n 0, 1) := by decide +kernel
theorem dL_whole_39 : decode cL_whole 39 = .ok (.iload 7, 2) := by decide +kernel
theorem dL_whole_41 : decode cL_whole 41 = .ok (.iload 8, 2) := by decide +kernel
theorem dL_whole_43 : decode cL_whole 43 = .ok (.invokevirtual 42, 3) := by decide +kernel
theorem dL_whole_46 : decode cL_whole 46 = .ok (.istore 9, 2) := by decide +kernel
theorem dL_whole_48 : decode cL_whole 48 = .ok (.iload_n 3, 1) := by decide +kernel
theorem dL_whole_49 : decode cL_whole 49 = .ok (.iload 9, 2) := by decide +kernel
theorem dL_whole_51 : decode cL_whole 51 = .ok (.iadd, 1) := by decide +kernel
theorem dL_whole_52 : decode cL_whole 52 = .ok (.istore_n 3, 1) := by decide +kernel
theorem dL_whole_53 : decode cL_whole 53 = .ok (.iload 9, 2) := by decide +kernel
theorem dL_whole_55 : decode cL_whole 55 = .ok (.iload 4, 2) := by decide +kernel
theorem dL_whole_57 : decode cL_whole 57 = .ok (.if_icmp .le 14, 3) := by decide +kernel
theorem dL_whole_60 : decode cL_whole 60 = .ok (.bipush 10, 2) := by decide +kernel
theorem dL_whole_62 : decode cL_whole 62 = .ok (.iload 7, 2) := by decide +kernel
theorem dL_whole_64 : decode cL_whole 64 = .ok (.imul, 1) := by decide +kernel
theorem dL_whole_65 : decode cL_whole 65 = .ok (.iload 8, 2) := by decide +kernel
theorem dL_whole_67 : decode cL_whole 67 = .ok (.iadd, 1) := by decide +kernel
theorem dL_whole_68 : decode cL_whole 68 = .ok (.goto 5, 3) := by decide +kernel
theorem dL_whole_71 : decode cL_whole 71 = .ok (.iload 5, 2) := by decide +kernel
theorem dL_whole_73 : decode cL_whole 73 = .ok (.istore 5, 2) := by decide +kernel
theorem dL_whole_75 : decode cL_whole 75 = .ok (.iload 9, 2) := by decide +kernel
theorem dL_whole_77 : decode cL_whole 77 = .ok (.iload 4, 2) := by decide +kernel
theorem dL_whole_79 : decode cL_whole 79 = .ok (.if_icmp .le 8, 3) := by decide +kernel
theorem dL_whole_82 : decode cL_whole 82 = .ok (.iload 9, 2) := by decide +kernel
theorem dL_whole_84 : decode cL_whole 84 = .ok (.goto 5, 3) := by decide +kernel
theorem dL_whole_87 : decode cL_whole 87 = .ok (.iload 4, 2) := by decide +kernel
theorem dL_whole_89 : decode cL_whole 89 = .ok (.istore 4, 2) := by decide +kernel
theorem dL_whole_91 : decode cL_whole 91 = .ok (.iload 8, 2) := by decide +kernel
theorem dL_whole_93 : decode cL_whole 93 = .ok (.iconst 1, 1) := by decide +kernel
theorem dL_whole_94 : decode cL_whole 94 = .ok (.iadd, 1) := by decide +kernel
theorem dL_whole_95 : decode cL_whole 95 = .ok (.istore 10, 2) := by decide +kernel
theorem dL_whole_97 : decode cL_whole 97 = .ok (.iload 10, 2) := by decide +kernel
theorem dL_whole_99 : decode cL_whole 99 = .ok (.iload_n 2, 1) := by decide +kernel
theorem dL_whole_100 : decode cL_whole 100 = .ok (.if_icmp .ge 22, 3) := by decide +kernel
theorem dL_whole_103 : decode cL_whole 103 = .ok (.iload_n 3, 1) := by decide +kernel
theorem dL_whole_104 : decode cL_whole 104 = .ok (.aload_n 0, 1) := by decide +kernel
theorem dL_whole_105 : decode cL_whole 105 = .ok (.iload 7, 2) := by decide +kernel
theorem dL_whole_107 : decode cL_whole 107 = .ok (.iload 8, 2) := by decide +kernel
theorem dL_whole_109 : decode cL_whole 109 = .ok (.iload 10, 2) := by decide +kernel
theorem dL_whole_111 : decode cL_whole 111 = .ok (.invokevirtual 49, 3) := by decide +kernel
theorem dL_whole_114 : decode cL_whole 114 = .ok (.iadd, 1) := by decide +kernel
theorem dL_whole_115 : decode cL_whole 115 = .ok (.istore_n 3, 1) := by decide +kernel
theorem dL_whole_116 : decode cL_whole 116 = .ok (.iinc 10 1, 3) := by decide +kernel
theorem dL_whole_119 : decode cL_whole 119 = .ok (.goto (-22), 3) := by decide +kernel
theorem dL_whole_122 : decode cL_whole 122 = .ok (.iinc 8 1, 3) := by decide +kernel
theorem dL_whole_125 : decode cL_whole 125 = .ok (.goto (-93), 3) := by decide +kernel
theorem dL_whole_128 : decode cL_whole 128 = .ok (.aload_n 0, 1) := by decide +kernel
theorem dL_whole_129 : decode cL_whole 129 = .ok (.iload 7, 2) := by decide +kernel
theorem dL_whole_131 : decode cL_whole 131 = .ok (.invokevirtual 52, 3) := by decide +kernel
theorem dL_whole_134 : decode cL_whole 134 = .ok (.istore 8, 2) := by decide +kernel
theorem dL_whole_136 : decode cL_whole 136 = .ok (.iload 6, 2) := by decide +kernel
theorem dL_whole_138 : decode cL_whole 138 = .ok (.iconst 1, 1) := by decide +kernel
theorem dL_whole_139 : decode cL_whole 139 = .ok (.iload 8, 2) := by decide +kernel
theorem dL_whole_141 : decode cL_whole 141 = .ok (.ishl, 1) := by decide +kernel
theorem dL_whole_142 : decode cL_whole 142 = .ok (.ior, 1) := by decide +kernel
theorem dL_whole_143 : decode cL_whole 143 = .ok (.istore 6, 2) := by decide +kernel
theorem dL_whole_145 : decode cL_whole 145 = .ok (.aload_n 0, 1) := by decide +kernel
theorem dL_whole_146 : decode cL_whole 146 = .ok (.invokevirtual 55, 3) := by decide +kernel
theorem dL_whole_149 : decode cL_whole 149 = .ok (.aload_n 0, 1) := by decide +kernel
theorem dL_whole_150 : decode cL_whole 150 = .ok (.iload 7, 2) := by decide +kernel
theorem dL_whole_152 : decode cL_whole 152 = .ok (.invokevirtual 59, 3) := by decide +kernel
theorem dL_whole_155 : decode cL_whole 155 = .ok (.i2l, 1) := by decide +kernel
theorem dL_whole_156 : decode cL_whole 156 = .ok (.lrem, 1) := by decide +kernel
theorem dL_whole_157 : decode cL_whole 157 = .ok (.lconst 0, 1) := by decide +kernel
theorem dL_whole_158 : decode cL_whole 158 = .ok (.lcmp, 1) := by decide +kernel
theorem dL_whole_159 : decode cL_whole 159 = .ok (.ifCond .ne 101, 3) := by decide +kernel
theorem dL_whole_162 : decode cL_whole 162 = .ok (.aload_n 0, 1) := by decide +kernel
theorem dL_whole_163 : decode cL_whole 163 = .ok (.iload 7, 2) := by decide +kernel
theorem dL_whole_165 : decode cL_whole 165 = .ok (.invokevirtual 15, 3) := by decide +kernel
theorem dL_whole_168 : decode cL_whole 168 = .ok (.aload_n 0, 1) := by decide +kernel
theorem dL_whole_169 : decode cL_whole 169 = .ok (.iload 7, 2) := by decide +kernel
theorem dL_whole_171 : decode cL_whole 171 = .ok (.invokevirtual 62, 3) := by decide +kernel
theorem dL_whole_174 : decode cL_whole 174 = .ok (.aload_n 0, 1) := by decide +kernel
theorem dL_whole_175 : decode cL_whole 175 = .ok (.iload 7, 2) := by decide +kernel
theorem dL_whole_177 : decode cL_whole 177 = .ok (.invokevirtual 62, 3) := by decide +kernel
theorem dL_whole_180 : decode cL_whole 180 = .ok (.imul, 1) := by decide +kernel
theorem dL_whole_181 : decode cL_whole 181 = .ok (.aload_n 0, 1) := by decide +kernel
theorem dL_whole_182 : decode cL_whole 182 = .ok (.iload 7, 2) := by decide +kernel
theorem dL_whole_184 : decode cL_whole 184 = .ok (.invokevirtual 65, 3) := by decide +kernel
theorem dL_whole_187 : decode cL_whole 187 = .ok (.aload_n 0, 1) := by decide +kernel
theorem dL_whole_188 : decode cL_whole 188 = .ok (.iload 7, 2) := by decide +kernel
theorem dL_whole_190 : decode cL_whole 190 = .ok (.invokevirtual 65, 3) := by decide +kernel
theorem dL_whole_193 : decode cL_whole 193 = .ok (.imul, 1) := by decide +kernel
theorem dL_whole_194 : decode cL_whole 194 = .ok (.iadd, 1) := by decide +kernel
theorem dL_whole_195 : decode cL_whole 195 = .ok (.if_icmp .ne 65, 3) := by decide +kernel
theorem dL_whole_198 : decode cL_whole 198 = .ok (.aload_n 0, 1) := by decide +kernel
theorem dL_whole_199 : decode cL_whole 199 = .ok (.iload 7, 2) := by decide +kernel
theorem dL_whole_201 : decode cL_whole 201 = .ok (.invokevirtual 15, 3) := by decide +kernel
theorem dL_whole_204 : decode cL_whole 204 = .ok (.aload_n 0, 1) := by decide +kernel
theorem dL_whole_205 : decode cL_whole 205 = .ok (.iload 7, 2) := by decide +kernel
theorem dL_whole_207 : decode cL_whole 207 = .ok (.invokevirtual 59, 3) := by decide +kernel
theorem dL_whole_210 : decode cL_whole 210 = .ok (.irem, 1) := by decide +kernel
theorem dL_whole_211 : decode cL_whole 211 = .ok (.ifCond .ne 49, 3) := by decide +kernel
theorem dL_whole_214 : decode cL_whole 214 = .ok (.iload 7, 2) := by decide +kernel
theorem dL_whole_216 : decode cL_whole 216 = .ok (.ifCond .le 46, 3) := by decide +kernel
theorem dL_whole_219 : decode cL_whole 219 = .ok (.aload_n 0, 1) := by decide +kernel
theorem dL_whole_220 : decode cL_whole 220 = .ok (.aload_n 0, 1) := by decide +kernel
theorem dL_whole_221 : decode cL_whole 221 = .ok (.iload 7, 2) := by decide +kernel
theorem dL_whole_223 : decode cL_whole 223 = .ok (.iconst 1, 1) := by decide +kernel
theorem dL_whole_224 : decode cL_whole 224 = .ok (.isub, 1) := by decide +kernel
theorem dL_whole_225 : decode cL_whole 225 = .ok (.invokevirtual 52, 3) := by decide +kernel
theorem dL_whole_228 : decode cL_whole 228 = .ok (.invokevirtual 65, 3) := by decide +kernel
theorem dL_whole_231 : decode cL_whole 231 = .ok (.aload_n 0, 1) := by decide +kernel
theorem dL_whole_232 : decode cL_whole 232 = .ok (.iload 8, 2) := by decide +kernel
theorem dL_whole_234 : decode cL_whole 234 = .ok (.invokevirtual 62, 3) := by decide +kernel
theorem dL_whole_237 : decode cL_whole 237 = .ok (.imul, 1) := by decide +kernel
theorem dL_whole_238 : decode cL_whole 238 = .ok (.aload_n 0, 1) := by decide +kernel
theorem dL_whole_239 : decode cL_whole 239 = .ok (.iload 8, 2) := by decide +kernel
theorem dL_whole_241 : decode cL_whole 241 = .ok (.invokevirtual 65, 3) := by decide +kernel
theorem dL_whole_244 : decode cL_whole 244 = .ok (.aload_n 0, 1) := by decide +kernel
theorem dL_whole_245 : decode cL_whole 245 = .ok (.aload_n 0, 1) := by decide +kernel
theorem dL_whole_246 : decode cL_whole 246 = .ok (.iload 7, 2) := by decide +kernel
theorem dL_whole_248 : decode cL_whole 248 = .ok (.iconst 1, 1) := by decide +kernel
theorem dL_whole_249 : decode cL_whole 249 = .ok (.isub, 1) := by decide +kernel
theorem dL_whole_250 : decode cL_whole 250 = .ok (.invokevirtual 52, 3) := by decide +kernel
theorem dL_whole_253 : decode cL_whole 253 = .ok (.invokevirtual 62, 3) := by decide +kernel
theorem dL_whole_256 : decode cL_whole 256 = .ok (.imul, 1) := by decide +kernel
theorem dL_whole_257 : decode cL_whole 257 = .ok (.if_icmp .le 5, 3) := by decide +kernel
theorem dL_whole_260 : decode cL_whole 260 = .ok (.iconst 0, 1) := by decide +kernel
theorem dL_whole_261 : decode cL_whole 261 = .ok (.ireturn, 1) := by decide +kernel
theorem dL_whole_262 : decode cL_whole 262 = .ok (.iinc 7 1, 3) := by decide +kernel
theorem dL_whole_265 : decode cL_whole 265 = .ok (.goto (-245), 3) := by decide +kernel
theorem dL_whole_268 : decode cL_whole 268 = .ok (.aload_n 0, 1) := by decide +kernel
theorem dL_whole_269 : decode cL_whole 269 = .ok (.invokevirtual 68, 3) := by decide +kernel
theorem dL_whole_272 : decode cL_whole 272 = .ok (.istore 7, 2) := by decide +kernel
theorem dL_whole_274 : decode cL_whole 274 = .ok (.aload_n 0, 1) := by decide +kernel
theorem dL_whole_275 : decode cL_whole 275 = .ok (.invokevirtual 71, 3) := by decide +kernel
theorem dL_whole_278 : decode cL_whole 278 = .ok (.istore 8, 2) := by decide +kernel
theorem dL_whole_280 : decode cL_whole 280 = .ok (.iload_n 3, 1) := by decide +kernel
theorem dL_whole_281 : decode cL_whole 281 = .ok (.ifCond .ne 7, 3) := by decide +kernel
theorem dL_whole_284 : decode cL_whole 284 = .ok (.iconst 1, 1) := by decide +kernel
theorem dL_whole_285 : decode cL_whole 285 = .ok (.goto 4, 3) := by decide +kernel
theorem dL_whole_288 : decode cL_whole 288 = .ok (.iconst 0, 1) := by decide +kernel
theorem dL_whole_289 : decode cL_whole 289 = .ok (.istore 9, 2) := by decide +kernel
theorem dL_whole_291 : decode cL_whole 291 = .ok (.iload 6, 2) := by decide +kernel
theorem dL_whole_293 : decode cL_whole 293 = .ok (.iconst 1, 1) := by decide +kernel
theorem dL_whole_294 : decode cL_whole 294 = .ok (.iload_n 2, 1) := by decide +kernel
theorem dL_whole_295 : decode cL_whole 295 = .ok (.ishl, 1) := by decide +kernel
theorem dL_whole_296 : decode cL_whole 296 = .ok (.iconst 1, 1) := by decide +kernel
theorem dL_whole_297 : decode cL_whole 297 = .ok (.isub, 1) := by decide +kernel
theorem dL_whole_298 : decode cL_whole 298 = .ok (.if_icmp .ne 129, 3) := by decide +kernel
theorem dL_whole_301 : decode cL_whole 301 = .ok (.aload_n 0, 1) := by decide +kernel
theorem dL_whole_302 : decode cL_whole 302 = .ok (.iload_n 2, 1) := by decide +kernel
theorem dL_whole_303 : decode cL_whole 303 = .ok (.invokevirtual 52, 3) := by decide +kernel
theorem dL_whole_306 : decode cL_whole 306 = .ok (.bipush (-4), 2) := by decide +kernel
theorem dL_whole_308 : decode cL_whole 308 = .ok (.if_icmp .ne 119, 3) := by decide +kernel
theorem dL_whole_311 : decode cL_whole 311 = .ok (.aload_n 0, 1) := by decide +kernel
theorem dL_whole_312 : decode cL_whole 312 = .ok (.invokevirtual 74, 3) := by decide +kernel
theorem dL_whole_315 : decode cL_whole 315 = .ok (.iload_n 3, 1) := by decide +kernel
theorem dL_whole_316 : decode cL_whole 316 = .ok (.if_icmp .ne 111, 3) := by decide +kernel
theorem dL_whole_319 : decode cL_whole 319 = .ok (.aload_n 0, 1) := by decide +kernel
theorem dL_whole_320 : decode cL_whole 320 = .ok (.invokevirtual 77, 3) := by decide +kernel
theorem dL_whole_323 : decode cL_whole 323 = .ok (.iload 5, 2) := by decide +kernel
theorem dL_whole_325 : decode cL_whole 325 = .ok (.if_icmp .ne 102, 3) := by decide +kernel
theorem dL_whole_328 : decode cL_whole 328 = .ok (.iload 7, 2) := by decide +kernel
theorem dL_whole_330 : decode cL_whole 330 = .ok (.bipush (-4), 2) := by decide +kernel
theorem dL_whole_332 : decode cL_whole 332 = .ok (.if_icmp .ne 7, 3) := by decide +kernel
theorem dL_whole_335 : decode cL_whole 335 = .ok (.iconst 1, 1) := by decide +kernel
theorem dL_whole_336 : decode cL_whole 336 = .ok (.goto 4, 3) := by decide +kernel
theorem dL_whole_339 : decode cL_whole 339 = .ok (.iconst 0, 1) := by decide +kernel
theorem dL_whole_340 : decode cL_whole 340 = .ok (.iload 9, 2) := by decide +kernel
theorem dL_whole_342 : decode cL_whole 342 = .ok (.if_icmp .ne 85, 3) := by decide +kernel
theorem dL_whole_345 : decode cL_whole 345 = .ok (.iload 8, 2) := by decide +kernel
theorem dL_whole_347 : decode cL_whole 347 = .ok (.bipush (-4), 2) := by decide +kernel
theorem dL_whole_349 : decode cL_whole 349 = .ok (.if_icmp .ne 7, 3) := by decide +kernel
theorem dL_whole_352 : decode cL_whole 352 = .ok (.iconst 1, 1) := by decide +kernel
theorem dL_whole_353 : decode cL_whole 353 = .ok (.goto 4, 3) := by decide +kernel
theorem dL_whole_356 : decode cL_whole 356 = .ok (.iconst 0, 1) := by decide +kernel
theorem dL_whole_357 : decode cL_whole 357 = .ok (.iload 9, 2) := by decide +kernel
theorem dL_whole_359 : decode cL_whole 359 = .ok (.if_icmp .ne 68, 3) := by decide +kernel
theorem dL_whole_362 : decode cL_whole 362 = .ok (.iload 9, 2) := by decide +kernel
theorem dL_whole_364 : decode cL_whole 364 = .ok (.ifCond .ne 31, 3) := by decide +kernel
theorem dL_whole_367 : decode cL_whole 367 = .ok (.iload 7, 2) := by decide +kernel
theorem dL_whole_369 : decode cL_whole 369 = .ok (.aload_n 0, 1) := by decide +kernel
theorem dL_whole_370 : decode cL_whole 370 = .ok (.invokevirtual 80, 3) := by decide +kernel
theorem dL_whole_373 : decode cL_whole 373 = .ok (.if_icmp .ge 54, 3) := by decide +kernel
theorem dL_whole_376 : decode cL_whole 376 = .ok (.iload 7, 2) := by decide +kernel
theorem dL_whole_378 : decode cL_whole 378 = .ok (.ifCond .le 49, 3) := by decide +kernel
theorem dL_whole_381 : decode cL_whole 381 = .ok (.iload 8, 2) := by decide +kernel
theorem dL_whole_383 : decode cL_whole 383 = .ok (.iconst 2, 1) := by decide +kernel
theorem dL_whole_384 : decode cL_whole 384 = .ok (.if_icmp .le 43, 3) := by decide +kernel
theorem dL_whole_387 : decode cL_whole 387 = .ok (.iload 8, 2) := by decide +kernel
theorem dL_whole_389 : decode cL_whole 389 = .ok (.iconst 1, 1) := by decide +kernel
theorem dL_whole_390 : decode cL_whole 390 = .ok (.iload_n 2, 1) := by decide +kernel
theorem dL_whole_391 : decode cL_whole 391 = .ok (.ishl, 1) := by decide +kernel
theorem dL_whole_392 : decode cL_whole 392 = .ok (.if_icmp .ge 35, 3) := by decide +kernel
theorem dL_whole_395 : decode cL_whole 395 = .ok (.aload_n 0, 1) := by decide +kernel
theorem dL_whole_396 : decode cL_whole 396 = .ok (.iload_n 2, 1) := by decide +kernel
theorem dL_whole_397 : decode cL_whole 397 = .ok (.invokevirtual 62, 3) := by decide +kernel
theorem dL_whole_400 : decode cL_whole 400 = .ok (.iconst (-1), 1) := by decide +kernel
theorem dL_whole_401 : decode cL_whole 401 = .ok (.if_icmp .ne 26, 3) := by decide +kernel
theorem dL_whole_404 : decode cL_whole 404 = .ok (.aload_n 0, 1) := by decide +kernel
theorem dL_whole_405 : decode cL_whole 405 = .ok (.iload_n 2, 1) := by decide +kernel
theorem dL_whole_406 : decode cL_whole 406 = .ok (.invokevirtual 59, 3) := by decide +kernel
theorem dL_whole_409 : decode cL_whole 409 = .ok (.iconst (-1), 1) := by decide +kernel
theorem dL_whole_410 : decode cL_whole 410 = .ok (.if_icmp .ne 17, 3) := by decide +kernel
theorem dL_whole_413 : decode cL_whole 413 = .ok (.aload_n 0, 1) := by decide +kernel
theorem dL_whole_414 : decode cL_whole 414 = .ok (.iconst 0, 1) := by decide +kernel
theorem dL_whole_415 : decode cL_whole 415 = .ok (.iload_n 2, 1) := by decide +kernel
theorem dL_whole_416 : decode cL_whole 416 = .ok (.invokevirtual 42, 3) := by decide +kernel
theorem dL_whole_419 : decode cL_whole 419 = .ok (.iconst (-1), 1) := by decide +kernel
theorem dL_whole_420 : decode cL_whole 420 = .ok (.if_icmp .ne 7, 3) := by decide +kernel
theorem dL_whole_423 : decode cL_whole 423 = .ok (.iconst 1, 1) := by decide +kernel
theorem dL_whole_424 : decode cL_whole 424 = .ok (.goto 4, 3) := by decide +kernel
theorem dL_whole_427 : decode cL_whole 427 = .ok (.iconst 0, 1) := by decide +kernel
theorem dL_whole_428 : decode cL_whole 428 = .ok (.ireturn, 1) := by decide +kernel
theorem dL_turned_0 : decode cL_turned 0 = .ok (.iload 4, 2) := by decide +kernel
theorem dL_turned_2 : decode cL_turned 2 = .ok (.iconst 2, 1) := by decide +kernel
theorem dL_turned_3 : decode cL_turned 3 = .ok (.iload_n 3, 1) := by decide +kernel
theorem dL_turned_4 : decode cL_turned 4 = .ok (.imul, 1) := by decide +kernel
theorem dL_turned_5 : decode cL_turned 5 = .ok (.iconst 1, 1) := by decide +kernel
theorem dL_turned_6 : decode cL_turned 6 = .ok (.iadd, 1) := by decide +kernel
theorem dL_turned_7 : decode cL_turned 7 = .ok (.invokestatic 83, 3) := by decide +kernel
theorem dL_turned_10 : decode cL_turned 10 = .ok (.iload_n 3, 1) := by decide +kernel
theorem dL_turned_11 : decode cL_turned 11 = .ok (.isub, 1) := by decide +kernel
theorem dL_turned_12 : decode cL_turned 12 = .ok (.istore 5, 2) := by decide +kernel
theorem dL_turned_14 : decode cL_turned 14 = .ok (.iload 4, 2) := by decide +kernel
theorem dL_turned_16 : decode cL_turned 16 = .ok (.iconst 3, 1) := by decide +kernel
theorem dL_turned_17 : decode cL_turned 17 = .ok (.ishr, 1) := by decide +kernel
theorem dL_turned_18 : decode cL_turned 18 = .ok (.iconst 2, 1) := by decide +kernel
theorem dL_turned_19 : decode cL_turned 19 = .ok (.iload_n 3, 1) := by decide +kernel
theorem dL_turned_20 : decode cL_turned 20 = .ok (.imul, 1) := by decide +kernel
theorem dL_turned_21 : decode cL_turned 21 = .ok (.iconst 1, 1) := by decide +kernel
theorem dL_turned_22 : decode cL_turned 22 = .ok (.iadd, 1) := by decide +kernel
theorem dL_turned_23 : decode cL_turned 23 = .ok (.invokestatic 83, 3) := by decide +kernel
theorem dL_turned_26 : decode cL_turned 26 = .ok (.iload_n 3, 1) := by decide +kernel
theorem dL_turned_27 : decode cL_turned 27 = .ok (.isub, 1) := by decide +kernel
theorem dL_turned_28 : decode cL_turned 28 = .ok (.istore 6, 2) := by decide +kernel
theorem dL_turned_30 : decode cL_turned 30 = .ok (.iload 4, 2) := by decide +kernel
theorem dL_turned_32 : decode cL_turned 32 = .ok (.bipush 6, 2) := by decide +kernel
theorem dL_turned_34 : decode cL_turned 34 = .ok (.ishr, 1) := by decide +kernel
theorem dL_turned_35 : decode cL_turned 35 = .ok (.iconst 2, 1) := by decide +kernel
theorem dL_turned_36 : decode cL_turned 36 = .ok (.iload_n 3, 1) := by decide +kernel
theorem dL_turned_37 : decode cL_turned 37 = .ok (.imul, 1) := by decide +kernel
theorem dL_turned_38 : decode cL_turned 38 = .ok (.iconst 1, 1) := by decide +kernel
theorem dL_turned_39 : decode cL_turned 39 = .ok (.iadd, 1) := by decide +kernel
theorem dL_turned_40 : decode cL_turned 40 = .ok (.invokestatic 83, 3) := by decide +kernel
theorem dL_turned_43 : decode cL_turned 43 = .ok (.iload_n 3, 1) := by decide +kernel
theorem dL_turned_44 : decode cL_turned 44 = .ok (.isub, 1) := by decide +kernel
theorem dL_turned_45 : decode cL_turned 45 = .ok (.istore 7, 2) := by decide +kernel
theorem dL_turned_47 : decode cL_turned 47 = .ok (.iload 4, 2) := by decide +kernel
theorem dL_turned_49 : decode cL_turned 49 = .ok (.bipush 9, 2) := by decide +kernel
theorem dL_turned_51 : decode cL_turned 51 = .ok (.ishr, 1) := by decide +kernel
theorem dL_turned_52 : decode cL_turned 52 = .ok (.iconst 2, 1) := by decide +kernel
theorem dL_turned_53 : decode cL_turned 53 = .ok (.iload_n 3, 1) := by decide +kernel
theorem dL_turned_54 : decode cL_turned 54 = .ok (.imul, 1) := by decide +kernel
theorem dL_turned_55 : decode cL_turned 55 = .ok (.iconst 1, 1) := by decide +kernel
theorem dL_turned_56 : decode cL_turned 56 = .ok (.iadd, 1) := by decide +kernel
theorem dL_turned_57 : decode cL_turned 57 = .ok (.invokestatic 83, 3) := by decide +kernel
theorem dL_turned_60 : decode cL_turned 60 = .ok (.iload_n 3, 1) := by decide +kernel
theorem dL_turned_61 : decode cL_turned 61 = .ok (.isub, 1) := by decide +kernel
theorem dL_turned_62 : decode cL_turned 62 = .ok (.istore 8, 2) := by decide +kernel
theorem dL_turned_64 : decode cL_turned 64 = .ok (.aload_n 0, 1) := by decide +kernel
theorem dL_turned_65 : decode cL_turned 65 = .ok (.iload_n 1, 1) := by decide +kernel
theorem dL_turned_66 : decode cL_turned 66 = .ok (.iload_n 2, 1) := by decide +kernel
theorem dL_turned_67 : decode cL_turned 67 = .ok (.iload 5, 2) := by decide +kernel
theorem dL_turned_69 : decode cL_turned 69 = .ok (.iload 6, 2) := by decide +kernel
theorem dL_turned_71 : decode cL_turned 71 = .ok (.iload 7, 2) := by decide +kernel
theorem dL_turned_73 : decode cL_turned 73 = .ok (.iload 8, 2) := by decide +kernel
theorem dL_turned_75 : decode cL_turned 75 = .ok (.invokevirtual 86, 3) := by decide +kernel
theorem dL_turned_78 : decode cL_turned 78 = .ok (.lstore 9, 2) := by decide +kernel
theorem dL_turned_80 : decode cL_turned 80 = .ok (.aload_n 0, 1) := by decide +kernel
theorem dL_turned_81 : decode cL_turned 81 = .ok (.iload_n 1, 1) := by decide +kernel
theorem dL_turned_82 : decode cL_turned 82 = .ok (.iload_n 2, 1) := by decide +kernel
theorem dL_turned_83 : decode cL_turned 83 = .ok (.iload 5, 2) := by decide +kernel
theorem dL_turned_85 : decode cL_turned 85 = .ok (.iload 6, 2) := by decide +kernel
theorem dL_turned_87 : decode cL_turned 87 = .ok (.iload 7, 2) := by decide +kernel
theorem dL_turned_89 : decode cL_turned 89 = .ok (.iload 8, 2) := by decide +kernel
theorem dL_turned_91 : decode cL_turned 91 = .ok (.invokevirtual 90, 3) := by decide +kernel
theorem dL_turned_94 : decode cL_turned 94 = .ok (.lstore 11, 2) := by decide +kernel
theorem dL_turned_96 : decode cL_turned 96 = .ok (.aload_n 0, 1) := by decide +kernel
theorem dL_turned_97 : decode cL_turned 97 = .ok (.iload_n 1, 1) := by decide +kernel
theorem dL_turned_98 : decode cL_turned 98 = .ok (.iload_n 2, 1) := by decide +kernel
theorem dL_turned_99 : decode cL_turned 99 = .ok (.iload 5, 2) := by decide +kernel
theorem dL_turned_101 : decode cL_turned 101 = .ok (.iload 6, 2) := by decide +kernel
theorem dL_turned_103 : decode cL_turned 103 = .ok (.iload 7, 2) := by decide +kernel
theorem dL_turned_105 : decode cL_turned 105 = .ok (.iload 8, 2) := by decide +kernel
theorem dL_turned_107 : decode cL_turned 107 = .ok (.invokevirtual 93, 3) := by decide +kernel
theorem dL_turned_110 : decode cL_turned 110 = .ok (.istore 13, 2) := by decide +kernel
theorem dL_turned_112 : decode cL_turned 112 = .ok (.iload 5, 2) := by decide +kernel
theorem dL_turned_114 : decode cL_turned 114 = .ok (.ifCond .ne 8, 3) := by decide +kernel
theorem dL_turned_117 : decode cL_turned 117 = .ok (.iload 6, 2) := by decide +kernel
theorem dL_turned_119 : decode cL_turned 119 = .ok (.ifCond .eq 13, 3) := by decide +kernel
theorem dL_turned_122 : decode cL_turned 122 = .ok (.iload 7, 2) := by decide +kernel
theorem dL_turned_124 : decode cL_turned 124 = .ok (.ifCond .ne 12, 3) := by decide +kernel
theorem dL_turned_127 : decode cL_turned 127 = .ok (.iload 8, 2) := by decide +kernel
theorem dL_turned_129 : decode cL_turned 129 = .ok (.ifCond .ne 7, 3) := by decide +kernel
theorem dL_turned_132 : decode cL_turned 132 = .ok (.iconst 1, 1) := by decide +kernel
theorem dL_turned_133 : decode cL_turned 133 = .ok (.goto 4, 3) := by decide +kernel
theorem dL_turned_136 : decode cL_turned 136 = .ok (.iconst 0, 1) := by decide +kernel
theorem dL_turned_137 : decode cL_turned 137 = .ok (.istore 14, 2) := by decide +kernel
theorem dL_turned_139 : decode cL_turned 139 = .ok (.aload_n 0, 1) := by decide +kernel
theorem dL_turned_140 : decode cL_turned 140 = .ok (.iload_n 1, 1) := by decide +kernel
theorem dL_turned_141 : decode cL_turned 141 = .ok (.iload_n 2, 1) := by decide +kernel
theorem dL_turned_142 : decode cL_turned 142 = .ok (.iload 5, 2) := by decide +kernel
theorem dL_turned_144 : decode cL_turned 144 = .ok (.ineg, 1) := by decide +kernel
theorem dL_turned_145 : decode cL_turned 145 = .ok (.iload 6, 2) := by decide +kernel
theorem dL_turned_147 : decode cL_turned 147 = .ok (.ineg, 1) := by decide +kernel
theorem dL_turned_148 : decode cL_turned 148 = .ok (.iload 7, 2) := by decide +kernel
theorem dL_turned_150 : decode cL_turned 150 = .ok (.ineg, 1) := by decide +kernel
theorem dL_turned_151 : decode cL_turned 151 = .ok (.iload 8, 2) := by decide +kernel
theorem dL_turned_153 : decode cL_turned 153 = .ok (.ineg, 1) := by decide +kernel
theorem dL_turned_154 : decode cL_turned 154 = .ok (.invokevirtual 86, 3) := by decide +kernel
theorem dL_turned_157 : decode cL_turned 157 = .ok (.lload 9, 2) := by decide +kernel
theorem dL_turned_159 : decode cL_turned 159 = .ok (.lcmp, 1) := by decide +kernel
theorem dL_turned_160 : decode cL_turned 160 = .ok (.ifCond .ne 198, 3) := by decide +kernel
theorem dL_turned_163 : decode cL_turned 163 = .ok (.aload_n 0, 1) := by decide +kernel
theorem dL_turned_164 : decode cL_turned 164 = .ok (.iload_n 1, 1) := by decide +kernel
theorem dL_turned_165 : decode cL_turned 165 = .ok (.iload_n 2, 1) := by decide +kernel
theorem dL_turned_166 : decode cL_turned 166 = .ok (.iload 5, 2) := by decide +kernel
theorem dL_turned_168 : decode cL_turned 168 = .ok (.ineg, 1) := by decide +kernel
theorem dL_turned_169 : decode cL_turned 169 = .ok (.iload 6, 2) := by decide +kernel
theorem dL_turned_171 : decode cL_turned 171 = .ok (.ineg, 1) := by decide +kernel
theorem dL_turned_172 : decode cL_turned 172 = .ok (.iload 7, 2) := by decide +kernel
theorem dL_turned_174 : decode cL_turned 174 = .ok (.ineg, 1) := by decide +kernel
theorem dL_turned_175 : decode cL_turned 175 = .ok (.iload 8, 2) := by decide +kernel
theorem dL_turned_177 : decode cL_turned 177 = .ok (.ineg, 1) := by decide +kernel
theorem dL_turned_178 : decode cL_turned 178 = .ok (.invokevirtual 90, 3) := by decide +kernel
theorem dL_turned_181 : decode cL_turned 181 = .ok (.lload 11, 2) := by decide +kernel
theorem dL_turned_183 : decode cL_turned 183 = .ok (.lcmp, 1) := by decide +kernel
theorem dL_turned_184 : decode cL_turned 184 = .ok (.ifCond .ne 174, 3) := by decide +kernel
theorem dL_turned_187 : decode cL_turned 187 = .ok (.aload_n 0, 1) := by decide +kernel
theorem dL_turned_188 : decode cL_turned 188 = .ok (.iload_n 1, 1) := by decide +kernel
theorem dL_turned_189 : decode cL_turned 189 = .ok (.iload_n 2, 1) := by decide +kernel
theorem dL_turned_190 : decode cL_turned 190 = .ok (.iload 5, 2) := by decide +kernel
theorem dL_turned_192 : decode cL_turned 192 = .ok (.ineg, 1) := by decide +kernel
theorem dL_turned_193 : decode cL_turned 193 = .ok (.iload 6, 2) := by decide +kernel
theorem dL_turned_195 : decode cL_turned 195 = .ok (.ineg, 1) := by decide +kernel
theorem dL_turned_196 : decode cL_turned 196 = .ok (.iload 7, 2) := by decide +kernel
theorem dL_turned_198 : decode cL_turned 198 = .ok (.ineg, 1) := by decide +kernel
theorem dL_turned_199 : decode cL_turned 199 = .ok (.iload 8, 2) := by decide +kernel
theorem dL_turned_201 : decode cL_turned 201 = .ok (.ineg, 1) := by decide +kernel
theorem dL_turned_202 : decode cL_turned 202 = .ok (.invokevirtual 93, 3) := by decide +kernel
theorem dL_turned_205 : decode cL_turned 205 = .ok (.iload 13, 2) := by decide +kernel
theorem dL_turned_207 : decode cL_turned 207 = .ok (.if_icmp .ne 151, 3) := by decide +kernel
theorem dL_turned_210 : decode cL_turned 210 = .ok (.aload_n 0, 1) := by decide +kernel
theorem dL_turned_211 : decode cL_turned 211 = .ok (.iload_n 1, 1) := by decide +kernel
theorem dL_turned_212 : decode cL_turned 212 = .ok (.iload_n 2, 1) := by decide +kernel
theorem dL_turned_213 : decode cL_turned 213 = .ok (.iload 6, 2) := by decide +kernel
theorem dL_turned_215 : decode cL_turned 215 = .ok (.ineg, 1) := by decide +kernel
theorem dL_turned_216 : decode cL_turned 216 = .ok (.iload 5, 2) := by decide +kernel
theorem dL_turned_218 : decode cL_turned 218 = .ok (.iload 8, 2) := by decide +kernel
theorem dL_turned_220 : decode cL_turned 220 = .ok (.ineg, 1) := by decide +kernel
theorem dL_turned_221 : decode cL_turned 221 = .ok (.iload 7, 2) := by decide +kernel
theorem dL_turned_223 : decode cL_turned 223 = .ok (.invokevirtual 86, 3) := by decide +kernel
theorem dL_turned_226 : decode cL_turned 226 = .ok (.lload 9, 2) := by decide +kernel
theorem dL_turned_228 : decode cL_turned 228 = .ok (.lcmp, 1) := by decide +kernel
theorem dL_turned_229 : decode cL_turned 229 = .ok (.ifCond .ne 129, 3) := by decide +kernel
theorem dL_turned_232 : decode cL_turned 232 = .ok (.aload_n 0, 1) := by decide +kernel
theorem dL_turned_233 : decode cL_turned 233 = .ok (.iload_n 1, 1) := by decide +kernel
theorem dL_turned_234 : decode cL_turned 234 = .ok (.iload_n 2, 1) := by decide +kernel
theorem dL_turned_235 : decode cL_turned 235 = .ok (.iload 6, 2) := by decide +kernel
theorem dL_turned_237 : decode cL_turned 237 = .ok (.ineg, 1) := by decide +kernel
theorem dL_turned_238 : decode cL_turned 238 = .ok (.iload 5, 2) := by decide +kernel
theorem dL_turned_240 : decode cL_turned 240 = .ok (.iload 8, 2) := by decide +kernel
theorem dL_turned_242 : decode cL_turned 242 = .ok (.ineg, 1) := by decide +kernel
theorem dL_turned_243 : decode cL_turned 243 = .ok (.iload 7, 2) := by decide +kernel
theorem dL_turned_245 : decode cL_turned 245 = .ok (.invokevirtual 90, 3) := by decide +kernel
theorem dL_turned_248 : decode cL_turned 248 = .ok (.lload 11, 2) := by decide +kernel
theorem dL_turned_250 : decode cL_turned 250 = .ok (.lcmp, 1) := by decide +kernel
theorem dL_turned_251 : decode cL_turned 251 = .ok (.ifCond .ne 107, 3) := by decide +kernel
theorem dL_turned_254 : decode cL_turned 254 = .ok (.aload_n 0, 1) := by decide +kernel
theorem dL_turned_255 : decode cL_turned 255 = .ok (.iload_n 1, 1) := by decide +kernel
theorem dL_turned_256 : decode cL_turned 256 = .ok (.iload_n 2, 1) := by decide +kernel
theorem dL_turned_257 : decode cL_turned 257 = .ok (.iload 6, 2) := by decide +kernel
theorem dL_turned_259 : decode cL_turned 259 = .ok (.ineg, 1) := by decide +kernel
theorem dL_turned_260 : decode cL_turned 260 = .ok (.iload 5, 2) := by decide +kernel
theorem dL_turned_262 : decode cL_turned 262 = .ok (.iload 8, 2) := by decide +kernel
theorem dL_turned_264 : decode cL_turned 264 = .ok (.ineg, 1) := by decide +kernel
theorem dL_turned_265 : decode cL_turned 265 = .ok (.iload 7, 2) := by decide +kernel
theorem dL_turned_267 : decode cL_turned 267 = .ok (.invokevirtual 93, 3) := by decide +kernel
theorem dL_turned_270 : decode cL_turned 270 = .ok (.iload 13, 2) := by decide +kernel
theorem dL_turned_272 : decode cL_turned 272 = .ok (.if_icmp .ne 86, 3) := by decide +kernel
theorem dL_turned_275 : decode cL_turned 275 = .ok (.iload 14, 2) := by decide +kernel
theorem dL_turned_277 : decode cL_turned 277 = .ok (.ifCond .eq 30, 3) := by decide +kernel
theorem dL_turned_280 : decode cL_turned 280 = .ok (.lload 9, 2) := by decide +kernel
theorem dL_turned_282 : decode cL_turned 282 = .ok (.ldc2_w 19, 3) := by decide +kernel
theorem dL_turned_285 : decode cL_turned 285 = .ok (.lcmp, 1) := by decide +kernel
theorem dL_turned_286 : decode cL_turned 286 = .ok (.ifCond .ne 72, 3) := by decide +kernel
theorem dL_turned_289 : decode cL_turned 289 = .ok (.lload 11, 2) := by decide +kernel
theorem dL_turned_291 : decode cL_turned 291 = .ok (.ldc2_w 19, 3) := by decide +kernel
theorem dL_turned_294 : decode cL_turned 294 = .ok (.lcmp, 1) := by decide +kernel
theorem dL_turned_295 : decode cL_turned 295 = .ok (.ifCond .ne 63, 3) := by decide +kernel
theorem dL_turned_298 : decode cL_turned 298 = .ok (.iload 13, 2) := by decide +kernel
theorem dL_turned_300 : decode cL_turned 300 = .ok (.iconst (-1), 1) := by decide +kernel
theorem dL_turned_301 : decode cL_turned 301 = .ok (.if_icmp .ne 57, 3) := by decide +kernel
theorem dL_turned_304 : decode cL_turned 304 = .ok (.goto 34, 3) := by decide +kernel
theorem dL_turned_307 : decode cL_turned 307 = .ok (.lload 9, 2) := by decide +kernel
theorem dL_turned_309 : decode cL_turned 309 = .ok (.lconst 0, 1) := by decide +kernel
theorem dL_turned_310 : decode cL_turned 310 = .ok (.lcmp, 1) := by decide +kernel
theorem dL_turned_311 : decode cL_turned 311 = .ok (.ifCond .ne 7, 3) := by decide +kernel
theorem dL_turned_314 : decode cL_turned 314 = .ok (.iconst 1, 1) := by decide +kernel
theorem dL_turned_315 : decode cL_turned 315 = .ok (.goto 4, 3) := by decide +kernel
theorem dL_turned_318 : decode cL_turned 318 = .ok (.iconst 0, 1) := by decide +kernel
theorem dL_turned_319 : decode cL_turned 319 = .ok (.iload 13, 2) := by decide +kernel
theorem dL_turned_321 : decode cL_turned 321 = .ok (.ifCond .ne 7, 3) := by decide +kernel
theorem dL_turned_324 : decode cL_turned 324 = .ok (.iconst 1, 1) := by decide +kernel
theorem dL_turned_325 : decode cL_turned 325 = .ok (.goto 4, 3) := by decide +kernel
theorem dL_turned_328 : decode cL_turned 328 = .ok (.iconst 0, 1) := by decide +kernel
theorem dL_turned_329 : decode cL_turned 329 = .ok (.if_icmp .ne 29, 3) := by decide +kernel
theorem dL_turned_332 : decode cL_turned 332 = .ok (.iload 13, 2) := by decide +kernel
theorem dL_turned_334 : decode cL_turned 334 = .ok (.iconst 3, 1) := by decide +kernel
theorem dL_turned_335 : decode cL_turned 335 = .ok (.if_icmp .gt 23, 3) := by decide +kernel
theorem dL_turned_338 : decode cL_turned 338 = .ok (.aload_n 0, 1) := by decide +kernel
theorem dL_turned_339 : decode cL_turned 339 = .ok (.iload_n 1, 1) := by decide +kernel
theorem dL_turned_340 : decode cL_turned 340 = .ok (.iload_n 2, 1) := by decide +kernel
theorem dL_turned_341 : decode cL_turned 341 = .ok (.iload_n 3, 1) := by decide +kernel
theorem dL_turned_342 : decode cL_turned 342 = .ok (.iconst 1, 1) := by decide +kernel
theorem dL_turned_343 : decode cL_turned 343 = .ok (.iadd, 1) := by decide +kernel
theorem dL_turned_344 : decode cL_turned 344 = .ok (.iconst 0, 1) := by decide +kernel
theorem dL_turned_345 : decode cL_turned 345 = .ok (.iconst 1, 1) := by decide +kernel
theorem dL_turned_346 : decode cL_turned 346 = .ok (.iconst 1, 1) := by decide +kernel
theorem dL_turned_347 : decode cL_turned 347 = .ok (.invokevirtual 93, 3) := by decide +kernel
theorem dL_turned_350 : decode cL_turned 350 = .ok (.iconst (-1), 1) := by decide +kernel
theorem dL_turned_351 : decode cL_turned 351 = .ok (.if_icmp .ne 7, 3) := by decide +kernel
theorem dL_turned_354 : decode cL_turned 354 = .ok (.iconst 1, 1) := by decide +kernel
theorem dL_turned_355 : decode cL_turned 355 = .ok (.goto 4, 3) := by decide +kernel
theorem dL_turned_358 : decode cL_turned 358 = .ok (.iconst 0, 1) := by decide +kernel
theorem dL_turned_359 : decode cL_turned 359 = .ok (.ireturn, 1) := by decide +kernel
theorem dL_searches_0 : decode cL_searches 0 = .ok (.aload_n 0, 1) := by decide +kernel
theorem dL_searches_1 : decode cL_searches 1 = .ok (.invokevirtual 74, 3) := by decide +kernel
theorem dL_searches_4 : decode cL_searches 4 = .ok (.istore_n 3, 1) := by decide +kernel
theorem dL_searches_5 : decode cL_searches 5 = .ok (.aload_n 0, 1) := by decide +kernel
theorem dL_searches_6 : decode cL_searches 6 = .ok (.iload_n 1, 1) := by decide +kernel
theorem dL_searches_7 : decode cL_searches 7 = .ok (.invokevirtual 15, 3) := by decide +kernel
theorem dL_searches_10 : decode cL_searches 10 = .ok (.istore 4, 2) := by decide +kernel
theorem dL_searches_12 : decode cL_searches 12 = .ok (.iload 4, 2) := by decide +kernel
theorem dL_searches_14 : decode cL_searches 14 = .ok (.bipush 20, 2) := by decide +kernel
theorem dL_searches_16 : decode cL_searches 16 = .ok (.if_icmp .le 15, 3) := by decide +kernel
theorem dL_searches_19 : decode cL_searches 19 = .ok (.iload 4, 2) := by decide +kernel
theorem dL_searches_21 : decode cL_searches 21 = .ok (.iload_n 2, 1) := by decide +kernel
theorem dL_searches_22 : decode cL_searches 22 = .ok (.bipush 20, 2) := by decide +kernel
theorem dL_searches_24 : decode cL_searches 24 = .ok (.invokestatic 83, 3) := by decide +kernel
theorem dL_searches_27 : decode cL_searches 27 = .ok (.isub, 1) := by decide +kernel
theorem dL_searches_28 : decode cL_searches 28 = .ok (.goto 4, 3) := by decide +kernel
theorem dL_searches_31 : decode cL_searches 31 = .ok (.iconst 1, 1) := by decide +kernel
theorem dL_searches_32 : decode cL_searches 32 = .ok (.istore 5, 2) := by decide +kernel
theorem dL_searches_34 : decode cL_searches 34 = .ok (.iload 4, 2) := by decide +kernel
theorem dL_searches_36 : decode cL_searches 36 = .ok (.iload_n 2, 1) := by decide +kernel
theorem dL_searches_37 : decode cL_searches 37 = .ok (.iconst 5, 1) := by decide +kernel
theorem dL_searches_38 : decode cL_searches 38 = .ok (.ishr, 1) := by decide +kernel
theorem dL_searches_39 : decode cL_searches 39 = .ok (.bipush 20, 2) := by decide +kernel
theorem dL_searches_41 : decode cL_searches 41 = .ok (.invokestatic 83, 3) := by decide +kernel
theorem dL_searches_44 : decode cL_searches 44 = .ok (.iadd, 1) := by decide +kernel
theorem dL_searches_45 : decode cL_searches 45 = .ok (.sipush 800, 3) := by decide +kernel
theorem dL_searches_48 : decode cL_searches 48 = .ok (.if_icmp .le 9, 3) := by decide +kernel
theorem dL_searches_51 : decode cL_searches 51 = .ok (.sipush 800, 3) := by decide +kernel
theorem dL_searches_54 : decode cL_searches 54 = .ok (.goto 14, 3) := by decide +kernel
theorem dL_searches_57 : decode cL_searches 57 = .ok (.iload 4, 2) := by decide +kernel
theorem dL_searches_59 : decode cL_searches 59 = .ok (.iload_n 2, 1) := by decide +kernel
theorem dL_searches_60 : decode cL_searches 60 = .ok (.iconst 5, 1) := by decide +kernel
theorem dL_searches_61 : decode cL_searches 61 = .ok (.ishr, 1) := by decide +kernel
theorem dL_searches_62 : decode cL_searches 62 = .ok (.bipush 20, 2) := by decide +kernel
theorem dL_searches_64 : decode cL_searches 64 = .ok (.invokestatic 83, 3) := by decide +kernel
theorem dL_searches_67 : decode cL_searches 67 = .ok (.iadd, 1) := by decide +kernel
theorem dL_searches_68 : decode cL_searches 68 = .ok (.istore 6, 2) := by decide +kernel
theorem dL_searches_70 : decode cL_searches 70 = .ok (.aload_n 0, 1) := by decide +kernel
theorem dL_searches_71 : decode cL_searches 71 = .ok (.iload_n 1, 1) := by decide +kernel
theorem dL_searches_72 : decode cL_searches 72 = .ok (.iload 5, 2) := by decide +kernel
theorem dL_searches_74 : decode cL_searches 74 = .ok (.iload 6, 2) := by decide +kernel
theorem dL_searches_76 : decode cL_searches 76 = .ok (.invokevirtual 97, 3) := by decide +kernel
theorem dL_searches_79 : decode cL_searches 79 = .ok (.istore 7, 2) := by decide +kernel
theorem dL_searches_81 : decode cL_searches 81 = .ok (.aload_n 0, 1) := by decide +kernel
theorem dL_searches_82 : decode cL_searches 82 = .ok (.iload_n 1, 1) := by decide +kernel
theorem dL_searches_83 : decode cL_searches 83 = .ok (.iload 5, 2) := by decide +kernel
theorem dL_searches_85 : decode cL_searches 85 = .ok (.iload 6, 2) := by decide +kernel
theorem dL_searches_87 : decode cL_searches 87 = .ok (.invokevirtual 100, 3) := by decide +kernel
theorem dL_searches_90 : decode cL_searches 90 = .ok (.istore 8, 2) := by decide +kernel
theorem dL_searches_92 : decode cL_searches 92 = .ok (.iload 7, 2) := by decide +kernel
theorem dL_searches_94 : decode cL_searches 94 = .ok (.bipush 100, 2) := by decide +kernel
theorem dL_searches_96 : decode cL_searches 96 = .ok (.idiv, 1) := by decide +kernel
theorem dL_searches_97 : decode cL_searches 97 = .ok (.istore 9, 2) := by decide +kernel
theorem dL_searches_99 : decode cL_searches 99 = .ok (.iload 7, 2) := by decide +kernel
theorem dL_searches_101 : decode cL_searches 101 = .ok (.bipush 100, 2) := by decide +kernel
theorem dL_searches_103 : decode cL_searches 103 = .ok (.irem, 1) := by decide +kernel
theorem dL_searches_104 : decode cL_searches 104 = .ok (.istore 10, 2) := by decide +kernel
theorem dL_searches_106 : decode cL_searches 106 = .ok (.iload 7, 2) := by decide +kernel
theorem dL_searches_108 : decode cL_searches 108 = .ok (.ifCond .le 138, 3) := by decide +kernel
theorem dL_searches_111 : decode cL_searches 111 = .ok (.iload 8, 2) := by decide +kernel
theorem dL_searches_113 : decode cL_searches 113 = .ok (.iload_n 3, 1) := by decide +kernel
theorem dL_searches_114 : decode cL_searches 114 = .ok (.if_icmp .gt 132, 3) := by decide +kernel
theorem dL_searches_117 : decode cL_searches 117 = .ok (.iload 9, 2) := by decide +kernel
theorem dL_searches_119 : decode cL_searches 119 = .ok (.iload 9, 2) := by decide +kernel
theorem dL_searches_121 : decode cL_searches 121 = .ok (.imul, 1) := by decide +kernel
theorem dL_searches_122 : decode cL_searches 122 = .ok (.iload 10, 2) := by decide +kernel
theorem dL_searches_124 : decode cL_searches 124 = .ok (.iload 10, 2) := by decide +kernel
theorem dL_searches_126 : decode cL_searches 126 = .ok (.imul, 1) := by decide +kernel
theorem dL_searches_127 : decode cL_searches 127 = .ok (.iadd, 1) := by decide +kernel
theorem dL_searches_128 : decode cL_searches 128 = .ok (.iload 5, 2) := by decide +kernel
theorem dL_searches_130 : decode cL_searches 130 = .ok (.if_icmp .lt 116, 3) := by decide +kernel
theorem dL_searches_133 : decode cL_searches 133 = .ok (.iload 9, 2) := by decide +kernel
theorem dL_searches_135 : decode cL_searches 135 = .ok (.iload 9, 2) := by decide +kernel
theorem dL_searches_137 : decode cL_searches 137 = .ok (.imul, 1) := by decide +kernel
theorem dL_searches_138 : decode cL_searches 138 = .ok (.iload 10, 2) := by decide +kernel
theorem dL_searches_140 : decode cL_searches 140 = .ok (.iload 10, 2) := by decide +kernel
theorem dL_searches_142 : decode cL_searches 142 = .ok (.imul, 1) := by decide +kernel
theorem dL_searches_143 : decode cL_searches 143 = .ok (.iadd, 1) := by decide +kernel
theorem dL_searches_144 : decode cL_searches 144 = .ok (.iload 6, 2) := by decide +kernel
theorem dL_searches_146 : decode cL_searches 146 = .ok (.if_icmp .gt 100, 3) := by decide +kernel
theorem dL_searches_149 : decode cL_searches 149 = .ok (.aload_n 0, 1) := by decide +kernel
theorem dL_searches_150 : decode cL_searches 150 = .ok (.iload_n 1, 1) := by decide +kernel
theorem dL_searches_151 : decode cL_searches 151 = .ok (.iload 4, 2) := by decide +kernel
theorem dL_searches_153 : decode cL_searches 153 = .ok (.iload 4, 2) := by decide +kernel
theorem dL_searches_155 : decode cL_searches 155 = .ok (.invokevirtual 97, 3) := by decide +kernel
theorem dL_searches_158 : decode cL_searches 158 = .ok (.ifCond .le 88, 3) := by decide +kernel
theorem dL_searches_161 : decode cL_searches 161 = .ok (.aload_n 0, 1) := by decide +kernel
theorem dL_searches_162 : decode cL_searches 162 = .ok (.invokevirtual 74, 3) := by decide +kernel
theorem dL_searches_165 : decode cL_searches 165 = .ok (.iload_n 3, 1) := by decide +kernel
theorem dL_searches_166 : decode cL_searches 166 = .ok (.if_icmp .ne 80, 3) := by decide +kernel
theorem dL_searches_169 : decode cL_searches 169 = .ok (.aload_n 0, 1) := by decide +kernel
theorem dL_searches_170 : decode cL_searches 170 = .ok (.iload_n 1, 1) := by decide +kernel
theorem dL_searches_171 : decode cL_searches 171 = .ok (.invokevirtual 15, 3) := by decide +kernel
theorem dL_searches_174 : decode cL_searches 174 = .ok (.iload 4, 2) := by decide +kernel
theorem dL_searches_176 : decode cL_searches 176 = .ok (.if_icmp .ne 70, 3) := by decide +kernel
theorem dL_searches_179 : decode cL_searches 179 = .ok (.aload_n 0, 1) := by decide +kernel
theorem dL_searches_180 : decode cL_searches 180 = .ok (.iload_n 1, 1) := by decide +kernel
theorem dL_searches_181 : decode cL_searches 181 = .ok (.iload 6, 2) := by decide +kernel
theorem dL_searches_183 : decode cL_searches 183 = .ok (.iload 5, 2) := by decide +kernel
theorem dL_searches_185 : decode cL_searches 185 = .ok (.iconst 1, 1) := by decide +kernel
theorem dL_searches_186 : decode cL_searches 186 = .ok (.isub, 1) := by decide +kernel
theorem dL_searches_187 : decode cL_searches 187 = .ok (.invokevirtual 97, 3) := by decide +kernel
theorem dL_searches_190 : decode cL_searches 190 = .ok (.iconst (-1), 1) := by decide +kernel
theorem dL_searches_191 : decode cL_searches 191 = .ok (.if_icmp .ne 55, 3) := by decide +kernel
theorem dL_searches_194 : decode cL_searches 194 = .ok (.aload_n 0, 1) := by decide +kernel
theorem dL_searches_195 : decode cL_searches 195 = .ok (.iload_n 1, 1) := by decide +kernel
theorem dL_searches_196 : decode cL_searches 196 = .ok (.iload 9, 2) := by decide +kernel
theorem dL_searches_198 : decode cL_searches 198 = .ok (.iload 10, 2) := by decide +kernel
theorem dL_searches_200 : decode cL_searches 200 = .ok (.invokevirtual 103, 3) := by decide +kernel
theorem dL_searches_203 : decode cL_searches 203 = .ok (.iload 4, 2) := by decide +kernel
theorem dL_searches_205 : decode cL_searches 205 = .ok (.if_icmp .ne 41, 3) := by decide +kernel
theorem dL_searches_208 : decode cL_searches 208 = .ok (.aload_n 0, 1) := by decide +kernel
theorem dL_searches_209 : decode cL_searches 209 = .ok (.invokevirtual 74, 3) := by decide +kernel
theorem dL_searches_212 : decode cL_searches 212 = .ok (.iload 8, 2) := by decide +kernel
theorem dL_searches_214 : decode cL_searches 214 = .ok (.if_icmp .ne 32, 3) := by decide +kernel
theorem dL_searches_217 : decode cL_searches 217 = .ok (.aload_n 0, 1) := by decide +kernel
theorem dL_searches_218 : decode cL_searches 218 = .ok (.invokevirtual 106, 3) := by decide +kernel
theorem dL_searches_221 : decode cL_searches 221 = .ok (.ifCond .lt 25, 3) := by decide +kernel
theorem dL_searches_224 : decode cL_searches 224 = .ok (.aload_n 0, 1) := by decide +kernel
theorem dL_searches_225 : decode cL_searches 225 = .ok (.invokevirtual 74, 3) := by decide +kernel
theorem dL_searches_228 : decode cL_searches 228 = .ok (.iload_n 3, 1) := by decide +kernel
theorem dL_searches_229 : decode cL_searches 229 = .ok (.if_icmp .ne 17, 3) := by decide +kernel
theorem dL_searches_232 : decode cL_searches 232 = .ok (.aload_n 0, 1) := by decide +kernel
theorem dL_searches_233 : decode cL_searches 233 = .ok (.iload_n 1, 1) := by decide +kernel
theorem dL_searches_234 : decode cL_searches 234 = .ok (.invokevirtual 15, 3) := by decide +kernel
theorem dL_searches_237 : decode cL_searches 237 = .ok (.iload 4, 2) := by decide +kernel
theorem dL_searches_239 : decode cL_searches 239 = .ok (.if_icmp .ne 7, 3) := by decide +kernel
theorem dL_searches_242 : decode cL_searches 242 = .ok (.iconst 1, 1) := by decide +kernel
theorem dL_searches_243 : decode cL_searches 243 = .ok (.goto 4, 3) := by decide +kernel
theorem dL_searches_246 : decode cL_searches 246 = .ok (.iconst 0, 1) := by decide +kernel
theorem dL_searches_247 : decode cL_searches 247 = .ok (.ireturn, 1) := by decide +kernel
theorem dL_acts_0 : decode cL_acts 0 = .ok (.iload_n 1, 1) := by decide +kernel
theorem dL_acts_1 : decode cL_acts 1 = .ok (.bipush 8, 2) := by decide +kernel
theorem dL_acts_3 : decode cL_acts 3 = .ok (.invokestatic 83, 3) := by decide +kernel
theorem dL_acts_6 : decode cL_acts 6 = .ok (.istore_n 3, 1) := by decide +kernel
theorem dL_acts_7 : decode cL_acts 7 = .ok (.aload_n 0, 1) := by decide +kernel
theorem dL_acts_8 : decode cL_acts 8 = .ok (.invokevirtual 45, 3) := by decide +kernel
theorem dL_acts_11 : decode cL_acts 11 = .ok (.istore 4, 2) := by decide +kernel
theorem dL_acts_13 : decode cL_acts 13 = .ok (.iconst 1, 1) := by decide +kernel
theorem dL_acts_14 : decode cL_acts 14 = .ok (.iload_n 2, 1) := by decide +kernel
theorem dL_acts_15 : decode cL_acts 15 = .ok (.bipush 20, 2) := by decide +kernel
theorem dL_acts_17 : decode cL_acts 17 = .ok (.invokestatic 83, 3) := by decide +kernel
theorem dL_acts_20 : decode cL_acts 20 = .ok (.iadd, 1) := by decide +kernel
theorem dL_acts_21 : decode cL_acts 21 = .ok (.istore 5, 2) := by decide +kernel
theorem dL_acts_23 : decode cL_acts 23 = .ok (.iload_n 2, 1) := by decide +kernel
theorem dL_acts_24 : decode cL_acts 24 = .ok (.iconst 5, 1) := by decide +kernel
theorem dL_acts_25 : decode cL_acts 25 = .ok (.ishr, 1) := by decide +kernel
theorem dL_acts_26 : decode cL_acts 26 = .ok (.bipush 21, 2) := by decide +kernel
theorem dL_acts_28 : decode cL_acts 28 = .ok (.invokestatic 83, 3) := by decide +kernel
theorem dL_acts_31 : decode cL_acts 31 = .ok (.istore 6, 2) := by decide +kernel
theorem dL_acts_33 : decode cL_acts 33 = .ok (.iload_n 1, 1) := by decide +kernel
theorem dL_acts_34 : decode cL_acts 34 = .ok (.iconst 4, 1) := by decide +kernel
theorem dL_acts_35 : decode cL_acts 35 = .ok (.ishr, 1) := by decide +kernel
theorem dL_acts_36 : decode cL_acts 36 = .ok (.iconst 4, 1) := by decide +kernel
theorem dL_acts_37 : decode cL_acts 37 = .ok (.invokestatic 83, 3) := by decide +kernel
theorem dL_acts_40 : decode cL_acts 40 = .ok (.istore 7, 2) := by decide +kernel
theorem dL_acts_42 : decode cL_acts 42 = .ok (.aload_n 0, 1) := by decide +kernel
theorem dL_acts_43 : decode cL_acts 43 = .ok (.invokevirtual 109, 3) := by decide +kernel
theorem dL_acts_46 : decode cL_acts 46 = .ok (.istore 8, 2) := by decide +kernel
theorem dL_acts_48 : decode cL_acts 48 = .ok (.iload 8, 2) := by decide +kernel
theorem dL_acts_50 : decode cL_acts 50 = .ok (.iconst 5, 1) := by decide +kernel
theorem dL_acts_51 : decode cL_acts 51 = .ok (.if_icmp .ge 10, 3) := by decide +kernel
theorem dL_acts_54 : decode cL_acts 54 = .ok (.iload 8, 2) := by decide +kernel
theorem dL_acts_56 : decode cL_acts 56 = .ok (.iconst 1, 1) := by decide +kernel
theorem dL_acts_57 : decode cL_acts 57 = .ok (.iadd, 1) := by decide +kernel
theorem dL_acts_58 : decode cL_acts 58 = .ok (.goto 4, 3) := by decide +kernel
theorem dL_acts_61 : decode cL_acts 61 = .ok (.iconst 5, 1) := by decide +kernel
theorem dL_acts_62 : decode cL_acts 62 = .ok (.istore 9, 2) := by decide +kernel
theorem dL_acts_64 : decode cL_acts 64 = .ok (.iload_n 3, 1) := by decide +kernel
theorem dL_acts_65 : decode cL_acts 65 = .ok (.iconst 3, 1) := by decide +kernel
theorem dL_acts_66 : decode cL_acts 66 = .ok (.if_icmp .ge 98, 3) := by decide +kernel
theorem dL_acts_69 : decode cL_acts 69 = .ok (.aload_n 0, 1) := by decide +kernel
theorem dL_acts_70 : decode cL_acts 70 = .ok (.iload 5, 2) := by decide +kernel
theorem dL_acts_72 : decode cL_acts 72 = .ok (.iload 6, 2) := by decide +kernel
theorem dL_acts_74 : decode cL_acts 74 = .ok (.invokevirtual 112, 3) := by decide +kernel
theorem dL_acts_77 : decode cL_acts 77 = .ok (.istore 10, 2) := by decide +kernel
theorem dL_acts_79 : decode cL_acts 79 = .ok (.iload 4, 2) := by decide +kernel
theorem dL_acts_81 : decode cL_acts 81 = .ok (.iconst 4, 1) := by decide +kernel
theorem dL_acts_82 : decode cL_acts 82 = .ok (.if_icmp .ne 27, 3) := by decide +kernel
theorem dL_acts_85 : decode cL_acts 85 = .ok (.iload 10, 2) := by decide +kernel
theorem dL_acts_87 : decode cL_acts 87 = .ok (.bipush (-3), 2) := by decide +kernel
theorem dL_acts_89 : decode cL_acts 89 = .ok (.if_icmp .ne 16, 3) := by decide +kernel
theorem dL_acts_92 : decode cL_acts 92 = .ok (.aload_n 0, 1) := by decide +kernel
theorem dL_acts_93 : decode cL_acts 93 = .ok (.invokevirtual 109, 3) := by decide +kernel
theorem dL_acts_96 : decode cL_acts 96 = .ok (.iload 8, 2) := by decide +kernel
theorem dL_acts_98 : decode cL_acts 98 = .ok (.if_icmp .ne 7, 3) := by decide +kernel
theorem dL_acts_101 : decode cL_acts 101 = .ok (.iconst 1, 1) := by decide +kernel
theorem dL_acts_102 : decode cL_acts 102 = .ok (.goto 61, 3) := by decide +kernel
theorem dL_acts_105 : decode cL_acts 105 = .ok (.iconst 0, 1) := by decide +kernel
theorem dL_acts_106 : decode cL_acts 106 = .ok (.goto 57, 3) := by decide +kernel
theorem dL_acts_109 : decode cL_acts 109 = .ok (.iload 10, 2) := by decide +kernel
theorem dL_acts_111 : decode cL_acts 111 = .ok (.iload 4, 2) := by decide +kernel
theorem dL_acts_113 : decode cL_acts 113 = .ok (.if_icmp .ne 49, 3) := by decide +kernel
theorem dL_acts_116 : decode cL_acts 116 = .ok (.aload_n 0, 1) := by decide +kernel
theorem dL_acts_117 : decode cL_acts 117 = .ok (.iload 4, 2) := by decide +kernel
theorem dL_acts_119 : decode cL_acts 119 = .ok (.invokevirtual 62, 3) := by decide +kernel
theorem dL_acts_122 : decode cL_acts 122 = .ok (.iload 5, 2) := by decide +kernel
theorem dL_acts_124 : decode cL_acts 124 = .ok (.if_icmp .ne 38, 3) := by decide +kernel
theorem dL_acts_127 : decode cL_acts 127 = .ok (.aload_n 0, 1) := by decide +kernel
theorem dL_acts_128 : decode cL_acts 128 = .ok (.iload 4, 2) := by decide +kernel
theorem dL_acts_130 : decode cL_acts 130 = .ok (.invokevirtual 65, 3) := by decide +kernel
theorem dL_acts_133 : decode cL_acts 133 = .ok (.iload 6, 2) := by decide +kernel
theorem dL_acts_135 : decode cL_acts 135 = .ok (.if_icmp .ne 27, 3) := by decide +kernel
theorem dL_acts_138 : decode cL_acts 138 = .ok (.aload_n 0, 1) := by decide +kernel
theorem dL_acts_139 : decode cL_acts 139 = .ok (.invokevirtual 45, 3) := by decide +kernel
theorem dL_acts_142 : decode cL_acts 142 = .ok (.iload 4, 2) := by decide +kernel
theorem dL_acts_144 : decode cL_acts 144 = .ok (.iconst 1, 1) := by decide +kernel
theorem dL_acts_145 : decode cL_acts 145 = .ok (.iadd, 1) := by decide +kernel
theorem dL_acts_146 : decode cL_acts 146 = .ok (.if_icmp .ne 16, 3) := by decide +kernel
theorem dL_acts_149 : decode cL_acts 149 = .ok (.aload_n 0, 1) := by decide +kernel
theorem dL_acts_150 : decode cL_acts 150 = .ok (.invokevirtual 109, 3) := by decide +kernel
theorem dL_acts_153 : decode cL_acts 153 = .ok (.iload 9, 2) := by decide +kernel
theorem dL_acts_155 : decode cL_acts 155 = .ok (.if_icmp .ne 7, 3) := by decide +kernel
theorem dL_acts_158 : decode cL_acts 158 = .ok (.iconst 1, 1) := by decide +kernel
theorem dL_acts_159 : decode cL_acts 159 = .ok (.goto 4, 3) := by decide +kernel
theorem dL_acts_162 : decode cL_acts 162 = .ok (.iconst 0, 1) := by decide +kernel
theorem dL_acts_163 : decode cL_acts 163 = .ok (.ireturn, 1) := by decide +kernel
theorem dL_acts_164 : decode cL_acts 164 = .ok (.iload_n 3, 1) := by decide +kernel
theorem dL_acts_165 : decode cL_acts 165 = .ok (.iconst 3, 1) := by decide +kernel
theorem dL_acts_166 : decode cL_acts 166 = .ok (.if_icmp .ne 95, 3) := by decide +kernel
theorem dL_acts_169 : decode cL_acts 169 = .ok (.aload_n 0, 1) := by decide +kernel
theorem dL_acts_170 : decode cL_acts 170 = .ok (.iload 7, 2) := by decide +kernel
theorem dL_acts_172 : decode cL_acts 172 = .ok (.invokevirtual 15, 3) := by decide +kernel
theorem dL_acts_175 : decode cL_acts 175 = .ok (.istore 10, 2) := by decide +kernel
theorem dL_acts_177 : decode cL_acts 177 = .ok (.aload_n 0, 1) := by decide +kernel
theorem dL_acts_178 : decode cL_acts 178 = .ok (.iload 7, 2) := by decide +kernel
theorem dL_acts_180 : decode cL_acts 180 = .ok (.iload 5, 2) := by decide +kernel
theorem dL_acts_182 : decode cL_acts 182 = .ok (.iload 6, 2) := by decide +kernel
theorem dL_acts_184 : decode cL_acts 184 = .ok (.invokevirtual 103, 3) := by decide +kernel
theorem dL_acts_187 : decode cL_acts 187 = .ok (.istore 11, 2) := by decide +kernel
theorem dL_acts_189 : decode cL_acts 189 = .ok (.iload 7, 2) := by decide +kernel
theorem dL_acts_191 : decode cL_acts 191 = .ok (.iload 4, 2) := by decide +kernel
theorem dL_acts_193 : decode cL_acts 193 = .ok (.if_icmp .ge 47, 3) := by decide +kernel
theorem dL_acts_196 : decode cL_acts 196 = .ok (.iload 11, 2) := by decide +kernel
theorem dL_acts_198 : decode cL_acts 198 = .ok (.iload 10, 2) := by decide +kernel
theorem dL_acts_200 : decode cL_acts 200 = .ok (.if_icmp .ne 36, 3) := by decide +kernel
theorem dL_acts_203 : decode cL_acts 203 = .ok (.aload_n 0, 1) := by decide +kernel
theorem dL_acts_204 : decode cL_acts 204 = .ok (.iload 7, 2) := by decide +kernel
theorem dL_acts_206 : decode cL_acts 206 = .ok (.invokevirtual 15, 3) := by decide +kernel
theorem dL_acts_209 : decode cL_acts 209 = .ok (.iload 5, 2) := by decide +kernel
theorem dL_acts_211 : decode cL_acts 211 = .ok (.iload 5, 2) := by decide +kernel
theorem dL_acts_213 : decode cL_acts 213 = .ok (.imul, 1) := by decide +kernel
theorem dL_acts_214 : decode cL_acts 214 = .ok (.iload 6, 2) := by decide +kernel
theorem dL_acts_216 : decode cL_acts 216 = .ok (.iload 6, 2) := by decide +kernel
theorem dL_acts_218 : decode cL_acts 218 = .ok (.imul, 1) := by decide +kernel
theorem dL_acts_219 : decode cL_acts 219 = .ok (.iadd, 1) := by decide +kernel
theorem dL_acts_220 : decode cL_acts 220 = .ok (.if_icmp .ne 16, 3) := by decide +kernel
theorem dL_acts_223 : decode cL_acts 223 = .ok (.aload_n 0, 1) := by decide +kernel
theorem dL_acts_224 : decode cL_acts 224 = .ok (.invokevirtual 109, 3) := by decide +kernel
theorem dL_acts_227 : decode cL_acts 227 = .ok (.iload 9, 2) := by decide +kernel
theorem dL_acts_229 : decode cL_acts 229 = .ok (.if_icmp .ne 7, 3) := by decide +kernel
theorem dL_acts_232 : decode cL_acts 232 = .ok (.iconst 1, 1) := by decide +kernel
theorem dL_acts_233 : decode cL_acts 233 = .ok (.goto 27, 3) := by decide +kernel
theorem dL_acts_236 : decode cL_acts 236 = .ok (.iconst 0, 1) := by decide +kernel
theorem dL_acts_237 : decode cL_acts 237 = .ok (.goto 23, 3) := by decide +kernel
theorem dL_acts_240 : decode cL_acts 240 = .ok (.iload 11, 2) := by decide +kernel
theorem dL_acts_242 : decode cL_acts 242 = .ok (.iconst (-1), 1) := by decide +kernel
theorem dL_acts_243 : decode cL_acts 243 = .ok (.if_icmp .ne 16, 3) := by decide +kernel
theorem dL_acts_246 : decode cL_acts 246 = .ok (.aload_n 0, 1) := by decide +kernel
theorem dL_acts_247 : decode cL_acts 247 = .ok (.invokevirtual 109, 3) := by decide +kernel
theorem dL_acts_250 : decode cL_acts 250 = .ok (.iload 8, 2) := by decide +kernel
theorem dL_acts_252 : decode cL_acts 252 = .ok (.if_icmp .ne 7, 3) := by decide +kernel
theorem dL_acts_255 : decode cL_acts 255 = .ok (.iconst 1, 1) := by decide +kernel
theorem dL_acts_256 : decode cL_acts 256 = .ok (.goto 4, 3) := by decide +kernel
theorem dL_acts_259 : decode cL_acts 259 = .ok (.iconst 0, 1) := by decide +kernel
theorem dL_acts_260 : decode cL_acts 260 = .ok (.ireturn, 1) := by decide +kernel
theorem dL_acts_261 : decode cL_acts 261 = .ok (.iload_n 3, 1) := by decide +kernel
theorem dL_acts_262 : decode cL_acts 262 = .ok (.iconst 4, 1) := by decide +kernel
theorem dL_acts_263 : decode cL_acts 263 = .ok (.if_icmp .ne 79, 3) := by decide +kernel
theorem dL_acts_266 : decode cL_acts 266 = .ok (.aload_n 0, 1) := by decide +kernel
theorem dL_acts_267 : decode cL_acts 267 = .ok (.iload 7, 2) := by decide +kernel
theorem dL_acts_269 : decode cL_acts 269 = .ok (.iconst 1, 1) := by decide +kernel
theorem dL_acts_270 : decode cL_acts 270 = .ok (.iadd, 1) := by decide +kernel
theorem dL_acts_271 : decode cL_acts 271 = .ok (.invokevirtual 15, 3) := by decide +kernel
theorem dL_acts_274 : decode cL_acts 274 = .ok (.istore 10, 2) := by decide +kernel
theorem dL_acts_276 : decode cL_acts 276 = .ok (.aload_n 0, 1) := by decide +kernel
theorem dL_acts_277 : decode cL_acts 277 = .ok (.iload 7, 2) := by decide +kernel
theorem dL_acts_279 : decode cL_acts 279 = .ok (.invokevirtual 115, 3) := by decide +kernel
theorem dL_acts_282 : decode cL_acts 282 = .ok (.istore 11, 2) := by decide +kernel
theorem dL_acts_284 : decode cL_acts 284 = .ok (.iload 7, 2) := by decide +kernel
theorem dL_acts_286 : decode cL_acts 286 = .ok (.iload 4, 2) := by decide +kernel
theorem dL_acts_288 : decode cL_acts 288 = .ok (.if_icmp .ge 42, 3) := by decide +kernel
theorem dL_acts_291 : decode cL_acts 291 = .ok (.iload 11, 2) := by decide +kernel
theorem dL_acts_293 : decode cL_acts 293 = .ok (.iload 4, 2) := by decide +kernel
theorem dL_acts_295 : decode cL_acts 295 = .ok (.iconst 1, 1) := by decide +kernel
theorem dL_acts_296 : decode cL_acts 296 = .ok (.isub, 1) := by decide +kernel
theorem dL_acts_297 : decode cL_acts 297 = .ok (.if_icmp .ne 29, 3) := by decide +kernel
theorem dL_acts_300 : decode cL_acts 300 = .ok (.aload_n 0, 1) := by decide +kernel
theorem dL_acts_301 : decode cL_acts 301 = .ok (.invokevirtual 45, 3) := by decide +kernel
theorem dL_acts_304 : decode cL_acts 304 = .ok (.iload 4, 2) := by decide +kernel
theorem dL_acts_306 : decode cL_acts 306 = .ok (.iconst 1, 1) := by decide +kernel
theorem dL_acts_307 : decode cL_acts 307 = .ok (.isub, 1) := by decide +kernel
theorem dL_acts_308 : decode cL_acts 308 = .ok (.if_icmp .ne 18, 3) := by decide +kernel
theorem dL_acts_311 : decode cL_acts 311 = .ok (.aload_n 0, 1) := by decide +kernel
theorem dL_acts_312 : decode cL_acts 312 = .ok (.iload 7, 2) := by decide +kernel
theorem dL_acts_314 : decode cL_acts 314 = .ok (.invokevirtual 15, 3) := by decide +kernel
theorem dL_acts_317 : decode cL_acts 317 = .ok (.iload 10, 2) := by decide +kernel
theorem dL_acts_319 : decode cL_acts 319 = .ok (.if_icmp .ne 7, 3) := by decide +kernel
theorem dL_acts_322 : decode cL_acts 322 = .ok (.iconst 1, 1) := by decide +kernel
theorem dL_acts_323 : decode cL_acts 323 = .ok (.goto 18, 3) := by decide +kernel
theorem dL_acts_326 : decode cL_acts 326 = .ok (.iconst 0, 1) := by decide +kernel
theorem dL_acts_327 : decode cL_acts 327 = .ok (.goto 14, 3) := by decide +kernel
theorem dL_acts_330 : decode cL_acts 330 = .ok (.iload 11, 2) := by decide +kernel
theorem dL_acts_332 : decode cL_acts 332 = .ok (.iconst (-1), 1) := by decide +kernel
theorem dL_acts_333 : decode cL_acts 333 = .ok (.if_icmp .ne 7, 3) := by decide +kernel
theorem dL_acts_336 : decode cL_acts 336 = .ok (.iconst 1, 1) := by decide +kernel
theorem dL_acts_337 : decode cL_acts 337 = .ok (.goto 4, 3) := by decide +kernel
theorem dL_acts_340 : decode cL_acts 340 = .ok (.iconst 0, 1) := by decide +kernel
theorem dL_acts_341 : decode cL_acts 341 = .ok (.ireturn, 1) := by decide +kernel
theorem dL_acts_342 : decode cL_acts 342 = .ok (.iload_n 3, 1) := by decide +kernel
theorem dL_acts_343 : decode cL_acts 343 = .ok (.iconst 5, 1) := by decide +kernel
theorem dL_acts_344 : decode cL_acts 344 = .ok (.if_icmp .ne 108, 3) := by decide +kernel
theorem dL_acts_347 : decode cL_acts 347 = .ok (.iload_n 2, 1) := by decide +kernel
theorem dL_acts_348 : decode cL_acts 348 = .ok (.iconst 2, 1) := by decide +kernel
theorem dL_acts_349 : decode cL_acts 349 = .ok (.invokestatic 83, 3) := by decide +kernel
theorem dL_acts_352 : decode cL_acts 352 = .ok (.istore 10, 2) := by decide +kernel
theorem dL_acts_354 : decode cL_acts 354 = .ok (.aload_n 0, 1) := by decide +kernel
theorem dL_acts_355 : decode cL_acts 355 = .ok (.invokevirtual 74, 3) := by decide +kernel
theorem dL_acts_358 : decode cL_acts 358 = .ok (.istore 11, 2) := by decide +kernel
theorem dL_acts_360 : decode cL_acts 360 = .ok (.aload_n 0, 1) := by decide +kernel
theorem dL_acts_361 : decode cL_acts 361 = .ok (.invokevirtual 80, 3) := by decide +kernel
theorem dL_acts_364 : decode cL_acts 364 = .ok (.i2l, 1) := by decide +kernel
theorem dL_acts_365 : decode cL_acts 365 = .ok (.lstore 12, 2) := by decide +kernel
theorem dL_acts_367 : decode cL_acts 367 = .ok (.aload_n 0, 1) := by decide +kernel
theorem dL_acts_368 : decode cL_acts 368 = .ok (.iload 10, 2) := by decide +kernel
theorem dL_acts_370 : decode cL_acts 370 = .ok (.invokevirtual 118, 3) := by decide +kernel
theorem dL_acts_373 : decode cL_acts 373 = .ok (.iload 4, 2) := by decide +kernel
theorem dL_acts_375 : decode cL_acts 375 = .ok (.if_icmp .ne 75, 3) := by decide +kernel
theorem dL_acts_378 : decode cL_acts 378 = .ok (.aload_n 0, 1) := by decide +kernel
theorem dL_acts_379 : decode cL_acts 379 = .ok (.invokevirtual 109, 3) := by decide +kernel
theorem dL_acts_382 : decode cL_acts 382 = .ok (.iload 8, 2) := by decide +kernel
theorem dL_acts_384 : decode cL_acts 384 = .ok (.if_icmp .ne 66, 3) := by decide +kernel
theorem dL_acts_387 : decode cL_acts 387 = .ok (.aload_n 0, 1) := by decide +kernel
theorem dL_acts_388 : decode cL_acts 388 = .ok (.iconst 1, 1) := by decide +kernel
theorem dL_acts_389 : decode cL_acts 389 = .ok (.iload_n 2, 1) := by decide +kernel
theorem dL_acts_390 : decode cL_acts 390 = .ok (.bipush 40, 2) := by decide +kernel
theorem dL_acts_392 : decode cL_acts 392 = .ok (.invokestatic 83, 3) := by decide +kernel
theorem dL_acts_395 : decode cL_acts 395 = .ok (.iadd, 1) := by decide +kernel
theorem dL_acts_396 : decode cL_acts 396 = .ok (.bipush 42, 2) := by decide +kernel
theorem dL_acts_398 : decode cL_acts 398 = .ok (.iload_n 2, 1) := by decide +kernel
theorem dL_acts_399 : decode cL_acts 399 = .ok (.bipush 6, 2) := by decide +kernel
theorem dL_acts_401 : decode cL_acts 401 = .ok (.ishr, 1) := by decide +kernel
theorem dL_acts_402 : decode cL_acts 402 = .ok (.sipush 500, 3) := by decide +kernel
theorem dL_acts_405 : decode cL_acts 405 = .ok (.invokestatic 83, 3) := by decide +kernel
theorem dL_acts_408 : decode cL_acts 408 = .ok (.iadd, 1) := by decide +kernel
theorem dL_acts_409 : decode cL_acts 409 = .ok (.invokevirtual 121, 3) := by decide +kernel
theorem dL_acts_412 : decode cL_acts 412 = .ok (.ifCond .le 38, 3) := by decide +kernel
theorem dL_acts_415 : decode cL_acts 415 = .ok (.aload_n 0, 1) := by decide +kernel
theorem dL_acts_416 : decode cL_acts 416 = .ok (.iload 10, 2) := by decide +kernel
theorem dL_acts_418 : decode cL_acts 418 = .ok (.invokevirtual 124, 3) := by decide +kernel
theorem dL_acts_421 : decode cL_acts 421 = .ok (.iload 4, 2) := by decide +kernel
theorem dL_acts_423 : decode cL_acts 423 = .ok (.if_icmp .ne 27, 3) := by decide +kernel
theorem dL_acts_426 : decode cL_acts 426 = .ok (.aload_n 0, 1) := by decide +kernel
theorem dL_acts_427 : decode cL_acts 427 = .ok (.invokevirtual 80, 3) := by decide +kernel
theorem dL_acts_430 : decode cL_acts 430 = .ok (.i2l, 1) := by decide +kernel
theorem dL_acts_431 : decode cL_acts 431 = .ok (.lload 12, 2) := by decide +kernel
theorem dL_acts_433 : decode cL_acts 433 = .ok (.lcmp, 1) := by decide +kernel
theorem dL_acts_434 : decode cL_acts 434 = .ok (.ifCond .ne 16, 3) := by decide +kernel
theorem dL_acts_437 : decode cL_acts 437 = .ok (.aload_n 0, 1) := by decide +kernel
theorem dL_acts_438 : decode cL_acts 438 = .ok (.invokevirtual 74, 3) := by decide +kernel
theorem dL_acts_441 : decode cL_acts 441 = .ok (.iload 11, 2) := by decide +kernel
theorem dL_acts_443 : decode cL_acts 443 = .ok (.if_icmp .ne 7, 3) := by decide +kernel
theorem dL_acts_446 : decode cL_acts 446 = .ok (.iconst 1, 1) := by decide +kernel
theorem dL_acts_447 : decode cL_acts 447 = .ok (.goto 4, 3) := by decide +kernel
theorem dL_acts_450 : decode cL_acts 450 = .ok (.iconst 0, 1) := by decide +kernel
theorem dL_acts_451 : decode cL_acts 451 = .ok (.ireturn, 1) := by decide +kernel
theorem dL_acts_452 : decode cL_acts 452 = .ok (.iload_n 3, 1) := by decide +kernel
theorem dL_acts_453 : decode cL_acts 453 = .ok (.bipush 6, 2) := by decide +kernel
theorem dL_acts_455 : decode cL_acts 455 = .ok (.if_icmp .ne 126, 3) := by decide +kernel
theorem dL_acts_458 : decode cL_acts 458 = .ok (.aload_n 0, 1) := by decide +kernel
theorem dL_acts_459 : decode cL_acts 459 = .ok (.invokevirtual 80, 3) := by decide +kernel
theorem dL_acts_462 : decode cL_acts 462 = .ok (.istore 10, 2) := by decide +kernel
theorem dL_acts_464 : decode cL_acts 464 = .ok (.aload_n 0, 1) := by decide +kernel
theorem dL_acts_465 : decode cL_acts 465 = .ok (.invokevirtual 74, 3) := by decide +kernel
theorem dL_acts_468 : decode cL_acts 468 = .ok (.istore 11, 2) := by decide +kernel
theorem dL_acts_470 : decode cL_acts 470 = .ok (.iconst 1, 1) := by decide +kernel
theorem dL_acts_471 : decode cL_acts 471 = .ok (.iload_n 2, 1) := by decide +kernel
theorem dL_acts_472 : decode cL_acts 472 = .ok (.bipush 60, 2) := by decide +kernel
theorem dL_acts_474 : decode cL_acts 474 = .ok (.invokestatic 83, 3) := by decide +kernel
theorem dL_acts_477 : decode cL_acts 477 = .ok (.iadd, 1) := by decide +kernel
theorem dL_acts_478 : decode cL_acts 478 = .ok (.istore 12, 2) := by decide +kernel
theorem dL_acts_480 : decode cL_acts 480 = .ok (.aload_n 0, 1) := by decide +kernel
theorem dL_acts_481 : decode cL_acts 481 = .ok (.iload 12, 2) := by decide +kernel
theorem dL_acts_483 : decode cL_acts 483 = .ok (.iload 12, 2) := by decide +kernel
theorem dL_acts_485 : decode cL_acts 485 = .ok (.iconst 1, 1) := by decide +kernel
theorem dL_acts_486 : decode cL_acts 486 = .ok (.iadd, 1) := by decide +kernel
theorem dL_acts_487 : decode cL_acts 487 = .ok (.iload_n 2, 1) := by decide +kernel
theorem dL_acts_488 : decode cL_acts 488 = .ok (.bipush 6, 2) := by decide +kernel
theorem dL_acts_490 : decode cL_acts 490 = .ok (.ishr, 1) := by decide +kernel
theorem dL_acts_491 : decode cL_acts 491 = .ok (.sipush 900, 3) := by decide +kernel
theorem dL_acts_494 : decode cL_acts 494 = .ok (.invokestatic 83, 3) := by decide +kernel
theorem dL_acts_497 : decode cL_acts 497 = .ok (.iadd, 1) := by decide +kernel
theorem dL_acts_498 : decode cL_acts 498 = .ok (.invokevirtual 121, 3) := by decide +kernel
theorem dL_acts_501 : decode cL_acts 501 = .ok (.ifCond .le 78, 3) := by decide +kernel
theorem dL_acts_504 : decode cL_acts 504 = .ok (.aload_n 0, 1) := by decide +kernel
theorem dL_acts_505 : decode cL_acts 505 = .ok (.invokevirtual 106, 3) := by decide +kernel
theorem dL_acts_508 : decode cL_acts 508 = .ok (.ifCond .lt 71, 3) := by decide +kernel
theorem dL_acts_511 : decode cL_acts 511 = .ok (.aload_n 0, 1) := by decide +kernel
theorem dL_acts_512 : decode cL_acts 512 = .ok (.invokevirtual 80, 3) := by decide +kernel
theorem dL_acts_515 : decode cL_acts 515 = .ok (.iload 10, 2) := by decide +kernel
theorem dL_acts_517 : decode cL_acts 517 = .ok (.if_icmp .ne 62, 3) := by decide +kernel
theorem dL_acts_520 : decode cL_acts 520 = .ok (.aload_n 0, 1) := by decide +kernel
theorem dL_acts_521 : decode cL_acts 521 = .ok (.invokevirtual 74, 3) := by decide +kernel
theorem dL_acts_524 : decode cL_acts 524 = .ok (.iload 11, 2) := by decide +kernel
theorem dL_acts_526 : decode cL_acts 526 = .ok (.if_icmp .ne 53, 3) := by decide +kernel
theorem dL_acts_529 : decode cL_acts 529 = .ok (.aload_n 0, 1) := by decide +kernel
theorem dL_acts_530 : decode cL_acts 530 = .ok (.iload 12, 2) := by decide +kernel
theorem dL_acts_532 : decode cL_acts 532 = .ok (.iload 12, 2) := by decide +kernel
theorem dL_acts_534 : decode cL_acts 534 = .ok (.iconst 1, 1) := by decide +kernel
theorem dL_acts_535 : decode cL_acts 535 = .ok (.iadd, 1) := by decide +kernel
theorem dL_acts_536 : decode cL_acts 536 = .ok (.iload_n 2, 1) := by decide +kernel
theorem dL_acts_537 : decode cL_acts 537 = .ok (.bipush 6, 2) := by decide +kernel
theorem dL_acts_539 : decode cL_acts 539 = .ok (.ishr, 1) := by decide +kernel
theorem dL_acts_540 : decode cL_acts 540 = .ok (.sipush 900, 3) := by decide +kernel
theorem dL_acts_543 : decode cL_acts 543 = .ok (.invokestatic 83, 3) := by decide +kernel
theorem dL_acts_546 : decode cL_acts 546 = .ok (.iadd, 1) := by decide +kernel
theorem dL_acts_547 : decode cL_acts 547 = .ok (.invokevirtual 121, 3) := by decide +kernel
theorem dL_acts_550 : decode cL_acts 550 = .ok (.ifCond .le 29, 3) := by decide +kernel
theorem dL_acts_553 : decode cL_acts 553 = .ok (.aload_n 0, 1) := by decide +kernel
theorem dL_acts_554 : decode cL_acts 554 = .ok (.invokevirtual 80, 3) := by decide +kernel
theorem dL_acts_557 : decode cL_acts 557 = .ok (.iload 12, 2) := by decide +kernel
theorem dL_acts_559 : decode cL_acts 559 = .ok (.iconst 1, 1) := by decide +kernel
theorem dL_acts_560 : decode cL_acts 560 = .ok (.iadd, 1) := by decide +kernel
theorem dL_acts_561 : decode cL_acts 561 = .ok (.iload_n 2, 1) := by decide +kernel
theorem dL_acts_562 : decode cL_acts 562 = .ok (.bipush 6, 2) := by decide +kernel
theorem dL_acts_564 : decode cL_acts 564 = .ok (.ishr, 1) := by decide +kernel
theorem dL_acts_565 : decode cL_acts 565 = .ok (.sipush 900, 3) := by decide +kernel
theorem dL_acts_568 : decode cL_acts 568 = .ok (.invokestatic 83, 3) := by decide +kernel
theorem dL_acts_571 : decode cL_acts 571 = .ok (.iadd, 1) := by decide +kernel
theorem dL_acts_572 : decode cL_acts 572 = .ok (.if_icmp .ne 7, 3) := by decide +kernel
theorem dL_acts_575 : decode cL_acts 575 = .ok (.iconst 1, 1) := by decide +kernel
theorem dL_acts_576 : decode cL_acts 576 = .ok (.goto 4, 3) := by decide +kernel
theorem dL_acts_579 : decode cL_acts 579 = .ok (.iconst 0, 1) := by decide +kernel
theorem dL_acts_580 : decode cL_acts 580 = .ok (.ireturn, 1) := by decide +kernel
theorem dL_acts_581 : decode cL_acts 581 = .ok (.iload 4, 2) := by decide +kernel
theorem dL_acts_583 : decode cL_acts 583 = .ok (.ifCond .ne 23, 3) := by decide +kernel
theorem dL_acts_586 : decode cL_acts 586 = .ok (.aload_n 0, 1) := by decide +kernel
theorem dL_acts_587 : decode cL_acts 587 = .ok (.iconst 0, 1) := by decide +kernel
theorem dL_acts_588 : decode cL_acts 588 = .ok (.iconst 1, 1) := by decide +kernel
theorem dL_acts_589 : decode cL_acts 589 = .ok (.bipush 9, 2) := by decide +kernel
theorem dL_acts_591 : decode cL_acts 591 = .ok (.invokevirtual 97, 3) := by decide +kernel
theorem dL_acts_594 : decode cL_acts 594 = .ok (.iconst (-1), 1) := by decide +kernel
theorem dL_acts_595 : decode cL_acts 595 = .ok (.if_icmp .ne 7, 3) := by decide +kernel
theorem dL_acts_598 : decode cL_acts 598 = .ok (.iconst 1, 1) := by decide +kernel
theorem dL_acts_599 : decode cL_acts 599 = .ok (.goto 17, 3) := by decide +kernel
theorem dL_acts_602 : decode cL_acts 602 = .ok (.iconst 0, 1) := by decide +kernel
theorem dL_acts_603 : decode cL_acts 603 = .ok (.goto 13, 3) := by decide +kernel
theorem dL_acts_606 : decode cL_acts 606 = .ok (.aload_n 0, 1) := by decide +kernel
theorem dL_acts_607 : decode cL_acts 607 = .ok (.iload 7, 2) := by decide +kernel
theorem dL_acts_609 : decode cL_acts 609 = .ok (.iload 4, 2) := by decide +kernel
theorem dL_acts_611 : decode cL_acts 611 = .ok (.irem, 1) := by decide +kernel
theorem dL_acts_612 : decode cL_acts 612 = .ok (.iload_n 2, 1) := by decide +kernel
theorem dL_acts_613 : decode cL_acts 613 = .ok (.invokestatic 127, 3) := by decide +kernel
theorem dL_acts_616 : decode cL_acts 616 = .ok (.ireturn, 1) := by decide +kernel
theorem dL_law_0 : decode cL_law 0 = .ok (.new 10, 3) := by decide +kernel
theorem dL_law_3 : decode cL_law 3 = .ok (.dup, 1) := by decide +kernel
theorem dL_law_4 : decode cL_law 4 = .ok (.invokespecial 131, 3) := by decide +kernel
theorem dL_law_7 : decode cL_law 7 = .ok (.astore_n 1, 1) := by decide +kernel
theorem dL_law_8 : decode cL_law 8 = .ok (.iconst 1, 1) := by decide +kernel
theorem dL_law_9 : decode cL_law 9 = .ok (.istore_n 2, 1) := by decide +kernel
theorem dL_law_10 : decode cL_law 10 = .ok (.aload_n 1, 1) := by decide +kernel
theorem dL_law_11 : decode cL_law 11 = .ok (.iconst 1, 1) := by decide +kernel
theorem dL_law_12 : decode cL_law 12 = .ok (.invokestatic 132, 3) := by decide +kernel
theorem dL_law_15 : decode cL_law 15 = .ok (.ifCond .eq 26, 3) := by decide +kernel
theorem dL_law_18 : decode cL_law 18 = .ok (.aload_n 1, 1) := by decide +kernel
theorem dL_law_19 : decode cL_law 19 = .ok (.invokevirtual 106, 3) := by decide +kernel
theorem dL_law_22 : decode cL_law 22 = .ok (.bipush (-2), 2) := by decide +kernel
theorem dL_law_24 : decode cL_law 24 = .ok (.if_icmp .ne 17, 3) := by decide +kernel
theorem dL_law_27 : decode cL_law 27 = .ok (.aload_n 1, 1) := by decide +kernel
theorem dL_law_28 : decode cL_law 28 = .ok (.iconst 1, 1) := by decide +kernel
theorem dL_law_29 : decode cL_law 29 = .ok (.invokevirtual 124, 3) := by decide +kernel
theorem dL_law_32 : decode cL_law 32 = .ok (.bipush (-2), 2) := by decide +kernel
theorem dL_law_34 : decode cL_law 34 = .ok (.if_icmp .ne 7, 3) := by decide +kernel
theorem dL_law_37 : decode cL_law 37 = .ok (.iconst 1, 1) := by decide +kernel
theorem dL_law_38 : decode cL_law 38 = .ok (.goto 4, 3) := by decide +kernel
theorem dL_law_41 : decode cL_law 41 = .ok (.iconst 0, 1) := by decide +kernel
theorem dL_law_42 : decode cL_law 42 = .ok (.istore_n 3, 1) := by decide +kernel
theorem dL_law_43 : decode cL_law 43 = .ok (.iconst 0, 1) := by decide +kernel
theorem dL_law_44 : decode cL_law 44 = .ok (.istore 4, 2) := by decide +kernel
theorem dL_law_46 : decode cL_law 46 = .ok (.iload 4, 2) := by decide +kernel
theorem dL_law_48 : decode cL_law 48 = .ok (.bipush 18, 2) := by decide +kernel
theorem dL_law_50 : decode cL_law 50 = .ok (.if_icmp .ge 196, 3) := by decide +kernel
theorem dL_law_53 : decode cL_law 53 = .ok (.iload_n 3, 1) := by decide +kernel
theorem dL_law_54 : decode cL_law 54 = .ok (.ifCond .eq 192, 3) := by decide +kernel
theorem dL_law_57 : decode cL_law 57 = .ok (.aload_n 0, 1) := by decide +kernel
theorem dL_law_58 : decode cL_law 58 = .ok (.iconst 2, 1) := by decide +kernel
theorem dL_law_59 : decode cL_law 59 = .ok (.iload 4, 2) := by decide +kernel
theorem dL_law_61 : decode cL_law 61 = .ok (.imul, 1) := by decide +kernel
theorem dL_law_62 : decode cL_law 62 = .ok (.invokestatic 136, 3) := by decide +kernel
theorem dL_law_65 : decode cL_law 65 = .ok (.istore 5, 2) := by decide +kernel
theorem dL_law_67 : decode cL_law 67 = .ok (.aload_n 0, 1) := by decide +kernel
theorem dL_law_68 : decode cL_law 68 = .ok (.iconst 2, 1) := by decide +kernel
theorem dL_law_69 : decode cL_law 69 = .ok (.iload 4, 2) := by decide +kernel
theorem dL_law_71 : decode cL_law 71 = .ok (.imul, 1) := by decide +kernel
theorem dL_law_72 : decode cL_law 72 = .ok (.iconst 1, 1) := by decide +kernel
theorem dL_law_73 : decode cL_law 73 = .ok (.iadd, 1) := by decide +kernel
theorem dL_law_74 : decode cL_law 74 = .ok (.invokestatic 136, 3) := by decide +kernel
theorem dL_law_77 : decode cL_law 77 = .ok (.istore 6, 2) := by decide +kernel
theorem dL_law_79 : decode cL_law 79 = .ok (.aload_n 1, 1) := by decide +kernel
theorem dL_law_80 : decode cL_law 80 = .ok (.iload 4, 2) := by decide +kernel
theorem dL_law_82 : decode cL_law 82 = .ok (.iconst 2, 1) := by decide +kernel
theorem dL_law_83 : decode cL_law 83 = .ok (.if_icmp .ge 11, 3) := by decide +kernel
theorem dL_law_86 : decode cL_law 86 = .ok (.iload 5, 2) := by decide +kernel
theorem dL_law_88 : decode cL_law 88 = .ok (.ldc 140, 2) := by decide +kernel
theorem dL_law_90 : decode cL_law 90 = .ok (.iand, 1) := by decide +kernel
theorem dL_law_91 : decode cL_law 91 = .ok (.goto 5, 3) := by decide +kernel
theorem dL_law_94 : decode cL_law 94 = .ok (.iload 5, 2) := by decide +kernel
theorem dL_law_96 : decode cL_law 96 = .ok (.iload 6, 2) := by decide +kernel
theorem dL_law_98 : decode cL_law 98 = .ok (.invokestatic 141, 3) := by decide +kernel
theorem dL_law_101 : decode cL_law 101 = .ok (.ifCond .eq 15, 3) := by decide +kernel
theorem dL_law_104 : decode cL_law 104 = .ok (.aload_n 1, 1) := by decide +kernel
theorem dL_law_105 : decode cL_law 105 = .ok (.iload_n 2, 1) := by decide +kernel
theorem dL_law_106 : decode cL_law 106 = .ok (.invokestatic 132, 3) := by decide +kernel
theorem dL_law_109 : decode cL_law 109 = .ok (.ifCond .eq 7, 3) := by decide +kernel
theorem dL_law_112 : decode cL_law 112 = .ok (.iconst 1, 1) := by decide +kernel
theorem dL_law_113 : decode cL_law 113 = .ok (.goto 4, 3) := by decide +kernel
theorem dL_law_116 : decode cL_law 116 = .ok (.iconst 0, 1) := by decide +kernel
theorem dL_law_117 : decode cL_law 117 = .ok (.istore_n 3, 1) := by decide +kernel
theorem dL_law_118 : decode cL_law 118 = .ok (.iload 6, 2) := by decide +kernel
theorem dL_law_120 : decode cL_law 120 = .ok (.iconst 3, 1) := by decide +kernel
theorem dL_law_121 : decode cL_law 121 = .ok (.ishr, 1) := by decide +kernel
theorem dL_law_122 : decode cL_law 122 = .ok (.iconst 3, 1) := by decide +kernel
theorem dL_law_123 : decode cL_law 123 = .ok (.invokestatic 83, 3) := by decide +kernel
theorem dL_law_126 : decode cL_law 126 = .ok (.istore 7, 2) := by decide +kernel
theorem dL_law_128 : decode cL_law 128 = .ok (.iload 7, 2) := by decide +kernel
theorem dL_law_130 : decode cL_law 130 = .ok (.iconst 1, 1) := by decide +kernel
theorem dL_law_131 : decode cL_law 131 = .ok (.iadd, 1) := by decide +kernel
theorem dL_law_132 : decode cL_law 132 = .ok (.iload 6, 2) := by decide +kernel
theorem dL_law_134 : decode cL_law 134 = .ok (.iconst 5, 1) := by decide +kernel
theorem dL_law_135 : decode cL_law 135 = .ok (.ishr, 1) := by decide +kernel
theorem dL_law_136 : decode cL_law 136 = .ok (.iconst 2, 1) := by decide +kernel
theorem dL_law_137 : decode cL_law 137 = .ok (.invokestatic 83, 3) := by decide +kernel
theorem dL_law_140 : decode cL_law 140 = .ok (.iadd, 1) := by decide +kernel
theorem dL_law_141 : decode cL_law 141 = .ok (.istore 8, 2) := by decide +kernel
theorem dL_law_143 : decode cL_law 143 = .ok (.iload_n 3, 1) := by decide +kernel
theorem dL_law_144 : decode cL_law 144 = .ok (.ifCond .eq 54, 3) := by decide +kernel
theorem dL_law_147 : decode cL_law 147 = .ok (.iload 8, 2) := by decide +kernel
theorem dL_law_149 : decode cL_law 149 = .ok (.aload_n 1, 1) := by decide +kernel
theorem dL_law_150 : decode cL_law 150 = .ok (.invokevirtual 45, 3) := by decide +kernel
theorem dL_law_153 : decode cL_law 153 = .ok (.if_icmp .ge 45, 3) := by decide +kernel
theorem dL_law_156 : decode cL_law 156 = .ok (.aload_n 1, 1) := by decide +kernel
theorem dL_law_157 : decode cL_law 157 = .ok (.iload 7, 2) := by decide +kernel
theorem dL_law_159 : decode cL_law 159 = .ok (.iload 8, 2) := by decide +kernel
theorem dL_law_161 : decode cL_law 161 = .ok (.iload_n 2, 1) := by decide +kernel
theorem dL_law_162 : decode cL_law 162 = .ok (.iload 5, 2) := by decide +kernel
theorem dL_law_164 : decode cL_law 164 = .ok (.iload 6, 2) := by decide +kernel
theorem dL_law_166 : decode cL_law 166 = .ok (.ixor, 1) := by decide +kernel
theorem dL_law_167 : decode cL_law 167 = .ok (.invokestatic 144, 3) := by decide +kernel
theorem dL_law_170 : decode cL_law 170 = .ok (.ifCond .eq 26, 3) := by decide +kernel
theorem dL_law_173 : decode cL_law 173 = .ok (.iload 4, 2) := by decide +kernel
theorem dL_law_175 : decode cL_law 175 = .ok (.iconst 3, 1) := by decide +kernel
theorem dL_law_176 : decode cL_law 176 = .ok (.irem, 1) := by decide +kernel
theorem dL_law_177 : decode cL_law 177 = .ok (.ifCond .gt 15, 3) := by decide +kernel
theorem dL_law_180 : decode cL_law 180 = .ok (.aload_n 1, 1) := by decide +kernel
theorem dL_law_181 : decode cL_law 181 = .ok (.iload 7, 2) := by decide +kernel
theorem dL_law_183 : decode cL_law 183 = .ok (.iload 8, 2) := by decide +kernel
theorem dL_law_185 : decode cL_law 185 = .ok (.iload_n 2, 1) := by decide +kernel
theorem dL_law_186 : decode cL_law 186 = .ok (.invokestatic 148, 3) := by decide +kernel
theorem dL_law_189 : decode cL_law 189 = .ok (.ifCond .eq 7, 3) := by decide +kernel
theorem dL_law_192 : decode cL_law 192 = .ok (.iconst 1, 1) := by decide +kernel
theorem dL_law_193 : decode cL_law 193 = .ok (.goto 4, 3) := by decide +kernel
theorem dL_law_196 : decode cL_law 196 = .ok (.iconst 0, 1) := by decide +kernel
theorem dL_law_197 : decode cL_law 197 = .ok (.istore_n 3, 1) := by decide +kernel
theorem dL_law_198 : decode cL_law 198 = .ok (.iload 4, 2) := by decide +kernel
theorem dL_law_200 : decode cL_law 200 = .ok (.bipush 9, 2) := by decide +kernel
theorem dL_law_202 : decode cL_law 202 = .ok (.if_icmp .ne 38, 3) := by decide +kernel
theorem dL_law_205 : decode cL_law 205 = .ok (.iload_n 3, 1) := by decide +kernel
theorem dL_law_206 : decode cL_law 206 = .ok (.ifCond .eq 34, 3) := by decide +kernel
theorem dL_law_209 : decode cL_law 209 = .ok (.aload_n 1, 1) := by decide +kernel
theorem dL_law_210 : decode cL_law 210 = .ok (.iconst 1, 1) := by decide +kernel
theorem dL_law_211 : decode cL_law 211 = .ok (.iload 5, 2) := by decide +kernel
theorem dL_law_213 : decode cL_law 213 = .ok (.iconst 2, 1) := by decide +kernel
theorem dL_law_214 : decode cL_law 214 = .ok (.invokestatic 83, 3) := by decide +kernel
theorem dL_law_217 : decode cL_law 217 = .ok (.iadd, 1) := by decide +kernel
theorem dL_law_218 : decode cL_law 218 = .ok (.invokevirtual 152, 3) := by decide +kernel
theorem dL_law_221 : decode cL_law 221 = .ok (.iconst 1, 1) := by decide +kernel
theorem dL_law_222 : decode cL_law 222 = .ok (.if_icmp .ne 7, 3) := by decide +kernel
theorem dL_law_225 : decode cL_law 225 = .ok (.iconst 1, 1) := by decide +kernel
theorem dL_law_226 : decode cL_law 226 = .ok (.goto 4, 3) := by decide +kernel
theorem dL_law_229 : decode cL_law 229 = .ok (.iconst 0, 1) := by decide +kernel
theorem dL_law_230 : decode cL_law 230 = .ok (.istore_n 3, 1) := by decide +kernel
theorem dL_law_231 : decode cL_law 231 = .ok (.iconst 1, 1) := by decide +kernel
theorem dL_law_232 : decode cL_law 232 = .ok (.iload 5, 2) := by decide +kernel
theorem dL_law_234 : decode cL_law 234 = .ok (.iconst 2, 1) := by decide +kernel
theorem dL_law_235 : decode cL_law 235 = .ok (.invokestatic 83, 3) := by decide +kernel
theorem dL_law_238 : decode cL_law 238 = .ok (.iadd, 1) := by decide +kernel
theorem dL_law_239 : decode cL_law 239 = .ok (.istore_n 2, 1) := by decide +kernel
theorem dL_law_240 : decode cL_law 240 = .ok (.iinc 4 1, 3) := by decide +kernel
theorem dL_law_243 : decode cL_law 243 = .ok (.goto (-197), 3) := by decide +kernel
theorem dL_law_246 : decode cL_law 246 = .ok (.iload_n 3, 1) := by decide +kernel
theorem dL_law_247 : decode cL_law 247 = .ok (.ireturn, 1) := by decide +kernel
