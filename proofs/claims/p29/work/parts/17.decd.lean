theorem dL_cell_0 : decode cL_cell 0 = .ok (.iload_n 1, 1) := by decide +kernel
theorem dL_cell_1 : decode cL_cell 1 = .ok (.aload_n 0, 1) := by decide +kernel
theorem dL_cell_2 : decode cL_cell 2 = .ok (.arraylength, 1) := by decide +kernel
theorem dL_cell_3 : decode cL_cell 3 = .ok (.if_icmp .ge 9, 3) := by decide +kernel
theorem dL_cell_6 : decode cL_cell 6 = .ok (.aload_n 0, 1) := by decide +kernel
theorem dL_cell_7 : decode cL_cell 7 = .ok (.iload_n 1, 1) := by decide +kernel
theorem dL_cell_8 : decode cL_cell 8 = .ok (.iaload, 1) := by decide +kernel
theorem dL_cell_9 : decode cL_cell 9 = .ok (.goto 11, 3) := by decide +kernel
theorem dL_cell_12 : decode cL_cell 12 = .ok (.ldc 7, 2) := by decide +kernel
theorem dL_cell_14 : decode cL_cell 14 = .ok (.iload_n 1, 1) := by decide +kernel
theorem dL_cell_15 : decode cL_cell 15 = .ok (.sipush 1619, 3) := by decide +kernel
theorem dL_cell_18 : decode cL_cell 18 = .ok (.iadd, 1) := by decide +kernel
theorem dL_cell_19 : decode cL_cell 19 = .ok (.imul, 1) := by decide +kernel
theorem dL_cell_20 : decode cL_cell 20 = .ok (.ireturn, 1) := by decide +kernel
theorem dL_up_0 : decode cL_up 0 = .ok (.iload_n 0, 1) := by decide +kernel
theorem dL_up_1 : decode cL_up 1 = .ok (.ldc 8, 2) := by decide +kernel
theorem dL_up_3 : decode cL_up 3 = .ok (.iand, 1) := by decide +kernel
theorem dL_up_4 : decode cL_up 4 = .ok (.iload_n 1, 1) := by decide +kernel
theorem dL_up_5 : decode cL_up 5 = .ok (.irem, 1) := by decide +kernel
theorem dL_up_6 : decode cL_up 6 = .ok (.ireturn, 1) := by decide +kernel
theorem dL_law_0 : decode cL_law 0 = .ok (.new 9, 3) := by decide +kernel
theorem dL_law_3 : decode cL_law 3 = .ok (.dup, 1) := by decide +kernel
theorem dL_law_4 : decode cL_law 4 = .ok (.invokespecial 11, 3) := by decide +kernel
theorem dL_law_7 : decode cL_law 7 = .ok (.astore_n 1, 1) := by decide +kernel
theorem dL_law_8 : decode cL_law 8 = .ok (.iconst 0, 1) := by decide +kernel
theorem dL_law_9 : decode cL_law 9 = .ok (.istore_n 2, 1) := by decide +kernel
theorem dL_law_10 : decode cL_law 10 = .ok (.aload_n 1, 1) := by decide +kernel
theorem dL_law_11 : decode cL_law 11 = .ok (.aload_n 0, 1) := by decide +kernel
theorem dL_law_12 : decode cL_law 12 = .ok (.iload_n 2, 1) := by decide +kernel
theorem dL_law_13 : decode cL_law 13 = .ok (.iinc 2 1, 3) := by decide +kernel
theorem dL_law_16 : decode cL_law 16 = .ok (.invokestatic 12, 3) := by decide +kernel
theorem dL_law_19 : decode cL_law 19 = .ok (.invokestatic 18, 3) := by decide +kernel
theorem dL_law_22 : decode cL_law 22 = .ok (.ifCond .ne 5, 3) := by decide +kernel
theorem dL_law_25 : decode cL_law 25 = .ok (.iconst 0, 1) := by decide +kernel
theorem dL_law_26 : decode cL_law 26 = .ok (.ireturn, 1) := by decide +kernel
theorem dL_law_27 : decode cL_law 27 = .ok (.aload_n 0, 1) := by decide +kernel
theorem dL_law_28 : decode cL_law 28 = .ok (.iload_n 2, 1) := by decide +kernel
theorem dL_law_29 : decode cL_law 29 = .ok (.iinc 2 1, 3) := by decide +kernel
theorem dL_law_32 : decode cL_law 32 = .ok (.invokestatic 12, 3) := by decide +kernel
theorem dL_law_35 : decode cL_law 35 = .ok (.istore_n 3, 1) := by decide +kernel
theorem dL_law_36 : decode cL_law 36 = .ok (.iconst 1, 1) := by decide +kernel
theorem dL_law_37 : decode cL_law 37 = .ok (.iload_n 3, 1) := by decide +kernel
theorem dL_law_38 : decode cL_law 38 = .ok (.iconst 5, 1) := by decide +kernel
theorem dL_law_39 : decode cL_law 39 = .ok (.invokestatic 22, 3) := by decide +kernel
theorem dL_law_42 : decode cL_law 42 = .ok (.iadd, 1) := by decide +kernel
theorem dL_law_43 : decode cL_law 43 = .ok (.istore 4, 2) := by decide +kernel
theorem dL_law_45 : decode cL_law 45 = .ok (.iconst 0, 1) := by decide +kernel
theorem dL_law_46 : decode cL_law 46 = .ok (.istore 5, 2) := by decide +kernel
theorem dL_law_48 : decode cL_law 48 = .ok (.iload 5, 2) := by decide +kernel
theorem dL_law_50 : decode cL_law 50 = .ok (.iload 4, 2) := by decide +kernel
theorem dL_law_52 : decode cL_law 52 = .ok (.if_icmp .ge 150, 3) := by decide +kernel
theorem dL_law_55 : decode cL_law 55 = .ok (.aload_n 0, 1) := by decide +kernel
theorem dL_law_56 : decode cL_law 56 = .ok (.iload_n 2, 1) := by decide +kernel
theorem dL_law_57 : decode cL_law 57 = .ok (.iinc 2 1, 3) := by decide +kernel
theorem dL_law_60 : decode cL_law 60 = .ok (.invokestatic 12, 3) := by decide +kernel
theorem dL_law_63 : decode cL_law 63 = .ok (.istore 6, 2) := by decide +kernel
theorem dL_law_65 : decode cL_law 65 = .ok (.aload_n 1, 1) := by decide +kernel
theorem dL_law_66 : decode cL_law 66 = .ok (.iconst 1, 1) := by decide +kernel
theorem dL_law_67 : decode cL_law 67 = .ok (.iload 6, 2) := by decide +kernel
theorem dL_law_69 : decode cL_law 69 = .ok (.bipush 9, 2) := by decide +kernel
theorem dL_law_71 : decode cL_law 71 = .ok (.invokestatic 22, 3) := by decide +kernel
theorem dL_law_74 : decode cL_law 74 = .ok (.iadd, 1) := by decide +kernel
theorem dL_law_75 : decode cL_law 75 = .ok (.invokevirtual 26, 3) := by decide +kernel
theorem dL_law_78 : decode cL_law 78 = .ok (.iload 5, 2) := by decide +kernel
theorem dL_law_80 : decode cL_law 80 = .ok (.if_icmp .eq 5, 3) := by decide +kernel
theorem dL_law_83 : decode cL_law 83 = .ok (.iconst 0, 1) := by decide +kernel
theorem dL_law_84 : decode cL_law 84 = .ok (.ireturn, 1) := by decide +kernel
theorem dL_law_85 : decode cL_law 85 = .ok (.iconst 0, 1) := by decide +kernel
theorem dL_law_86 : decode cL_law 86 = .ok (.istore 7, 2) := by decide +kernel
theorem dL_law_88 : decode cL_law 88 = .ok (.iload 7, 2) := by decide +kernel
theorem dL_law_90 : decode cL_law 90 = .ok (.iload 6, 2) := by decide +kernel
theorem dL_law_92 : decode cL_law 92 = .ok (.iconst 4, 1) := by decide +kernel
theorem dL_law_93 : decode cL_law 93 = .ok (.ishr, 1) := by decide +kernel
theorem dL_law_94 : decode cL_law 94 = .ok (.iconst 4, 1) := by decide +kernel
theorem dL_law_95 : decode cL_law 95 = .ok (.invokestatic 22, 3) := by decide +kernel
theorem dL_law_98 : decode cL_law 98 = .ok (.if_icmp .ge 49, 3) := by decide +kernel
theorem dL_law_101 : decode cL_law 101 = .ok (.aload_n 1, 1) := by decide +kernel
theorem dL_law_102 : decode cL_law 102 = .ok (.iload 5, 2) := by decide +kernel
theorem dL_law_104 : decode cL_law 104 = .ok (.bipush 100, 2) := by decide +kernel
theorem dL_law_106 : decode cL_law 106 = .ok (.iload 6, 2) := by decide +kernel
theorem dL_law_108 : decode cL_law 108 = .ok (.iconst 2, 1) := by decide +kernel
theorem dL_law_109 : decode cL_law 109 = .ok (.iload 7, 2) := by decide +kernel
theorem dL_law_111 : decode cL_law 111 = .ok (.imul, 1) := by decide +kernel
theorem dL_law_112 : decode cL_law 112 = .ok (.iconst 3, 1) := by decide +kernel
theorem dL_law_113 : decode cL_law 113 = .ok (.iadd, 1) := by decide +kernel
theorem dL_law_114 : decode cL_law 114 = .ok (.ishr, 1) := by decide +kernel
theorem dL_law_115 : decode cL_law 115 = .ok (.sipush 900, 3) := by decide +kernel
theorem dL_law_118 : decode cL_law 118 = .ok (.invokestatic 22, 3) := by decide +kernel
theorem dL_law_121 : decode cL_law 121 = .ok (.iadd, 1) := by decide +kernel
theorem dL_law_122 : decode cL_law 122 = .ok (.iconst 1, 1) := by decide +kernel
theorem dL_law_123 : decode cL_law 123 = .ok (.iload 6, 2) := by decide +kernel
theorem dL_law_125 : decode cL_law 125 = .ok (.iconst 3, 1) := by decide +kernel
theorem dL_law_126 : decode cL_law 126 = .ok (.iload 7, 2) := by decide +kernel
theorem dL_law_128 : decode cL_law 128 = .ok (.imul, 1) := by decide +kernel
theorem dL_law_129 : decode cL_law 129 = .ok (.ishr, 1) := by decide +kernel
theorem dL_law_130 : decode cL_law 130 = .ok (.sipush 200, 3) := by decide +kernel
theorem dL_law_133 : decode cL_law 133 = .ok (.invokestatic 22, 3) := by decide +kernel
theorem dL_law_136 : decode cL_law 136 = .ok (.iadd, 1) := by decide +kernel
theorem dL_law_137 : decode cL_law 137 = .ok (.invokevirtual 30, 3) := by decide +kernel
theorem dL_law_140 : decode cL_law 140 = .ok (.pop, 1) := by decide +kernel
theorem dL_law_141 : decode cL_law 141 = .ok (.iinc 7 1, 3) := by decide +kernel
theorem dL_law_144 : decode cL_law 144 = .ok (.goto (-56), 3) := by decide +kernel
theorem dL_law_147 : decode cL_law 147 = .ok (.iload 5, 2) := by decide +kernel
theorem dL_law_149 : decode cL_law 149 = .ok (.ifCond .le 27, 3) := by decide +kernel
theorem dL_law_152 : decode cL_law 152 = .ok (.aload_n 1, 1) := by decide +kernel
theorem dL_law_153 : decode cL_law 153 = .ok (.iload 5, 2) := by decide +kernel
theorem dL_law_155 : decode cL_law 155 = .ok (.iconst 1, 1) := by decide +kernel
theorem dL_law_156 : decode cL_law 156 = .ok (.isub, 1) := by decide +kernel
theorem dL_law_157 : decode cL_law 157 = .ok (.iload 5, 2) := by decide +kernel
theorem dL_law_159 : decode cL_law 159 = .ok (.bipush 10, 2) := by decide +kernel
theorem dL_law_161 : decode cL_law 161 = .ok (.iload 6, 2) := by decide +kernel
theorem dL_law_163 : decode cL_law 163 = .ok (.iconst 5, 1) := by decide +kernel
theorem dL_law_164 : decode cL_law 164 = .ok (.ishr, 1) := by decide +kernel
theorem dL_law_165 : decode cL_law 165 = .ok (.sipush 191, 3) := by decide +kernel
theorem dL_law_168 : decode cL_law 168 = .ok (.invokestatic 22, 3) := by decide +kernel
theorem dL_law_171 : decode cL_law 171 = .ok (.iadd, 1) := by decide +kernel
theorem dL_law_172 : decode cL_law 172 = .ok (.invokevirtual 34, 3) := by decide +kernel
theorem dL_law_175 : decode cL_law 175 = .ok (.pop, 1) := by decide +kernel
theorem dL_law_176 : decode cL_law 176 = .ok (.iload 6, 2) := by decide +kernel
theorem dL_law_178 : decode cL_law 178 = .ok (.bipush 9, 2) := by decide +kernel
theorem dL_law_180 : decode cL_law 180 = .ok (.ishr, 1) := by decide +kernel
theorem dL_law_181 : decode cL_law 181 = .ok (.iconst 4, 1) := by decide +kernel
theorem dL_law_182 : decode cL_law 182 = .ok (.invokestatic 22, 3) := by decide +kernel
theorem dL_law_185 : decode cL_law 185 = .ok (.ifCond .ne 11, 3) := by decide +kernel
theorem dL_law_188 : decode cL_law 188 = .ok (.aload_n 1, 1) := by decide +kernel
theorem dL_law_189 : decode cL_law 189 = .ok (.iload 5, 2) := by decide +kernel
theorem dL_law_191 : decode cL_law 191 = .ok (.iconst 0, 1) := by decide +kernel
theorem dL_law_192 : decode cL_law 192 = .ok (.invokevirtual 37, 3) := by decide +kernel
theorem dL_law_195 : decode cL_law 195 = .ok (.pop, 1) := by decide +kernel
theorem dL_law_196 : decode cL_law 196 = .ok (.iinc 5 1, 3) := by decide +kernel
theorem dL_law_199 : decode cL_law 199 = .ok (.goto (-151), 3) := by decide +kernel
theorem dL_law_202 : decode cL_law 202 = .ok (.iconst 0, 1) := by decide +kernel
theorem dL_law_203 : decode cL_law 203 = .ok (.istore 5, 2) := by decide +kernel
theorem dL_law_205 : decode cL_law 205 = .ok (.iload 5, 2) := by decide +kernel
theorem dL_law_207 : decode cL_law 207 = .ok (.iconst 2, 1) := by decide +kernel
theorem dL_law_208 : decode cL_law 208 = .ok (.if_icmp .ge 34, 3) := by decide +kernel
theorem dL_law_211 : decode cL_law 211 = .ok (.aload_n 1, 1) := by decide +kernel
theorem dL_law_212 : decode cL_law 212 = .ok (.aload_n 0, 1) := by decide +kernel
theorem dL_law_213 : decode cL_law 213 = .ok (.iload_n 2, 1) := by decide +kernel
theorem dL_law_214 : decode cL_law 214 = .ok (.iinc 2 1, 3) := by decide +kernel
theorem dL_law_217 : decode cL_law 217 = .ok (.invokestatic 12, 3) := by decide +kernel
theorem dL_law_220 : decode cL_law 220 = .ok (.aload_n 0, 1) := by decide +kernel
theorem dL_law_221 : decode cL_law 221 = .ok (.iload_n 2, 1) := by decide +kernel
theorem dL_law_222 : decode cL_law 222 = .ok (.iinc 2 1, 3) := by decide +kernel
theorem dL_law_225 : decode cL_law 225 = .ok (.invokestatic 12, 3) := by decide +kernel
theorem dL_law_228 : decode cL_law 228 = .ok (.invokestatic 40, 3) := by decide +kernel
theorem dL_law_231 : decode cL_law 231 = .ok (.ifCond .ne 5, 3) := by decide +kernel
theorem dL_law_234 : decode cL_law 234 = .ok (.iconst 0, 1) := by decide +kernel
theorem dL_law_235 : decode cL_law 235 = .ok (.ireturn, 1) := by decide +kernel
theorem dL_law_236 : decode cL_law 236 = .ok (.iinc 5 1, 3) := by decide +kernel
theorem dL_law_239 : decode cL_law 239 = .ok (.goto (-34), 3) := by decide +kernel
theorem dL_law_242 : decode cL_law 242 = .ok (.iconst 0, 1) := by decide +kernel
theorem dL_law_243 : decode cL_law 243 = .ok (.istore 5, 2) := by decide +kernel
theorem dL_law_245 : decode cL_law 245 = .ok (.iload 5, 2) := by decide +kernel
theorem dL_law_247 : decode cL_law 247 = .ok (.bipush 18, 2) := by decide +kernel
theorem dL_law_249 : decode cL_law 249 = .ok (.if_icmp .ge 66, 3) := by decide +kernel
theorem dL_law_252 : decode cL_law 252 = .ok (.aload_n 0, 1) := by decide +kernel
theorem dL_law_253 : decode cL_law 253 = .ok (.iload_n 2, 1) := by decide +kernel
theorem dL_law_254 : decode cL_law 254 = .ok (.iinc 2 1, 3) := by decide +kernel
theorem dL_law_257 : decode cL_law 257 = .ok (.invokestatic 12, 3) := by decide +kernel
theorem dL_law_260 : decode cL_law 260 = .ok (.istore_n 3, 1) := by decide +kernel
theorem dL_law_261 : decode cL_law 261 = .ok (.aload_n 1, 1) := by decide +kernel
theorem dL_law_262 : decode cL_law 262 = .ok (.iload_n 3, 1) := by decide +kernel
theorem dL_law_263 : decode cL_law 263 = .ok (.aload_n 0, 1) := by decide +kernel
theorem dL_law_264 : decode cL_law 264 = .ok (.iload_n 2, 1) := by decide +kernel
theorem dL_law_265 : decode cL_law 265 = .ok (.iinc 2 1, 3) := by decide +kernel
theorem dL_law_268 : decode cL_law 268 = .ok (.invokestatic 12, 3) := by decide +kernel
theorem dL_law_271 : decode cL_law 271 = .ok (.aload_n 0, 1) := by decide +kernel
theorem dL_law_272 : decode cL_law 272 = .ok (.iload_n 2, 1) := by decide +kernel
theorem dL_law_273 : decode cL_law 273 = .ok (.iinc 2 1, 3) := by decide +kernel
theorem dL_law_276 : decode cL_law 276 = .ok (.invokestatic 12, 3) := by decide +kernel
theorem dL_law_279 : decode cL_law 279 = .ok (.invokestatic 44, 3) := by decide +kernel
theorem dL_law_282 : decode cL_law 282 = .ok (.ifCond .eq 25, 3) := by decide +kernel
theorem dL_law_285 : decode cL_law 285 = .ok (.iload 5, 2) := by decide +kernel
theorem dL_law_287 : decode cL_law 287 = .ok (.iconst 3, 1) := by decide +kernel
theorem dL_law_288 : decode cL_law 288 = .ok (.irem, 1) := by decide +kernel
theorem dL_law_289 : decode cL_law 289 = .ok (.iconst 2, 1) := by decide +kernel
theorem dL_law_290 : decode cL_law 290 = .ok (.if_icmp .ne 19, 3) := by decide +kernel
theorem dL_law_293 : decode cL_law 293 = .ok (.aload_n 1, 1) := by decide +kernel
theorem dL_law_294 : decode cL_law 294 = .ok (.invokestatic 48, 3) := by decide +kernel
theorem dL_law_297 : decode cL_law 297 = .ok (.ifCond .eq 10, 3) := by decide +kernel
theorem dL_law_300 : decode cL_law 300 = .ok (.aload_n 1, 1) := by decide +kernel
theorem dL_law_301 : decode cL_law 301 = .ok (.invokestatic 52, 3) := by decide +kernel
theorem dL_law_304 : decode cL_law 304 = .ok (.ifCond .ne 5, 3) := by decide +kernel
theorem dL_law_307 : decode cL_law 307 = .ok (.iconst 0, 1) := by decide +kernel
theorem dL_law_308 : decode cL_law 308 = .ok (.ireturn, 1) := by decide +kernel
theorem dL_law_309 : decode cL_law 309 = .ok (.iinc 5 1, 3) := by decide +kernel
theorem dL_law_312 : decode cL_law 312 = .ok (.goto (-67), 3) := by decide +kernel
theorem dL_law_315 : decode cL_law 315 = .ok (.aload_n 1, 1) := by decide +kernel
theorem dL_law_316 : decode cL_law 316 = .ok (.aload_n 0, 1) := by decide +kernel
theorem dL_law_317 : decode cL_law 317 = .ok (.iload_n 2, 1) := by decide +kernel
theorem dL_law_318 : decode cL_law 318 = .ok (.iinc 2 1, 3) := by decide +kernel
theorem dL_law_321 : decode cL_law 321 = .ok (.invokestatic 12, 3) := by decide +kernel
theorem dL_law_324 : decode cL_law 324 = .ok (.aload_n 0, 1) := by decide +kernel
theorem dL_law_325 : decode cL_law 325 = .ok (.iload_n 2, 1) := by decide +kernel
theorem dL_law_326 : decode cL_law 326 = .ok (.iinc 2 1, 3) := by decide +kernel
theorem dL_law_329 : decode cL_law 329 = .ok (.invokestatic 12, 3) := by decide +kernel
theorem dL_law_332 : decode cL_law 332 = .ok (.invokestatic 40, 3) := by decide +kernel
theorem dL_law_335 : decode cL_law 335 = .ok (.ifCond .eq 66, 3) := by decide +kernel
theorem dL_law_338 : decode cL_law 338 = .ok (.aload_n 1, 1) := by decide +kernel
theorem dL_law_339 : decode cL_law 339 = .ok (.aload_n 0, 1) := by decide +kernel
theorem dL_law_340 : decode cL_law 340 = .ok (.iload_n 2, 1) := by decide +kernel
theorem dL_law_341 : decode cL_law 341 = .ok (.iinc 2 1, 3) := by decide +kernel
theorem dL_law_344 : decode cL_law 344 = .ok (.invokestatic 12, 3) := by decide +kernel
theorem dL_law_347 : decode cL_law 347 = .ok (.invokestatic 55, 3) := by decide +kernel
theorem dL_law_350 : decode cL_law 350 = .ok (.ifCond .eq 51, 3) := by decide +kernel
theorem dL_law_353 : decode cL_law 353 = .ok (.aload_n 1, 1) := by decide +kernel
theorem dL_law_354 : decode cL_law 354 = .ok (.aload_n 0, 1) := by decide +kernel
theorem dL_law_355 : decode cL_law 355 = .ok (.iload_n 2, 1) := by decide +kernel
theorem dL_law_356 : decode cL_law 356 = .ok (.iinc 2 1, 3) := by decide +kernel
theorem dL_law_359 : decode cL_law 359 = .ok (.invokestatic 12, 3) := by decide +kernel
theorem dL_law_362 : decode cL_law 362 = .ok (.invokestatic 58, 3) := by decide +kernel
theorem dL_law_365 : decode cL_law 365 = .ok (.ifCond .eq 36, 3) := by decide +kernel
theorem dL_law_368 : decode cL_law 368 = .ok (.aload_n 1, 1) := by decide +kernel
theorem dL_law_369 : decode cL_law 369 = .ok (.aload_n 0, 1) := by decide +kernel
theorem dL_law_370 : decode cL_law 370 = .ok (.iload_n 2, 1) := by decide +kernel
theorem dL_law_371 : decode cL_law 371 = .ok (.iinc 2 1, 3) := by decide +kernel
theorem dL_law_374 : decode cL_law 374 = .ok (.invokestatic 12, 3) := by decide +kernel
theorem dL_law_377 : decode cL_law 377 = .ok (.invokestatic 61, 3) := by decide +kernel
theorem dL_law_380 : decode cL_law 380 = .ok (.ifCond .eq 21, 3) := by decide +kernel
theorem dL_law_383 : decode cL_law 383 = .ok (.aload_n 1, 1) := by decide +kernel
theorem dL_law_384 : decode cL_law 384 = .ok (.invokestatic 48, 3) := by decide +kernel
theorem dL_law_387 : decode cL_law 387 = .ok (.ifCond .eq 14, 3) := by decide +kernel
theorem dL_law_390 : decode cL_law 390 = .ok (.aload_n 1, 1) := by decide +kernel
theorem dL_law_391 : decode cL_law 391 = .ok (.invokestatic 52, 3) := by decide +kernel
theorem dL_law_394 : decode cL_law 394 = .ok (.ifCond .eq 7, 3) := by decide +kernel
theorem dL_law_397 : decode cL_law 397 = .ok (.iconst 1, 1) := by decide +kernel
theorem dL_law_398 : decode cL_law 398 = .ok (.goto 4, 3) := by decide +kernel
theorem dL_law_401 : decode cL_law 401 = .ok (.iconst 0, 1) := by decide +kernel
theorem dL_law_402 : decode cL_law 402 = .ok (.ireturn, 1) := by decide +kernel
theorem dL_number_0 : decode cL_number 0 = .ok (.iload_n 1, 1) := by decide +kernel
theorem dL_number_1 : decode cL_number 1 = .ok (.bipush 99, 2) := by decide +kernel
theorem dL_number_3 : decode cL_number 3 = .ok (.if_icmp .le 16, 3) := by decide +kernel
theorem dL_number_6 : decode cL_number 6 = .ok (.aload_n 0, 1) := by decide +kernel
theorem dL_number_7 : decode cL_number 7 = .ok (.bipush 48, 2) := by decide +kernel
theorem dL_number_9 : decode cL_number 9 = .ok (.iload_n 1, 1) := by decide +kernel
theorem dL_number_10 : decode cL_number 10 = .ok (.bipush 100, 2) := by decide +kernel
theorem dL_number_12 : decode cL_number 12 = .ok (.idiv, 1) := by decide +kernel
theorem dL_number_13 : decode cL_number 13 = .ok (.iadd, 1) := by decide +kernel
theorem dL_number_14 : decode cL_number 14 = .ok (.i2l, 1) := by decide +kernel
theorem dL_number_15 : decode cL_number 15 = .ok (.invokevirtual 64, 3) := by decide +kernel
theorem dL_number_18 : decode cL_number 18 = .ok (.pop, 1) := by decide +kernel
theorem dL_number_19 : decode cL_number 19 = .ok (.iload_n 1, 1) := by decide +kernel
theorem dL_number_20 : decode cL_number 20 = .ok (.bipush 9, 2) := by decide +kernel
theorem dL_number_22 : decode cL_number 22 = .ok (.if_icmp .le 19, 3) := by decide +kernel
theorem dL_number_25 : decode cL_number 25 = .ok (.aload_n 0, 1) := by decide +kernel
theorem dL_number_26 : decode cL_number 26 = .ok (.bipush 48, 2) := by decide +kernel
theorem dL_number_28 : decode cL_number 28 = .ok (.iload_n 1, 1) := by decide +kernel
theorem dL_number_29 : decode cL_number 29 = .ok (.bipush 10, 2) := by decide +kernel
theorem dL_number_31 : decode cL_number 31 = .ok (.idiv, 1) := by decide +kernel
theorem dL_number_32 : decode cL_number 32 = .ok (.bipush 10, 2) := by decide +kernel
theorem dL_number_34 : decode cL_number 34 = .ok (.irem, 1) := by decide +kernel
theorem dL_number_35 : decode cL_number 35 = .ok (.iadd, 1) := by decide +kernel
theorem dL_number_36 : decode cL_number 36 = .ok (.i2l, 1) := by decide +kernel
theorem dL_number_37 : decode cL_number 37 = .ok (.invokevirtual 64, 3) := by decide +kernel
theorem dL_number_40 : decode cL_number 40 = .ok (.pop, 1) := by decide +kernel
theorem dL_number_41 : decode cL_number 41 = .ok (.aload_n 0, 1) := by decide +kernel
theorem dL_number_42 : decode cL_number 42 = .ok (.bipush 48, 2) := by decide +kernel
theorem dL_number_44 : decode cL_number 44 = .ok (.iload_n 1, 1) := by decide +kernel
theorem dL_number_45 : decode cL_number 45 = .ok (.bipush 10, 2) := by decide +kernel
theorem dL_number_47 : decode cL_number 47 = .ok (.irem, 1) := by decide +kernel
theorem dL_number_48 : decode cL_number 48 = .ok (.iadd, 1) := by decide +kernel
theorem dL_number_49 : decode cL_number 49 = .ok (.i2l, 1) := by decide +kernel
theorem dL_number_50 : decode cL_number 50 = .ok (.invokevirtual 64, 3) := by decide +kernel
theorem dL_number_53 : decode cL_number 53 = .ok (.pop, 1) := by decide +kernel
theorem dL_number_54 : decode cL_number 54 = .ok (.return_, 1) := by decide +kernel
theorem dL_adds_0 : decode cL_adds 0 = .ok (.aload_n 0, 1) := by decide +kernel
theorem dL_adds_1 : decode cL_adds 1 = .ok (.iconst 2, 1) := by decide +kernel
theorem dL_adds_2 : decode cL_adds 2 = .ok (.invokevirtual 68, 3) := by decide +kernel
theorem dL_adds_5 : decode cL_adds 5 = .ok (.istore_n 3, 1) := by decide +kernel
theorem dL_adds_6 : decode cL_adds 6 = .ok (.iconst 1, 1) := by decide +kernel
theorem dL_adds_7 : decode cL_adds 7 = .ok (.iload_n 1, 1) := by decide +kernel
theorem dL_adds_8 : decode cL_adds 8 = .ok (.bipush 20, 2) := by decide +kernel
theorem dL_adds_10 : decode cL_adds 10 = .ok (.invokestatic 22, 3) := by decide +kernel
theorem dL_adds_13 : decode cL_adds 13 = .ok (.iadd, 1) := by decide +kernel
theorem dL_adds_14 : decode cL_adds 14 = .ok (.istore 4, 2) := by decide +kernel
theorem dL_adds_16 : decode cL_adds 16 = .ok (.iload_n 2, 1) := by decide +kernel
theorem dL_adds_17 : decode cL_adds 17 = .ok (.iconst 5, 1) := by decide +kernel
theorem dL_adds_18 : decode cL_adds 18 = .ok (.invokestatic 22, 3) := by decide +kernel
theorem dL_adds_21 : decode cL_adds 21 = .ok (.istore 5, 2) := by decide +kernel
theorem dL_adds_23 : decode cL_adds 23 = .ok (.bipush 64, 2) := by decide +kernel
theorem dL_adds_25 : decode cL_adds 25 = .ok (.newarray .int, 2) := by decide +kernel
theorem dL_adds_27 : decode cL_adds 27 = .ok (.astore 6, 2) := by decide +kernel
theorem dL_adds_29 : decode cL_adds 29 = .ok (.aload_n 0, 1) := by decide +kernel
theorem dL_adds_30 : decode cL_adds 30 = .ok (.iload 4, 2) := by decide +kernel
theorem dL_adds_32 : decode cL_adds 32 = .ok (.invokestatic 71, 3) := by decide +kernel
theorem dL_adds_35 : decode cL_adds 35 = .ok (.aload_n 0, 1) := by decide +kernel
theorem dL_adds_36 : decode cL_adds 36 = .ok (.iconst 1, 1) := by decide +kernel
theorem dL_adds_37 : decode cL_adds 37 = .ok (.invokevirtual 68, 3) := by decide +kernel
theorem dL_adds_40 : decode cL_adds 40 = .ok (.iconst 1, 1) := by decide +kernel
theorem dL_adds_41 : decode cL_adds 41 = .ok (.isub, 1) := by decide +kernel
theorem dL_adds_42 : decode cL_adds 42 = .ok (.istore 7, 2) := by decide +kernel
theorem dL_adds_44 : decode cL_adds 44 = .ok (.iload 7, 2) := by decide +kernel
theorem dL_adds_46 : decode cL_adds 46 = .ok (.ifCond .lt 74, 3) := by decide +kernel
theorem dL_adds_49 : decode cL_adds 49 = .ok (.aload 6, 2) := by decide +kernel
theorem dL_adds_51 : decode cL_adds 51 = .ok (.iload 7, 2) := by decide +kernel
theorem dL_adds_53 : decode cL_adds 53 = .ok (.iload_n 1, 1) := by decide +kernel
theorem dL_adds_54 : decode cL_adds 54 = .ok (.iload 7, 2) := by decide +kernel
theorem dL_adds_56 : decode cL_adds 56 = .ok (.ishr, 1) := by decide +kernel
theorem dL_adds_57 : decode cL_adds 57 = .ok (.iconst 3, 1) := by decide +kernel
theorem dL_adds_58 : decode cL_adds 58 = .ok (.invokestatic 22, 3) := by decide +kernel
theorem dL_adds_61 : decode cL_adds 61 = .ok (.ifCond .ne 7, 3) := by decide +kernel
theorem dL_adds_64 : decode cL_adds 64 = .ok (.iconst 0, 1) := by decide +kernel
theorem dL_adds_65 : decode cL_adds 65 = .ok (.goto 17, 3) := by decide +kernel
theorem dL_adds_68 : decode cL_adds 68 = .ok (.iconst 1, 1) := by decide +kernel
theorem dL_adds_69 : decode cL_adds 69 = .ok (.iload_n 2, 1) := by decide +kernel
theorem dL_adds_70 : decode cL_adds 70 = .ok (.iconst 2, 1) := by decide +kernel
theorem dL_adds_71 : decode cL_adds 71 = .ok (.iload 7, 2) := by decide +kernel
theorem dL_adds_73 : decode cL_adds 73 = .ok (.imul, 1) := by decide +kernel
theorem dL_adds_74 : decode cL_adds 74 = .ok (.ishr, 1) := by decide +kernel
theorem dL_adds_75 : decode cL_adds 75 = .ok (.sipush 500, 3) := by decide +kernel
theorem dL_adds_78 : decode cL_adds 78 = .ok (.invokestatic 22, 3) := by decide +kernel
theorem dL_adds_81 : decode cL_adds 81 = .ok (.iadd, 1) := by decide +kernel
theorem dL_adds_82 : decode cL_adds 82 = .ok (.iastore, 1) := by decide +kernel
theorem dL_adds_83 : decode cL_adds 83 = .ok (.aload 6, 2) := by decide +kernel
theorem dL_adds_85 : decode cL_adds 85 = .ok (.iload 7, 2) := by decide +kernel
theorem dL_adds_87 : decode cL_adds 87 = .ok (.iaload, 1) := by decide +kernel
theorem dL_adds_88 : decode cL_adds 88 = .ok (.ifCond .ne 6, 3) := by decide +kernel
theorem dL_adds_91 : decode cL_adds 91 = .ok (.goto 23, 3) := by decide +kernel
theorem dL_adds_94 : decode cL_adds 94 = .ok (.aload_n 0, 1) := by decide +kernel
theorem dL_adds_95 : decode cL_adds 95 = .ok (.bipush 97, 2) := by decide +kernel
theorem dL_adds_97 : decode cL_adds 97 = .ok (.iload 7, 2) := by decide +kernel
theorem dL_adds_99 : decode cL_adds 99 = .ok (.iadd, 1) := by decide +kernel
theorem dL_adds_100 : decode cL_adds 100 = .ok (.i2l, 1) := by decide +kernel
theorem dL_adds_101 : decode cL_adds 101 = .ok (.invokevirtual 64, 3) := by decide +kernel
theorem dL_adds_104 : decode cL_adds 104 = .ok (.pop, 1) := by decide +kernel
theorem dL_adds_105 : decode cL_adds 105 = .ok (.aload_n 0, 1) := by decide +kernel
theorem dL_adds_106 : decode cL_adds 106 = .ok (.aload 6, 2) := by decide +kernel
theorem dL_adds_108 : decode cL_adds 108 = .ok (.iload 7, 2) := by decide +kernel
theorem dL_adds_110 : decode cL_adds 110 = .ok (.iaload, 1) := by decide +kernel
theorem dL_adds_111 : decode cL_adds 111 = .ok (.invokestatic 71, 3) := by decide +kernel
theorem dL_adds_114 : decode cL_adds 114 = .ok (.iinc 7 (-1), 3) := by decide +kernel
theorem dL_adds_117 : decode cL_adds 117 = .ok (.goto (-73), 3) := by decide +kernel
theorem dL_adds_120 : decode cL_adds 120 = .ok (.iconst 0, 1) := by decide +kernel
theorem dL_adds_121 : decode cL_adds 121 = .ok (.istore 7, 2) := by decide +kernel
theorem dL_adds_123 : decode cL_adds 123 = .ok (.iload 7, 2) := by decide +kernel
theorem dL_adds_125 : decode cL_adds 125 = .ok (.iload 5, 2) := by decide +kernel
theorem dL_adds_127 : decode cL_adds 127 = .ok (.if_icmp .ge 190, 3) := by decide +kernel
theorem dL_adds_130 : decode cL_adds 130 = .ok (.bipush 10, 2) := by decide +kernel
theorem dL_adds_132 : decode cL_adds 132 = .ok (.iconst 4, 1) := by decide +kernel
theorem dL_adds_133 : decode cL_adds 133 = .ok (.iload 7, 2) := by decide +kernel
theorem dL_adds_135 : decode cL_adds 135 = .ok (.imul, 1) := by decide +kernel
theorem dL_adds_136 : decode cL_adds 136 = .ok (.iadd, 1) := by decide +kernel
theorem dL_adds_137 : decode cL_adds 137 = .ok (.istore 8, 2) := by decide +kernel
theorem dL_adds_139 : decode cL_adds 139 = .ok (.aload 6, 2) := by decide +kernel
theorem dL_adds_141 : decode cL_adds 141 = .ok (.iload 8, 2) := by decide +kernel
theorem dL_adds_143 : decode cL_adds 143 = .ok (.iconst 1, 1) := by decide +kernel
theorem dL_adds_144 : decode cL_adds 144 = .ok (.iload_n 1, 1) := by decide +kernel
theorem dL_adds_145 : decode cL_adds 145 = .ok (.iconst 3, 1) := by decide +kernel
theorem dL_adds_146 : decode cL_adds 146 = .ok (.iload 7, 2) := by decide +kernel
theorem dL_adds_148 : decode cL_adds 148 = .ok (.imul, 1) := by decide +kernel
theorem dL_adds_149 : decode cL_adds 149 = .ok (.ishr, 1) := by decide +kernel
theorem dL_adds_150 : decode cL_adds 150 = .ok (.sipush 240, 3) := by decide +kernel
theorem dL_adds_153 : decode cL_adds 153 = .ok (.invokestatic 22, 3) := by decide +kernel
theorem dL_adds_156 : decode cL_adds 156 = .ok (.iadd, 1) := by decide +kernel
theorem dL_adds_157 : decode cL_adds 157 = .ok (.iastore, 1) := by decide +kernel
theorem dL_adds_158 : decode cL_adds 158 = .ok (.aload 6, 2) := by decide +kernel
theorem dL_adds_160 : decode cL_adds 160 = .ok (.iload 8, 2) := by decide +kernel
theorem dL_adds_162 : decode cL_adds 162 = .ok (.iconst 1, 1) := by decide +kernel
theorem dL_adds_163 : decode cL_adds 163 = .ok (.iadd, 1) := by decide +kernel
theorem dL_adds_164 : decode cL_adds 164 = .ok (.iload_n 2, 1) := by decide +kernel
theorem dL_adds_165 : decode cL_adds 165 = .ok (.iconst 4, 1) := by decide +kernel
theorem dL_adds_166 : decode cL_adds 166 = .ok (.iload 7, 2) := by decide +kernel
theorem dL_adds_168 : decode cL_adds 168 = .ok (.imul, 1) := by decide +kernel
theorem dL_adds_169 : decode cL_adds 169 = .ok (.ishr, 1) := by decide +kernel
theorem dL_adds_170 : decode cL_adds 170 = .ok (.iconst 4, 1) := by decide +kernel
theorem dL_adds_171 : decode cL_adds 171 = .ok (.invokestatic 22, 3) := by decide +kernel
theorem dL_adds_174 : decode cL_adds 174 = .ok (.iastore, 1) := by decide +kernel
theorem dL_adds_175 : decode cL_adds 175 = .ok (.aload_n 0, 1) := by decide +kernel
theorem dL_adds_176 : decode cL_adds 176 = .ok (.ldc2_w 75, 3) := by decide +kernel
theorem dL_adds_179 : decode cL_adds 179 = .ok (.invokevirtual 64, 3) := by decide +kernel
theorem dL_adds_182 : decode cL_adds 182 = .ok (.pop, 1) := by decide +kernel
theorem dL_adds_183 : decode cL_adds 183 = .ok (.aload_n 0, 1) := by decide +kernel
theorem dL_adds_184 : decode cL_adds 184 = .ok (.aload 6, 2) := by decide +kernel
theorem dL_adds_186 : decode cL_adds 186 = .ok (.iload 8, 2) := by decide +kernel
theorem dL_adds_188 : decode cL_adds 188 = .ok (.iaload, 1) := by decide +kernel
theorem dL_adds_189 : decode cL_adds 189 = .ok (.invokestatic 71, 3) := by decide +kernel
theorem dL_adds_192 : decode cL_adds 192 = .ok (.aload_n 0, 1) := by decide +kernel
theorem dL_adds_193 : decode cL_adds 193 = .ok (.ldc2_w 77, 3) := by decide +kernel
theorem dL_adds_196 : decode cL_adds 196 = .ok (.bipush 48, 2) := by decide +kernel
theorem dL_adds_198 : decode cL_adds 198 = .ok (.aload 6, 2) := by decide +kernel
theorem dL_adds_200 : decode cL_adds 200 = .ok (.iload 8, 2) := by decide +kernel
theorem dL_adds_202 : decode cL_adds 202 = .ok (.iconst 1, 1) := by decide +kernel
theorem dL_adds_203 : decode cL_adds 203 = .ok (.iadd, 1) := by decide +kernel
theorem dL_adds_204 : decode cL_adds 204 = .ok (.iaload, 1) := by decide +kernel
theorem dL_adds_205 : decode cL_adds 205 = .ok (.iadd, 1) := by decide +kernel
theorem dL_adds_206 : decode cL_adds 206 = .ok (.i2l, 1) := by decide +kernel
theorem dL_adds_207 : decode cL_adds 207 = .ok (.lor, 1) := by decide +kernel
theorem dL_adds_208 : decode cL_adds 208 = .ok (.invokevirtual 64, 3) := by decide +kernel
theorem dL_adds_211 : decode cL_adds 211 = .ok (.pop, 1) := by decide +kernel
theorem dL_adds_212 : decode cL_adds 212 = .ok (.aload 6, 2) := by decide +kernel
theorem dL_adds_214 : decode cL_adds 214 = .ok (.iload 8, 2) := by decide +kernel
theorem dL_adds_216 : decode cL_adds 216 = .ok (.iconst 3, 1) := by decide +kernel
theorem dL_adds_217 : decode cL_adds 217 = .ok (.iadd, 1) := by decide +kernel
theorem dL_adds_218 : decode cL_adds 218 = .ok (.iload_n 1, 1) := by decide +kernel
theorem dL_adds_219 : decode cL_adds 219 = .ok (.iconst 2, 1) := by decide +kernel
theorem dL_adds_220 : decode cL_adds 220 = .ok (.iload 7, 2) := by decide +kernel
theorem dL_adds_222 : decode cL_adds 222 = .ok (.imul, 1) := by decide +kernel
theorem dL_adds_223 : decode cL_adds 223 = .ok (.iconst 5, 1) := by decide +kernel
theorem dL_adds_224 : decode cL_adds 224 = .ok (.iadd, 1) := by decide +kernel
theorem dL_adds_225 : decode cL_adds 225 = .ok (.ishr, 1) := by decide +kernel
theorem dL_adds_226 : decode cL_adds 226 = .ok (.iconst 2, 1) := by decide +kernel
theorem dL_adds_227 : decode cL_adds 227 = .ok (.invokestatic 22, 3) := by decide +kernel
theorem dL_adds_230 : decode cL_adds 230 = .ok (.iastore, 1) := by decide +kernel
theorem dL_adds_231 : decode cL_adds 231 = .ok (.aload 6, 2) := by decide +kernel
theorem dL_adds_233 : decode cL_adds 233 = .ok (.iload 8, 2) := by decide +kernel
theorem dL_adds_235 : decode cL_adds 235 = .ok (.iconst 3, 1) := by decide +kernel
theorem dL_adds_236 : decode cL_adds 236 = .ok (.iadd, 1) := by decide +kernel
theorem dL_adds_237 : decode cL_adds 237 = .ok (.iaload, 1) := by decide +kernel
theorem dL_adds_238 : decode cL_adds 238 = .ok (.iconst 1, 1) := by decide +kernel
theorem dL_adds_239 : decode cL_adds 239 = .ok (.if_icmp .ne 11, 3) := by decide +kernel
theorem dL_adds_242 : decode cL_adds 242 = .ok (.aload_n 0, 1) := by decide +kernel
theorem dL_adds_243 : decode cL_adds 243 = .ok (.ldc2_w 79, 3) := by decide +kernel
theorem dL_adds_246 : decode cL_adds 246 = .ok (.invokevirtual 64, 3) := by decide +kernel
theorem dL_adds_249 : decode cL_adds 249 = .ok (.pop, 1) := by decide +kernel
theorem dL_adds_250 : decode cL_adds 250 = .ok (.iload 7, 2) := by decide +kernel
theorem dL_adds_252 : decode cL_adds 252 = .ok (.iconst 1, 1) := by decide +kernel
theorem dL_adds_253 : decode cL_adds 253 = .ok (.isub, 1) := by decide +kernel
theorem dL_adds_254 : decode cL_adds 254 = .ok (.istore 9, 2) := by decide +kernel
theorem dL_adds_256 : decode cL_adds 256 = .ok (.iload 9, 2) := by decide +kernel
theorem dL_adds_258 : decode cL_adds 258 = .ok (.ifCond .lt 53, 3) := by decide +kernel
theorem dL_adds_261 : decode cL_adds 261 = .ok (.iload_n 2, 1) := by decide +kernel
theorem dL_adds_262 : decode cL_adds 262 = .ok (.iconst 5, 1) := by decide +kernel
theorem dL_adds_263 : decode cL_adds 263 = .ok (.iload 7, 2) := by decide +kernel
theorem dL_adds_265 : decode cL_adds 265 = .ok (.imul, 1) := by decide +kernel
theorem dL_adds_266 : decode cL_adds 266 = .ok (.iload 9, 2) := by decide +kernel
theorem dL_adds_268 : decode cL_adds 268 = .ok (.iadd, 1) := by decide +kernel
theorem dL_adds_269 : decode cL_adds 269 = .ok (.ishr, 1) := by decide +kernel
theorem dL_adds_270 : decode cL_adds 270 = .ok (.iconst 1, 1) := by decide +kernel
theorem dL_adds_271 : decode cL_adds 271 = .ok (.iand, 1) := by decide +kernel
theorem dL_adds_272 : decode cL_adds 272 = .ok (.iconst 1, 1) := by decide +kernel
theorem dL_adds_273 : decode cL_adds 273 = .ok (.if_icmp .ne 32, 3) := by decide +kernel
theorem dL_adds_276 : decode cL_adds 276 = .ok (.aload 6, 2) := by decide +kernel
theorem dL_adds_278 : decode cL_adds 278 = .ok (.iload 8, 2) := by decide +kernel
theorem dL_adds_280 : decode cL_adds 280 = .ok (.iconst 2, 1) := by decide +kernel
theorem dL_adds_281 : decode cL_adds 281 = .ok (.iadd, 1) := by decide +kernel
theorem dL_adds_282 : decode cL_adds 282 = .ok (.dup2, 1) := by decide +kernel
theorem dL_adds_283 : decode cL_adds 283 = .ok (.iaload, 1) := by decide +kernel
theorem dL_adds_284 : decode cL_adds 284 = .ok (.iconst 1, 1) := by decide +kernel
theorem dL_adds_285 : decode cL_adds 285 = .ok (.iload 9, 2) := by decide +kernel
theorem dL_adds_287 : decode cL_adds 287 = .ok (.ishl, 1) := by decide +kernel
theorem dL_adds_288 : decode cL_adds 288 = .ok (.ior, 1) := by decide +kernel
theorem dL_adds_289 : decode cL_adds 289 = .ok (.iastore, 1) := by decide +kernel
theorem dL_adds_290 : decode cL_adds 290 = .ok (.aload_n 0, 1) := by decide +kernel
theorem dL_adds_291 : decode cL_adds 291 = .ok (.ldc2_w 81, 3) := by decide +kernel
theorem dL_adds_294 : decode cL_adds 294 = .ok (.bipush 48, 2) := by decide +kernel
theorem dL_adds_296 : decode cL_adds 296 = .ok (.iload 9, 2) := by decide +kernel
theorem dL_adds_298 : decode cL_adds 298 = .ok (.iadd, 1) := by decide +kernel
theorem dL_adds_299 : decode cL_adds 299 = .ok (.i2l, 1) := by decide +kernel
theorem dL_adds_300 : decode cL_adds 300 = .ok (.lor, 1) := by decide +kernel
theorem dL_adds_301 : decode cL_adds 301 = .ok (.invokevirtual 64, 3) := by decide +kernel
theorem dL_adds_304 : decode cL_adds 304 = .ok (.pop, 1) := by decide +kernel
theorem dL_adds_305 : decode cL_adds 305 = .ok (.iinc 9 (-1), 3) := by decide +kernel
theorem dL_adds_308 : decode cL_adds 308 = .ok (.goto (-52), 3) := by decide +kernel
theorem dL_adds_311 : decode cL_adds 311 = .ok (.iinc 7 1, 3) := by decide +kernel
theorem dL_adds_314 : decode cL_adds 314 = .ok (.goto (-191), 3) := by decide +kernel
theorem dL_adds_317 : decode cL_adds 317 = .ok (.aload_n 0, 1) := by decide +kernel
theorem dL_adds_318 : decode cL_adds 318 = .ok (.invokevirtual 83, 3) := by decide +kernel
theorem dL_adds_321 : decode cL_adds 321 = .ok (.bipush (-6), 2) := by decide +kernel
theorem dL_adds_323 : decode cL_adds 323 = .ok (.if_icmp .ne 62, 3) := by decide +kernel
theorem dL_adds_326 : decode cL_adds 326 = .ok (.aload_n 0, 1) := by decide +kernel
theorem dL_adds_327 : decode cL_adds 327 = .ok (.invokevirtual 87, 3) := by decide +kernel
theorem dL_adds_330 : decode cL_adds 330 = .ok (.iload_n 3, 1) := by decide +kernel
theorem dL_adds_331 : decode cL_adds 331 = .ok (.if_icmp .ne 54, 3) := by decide +kernel
theorem dL_adds_334 : decode cL_adds 334 = .ok (.aload_n 0, 1) := by decide +kernel
theorem dL_adds_335 : decode cL_adds 335 = .ok (.iconst 2, 1) := by decide +kernel
theorem dL_adds_336 : decode cL_adds 336 = .ok (.invokevirtual 68, 3) := by decide +kernel
theorem dL_adds_339 : decode cL_adds 339 = .ok (.iload_n 3, 1) := by decide +kernel
theorem dL_adds_340 : decode cL_adds 340 = .ok (.iconst 1, 1) := by decide +kernel
theorem dL_adds_341 : decode cL_adds 341 = .ok (.iadd, 1) := by decide +kernel
theorem dL_adds_342 : decode cL_adds 342 = .ok (.if_icmp .ne 43, 3) := by decide +kernel
theorem dL_adds_345 : decode cL_adds 345 = .ok (.aload_n 0, 1) := by decide +kernel
theorem dL_adds_346 : decode cL_adds 346 = .ok (.bipush 13, 2) := by decide +kernel
theorem dL_adds_348 : decode cL_adds 348 = .ok (.invokevirtual 68, 3) := by decide +kernel
theorem dL_adds_351 : decode cL_adds 351 = .ok (.ifCond .ne 34, 3) := by decide +kernel
theorem dL_adds_354 : decode cL_adds 354 = .ok (.aload_n 0, 1) := by decide +kernel
theorem dL_adds_355 : decode cL_adds 355 = .ok (.iload_n 3, 1) := by decide +kernel
theorem dL_adds_356 : decode cL_adds 356 = .ok (.iconst 0, 1) := by decide +kernel
theorem dL_adds_357 : decode cL_adds 357 = .ok (.invokevirtual 90, 3) := by decide +kernel
theorem dL_adds_360 : decode cL_adds 360 = .ok (.iload 4, 2) := by decide +kernel
theorem dL_adds_362 : decode cL_adds 362 = .ok (.if_icmp .ne 23, 3) := by decide +kernel
theorem dL_adds_365 : decode cL_adds 365 = .ok (.aload_n 0, 1) := by decide +kernel
theorem dL_adds_366 : decode cL_adds 366 = .ok (.iload_n 3, 1) := by decide +kernel
theorem dL_adds_367 : decode cL_adds 367 = .ok (.iconst 1, 1) := by decide +kernel
theorem dL_adds_368 : decode cL_adds 368 = .ok (.invokevirtual 90, 3) := by decide +kernel
theorem dL_adds_371 : decode cL_adds 371 = .ok (.iload 5, 2) := by decide +kernel
theorem dL_adds_373 : decode cL_adds 373 = .ok (.if_icmp .ne 12, 3) := by decide +kernel
theorem dL_adds_376 : decode cL_adds 376 = .ok (.aload_n 0, 1) := by decide +kernel
theorem dL_adds_377 : decode cL_adds 377 = .ok (.iload_n 3, 1) := by decide +kernel
theorem dL_adds_378 : decode cL_adds 378 = .ok (.iconst 2, 1) := by decide +kernel
theorem dL_adds_379 : decode cL_adds 379 = .ok (.invokevirtual 90, 3) := by decide +kernel
theorem dL_adds_382 : decode cL_adds 382 = .ok (.ifCond .eq 5, 3) := by decide +kernel
theorem dL_adds_385 : decode cL_adds 385 = .ok (.iconst 0, 1) := by decide +kernel
theorem dL_adds_386 : decode cL_adds 386 = .ok (.ireturn, 1) := by decide +kernel
theorem dL_adds_387 : decode cL_adds 387 = .ok (.iconst 0, 1) := by decide +kernel
theorem dL_adds_388 : decode cL_adds 388 = .ok (.istore 7, 2) := by decide +kernel
theorem dL_adds_390 : decode cL_adds 390 = .ok (.iload 7, 2) := by decide +kernel
theorem dL_adds_392 : decode cL_adds 392 = .ok (.bipush 8, 2) := by decide +kernel
theorem dL_adds_394 : decode cL_adds 394 = .ok (.if_icmp .ge 28, 3) := by decide +kernel
theorem dL_adds_397 : decode cL_adds 397 = .ok (.aload_n 0, 1) := by decide +kernel
theorem dL_adds_398 : decode cL_adds 398 = .ok (.iload_n 3, 1) := by decide +kernel
theorem dL_adds_399 : decode cL_adds 399 = .ok (.iconst 3, 1) := by decide +kernel
theorem dL_adds_400 : decode cL_adds 400 = .ok (.iload 7, 2) := by decide +kernel
theorem dL_adds_402 : decode cL_adds 402 = .ok (.iadd, 1) := by decide +kernel
theorem dL_adds_403 : decode cL_adds 403 = .ok (.invokevirtual 90, 3) := by decide +kernel
theorem dL_adds_406 : decode cL_adds 406 = .ok (.aload 6, 2) := by decide +kernel
theorem dL_adds_408 : decode cL_adds 408 = .ok (.iload 7, 2) := by decide +kernel
theorem dL_adds_410 : decode cL_adds 410 = .ok (.iaload, 1) := by decide +kernel
theorem dL_adds_411 : decode cL_adds 411 = .ok (.if_icmp .eq 5, 3) := by decide +kernel
theorem dL_adds_414 : decode cL_adds 414 = .ok (.iconst 0, 1) := by decide +kernel
theorem dL_adds_415 : decode cL_adds 415 = .ok (.ireturn, 1) := by decide +kernel
theorem dL_adds_416 : decode cL_adds 416 = .ok (.iinc 7 1, 3) := by decide +kernel
theorem dL_adds_419 : decode cL_adds 419 = .ok (.goto (-29), 3) := by decide +kernel
theorem dL_adds_422 : decode cL_adds 422 = .ok (.iconst 0, 1) := by decide +kernel
theorem dL_adds_423 : decode cL_adds 423 = .ok (.istore 7, 2) := by decide +kernel
theorem dL_adds_425 : decode cL_adds 425 = .ok (.iload 7, 2) := by decide +kernel
theorem dL_adds_427 : decode cL_adds 427 = .ok (.iload 5, 2) := by decide +kernel
theorem dL_adds_429 : decode cL_adds 429 = .ok (.if_icmp .ge 51, 3) := by decide +kernel
theorem dL_adds_432 : decode cL_adds 432 = .ok (.iconst 0, 1) := by decide +kernel
theorem dL_adds_433 : decode cL_adds 433 = .ok (.istore 8, 2) := by decide +kernel
theorem dL_adds_435 : decode cL_adds 435 = .ok (.iload 8, 2) := by decide +kernel
theorem dL_adds_437 : decode cL_adds 437 = .ok (.iconst 4, 1) := by decide +kernel
theorem dL_adds_438 : decode cL_adds 438 = .ok (.if_icmp .ge 36, 3) := by decide +kernel
theorem dL_adds_441 : decode cL_adds 441 = .ok (.aload_n 0, 1) := by decide +kernel
theorem dL_adds_442 : decode cL_adds 442 = .ok (.iload_n 3, 1) := by decide +kernel
theorem dL_adds_443 : decode cL_adds 443 = .ok (.iload 7, 2) := by decide +kernel
theorem dL_adds_445 : decode cL_adds 445 = .ok (.iload 8, 2) := by decide +kernel
theorem dL_adds_447 : decode cL_adds 447 = .ok (.invokevirtual 93, 3) := by decide +kernel
theorem dL_adds_450 : decode cL_adds 450 = .ok (.aload 6, 2) := by decide +kernel
theorem dL_adds_452 : decode cL_adds 452 = .ok (.bipush 10, 2) := by decide +kernel
theorem dL_adds_454 : decode cL_adds 454 = .ok (.iconst 4, 1) := by decide +kernel
theorem dL_adds_455 : decode cL_adds 455 = .ok (.iload 7, 2) := by decide +kernel
theorem dL_adds_457 : decode cL_adds 457 = .ok (.imul, 1) := by decide +kernel
theorem dL_adds_458 : decode cL_adds 458 = .ok (.iadd, 1) := by decide +kernel
theorem dL_adds_459 : decode cL_adds 459 = .ok (.iload 8, 2) := by decide +kernel
theorem dL_adds_461 : decode cL_adds 461 = .ok (.iadd, 1) := by decide +kernel
theorem dL_adds_462 : decode cL_adds 462 = .ok (.iaload, 1) := by decide +kernel
theorem dL_adds_463 : decode cL_adds 463 = .ok (.if_icmp .eq 5, 3) := by decide +kernel
theorem dL_adds_466 : decode cL_adds 466 = .ok (.iconst 0, 1) := by decide +kernel
theorem dL_adds_467 : decode cL_adds 467 = .ok (.ireturn, 1) := by decide +kernel
theorem dL_adds_468 : decode cL_adds 468 = .ok (.iinc 8 1, 3) := by decide +kernel
theorem dL_adds_471 : decode cL_adds 471 = .ok (.goto (-36), 3) := by decide +kernel
theorem dL_adds_474 : decode cL_adds 474 = .ok (.iinc 7 1, 3) := by decide +kernel
theorem dL_adds_477 : decode cL_adds 477 = .ok (.goto (-52), 3) := by decide +kernel
theorem dL_adds_480 : decode cL_adds 480 = .ok (.iconst 1, 1) := by decide +kernel
theorem dL_adds_481 : decode cL_adds 481 = .ok (.ireturn, 1) := by decide +kernel
theorem dL_act_0 : decode cL_act 0 = .ok (.iload_n 2, 1) := by decide +kernel
theorem dL_act_1 : decode cL_act 1 = .ok (.aload_n 0, 1) := by decide +kernel
theorem dL_act_2 : decode cL_act 2 = .ok (.iconst 1, 1) := by decide +kernel
theorem dL_act_3 : decode cL_act 3 = .ok (.invokevirtual 68, 3) := by decide +kernel
theorem dL_act_6 : decode cL_act 6 = .ok (.invokestatic 22, 3) := by decide +kernel
theorem dL_act_9 : decode cL_act 9 = .ok (.istore 4, 2) := by decide +kernel
theorem dL_act_11 : decode cL_act 11 = .ok (.iload_n 2, 1) := by decide +kernel
theorem dL_act_12 : decode cL_act 12 = .ok (.iconst 3, 1) := by decide +kernel
theorem dL_act_13 : decode cL_act 13 = .ok (.ishr, 1) := by decide +kernel
theorem dL_act_14 : decode cL_act 14 = .ok (.aload_n 0, 1) := by decide +kernel
theorem dL_act_15 : decode cL_act 15 = .ok (.iconst 2, 1) := by decide +kernel
theorem dL_act_16 : decode cL_act 16 = .ok (.invokevirtual 68, 3) := by decide +kernel
theorem dL_act_19 : decode cL_act 19 = .ok (.invokestatic 22, 3) := by decide +kernel
theorem dL_act_22 : decode cL_act 22 = .ok (.istore 5, 2) := by decide +kernel
theorem dL_act_24 : decode cL_act 24 = .ok (.iload_n 1, 1) := by decide +kernel
theorem dL_act_25 : decode cL_act 25 = .ok (.bipush 8, 2) := by decide +kernel
theorem dL_act_27 : decode cL_act 27 = .ok (.invokestatic 22, 3) := by decide +kernel
theorem dL_act_30 : decode cL_act 30 = .ok (.tableswitch 454 0 4 #[34, 129, 134, 313, 371], 34) := by decide +kernel
theorem dL_act_64 : decode cL_act 64 = .ok (.aload_n 0, 1) := by decide +kernel
theorem dL_act_65 : decode cL_act 65 = .ok (.iload 4, 2) := by decide +kernel
theorem dL_act_67 : decode cL_act 67 = .ok (.iconst 5, 1) := by decide +kernel
theorem dL_act_68 : decode cL_act 68 = .ok (.invokevirtual 96, 3) := by decide +kernel
theorem dL_act_71 : decode cL_act 71 = .ok (.istore 6, 2) := by decide +kernel
theorem dL_act_73 : decode cL_act 73 = .ok (.aload_n 0, 1) := by decide +kernel
theorem dL_act_74 : decode cL_act 74 = .ok (.iload 4, 2) := by decide +kernel
theorem dL_act_76 : decode cL_act 76 = .ok (.iconst 1, 1) := by decide +kernel
theorem dL_act_77 : decode cL_act 77 = .ok (.iload_n 3, 1) := by decide +kernel
theorem dL_act_78 : decode cL_act 78 = .ok (.sipush 3000, 3) := by decide +kernel
theorem dL_act_81 : decode cL_act 81 = .ok (.invokestatic 22, 3) := by decide +kernel
theorem dL_act_84 : decode cL_act 84 = .ok (.iadd, 1) := by decide +kernel
theorem dL_act_85 : decode cL_act 85 = .ok (.invokevirtual 99, 3) := by decide +kernel
theorem dL_act_88 : decode cL_act 88 = .ok (.istore 7, 2) := by decide +kernel
theorem dL_act_90 : decode cL_act 90 = .ok (.iload 7, 2) := by decide +kernel
theorem dL_act_92 : decode cL_act 92 = .ok (.bipush (-5), 2) := by decide +kernel
theorem dL_act_94 : decode cL_act 94 = .ok (.if_icmp .ne 30, 3) := by decide +kernel
theorem dL_act_97 : decode cL_act 97 = .ok (.iload 6, 2) := by decide +kernel
theorem dL_act_99 : decode cL_act 99 = .ok (.ldc 102, 2) := by decide +kernel
theorem dL_act_101 : decode cL_act 101 = .ok (.if_icmp .le 19, 3) := by decide +kernel
theorem dL_act_104 : decode cL_act 104 = .ok (.aload_n 0, 1) := by decide +kernel
theorem dL_act_105 : decode cL_act 105 = .ok (.iload 4, 2) := by decide +kernel
theorem dL_act_107 : decode cL_act 107 = .ok (.iconst 5, 1) := by decide +kernel
theorem dL_act_108 : decode cL_act 108 = .ok (.invokevirtual 96, 3) := by decide +kernel
theorem dL_act_111 : decode cL_act 111 = .ok (.iload 6, 2) := by decide +kernel
theorem dL_act_113 : decode cL_act 113 = .ok (.if_icmp .ne 7, 3) := by decide +kernel
theorem dL_act_116 : decode cL_act 116 = .ok (.iconst 1, 1) := by decide +kernel
theorem dL_act_117 : decode cL_act 117 = .ok (.goto 41, 3) := by decide +kernel
theorem dL_act_120 : decode cL_act 120 = .ok (.iconst 0, 1) := by decide +kernel
theorem dL_act_121 : decode cL_act 121 = .ok (.goto 37, 3) := by decide +kernel
theorem dL_act_124 : decode cL_act 124 = .ok (.iload 7, 2) := by decide +kernel
theorem dL_act_126 : decode cL_act 126 = .ok (.iload 6, 2) := by decide +kernel
theorem dL_act_128 : decode cL_act 128 = .ok (.iconst 1, 1) := by decide +kernel
theorem dL_act_129 : decode cL_act 129 = .ok (.iadd, 1) := by decide +kernel
theorem dL_act_130 : decode cL_act 130 = .ok (.iload_n 3, 1) := by decide +kernel
theorem dL_act_131 : decode cL_act 131 = .ok (.sipush 3000, 3) := by decide +kernel
theorem dL_act_134 : decode cL_act 134 = .ok (.invokestatic 22, 3) := by decide +kernel
theorem dL_act_137 : decode cL_act 137 = .ok (.iadd, 1) := by decide +kernel
theorem dL_act_138 : decode cL_act 138 = .ok (.if_icmp .ne 19, 3) := by decide +kernel
theorem dL_act_141 : decode cL_act 141 = .ok (.aload_n 0, 1) := by decide +kernel
theorem dL_act_142 : decode cL_act 142 = .ok (.iload 4, 2) := by decide +kernel
theorem dL_act_144 : decode cL_act 144 = .ok (.iconst 5, 1) := by decide +kernel
theorem dL_act_145 : decode cL_act 145 = .ok (.invokevirtual 96, 3) := by decide +kernel
theorem dL_act_148 : decode cL_act 148 = .ok (.iload 7, 2) := by decide +kernel
theorem dL_act_150 : decode cL_act 150 = .ok (.if_icmp .ne 7, 3) := by decide +kernel
theorem dL_act_153 : decode cL_act 153 = .ok (.iconst 1, 1) := by decide +kernel
theorem dL_act_154 : decode cL_act 154 = .ok (.goto 4, 3) := by decide +kernel
theorem dL_act_157 : decode cL_act 157 = .ok (.iconst 0, 1) := by decide +kernel
theorem dL_act_158 : decode cL_act 158 = .ok (.ireturn, 1) := by decide +kernel
theorem dL_act_159 : decode cL_act 159 = .ok (.aload_n 0, 1) := by decide +kernel
theorem dL_act_160 : decode cL_act 160 = .ok (.invokestatic 103, 3) := by decide +kernel
theorem dL_act_163 : decode cL_act 163 = .ok (.ireturn, 1) := by decide +kernel
theorem dL_act_164 : decode cL_act 164 = .ok (.iconst 1, 1) := by decide +kernel
theorem dL_act_165 : decode cL_act 165 = .ok (.iload_n 3, 1) := by decide +kernel
theorem dL_act_166 : decode cL_act 166 = .ok (.iconst 4, 1) := by decide +kernel
theorem dL_act_167 : decode cL_act 167 = .ok (.invokestatic 22, 3) := by decide +kernel
theorem dL_act_170 : decode cL_act 170 = .ok (.iadd, 1) := by decide +kernel
theorem dL_act_171 : decode cL_act 171 = .ok (.istore 6, 2) := by decide +kernel
theorem dL_act_173 : decode cL_act 173 = .ok (.aload_n 0, 1) := by decide +kernel
theorem dL_act_174 : decode cL_act 174 = .ok (.iconst 0, 1) := by decide +kernel
theorem dL_act_175 : decode cL_act 175 = .ok (.invokevirtual 68, 3) := by decide +kernel
theorem dL_act_178 : decode cL_act 178 = .ok (.istore 7, 2) := by decide +kernel
theorem dL_act_180 : decode cL_act 180 = .ok (.iconst 0, 1) := by decide +kernel
theorem dL_act_181 : decode cL_act 181 = .ok (.istore 8, 2) := by decide +kernel
theorem dL_act_183 : decode cL_act 183 = .ok (.iconst 0, 1) := by decide +kernel
theorem dL_act_184 : decode cL_act 184 = .ok (.istore 9, 2) := by decide +kernel
theorem dL_act_186 : decode cL_act 186 = .ok (.iload 9, 2) := by decide +kernel
theorem dL_act_188 : decode cL_act 188 = .ok (.aload_n 0, 1) := by decide +kernel
theorem dL_act_189 : decode cL_act 189 = .ok (.iconst 1, 1) := by decide +kernel
theorem dL_act_190 : decode cL_act 190 = .ok (.invokevirtual 68, 3) := by decide +kernel
theorem dL_act_193 : decode cL_act 193 = .ok (.if_icmp .ge 21, 3) := by decide +kernel
theorem dL_act_196 : decode cL_act 196 = .ok (.iload 8, 2) := by decide +kernel
theorem dL_act_198 : decode cL_act 198 = .ok (.aload_n 0, 1) := by decide +kernel
theorem dL_act_199 : decode cL_act 199 = .ok (.iload 9, 2) := by decide +kernel
theorem dL_act_201 : decode cL_act 201 = .ok (.iconst 5, 1) := by decide +kernel
theorem dL_act_202 : decode cL_act 202 = .ok (.invokevirtual 96, 3) := by decide +kernel
theorem dL_act_205 : decode cL_act 205 = .ok (.iadd, 1) := by decide +kernel
theorem dL_act_206 : decode cL_act 206 = .ok (.istore 8, 2) := by decide +kernel
theorem dL_act_208 : decode cL_act 208 = .ok (.iinc 9 1, 3) := by decide +kernel
theorem dL_act_211 : decode cL_act 211 = .ok (.goto (-25), 3) := by decide +kernel
theorem dL_act_214 : decode cL_act 214 = .ok (.aload_n 0, 1) := by decide +kernel
theorem dL_act_215 : decode cL_act 215 = .ok (.iload 6, 2) := by decide +kernel
theorem dL_act_217 : decode cL_act 217 = .ok (.invokevirtual 106, 3) := by decide +kernel
theorem dL_act_220 : decode cL_act 220 = .ok (.istore 9, 2) := by decide +kernel
theorem dL_act_222 : decode cL_act 222 = .ok (.iconst 0, 1) := by decide +kernel
theorem dL_act_223 : decode cL_act 223 = .ok (.istore 10, 2) := by decide +kernel
theorem dL_act_225 : decode cL_act 225 = .ok (.iconst 0, 1) := by decide +kernel
theorem dL_act_226 : decode cL_act 226 = .ok (.istore 11, 2) := by decide +kernel
theorem dL_act_228 : decode cL_act 228 = .ok (.iload 11, 2) := by decide +kernel
theorem dL_act_230 : decode cL_act 230 = .ok (.aload_n 0, 1) := by decide +kernel
theorem dL_act_231 : decode cL_act 231 = .ok (.iconst 1, 1) := by decide +kernel
theorem dL_act_232 : decode cL_act 232 = .ok (.invokevirtual 68, 3) := by decide +kernel
theorem dL_act_235 : decode cL_act 235 = .ok (.if_icmp .ge 74, 3) := by decide +kernel
theorem dL_act_238 : decode cL_act 238 = .ok (.iload 10, 2) := by decide +kernel
theorem dL_act_240 : decode cL_act 240 = .ok (.aload_n 0, 1) := by decide +kernel
theorem dL_act_241 : decode cL_act 241 = .ok (.iload 11, 2) := by decide +kernel
theorem dL_act_243 : decode cL_act 243 = .ok (.iconst 5, 1) := by decide +kernel
theorem dL_act_244 : decode cL_act 244 = .ok (.invokevirtual 96, 3) := by decide +kernel
theorem dL_act_247 : decode cL_act 247 = .ok (.iadd, 1) := by decide +kernel
theorem dL_act_248 : decode cL_act 248 = .ok (.istore 10, 2) := by decide +kernel
theorem dL_act_250 : decode cL_act 250 = .ok (.aload_n 0, 1) := by decide +kernel
theorem dL_act_251 : decode cL_act 251 = .ok (.iload 11, 2) := by decide +kernel
theorem dL_act_253 : decode cL_act 253 = .ok (.bipush 6, 2) := by decide +kernel
theorem dL_act_255 : decode cL_act 255 = .ok (.invokevirtual 96, 3) := by decide +kernel
theorem dL_act_258 : decode cL_act 258 = .ok (.ifCond .le 45, 3) := by decide +kernel
theorem dL_act_261 : decode cL_act 261 = .ok (.aload_n 0, 1) := by decide +kernel
theorem dL_act_262 : decode cL_act 262 = .ok (.iload 11, 2) := by decide +kernel
theorem dL_act_264 : decode cL_act 264 = .ok (.bipush 7, 2) := by decide +kernel
theorem dL_act_266 : decode cL_act 266 = .ok (.invokevirtual 96, 3) := by decide +kernel
theorem dL_act_269 : decode cL_act 269 = .ok (.aload_n 0, 1) := by decide +kernel
theorem dL_act_270 : decode cL_act 270 = .ok (.iconst 0, 1) := by decide +kernel
theorem dL_act_271 : decode cL_act 271 = .ok (.invokevirtual 68, 3) := by decide +kernel
theorem dL_act_274 : decode cL_act 274 = .ok (.if_icmp .le 27, 3) := by decide +kernel
theorem dL_act_277 : decode cL_act 277 = .ok (.aload_n 0, 1) := by decide +kernel
theorem dL_act_278 : decode cL_act 278 = .ok (.iload 11, 2) := by decide +kernel
theorem dL_act_280 : decode cL_act 280 = .ok (.bipush 7, 2) := by decide +kernel
theorem dL_act_282 : decode cL_act 282 = .ok (.invokevirtual 96, 3) := by decide +kernel
theorem dL_act_285 : decode cL_act 285 = .ok (.aload_n 0, 1) := by decide +kernel
theorem dL_act_286 : decode cL_act 286 = .ok (.iconst 0, 1) := by decide +kernel
theorem dL_act_287 : decode cL_act 287 = .ok (.invokevirtual 68, 3) := by decide +kernel
theorem dL_act_290 : decode cL_act 290 = .ok (.aload_n 0, 1) := by decide +kernel
theorem dL_act_291 : decode cL_act 291 = .ok (.iload 11, 2) := by decide +kernel
theorem dL_act_293 : decode cL_act 293 = .ok (.iconst 0, 1) := by decide +kernel
theorem dL_act_294 : decode cL_act 294 = .ok (.invokevirtual 96, 3) := by decide +kernel
theorem dL_act_297 : decode cL_act 297 = .ok (.iadd, 1) := by decide +kernel
theorem dL_act_298 : decode cL_act 298 = .ok (.if_icmp .le 5, 3) := by decide +kernel
theorem dL_act_301 : decode cL_act 301 = .ok (.iconst 0, 1) := by decide +kernel
theorem dL_act_302 : decode cL_act 302 = .ok (.ireturn, 1) := by decide +kernel
theorem dL_act_303 : decode cL_act 303 = .ok (.iinc 11 1, 3) := by decide +kernel
theorem dL_act_306 : decode cL_act 306 = .ok (.goto (-78), 3) := by decide +kernel
theorem dL_act_309 : decode cL_act 309 = .ok (.aload_n 0, 1) := by decide +kernel
theorem dL_act_310 : decode cL_act 310 = .ok (.iconst 0, 1) := by decide +kernel
theorem dL_act_311 : decode cL_act 311 = .ok (.invokevirtual 68, 3) := by decide +kernel
theorem dL_act_314 : decode cL_act 314 = .ok (.iload 7, 2) := by decide +kernel
theorem dL_act_316 : decode cL_act 316 = .ok (.iload 6, 2) := by decide +kernel
theorem dL_act_318 : decode cL_act 318 = .ok (.iadd, 1) := by decide +kernel
theorem dL_act_319 : decode cL_act 319 = .ok (.if_icmp .ne 22, 3) := by decide +kernel
theorem dL_act_322 : decode cL_act 322 = .ok (.iload 9, 2) := by decide +kernel
theorem dL_act_324 : decode cL_act 324 = .ok (.ifCond .lt 17, 3) := by decide +kernel
theorem dL_act_327 : decode cL_act 327 = .ok (.iload 8, 2) := by decide +kernel
theorem dL_act_329 : decode cL_act 329 = .ok (.iload 10, 2) := by decide +kernel
theorem dL_act_331 : decode cL_act 331 = .ok (.iload 9, 2) := by decide +kernel
theorem dL_act_333 : decode cL_act 333 = .ok (.iadd, 1) := by decide +kernel
theorem dL_act_334 : decode cL_act 334 = .ok (.if_icmp .ne 7, 3) := by decide +kernel
theorem dL_act_337 : decode cL_act 337 = .ok (.iconst 1, 1) := by decide +kernel
theorem dL_act_338 : decode cL_act 338 = .ok (.goto 4, 3) := by decide +kernel
theorem dL_act_341 : decode cL_act 341 = .ok (.iconst 0, 1) := by decide +kernel
theorem dL_act_342 : decode cL_act 342 = .ok (.ireturn, 1) := by decide +kernel
theorem dL_act_343 : decode cL_act 343 = .ok (.aload_n 0, 1) := by decide +kernel
theorem dL_act_344 : decode cL_act 344 = .ok (.iload 5, 2) := by decide +kernel
theorem dL_act_346 : decode cL_act 346 = .ok (.iconst 3, 1) := by decide +kernel
theorem dL_act_347 : decode cL_act 347 = .ok (.iload 4, 2) := by decide +kernel
theorem dL_act_349 : decode cL_act 349 = .ok (.iadd, 1) := by decide +kernel
theorem dL_act_350 : decode cL_act 350 = .ok (.invokevirtual 90, 3) := by decide +kernel
theorem dL_act_353 : decode cL_act 353 = .ok (.istore 6, 2) := by decide +kernel
theorem dL_act_355 : decode cL_act 355 = .ok (.aload_n 0, 1) := by decide +kernel
theorem dL_act_356 : decode cL_act 356 = .ok (.iload 5, 2) := by decide +kernel
theorem dL_act_358 : decode cL_act 358 = .ok (.iload 4, 2) := by decide +kernel
theorem dL_act_360 : decode cL_act 360 = .ok (.iload_n 3, 1) := by decide +kernel
theorem dL_act_361 : decode cL_act 361 = .ok (.sipush 501, 3) := by decide +kernel
theorem dL_act_364 : decode cL_act 364 = .ok (.invokestatic 22, 3) := by decide +kernel
theorem dL_act_367 : decode cL_act 367 = .ok (.invokevirtual 109, 3) := by decide +kernel
theorem dL_act_370 : decode cL_act 370 = .ok (.iload 6, 2) := by decide +kernel
theorem dL_act_372 : decode cL_act 372 = .ok (.if_icmp .ne 27, 3) := by decide +kernel
theorem dL_act_375 : decode cL_act 375 = .ok (.aload_n 0, 1) := by decide +kernel
theorem dL_act_376 : decode cL_act 376 = .ok (.iload 5, 2) := by decide +kernel
theorem dL_act_378 : decode cL_act 378 = .ok (.iconst 3, 1) := by decide +kernel
theorem dL_act_379 : decode cL_act 379 = .ok (.iload 4, 2) := by decide +kernel
theorem dL_act_381 : decode cL_act 381 = .ok (.iadd, 1) := by decide +kernel
theorem dL_act_382 : decode cL_act 382 = .ok (.invokevirtual 90, 3) := by decide +kernel
theorem dL_act_385 : decode cL_act 385 = .ok (.iload_n 3, 1) := by decide +kernel
theorem dL_act_386 : decode cL_act 386 = .ok (.sipush 501, 3) := by decide +kernel
theorem dL_act_389 : decode cL_act 389 = .ok (.invokestatic 22, 3) := by decide +kernel
theorem dL_act_392 : decode cL_act 392 = .ok (.if_icmp .ne 7, 3) := by decide +kernel
theorem dL_act_395 : decode cL_act 395 = .ok (.iconst 1, 1) := by decide +kernel
theorem dL_act_396 : decode cL_act 396 = .ok (.goto 4, 3) := by decide +kernel
theorem dL_act_399 : decode cL_act 399 = .ok (.iconst 0, 1) := by decide +kernel
theorem dL_act_400 : decode cL_act 400 = .ok (.ireturn, 1) := by decide +kernel
theorem dL_act_401 : decode cL_act 401 = .ok (.iload_n 3, 1) := by decide +kernel
theorem dL_act_402 : decode cL_act 402 = .ok (.iconst 2, 1) := by decide +kernel
theorem dL_act_403 : decode cL_act 403 = .ok (.invokestatic 22, 3) := by decide +kernel
theorem dL_act_406 : decode cL_act 406 = .ok (.istore 6, 2) := by decide +kernel
theorem dL_act_408 : decode cL_act 408 = .ok (.aload_n 0, 1) := by decide +kernel
theorem dL_act_409 : decode cL_act 409 = .ok (.iload 4, 2) := by decide +kernel
theorem dL_act_411 : decode cL_act 411 = .ok (.iload 6, 2) := by decide +kernel
theorem dL_act_413 : decode cL_act 413 = .ok (.invokevirtual 112, 3) := by decide +kernel
theorem dL_act_416 : decode cL_act 416 = .ok (.istore 7, 2) := by decide +kernel
theorem dL_act_418 : decode cL_act 418 = .ok (.aload_n 0, 1) := by decide +kernel
theorem dL_act_419 : decode cL_act 419 = .ok (.iload 4, 2) := by decide +kernel
theorem dL_act_421 : decode cL_act 421 = .ok (.iconst 1, 1) := by decide +kernel
theorem dL_act_422 : decode cL_act 422 = .ok (.invokevirtual 96, 3) := by decide +kernel
theorem dL_act_425 : decode cL_act 425 = .ok (.istore 8, 2) := by decide +kernel
theorem dL_act_427 : decode cL_act 427 = .ok (.aload_n 0, 1) := by decide +kernel
theorem dL_act_428 : decode cL_act 428 = .ok (.iload 4, 2) := by decide +kernel
theorem dL_act_430 : decode cL_act 430 = .ok (.iload 6, 2) := by decide +kernel
theorem dL_act_432 : decode cL_act 432 = .ok (.invokevirtual 37, 3) := by decide +kernel
theorem dL_act_435 : decode cL_act 435 = .ok (.iload 8, 2) := by decide +kernel
theorem dL_act_437 : decode cL_act 437 = .ok (.if_icmp .ne 15, 3) := by decide +kernel
theorem dL_act_440 : decode cL_act 440 = .ok (.aload_n 0, 1) := by decide +kernel
theorem dL_act_441 : decode cL_act 441 = .ok (.iload 4, 2) := by decide +kernel
theorem dL_act_443 : decode cL_act 443 = .ok (.iconst 1, 1) := by decide +kernel
theorem dL_act_444 : decode cL_act 444 = .ok (.invokevirtual 96, 3) := by decide +kernel
theorem dL_act_447 : decode cL_act 447 = .ok (.iload 6, 2) := by decide +kernel
theorem dL_act_449 : decode cL_act 449 = .ok (.if_icmp .eq 5, 3) := by decide +kernel
theorem dL_act_452 : decode cL_act 452 = .ok (.iconst 0, 1) := by decide +kernel
theorem dL_act_453 : decode cL_act 453 = .ok (.ireturn, 1) := by decide +kernel
theorem dL_act_454 : decode cL_act 454 = .ok (.iload 7, 2) := by decide +kernel
theorem dL_act_456 : decode cL_act 456 = .ok (.aload_n 0, 1) := by decide +kernel
theorem dL_act_457 : decode cL_act 457 = .ok (.bipush 6, 2) := by decide +kernel
theorem dL_act_459 : decode cL_act 459 = .ok (.invokevirtual 68, 3) := by decide +kernel
theorem dL_act_462 : decode cL_act 462 = .ok (.ifCond .ne 11, 3) := by decide +kernel
theorem dL_act_465 : decode cL_act 465 = .ok (.aload_n 0, 1) := by decide +kernel
theorem dL_act_466 : decode cL_act 466 = .ok (.iconst 4, 1) := by decide +kernel
theorem dL_act_467 : decode cL_act 467 = .ok (.invokevirtual 68, 3) := by decide +kernel
theorem dL_act_470 : decode cL_act 470 = .ok (.goto 5, 3) := by decide +kernel
theorem dL_act_473 : decode cL_act 473 = .ok (.bipush (-6), 2) := by decide +kernel
theorem dL_act_475 : decode cL_act 475 = .ok (.if_icmp .ne 7, 3) := by decide +kernel
theorem dL_act_478 : decode cL_act 478 = .ok (.iconst 1, 1) := by decide +kernel
theorem dL_act_479 : decode cL_act 479 = .ok (.goto 4, 3) := by decide +kernel
theorem dL_act_482 : decode cL_act 482 = .ok (.iconst 0, 1) := by decide +kernel
theorem dL_act_483 : decode cL_act 483 = .ok (.ireturn, 1) := by decide +kernel
theorem dL_act_484 : decode cL_act 484 = .ok (.aload_n 0, 1) := by decide +kernel
theorem dL_act_485 : decode cL_act 485 = .ok (.iload 5, 2) := by decide +kernel
theorem dL_act_487 : decode cL_act 487 = .ok (.iconst 2, 1) := by decide +kernel
theorem dL_act_488 : decode cL_act 488 = .ok (.invokevirtual 90, 3) := by decide +kernel
theorem dL_act_491 : decode cL_act 491 = .ok (.istore 6, 2) := by decide +kernel
theorem dL_act_493 : decode cL_act 493 = .ok (.aload_n 0, 1) := by decide +kernel
theorem dL_act_494 : decode cL_act 494 = .ok (.iload 5, 2) := by decide +kernel
theorem dL_act_496 : decode cL_act 496 = .ok (.iload_n 3, 1) := by decide +kernel
theorem dL_act_497 : decode cL_act 497 = .ok (.bipush 21, 2) := by decide +kernel
theorem dL_act_499 : decode cL_act 499 = .ok (.invokestatic 22, 3) := by decide +kernel
theorem dL_act_502 : decode cL_act 502 = .ok (.invokevirtual 115, 3) := by decide +kernel
theorem dL_act_505 : decode cL_act 505 = .ok (.iload 6, 2) := by decide +kernel
theorem dL_act_507 : decode cL_act 507 = .ok (.if_icmp .ne 23, 3) := by decide +kernel
theorem dL_act_510 : decode cL_act 510 = .ok (.aload_n 0, 1) := by decide +kernel
theorem dL_act_511 : decode cL_act 511 = .ok (.iload 5, 2) := by decide +kernel
theorem dL_act_513 : decode cL_act 513 = .ok (.iconst 2, 1) := by decide +kernel
theorem dL_act_514 : decode cL_act 514 = .ok (.invokevirtual 90, 3) := by decide +kernel
theorem dL_act_517 : decode cL_act 517 = .ok (.iload_n 3, 1) := by decide +kernel
theorem dL_act_518 : decode cL_act 518 = .ok (.bipush 21, 2) := by decide +kernel
theorem dL_act_520 : decode cL_act 520 = .ok (.invokestatic 22, 3) := by decide +kernel
theorem dL_act_523 : decode cL_act 523 = .ok (.if_icmp .ne 7, 3) := by decide +kernel
theorem dL_act_526 : decode cL_act 526 = .ok (.iconst 1, 1) := by decide +kernel
theorem dL_act_527 : decode cL_act 527 = .ok (.goto 4, 3) := by decide +kernel
theorem dL_act_530 : decode cL_act 530 = .ok (.iconst 0, 1) := by decide +kernel
theorem dL_act_531 : decode cL_act 531 = .ok (.ireturn, 1) := by decide +kernel
theorem dL_cooks_0 : decode cL_cooks 0 = .ok (.aload_n 0, 1) := by decide +kernel
theorem dL_cooks_1 : decode cL_cooks 1 = .ok (.iconst 1, 1) := by decide +kernel
theorem dL_cooks_2 : decode cL_cooks 2 = .ok (.invokevirtual 68, 3) := by decide +kernel
theorem dL_cooks_5 : decode cL_cooks 5 = .ok (.istore_n 1, 1) := by decide +kernel
theorem dL_cooks_6 : decode cL_cooks 6 = .ok (.bipush 32, 2) := by decide +kernel
theorem dL_cooks_8 : decode cL_cooks 8 = .ok (.newarray .int, 2) := by decide +kernel
theorem dL_cooks_10 : decode cL_cooks 10 = .ok (.astore_n 2, 1) := by decide +kernel
theorem dL_cooks_11 : decode cL_cooks 11 = .ok (.aload_n 0, 1) := by decide +kernel
theorem dL_cooks_12 : decode cL_cooks 12 = .ok (.iconst 4, 1) := by decide +kernel
theorem dL_cooks_13 : decode cL_cooks 13 = .ok (.invokevirtual 68, 3) := by decide +kernel
theorem dL_cooks_16 : decode cL_cooks 16 = .ok (.istore_n 3, 1) := by decide +kernel
theorem dL_cooks_17 : decode cL_cooks 17 = .ok (.aload_n 0, 1) := by decide +kernel
theorem dL_cooks_18 : decode cL_cooks 18 = .ok (.bipush 11, 2) := by decide +kernel
theorem dL_cooks_20 : decode cL_cooks 20 = .ok (.invokevirtual 68, 3) := by decide +kernel
theorem dL_cooks_23 : decode cL_cooks 23 = .ok (.istore 4, 2) := by decide +kernel
theorem dL_cooks_25 : decode cL_cooks 25 = .ok (.aload_n 0, 1) := by decide +kernel
theorem dL_cooks_26 : decode cL_cooks 26 = .ok (.bipush 12, 2) := by decide +kernel
theorem dL_cooks_28 : decode cL_cooks 28 = .ok (.invokevirtual 68, 3) := by decide +kernel
theorem dL_cooks_31 : decode cL_cooks 31 = .ok (.istore 5, 2) := by decide +kernel
theorem dL_cooks_33 : decode cL_cooks 33 = .ok (.aload_n 0, 1) := by decide +kernel
theorem dL_cooks_34 : decode cL_cooks 34 = .ok (.bipush 7, 2) := by decide +kernel
theorem dL_cooks_36 : decode cL_cooks 36 = .ok (.invokevirtual 68, 3) := by decide +kernel
theorem dL_cooks_39 : decode cL_cooks 39 = .ok (.iconst 1, 1) := by decide +kernel
theorem dL_cooks_40 : decode cL_cooks 40 = .ok (.if_icmp .ne 7, 3) := by decide +kernel
theorem dL_cooks_43 : decode cL_cooks 43 = .ok (.iconst 1, 1) := by decide +kernel
theorem dL_cooks_44 : decode cL_cooks 44 = .ok (.goto 4, 3) := by decide +kernel
theorem dL_cooks_47 : decode cL_cooks 47 = .ok (.iconst 0, 1) := by decide +kernel
theorem dL_cooks_48 : decode cL_cooks 48 = .ok (.istore 6, 2) := by decide +kernel
theorem dL_cooks_50 : decode cL_cooks 50 = .ok (.aload_n 0, 1) := by decide +kernel
theorem dL_cooks_51 : decode cL_cooks 51 = .ok (.iconst 5, 1) := by decide +kernel
theorem dL_cooks_52 : decode cL_cooks 52 = .ok (.invokevirtual 68, 3) := by decide +kernel
theorem dL_cooks_55 : decode cL_cooks 55 = .ok (.istore 7, 2) := by decide +kernel
theorem dL_cooks_57 : decode cL_cooks 57 = .ok (.iconst 0, 1) := by decide +kernel
theorem dL_cooks_58 : decode cL_cooks 58 = .ok (.istore 8, 2) := by decide +kernel
theorem dL_cooks_60 : decode cL_cooks 60 = .ok (.iconst 0, 1) := by decide +kernel
theorem dL_cooks_61 : decode cL_cooks 61 = .ok (.istore 9, 2) := by decide +kernel
theorem dL_cooks_63 : decode cL_cooks 63 = .ok (.iload 9, 2) := by decide +kernel
theorem dL_cooks_65 : decode cL_cooks 65 = .ok (.iload_n 1, 1) := by decide +kernel
theorem dL_cooks_66 : decode cL_cooks 66 = .ok (.if_icmp .ge 115, 3) := by decide +kernel
theorem dL_cooks_69 : decode cL_cooks 69 = .ok (.aload_n 2, 1) := by decide +kernel
theorem dL_cooks_70 : decode cL_cooks 70 = .ok (.iconst 4, 1) := by decide +kernel
theorem dL_cooks_71 : decode cL_cooks 71 = .ok (.iload 9, 2) := by decide +kernel
theorem dL_cooks_73 : decode cL_cooks 73 = .ok (.imul, 1) := by decide +kernel
theorem dL_cooks_74 : decode cL_cooks 74 = .ok (.aload_n 0, 1) := by decide +kernel
theorem dL_cooks_75 : decode cL_cooks 75 = .ok (.iload 9, 2) := by decide +kernel
theorem dL_cooks_77 : decode cL_cooks 77 = .ok (.iconst 5, 1) := by decide +kernel
theorem dL_cooks_78 : decode cL_cooks 78 = .ok (.invokevirtual 96, 3) := by decide +kernel
theorem dL_cooks_81 : decode cL_cooks 81 = .ok (.aload_n 0, 1) := by decide +kernel
theorem dL_cooks_82 : decode cL_cooks 82 = .ok (.iload 9, 2) := by decide +kernel
theorem dL_cooks_84 : decode cL_cooks 84 = .ok (.iconst 2, 1) := by decide +kernel
theorem dL_cooks_85 : decode cL_cooks 85 = .ok (.invokevirtual 118, 3) := by decide +kernel
theorem dL_cooks_88 : decode cL_cooks 88 = .ok (.isub, 1) := by decide +kernel
theorem dL_cooks_89 : decode cL_cooks 89 = .ok (.aload_n 0, 1) := by decide +kernel
theorem dL_cooks_90 : decode cL_cooks 90 = .ok (.iload 9, 2) := by decide +kernel
theorem dL_cooks_92 : decode cL_cooks 92 = .ok (.iconst 4, 1) := by decide +kernel
theorem dL_cooks_93 : decode cL_cooks 93 = .ok (.invokevirtual 118, 3) := by decide +kernel
theorem dL_cooks_96 : decode cL_cooks 96 = .ok (.iadd, 1) := by decide +kernel
theorem dL_cooks_97 : decode cL_cooks 97 = .ok (.iastore, 1) := by decide +kernel
theorem dL_cooks_98 : decode cL_cooks 98 = .ok (.aload_n 2, 1) := by decide +kernel
theorem dL_cooks_99 : decode cL_cooks 99 = .ok (.iconst 4, 1) := by decide +kernel
theorem dL_cooks_100 : decode cL_cooks 100 = .ok (.iload 9, 2) := by decide +kernel
theorem dL_cooks_102 : decode cL_cooks 102 = .ok (.imul, 1) := by decide +kernel
theorem dL_cooks_103 : decode cL_cooks 103 = .ok (.iconst 1, 1) := by decide +kernel
theorem dL_cooks_104 : decode cL_cooks 104 = .ok (.iadd, 1) := by decide +kernel
theorem dL_cooks_105 : decode cL_cooks 105 = .ok (.aload_n 0, 1) := by decide +kernel
theorem dL_cooks_106 : decode cL_cooks 106 = .ok (.iload 9, 2) := by decide +kernel
theorem dL_cooks_108 : decode cL_cooks 108 = .ok (.bipush 8, 2) := by decide +kernel
theorem dL_cooks_110 : decode cL_cooks 110 = .ok (.invokevirtual 96, 3) := by decide +kernel
theorem dL_cooks_113 : decode cL_cooks 113 = .ok (.aload_n 0, 1) := by decide +kernel
theorem dL_cooks_114 : decode cL_cooks 114 = .ok (.iload 9, 2) := by decide +kernel
theorem dL_cooks_116 : decode cL_cooks 116 = .ok (.iconst 3, 1) := by decide +kernel
theorem dL_cooks_117 : decode cL_cooks 117 = .ok (.invokevirtual 118, 3) := by decide +kernel
theorem dL_cooks_120 : decode cL_cooks 120 = .ok (.iadd, 1) := by decide +kernel
theorem dL_cooks_121 : decode cL_cooks 121 = .ok (.iastore, 1) := by decide +kernel
theorem dL_cooks_122 : decode cL_cooks 122 = .ok (.aload_n 2, 1) := by decide +kernel
theorem dL_cooks_123 : decode cL_cooks 123 = .ok (.iconst 4, 1) := by decide +kernel
theorem dL_cooks_124 : decode cL_cooks 124 = .ok (.iload 9, 2) := by decide +kernel
theorem dL_cooks_126 : decode cL_cooks 126 = .ok (.imul, 1) := by decide +kernel
theorem dL_cooks_127 : decode cL_cooks 127 = .ok (.iconst 2, 1) := by decide +kernel
theorem dL_cooks_128 : decode cL_cooks 128 = .ok (.iadd, 1) := by decide +kernel
theorem dL_cooks_129 : decode cL_cooks 129 = .ok (.aload_n 0, 1) := by decide +kernel
theorem dL_cooks_130 : decode cL_cooks 130 = .ok (.iload 9, 2) := by decide +kernel
theorem dL_cooks_132 : decode cL_cooks 132 = .ok (.bipush 9, 2) := by decide +kernel
theorem dL_cooks_134 : decode cL_cooks 134 = .ok (.invokevirtual 96, 3) := by decide +kernel
theorem dL_cooks_137 : decode cL_cooks 137 = .ok (.aload_n 0, 1) := by decide +kernel
theorem dL_cooks_138 : decode cL_cooks 138 = .ok (.iload 9, 2) := by decide +kernel
theorem dL_cooks_140 : decode cL_cooks 140 = .ok (.iconst 0, 1) := by decide +kernel
theorem dL_cooks_141 : decode cL_cooks 141 = .ok (.invokevirtual 118, 3) := by decide +kernel
theorem dL_cooks_144 : decode cL_cooks 144 = .ok (.iadd, 1) := by decide +kernel
theorem dL_cooks_145 : decode cL_cooks 145 = .ok (.aload_n 0, 1) := by decide +kernel
theorem dL_cooks_146 : decode cL_cooks 146 = .ok (.iload 9, 2) := by decide +kernel
theorem dL_cooks_148 : decode cL_cooks 148 = .ok (.iconst 5, 1) := by decide +kernel
theorem dL_cooks_149 : decode cL_cooks 149 = .ok (.invokevirtual 118, 3) := by decide +kernel
theorem dL_cooks_152 : decode cL_cooks 152 = .ok (.isub, 1) := by decide +kernel
theorem dL_cooks_153 : decode cL_cooks 153 = .ok (.aload_n 0, 1) := by decide +kernel
theorem dL_cooks_154 : decode cL_cooks 154 = .ok (.iload 9, 2) := by decide +kernel
theorem dL_cooks_156 : decode cL_cooks 156 = .ok (.bipush 6, 2) := by decide +kernel
theorem dL_cooks_158 : decode cL_cooks 158 = .ok (.invokevirtual 118, 3) := by decide +kernel
theorem dL_cooks_161 : decode cL_cooks 161 = .ok (.isub, 1) := by decide +kernel
theorem dL_cooks_162 : decode cL_cooks 162 = .ok (.iastore, 1) := by decide +kernel
theorem dL_cooks_163 : decode cL_cooks 163 = .ok (.iload 8, 2) := by decide +kernel
theorem dL_cooks_165 : decode cL_cooks 165 = .ok (.aload_n 0, 1) := by decide +kernel
theorem dL_cooks_166 : decode cL_cooks 166 = .ok (.iload 9, 2) := by decide +kernel
theorem dL_cooks_168 : decode cL_cooks 168 = .ok (.iconst 4, 1) := by decide +kernel
theorem dL_cooks_169 : decode cL_cooks 169 = .ok (.invokevirtual 118, 3) := by decide +kernel
theorem dL_cooks_172 : decode cL_cooks 172 = .ok (.iadd, 1) := by decide +kernel
theorem dL_cooks_173 : decode cL_cooks 173 = .ok (.istore 8, 2) := by decide +kernel
theorem dL_cooks_175 : decode cL_cooks 175 = .ok (.iinc 9 1, 3) := by decide +kernel
theorem dL_cooks_178 : decode cL_cooks 178 = .ok (.goto (-115), 3) := by decide +kernel
theorem dL_cooks_181 : decode cL_cooks 181 = .ok (.aload_n 0, 1) := by decide +kernel
theorem dL_cooks_182 : decode cL_cooks 182 = .ok (.invokevirtual 120, 3) := by decide +kernel
theorem dL_cooks_185 : decode cL_cooks 185 = .ok (.istore 9, 2) := by decide +kernel
theorem dL_cooks_187 : decode cL_cooks 187 = .ok (.iload 6, 2) := by decide +kernel
theorem dL_cooks_189 : decode cL_cooks 189 = .ok (.ifCond .ne 38, 3) := by decide +kernel
theorem dL_cooks_192 : decode cL_cooks 192 = .ok (.iload 9, 2) := by decide +kernel
theorem dL_cooks_194 : decode cL_cooks 194 = .ok (.bipush (-5), 2) := by decide +kernel
theorem dL_cooks_196 : decode cL_cooks 196 = .ok (.if_icmp .ne 29, 3) := by decide +kernel
theorem dL_cooks_199 : decode cL_cooks 199 = .ok (.aload_n 0, 1) := by decide +kernel
theorem dL_cooks_200 : decode cL_cooks 200 = .ok (.bipush 12, 2) := by decide +kernel
theorem dL_cooks_202 : decode cL_cooks 202 = .ok (.invokevirtual 68, 3) := by decide +kernel
theorem dL_cooks_205 : decode cL_cooks 205 = .ok (.iload 5, 2) := by decide +kernel
theorem dL_cooks_207 : decode cL_cooks 207 = .ok (.if_icmp .ne 18, 3) := by decide +kernel
theorem dL_cooks_210 : decode cL_cooks 210 = .ok (.aload_n 0, 1) := by decide +kernel
theorem dL_cooks_211 : decode cL_cooks 211 = .ok (.bipush 11, 2) := by decide +kernel
theorem dL_cooks_213 : decode cL_cooks 213 = .ok (.invokevirtual 68, 3) := by decide +kernel
theorem dL_cooks_216 : decode cL_cooks 216 = .ok (.iload 4, 2) := by decide +kernel
theorem dL_cooks_218 : decode cL_cooks 218 = .ok (.if_icmp .ne 7, 3) := by decide +kernel
theorem dL_cooks_221 : decode cL_cooks 221 = .ok (.iconst 1, 1) := by decide +kernel
theorem dL_cooks_222 : decode cL_cooks 222 = .ok (.goto 4, 3) := by decide +kernel
theorem dL_cooks_225 : decode cL_cooks 225 = .ok (.iconst 0, 1) := by decide +kernel
theorem dL_cooks_226 : decode cL_cooks 226 = .ok (.ireturn, 1) := by decide +kernel
theorem dL_cooks_227 : decode cL_cooks 227 = .ok (.iconst 0, 1) := by decide +kernel
theorem dL_cooks_228 : decode cL_cooks 228 = .ok (.istore 10, 2) := by decide +kernel
theorem dL_cooks_230 : decode cL_cooks 230 = .ok (.iload 10, 2) := by decide +kernel
theorem dL_cooks_232 : decode cL_cooks 232 = .ok (.iload_n 1, 1) := by decide +kernel
theorem dL_cooks_233 : decode cL_cooks 233 = .ok (.if_icmp .ge 65, 3) := by decide +kernel
theorem dL_cooks_236 : decode cL_cooks 236 = .ok (.aload_n 0, 1) := by decide +kernel
theorem dL_cooks_237 : decode cL_cooks 237 = .ok (.iload 10, 2) := by decide +kernel
theorem dL_cooks_239 : decode cL_cooks 239 = .ok (.iconst 5, 1) := by decide +kernel
theorem dL_cooks_240 : decode cL_cooks 240 = .ok (.invokevirtual 96, 3) := by decide +kernel
theorem dL_cooks_243 : decode cL_cooks 243 = .ok (.aload_n 2, 1) := by decide +kernel
theorem dL_cooks_244 : decode cL_cooks 244 = .ok (.iconst 4, 1) := by decide +kernel
theorem dL_cooks_245 : decode cL_cooks 245 = .ok (.iload 10, 2) := by decide +kernel
theorem dL_cooks_247 : decode cL_cooks 247 = .ok (.imul, 1) := by decide +kernel
theorem dL_cooks_248 : decode cL_cooks 248 = .ok (.iaload, 1) := by decide +kernel
theorem dL_cooks_249 : decode cL_cooks 249 = .ok (.if_icmp .ne 41, 3) := by decide +kernel
theorem dL_cooks_252 : decode cL_cooks 252 = .ok (.aload_n 0, 1) := by decide +kernel
theorem dL_cooks_253 : decode cL_cooks 253 = .ok (.iload 10, 2) := by decide +kernel
theorem dL_cooks_255 : decode cL_cooks 255 = .ok (.bipush 8, 2) := by decide +kernel
theorem dL_cooks_257 : decode cL_cooks 257 = .ok (.invokevirtual 96, 3) := by decide +kernel
theorem dL_cooks_260 : decode cL_cooks 260 = .ok (.aload_n 2, 1) := by decide +kernel
theorem dL_cooks_261 : decode cL_cooks 261 = .ok (.iconst 4, 1) := by decide +kernel
theorem dL_cooks_262 : decode cL_cooks 262 = .ok (.iload 10, 2) := by decide +kernel
theorem dL_cooks_264 : decode cL_cooks 264 = .ok (.imul, 1) := by decide +kernel
theorem dL_cooks_265 : decode cL_cooks 265 = .ok (.iconst 1, 1) := by decide +kernel
theorem dL_cooks_266 : decode cL_cooks 266 = .ok (.iadd, 1) := by decide +kernel
theorem dL_cooks_267 : decode cL_cooks 267 = .ok (.iaload, 1) := by decide +kernel
theorem dL_cooks_268 : decode cL_cooks 268 = .ok (.if_icmp .ne 22, 3) := by decide +kernel
theorem dL_cooks_271 : decode cL_cooks 271 = .ok (.aload_n 0, 1) := by decide +kernel
theorem dL_cooks_272 : decode cL_cooks 272 = .ok (.iload 10, 2) := by decide +kernel
theorem dL_cooks_274 : decode cL_cooks 274 = .ok (.bipush 9, 2) := by decide +kernel
theorem dL_cooks_276 : decode cL_cooks 276 = .ok (.invokevirtual 96, 3) := by decide +kernel
theorem dL_cooks_279 : decode cL_cooks 279 = .ok (.aload_n 2, 1) := by decide +kernel
theorem dL_cooks_280 : decode cL_cooks 280 = .ok (.iconst 4, 1) := by decide +kernel
theorem dL_cooks_281 : decode cL_cooks 281 = .ok (.iload 10, 2) := by decide +kernel
theorem dL_cooks_283 : decode cL_cooks 283 = .ok (.imul, 1) := by decide +kernel
theorem dL_cooks_284 : decode cL_cooks 284 = .ok (.iconst 2, 1) := by decide +kernel
theorem dL_cooks_285 : decode cL_cooks 285 = .ok (.iadd, 1) := by decide +kernel
theorem dL_cooks_286 : decode cL_cooks 286 = .ok (.iaload, 1) := by decide +kernel
theorem dL_cooks_287 : decode cL_cooks 287 = .ok (.if_icmp .eq 5, 3) := by decide +kernel
theorem dL_cooks_290 : decode cL_cooks 290 = .ok (.iconst 0, 1) := by decide +kernel
theorem dL_cooks_291 : decode cL_cooks 291 = .ok (.ireturn, 1) := by decide +kernel
theorem dL_cooks_292 : decode cL_cooks 292 = .ok (.iinc 10 1, 3) := by decide +kernel
theorem dL_cooks_295 : decode cL_cooks 295 = .ok (.goto (-65), 3) := by decide +kernel
theorem dL_cooks_298 : decode cL_cooks 298 = .ok (.iconst 0, 1) := by decide +kernel
theorem dL_cooks_299 : decode cL_cooks 299 = .ok (.istore 10, 2) := by decide +kernel
theorem dL_cooks_301 : decode cL_cooks 301 = .ok (.iload 10, 2) := by decide +kernel
theorem dL_cooks_303 : decode cL_cooks 303 = .ok (.aload_n 0, 1) := by decide +kernel
theorem dL_cooks_304 : decode cL_cooks 304 = .ok (.iconst 2, 1) := by decide +kernel
theorem dL_cooks_305 : decode cL_cooks 305 = .ok (.invokevirtual 68, 3) := by decide +kernel
theorem dL_cooks_308 : decode cL_cooks 308 = .ok (.if_icmp .ge 21, 3) := by decide +kernel
theorem dL_cooks_311 : decode cL_cooks 311 = .ok (.aload_n 0, 1) := by decide +kernel
theorem dL_cooks_312 : decode cL_cooks 312 = .ok (.iload 10, 2) := by decide +kernel
theorem dL_cooks_314 : decode cL_cooks 314 = .ok (.iconst 2, 1) := by decide +kernel
theorem dL_cooks_315 : decode cL_cooks 315 = .ok (.invokevirtual 90, 3) := by decide +kernel
theorem dL_cooks_318 : decode cL_cooks 318 = .ok (.ifCond .eq 5, 3) := by decide +kernel
theorem dL_cooks_321 : decode cL_cooks 321 = .ok (.iconst 0, 1) := by decide +kernel
theorem dL_cooks_322 : decode cL_cooks 322 = .ok (.ireturn, 1) := by decide +kernel
theorem dL_cooks_323 : decode cL_cooks 323 = .ok (.iinc 10 1, 3) := by decide +kernel
theorem dL_cooks_326 : decode cL_cooks 326 = .ok (.goto (-25), 3) := by decide +kernel
theorem dL_cooks_329 : decode cL_cooks 329 = .ok (.iload 9, 2) := by decide +kernel
theorem dL_cooks_331 : decode cL_cooks 331 = .ok (.iload_n 3, 1) := by decide +kernel
theorem dL_cooks_332 : decode cL_cooks 332 = .ok (.if_icmp .ne 57, 3) := by decide +kernel
theorem dL_cooks_335 : decode cL_cooks 335 = .ok (.iload 7, 2) := by decide +kernel
theorem dL_cooks_337 : decode cL_cooks 337 = .ok (.iload 8, 2) := by decide +kernel
theorem dL_cooks_339 : decode cL_cooks 339 = .ok (.if_icmp .ne 50, 3) := by decide +kernel
theorem dL_cooks_342 : decode cL_cooks 342 = .ok (.aload_n 0, 1) := by decide +kernel
theorem dL_cooks_343 : decode cL_cooks 343 = .ok (.bipush 11, 2) := by decide +kernel
theorem dL_cooks_345 : decode cL_cooks 345 = .ok (.invokevirtual 68, 3) := by decide +kernel
theorem dL_cooks_348 : decode cL_cooks 348 = .ok (.iload 4, 2) := by decide +kernel
theorem dL_cooks_350 : decode cL_cooks 350 = .ok (.iload_n 3, 1) := by decide +kernel
theorem dL_cooks_351 : decode cL_cooks 351 = .ok (.iadd, 1) := by decide +kernel
theorem dL_cooks_352 : decode cL_cooks 352 = .ok (.if_icmp .ne 37, 3) := by decide +kernel
theorem dL_cooks_355 : decode cL_cooks 355 = .ok (.aload_n 0, 1) := by decide +kernel
theorem dL_cooks_356 : decode cL_cooks 356 = .ok (.bipush 12, 2) := by decide +kernel
theorem dL_cooks_358 : decode cL_cooks 358 = .ok (.invokevirtual 68, 3) := by decide +kernel
theorem dL_cooks_361 : decode cL_cooks 361 = .ok (.iload 5, 2) := by decide +kernel
theorem dL_cooks_363 : decode cL_cooks 363 = .ok (.iconst 1, 1) := by decide +kernel
theorem dL_cooks_364 : decode cL_cooks 364 = .ok (.iadd, 1) := by decide +kernel
theorem dL_cooks_365 : decode cL_cooks 365 = .ok (.if_icmp .ne 24, 3) := by decide +kernel
theorem dL_cooks_368 : decode cL_cooks 368 = .ok (.aload_n 0, 1) := by decide +kernel
theorem dL_cooks_369 : decode cL_cooks 369 = .ok (.bipush 7, 2) := by decide +kernel
theorem dL_cooks_371 : decode cL_cooks 371 = .ok (.invokevirtual 68, 3) := by decide +kernel
theorem dL_cooks_374 : decode cL_cooks 374 = .ok (.ifCond .ne 15, 3) := by decide +kernel
theorem dL_cooks_377 : decode cL_cooks 377 = .ok (.aload_n 0, 1) := by decide +kernel
theorem dL_cooks_378 : decode cL_cooks 378 = .ok (.iconst 4, 1) := by decide +kernel
theorem dL_cooks_379 : decode cL_cooks 379 = .ok (.invokevirtual 68, 3) := by decide +kernel
theorem dL_cooks_382 : decode cL_cooks 382 = .ok (.ifCond .ne 7, 3) := by decide +kernel
theorem dL_cooks_385 : decode cL_cooks 385 = .ok (.iconst 1, 1) := by decide +kernel
theorem dL_cooks_386 : decode cL_cooks 386 = .ok (.goto 4, 3) := by decide +kernel
theorem dL_cooks_389 : decode cL_cooks 389 = .ok (.iconst 0, 1) := by decide +kernel
theorem dL_cooks_390 : decode cL_cooks 390 = .ok (.ireturn, 1) := by decide +kernel
theorem dL_ceil_0 : decode cL_ceil 0 = .ok (.iload_n 0, 1) := by decide +kernel
theorem dL_ceil_1 : decode cL_ceil 1 = .ok (.iload_n 1, 1) := by decide +kernel
theorem dL_ceil_2 : decode cL_ceil 2 = .ok (.idiv, 1) := by decide +kernel
theorem dL_ceil_3 : decode cL_ceil 3 = .ok (.iload_n 0, 1) := by decide +kernel
theorem dL_ceil_4 : decode cL_ceil 4 = .ok (.iload_n 1, 1) := by decide +kernel
theorem dL_ceil_5 : decode cL_ceil 5 = .ok (.irem, 1) := by decide +kernel
theorem dL_ceil_6 : decode cL_ceil 6 = .ok (.ifCond .le 7, 3) := by decide +kernel
theorem dL_ceil_9 : decode cL_ceil 9 = .ok (.iconst 1, 1) := by decide +kernel
theorem dL_ceil_10 : decode cL_ceil 10 = .ok (.goto 4, 3) := by decide +kernel
theorem dL_ceil_13 : decode cL_ceil 13 = .ok (.iconst 0, 1) := by decide +kernel
theorem dL_ceil_14 : decode cL_ceil 14 = .ok (.iadd, 1) := by decide +kernel
theorem dL_ceil_15 : decode cL_ceil 15 = .ok (.ireturn, 1) := by decide +kernel
theorem dL_needs_0 : decode cL_needs 0 = .ok (.iconst 0, 1) := by decide +kernel
theorem dL_needs_1 : decode cL_needs 1 = .ok (.istore_n 1, 1) := by decide +kernel
theorem dL_needs_2 : decode cL_needs 2 = .ok (.iconst 0, 1) := by decide +kernel
theorem dL_needs_3 : decode cL_needs 3 = .ok (.istore_n 2, 1) := by decide +kernel
theorem dL_needs_4 : decode cL_needs 4 = .ok (.iconst 0, 1) := by decide +kernel
theorem dL_needs_5 : decode cL_needs 5 = .ok (.istore_n 3, 1) := by decide +kernel
theorem dL_needs_6 : decode cL_needs 6 = .ok (.iconst 0, 1) := by decide +kernel
theorem dL_needs_7 : decode cL_needs 7 = .ok (.istore 4, 2) := by decide +kernel
theorem dL_needs_9 : decode cL_needs 9 = .ok (.iconst 0, 1) := by decide +kernel
theorem dL_needs_10 : decode cL_needs 10 = .ok (.istore 5, 2) := by decide +kernel
theorem dL_needs_12 : decode cL_needs 12 = .ok (.iload 5, 2) := by decide +kernel
theorem dL_needs_14 : decode cL_needs 14 = .ok (.aload_n 0, 1) := by decide +kernel
theorem dL_needs_15 : decode cL_needs 15 = .ok (.iconst 2, 1) := by decide +kernel
theorem dL_needs_16 : decode cL_needs 16 = .ok (.invokevirtual 68, 3) := by decide +kernel
theorem dL_needs_19 : decode cL_needs 19 = .ok (.if_icmp .ge 29, 3) := by decide +kernel
theorem dL_needs_22 : decode cL_needs 22 = .ok (.iload 4, 2) := by decide +kernel
theorem dL_needs_24 : decode cL_needs 24 = .ok (.aload_n 0, 1) := by decide +kernel
theorem dL_needs_25 : decode cL_needs 25 = .ok (.iload 5, 2) := by decide +kernel
theorem dL_needs_27 : decode cL_needs 27 = .ok (.iconst 2, 1) := by decide +kernel
theorem dL_needs_28 : decode cL_needs 28 = .ok (.invokevirtual 90, 3) := by decide +kernel
theorem dL_needs_31 : decode cL_needs 31 = .ok (.ifCond .le 7, 3) := by decide +kernel
theorem dL_needs_34 : decode cL_needs 34 = .ok (.iconst 1, 1) := by decide +kernel
theorem dL_needs_35 : decode cL_needs 35 = .ok (.goto 4, 3) := by decide +kernel
theorem dL_needs_38 : decode cL_needs 38 = .ok (.iconst 0, 1) := by decide +kernel
theorem dL_needs_39 : decode cL_needs 39 = .ok (.ior, 1) := by decide +kernel
theorem dL_needs_40 : decode cL_needs 40 = .ok (.istore 4, 2) := by decide +kernel
theorem dL_needs_42 : decode cL_needs 42 = .ok (.iinc 5 1, 3) := by decide +kernel
theorem dL_needs_45 : decode cL_needs 45 = .ok (.goto (-33), 3) := by decide +kernel
theorem dL_needs_48 : decode cL_needs 48 = .ok (.iconst 0, 1) := by decide +kernel
theorem dL_needs_49 : decode cL_needs 49 = .ok (.istore 5, 2) := by decide +kernel
theorem dL_needs_51 : decode cL_needs 51 = .ok (.iload 5, 2) := by decide +kernel
theorem dL_needs_53 : decode cL_needs 53 = .ok (.aload_n 0, 1) := by decide +kernel
theorem dL_needs_54 : decode cL_needs 54 = .ok (.iconst 1, 1) := by decide +kernel
theorem dL_needs_55 : decode cL_needs 55 = .ok (.invokevirtual 68, 3) := by decide +kernel
theorem dL_needs_58 : decode cL_needs 58 = .ok (.if_icmp .ge 431, 3) := by decide +kernel
theorem dL_needs_61 : decode cL_needs 61 = .ok (.iconst 0, 1) := by decide +kernel
theorem dL_needs_62 : decode cL_needs 62 = .ok (.istore 6, 2) := by decide +kernel
theorem dL_needs_64 : decode cL_needs 64 = .ok (.iconst 0, 1) := by decide +kernel
theorem dL_needs_65 : decode cL_needs 65 = .ok (.istore 7, 2) := by decide +kernel
theorem dL_needs_67 : decode cL_needs 67 = .ok (.iload 7, 2) := by decide +kernel
theorem dL_needs_69 : decode cL_needs 69 = .ok (.aload_n 0, 1) := by decide +kernel
theorem dL_needs_70 : decode cL_needs 70 = .ok (.iconst 2, 1) := by decide +kernel
theorem dL_needs_71 : decode cL_needs 71 = .ok (.invokevirtual 68, 3) := by decide +kernel
theorem dL_needs_74 : decode cL_needs 74 = .ok (.if_icmp .ge 42, 3) := by decide +kernel
theorem dL_needs_77 : decode cL_needs 77 = .ok (.iload 6, 2) := by decide +kernel
theorem dL_needs_79 : decode cL_needs 79 = .ok (.aload_n 0, 1) := by decide +kernel
theorem dL_needs_80 : decode cL_needs 80 = .ok (.iload 7, 2) := by decide +kernel
theorem dL_needs_82 : decode cL_needs 82 = .ok (.iconst 3, 1) := by decide +kernel
theorem dL_needs_83 : decode cL_needs 83 = .ok (.iload 5, 2) := by decide +kernel
theorem dL_needs_85 : decode cL_needs 85 = .ok (.iadd, 1) := by decide +kernel
theorem dL_needs_86 : decode cL_needs 86 = .ok (.invokevirtual 90, 3) := by decide +kernel
theorem dL_needs_89 : decode cL_needs 89 = .ok (.aload_n 0, 1) := by decide +kernel
theorem dL_needs_90 : decode cL_needs 90 = .ok (.iload 7, 2) := by decide +kernel
theorem dL_needs_92 : decode cL_needs 92 = .ok (.iconst 2, 1) := by decide +kernel
theorem dL_needs_93 : decode cL_needs 93 = .ok (.invokevirtual 90, 3) := by decide +kernel
theorem dL_needs_96 : decode cL_needs 96 = .ok (.imul, 1) := by decide +kernel
theorem dL_needs_97 : decode cL_needs 97 = .ok (.aload_n 0, 1) := by decide +kernel
theorem dL_needs_98 : decode cL_needs 98 = .ok (.iload 7, 2) := by decide +kernel
theorem dL_needs_100 : decode cL_needs 100 = .ok (.iconst 0, 1) := by decide +kernel
theorem dL_needs_101 : decode cL_needs 101 = .ok (.invokevirtual 90, 3) := by decide +kernel
theorem dL_needs_104 : decode cL_needs 104 = .ok (.invokestatic 123, 3) := by decide +kernel
theorem dL_needs_107 : decode cL_needs 107 = .ok (.iadd, 1) := by decide +kernel
theorem dL_needs_108 : decode cL_needs 108 = .ok (.istore 6, 2) := by decide +kernel
theorem dL_needs_110 : decode cL_needs 110 = .ok (.iinc 7 1, 3) := by decide +kernel
theorem dL_needs_113 : decode cL_needs 113 = .ok (.goto (-46), 3) := by decide +kernel
theorem dL_needs_116 : decode cL_needs 116 = .ok (.iconst 0, 1) := by decide +kernel
theorem dL_needs_117 : decode cL_needs 117 = .ok (.istore 7, 2) := by decide +kernel
theorem dL_needs_119 : decode cL_needs 119 = .ok (.iconst 0, 1) := by decide +kernel
theorem dL_needs_120 : decode cL_needs 120 = .ok (.istore 8, 2) := by decide +kernel
theorem dL_needs_122 : decode cL_needs 122 = .ok (.iload 8, 2) := by decide +kernel
theorem dL_needs_124 : decode cL_needs 124 = .ok (.iload 5, 2) := by decide +kernel
theorem dL_needs_126 : decode cL_needs 126 = .ok (.if_icmp .ge 46, 3) := by decide +kernel
theorem dL_needs_129 : decode cL_needs 129 = .ok (.aload_n 0, 1) := by decide +kernel
theorem dL_needs_130 : decode cL_needs 130 = .ok (.iload 8, 2) := by decide +kernel
theorem dL_needs_132 : decode cL_needs 132 = .ok (.iconst 3, 1) := by decide +kernel
theorem dL_needs_133 : decode cL_needs 133 = .ok (.invokevirtual 96, 3) := by decide +kernel
theorem dL_needs_136 : decode cL_needs 136 = .ok (.iload 5, 2) := by decide +kernel
theorem dL_needs_138 : decode cL_needs 138 = .ok (.if_icmp .ne 28, 3) := by decide +kernel
theorem dL_needs_141 : decode cL_needs 141 = .ok (.iload 7, 2) := by decide +kernel
theorem dL_needs_143 : decode cL_needs 143 = .ok (.aload_n 0, 1) := by decide +kernel
theorem dL_needs_144 : decode cL_needs 144 = .ok (.iload 8, 2) := by decide +kernel
theorem dL_needs_146 : decode cL_needs 146 = .ok (.iconst 5, 1) := by decide +kernel
theorem dL_needs_147 : decode cL_needs 147 = .ok (.invokevirtual 118, 3) := by decide +kernel
theorem dL_needs_150 : decode cL_needs 150 = .ok (.aload_n 0, 1) := by decide +kernel
theorem dL_needs_151 : decode cL_needs 151 = .ok (.iload 8, 2) := by decide +kernel
theorem dL_needs_153 : decode cL_needs 153 = .ok (.iconst 4, 1) := by decide +kernel
theorem dL_needs_154 : decode cL_needs 154 = .ok (.invokevirtual 96, 3) := by decide +kernel
theorem dL_needs_157 : decode cL_needs 157 = .ok (.imul, 1) := by decide +kernel
theorem dL_needs_158 : decode cL_needs 158 = .ok (.bipush 100, 2) := by decide +kernel
theorem dL_needs_160 : decode cL_needs 160 = .ok (.invokestatic 123, 3) := by decide +kernel
theorem dL_needs_163 : decode cL_needs 163 = .ok (.iadd, 1) := by decide +kernel
theorem dL_needs_164 : decode cL_needs 164 = .ok (.istore 7, 2) := by decide +kernel
theorem dL_needs_166 : decode cL_needs 166 = .ok (.iinc 8 1, 3) := by decide +kernel
theorem dL_needs_169 : decode cL_needs 169 = .ok (.goto (-47), 3) := by decide +kernel
theorem dL_needs_172 : decode cL_needs 172 = .ok (.aload_n 0, 1) := by decide +kernel
theorem dL_needs_173 : decode cL_needs 173 = .ok (.iload 5, 2) := by decide +kernel
theorem dL_needs_175 : decode cL_needs 175 = .ok (.iconst 0, 1) := by decide +kernel
theorem dL_needs_176 : decode cL_needs 176 = .ok (.invokevirtual 118, 3) := by decide +kernel
theorem dL_needs_179 : decode cL_needs 179 = .ok (.istore 8, 2) := by decide +kernel
theorem dL_needs_181 : decode cL_needs 181 = .ok (.aload_n 0, 1) := by decide +kernel
theorem dL_needs_182 : decode cL_needs 182 = .ok (.iload 5, 2) := by decide +kernel
theorem dL_needs_184 : decode cL_needs 184 = .ok (.iconst 2, 1) := by decide +kernel
theorem dL_needs_185 : decode cL_needs 185 = .ok (.invokevirtual 118, 3) := by decide +kernel
theorem dL_needs_188 : decode cL_needs 188 = .ok (.istore 9, 2) := by decide +kernel
theorem dL_needs_190 : decode cL_needs 190 = .ok (.aload_n 0, 1) := by decide +kernel
theorem dL_needs_191 : decode cL_needs 191 = .ok (.iload 5, 2) := by decide +kernel
theorem dL_needs_193 : decode cL_needs 193 = .ok (.iconst 3, 1) := by decide +kernel
theorem dL_needs_194 : decode cL_needs 194 = .ok (.invokevirtual 118, 3) := by decide +kernel
theorem dL_needs_197 : decode cL_needs 197 = .ok (.istore 10, 2) := by decide +kernel
theorem dL_needs_199 : decode cL_needs 199 = .ok (.aload_n 0, 1) := by decide +kernel
theorem dL_needs_200 : decode cL_needs 200 = .ok (.iload 5, 2) := by decide +kernel
theorem dL_needs_202 : decode cL_needs 202 = .ok (.iconst 1, 1) := by decide +kernel
theorem dL_needs_203 : decode cL_needs 203 = .ok (.invokevirtual 118, 3) := by decide +kernel
theorem dL_needs_206 : decode cL_needs 206 = .ok (.iload 7, 2) := by decide +kernel
theorem dL_needs_208 : decode cL_needs 208 = .ok (.if_icmp .ne 42, 3) := by decide +kernel
theorem dL_needs_211 : decode cL_needs 211 = .ok (.iload 8, 2) := by decide +kernel
theorem dL_needs_213 : decode cL_needs 213 = .ok (.iload 6, 2) := by decide +kernel
theorem dL_needs_215 : decode cL_needs 215 = .ok (.iload 7, 2) := by decide +kernel
theorem dL_needs_217 : decode cL_needs 217 = .ok (.iadd, 1) := by decide +kernel
theorem dL_needs_218 : decode cL_needs 218 = .ok (.if_icmp .ne 32, 3) := by decide +kernel
theorem dL_needs_221 : decode cL_needs 221 = .ok (.iload 9, 2) := by decide +kernel
theorem dL_needs_223 : decode cL_needs 223 = .ok (.iload 8, 2) := by decide +kernel
theorem dL_needs_225 : decode cL_needs 225 = .ok (.aload_n 0, 1) := by decide +kernel
theorem dL_needs_226 : decode cL_needs 226 = .ok (.iload 5, 2) := by decide +kernel
theorem dL_needs_228 : decode cL_needs 228 = .ok (.iconst 5, 1) := by decide +kernel
theorem dL_needs_229 : decode cL_needs 229 = .ok (.invokevirtual 96, 3) := by decide +kernel
theorem dL_needs_232 : decode cL_needs 232 = .ok (.if_icmp .ge 8, 3) := by decide +kernel
theorem dL_needs_235 : decode cL_needs 235 = .ok (.iload 8, 2) := by decide +kernel
theorem dL_needs_237 : decode cL_needs 237 = .ok (.goto 10, 3) := by decide +kernel
theorem dL_needs_240 : decode cL_needs 240 = .ok (.aload_n 0, 1) := by decide +kernel
theorem dL_needs_241 : decode cL_needs 241 = .ok (.iload 5, 2) := by decide +kernel
theorem dL_needs_243 : decode cL_needs 243 = .ok (.iconst 5, 1) := by decide +kernel
theorem dL_needs_244 : decode cL_needs 244 = .ok (.invokevirtual 96, 3) := by decide +kernel
theorem dL_needs_247 : decode cL_needs 247 = .ok (.if_icmp .eq 5, 3) := by decide +kernel
theorem dL_needs_250 : decode cL_needs 250 = .ok (.iconst 0, 1) := by decide +kernel
theorem dL_needs_251 : decode cL_needs 251 = .ok (.ireturn, 1) := by decide +kernel
theorem dL_needs_252 : decode cL_needs 252 = .ok (.iload 9, 2) := by decide +kernel
theorem dL_needs_254 : decode cL_needs 254 = .ok (.iload 10, 2) := by decide +kernel
theorem dL_needs_256 : decode cL_needs 256 = .ok (.iadd, 1) := by decide +kernel
theorem dL_needs_257 : decode cL_needs 257 = .ok (.aload_n 0, 1) := by decide +kernel
theorem dL_needs_258 : decode cL_needs 258 = .ok (.iload 5, 2) := by decide +kernel
theorem dL_needs_260 : decode cL_needs 260 = .ok (.iconst 4, 1) := by decide +kernel
theorem dL_needs_261 : decode cL_needs 261 = .ok (.invokevirtual 118, 3) := by decide +kernel
theorem dL_needs_264 : decode cL_needs 264 = .ok (.isub, 1) := by decide +kernel
theorem dL_needs_265 : decode cL_needs 265 = .ok (.aload_n 0, 1) := by decide +kernel
theorem dL_needs_266 : decode cL_needs 266 = .ok (.iload 5, 2) := by decide +kernel
theorem dL_needs_268 : decode cL_needs 268 = .ok (.iconst 5, 1) := by decide +kernel
theorem dL_needs_269 : decode cL_needs 269 = .ok (.invokevirtual 118, 3) := by decide +kernel
theorem dL_needs_272 : decode cL_needs 272 = .ok (.iadd, 1) := by decide +kernel
theorem dL_needs_273 : decode cL_needs 273 = .ok (.aload_n 0, 1) := by decide +kernel
theorem dL_needs_274 : decode cL_needs 274 = .ok (.iload 5, 2) := by decide +kernel
theorem dL_needs_276 : decode cL_needs 276 = .ok (.bipush 6, 2) := by decide +kernel
theorem dL_needs_278 : decode cL_needs 278 = .ok (.invokevirtual 118, 3) := by decide +kernel
theorem dL_needs_281 : decode cL_needs 281 = .ok (.iadd, 1) := by decide +kernel
theorem dL_needs_282 : decode cL_needs 282 = .ok (.iload 8, 2) := by decide +kernel
theorem dL_needs_284 : decode cL_needs 284 = .ok (.if_icmp .ne 13, 3) := by decide +kernel
theorem dL_needs_287 : decode cL_needs 287 = .ok (.aload_n 0, 1) := by decide +kernel
theorem dL_needs_288 : decode cL_needs 288 = .ok (.iload 5, 2) := by decide +kernel
theorem dL_needs_290 : decode cL_needs 290 = .ok (.iconst 4, 1) := by decide +kernel
theorem dL_needs_291 : decode cL_needs 291 = .ok (.invokevirtual 118, 3) := by decide +kernel
theorem dL_needs_294 : decode cL_needs 294 = .ok (.ifCond .ge 5, 3) := by decide +kernel
theorem dL_needs_297 : decode cL_needs 297 = .ok (.iconst 0, 1) := by decide +kernel
theorem dL_needs_298 : decode cL_needs 298 = .ok (.ireturn, 1) := by decide +kernel
theorem dL_needs_299 : decode cL_needs 299 = .ok (.iload 10, 2) := by decide +kernel
theorem dL_needs_301 : decode cL_needs 301 = .ok (.ifCond .le 7, 3) := by decide +kernel
theorem dL_needs_304 : decode cL_needs 304 = .ok (.iconst 1, 1) := by decide +kernel
theorem dL_needs_305 : decode cL_needs 305 = .ok (.goto 4, 3) := by decide +kernel
theorem dL_needs_308 : decode cL_needs 308 = .ok (.iconst 0, 1) := by decide +kernel
theorem dL_needs_309 : decode cL_needs 309 = .ok (.aload_n 0, 1) := by decide +kernel
theorem dL_needs_310 : decode cL_needs 310 = .ok (.iload 5, 2) := by decide +kernel
theorem dL_needs_312 : decode cL_needs 312 = .ok (.iconst 5, 1) := by decide +kernel
theorem dL_needs_313 : decode cL_needs 313 = .ok (.invokevirtual 118, 3) := by decide +kernel
theorem dL_needs_316 : decode cL_needs 316 = .ok (.ifCond .le 7, 3) := by decide +kernel
theorem dL_needs_319 : decode cL_needs 319 = .ok (.iconst 1, 1) := by decide +kernel
theorem dL_needs_320 : decode cL_needs 320 = .ok (.goto 4, 3) := by decide +kernel
theorem dL_needs_323 : decode cL_needs 323 = .ok (.iconst 0, 1) := by decide +kernel
theorem dL_needs_324 : decode cL_needs 324 = .ok (.iadd, 1) := by decide +kernel
theorem dL_needs_325 : decode cL_needs 325 = .ok (.aload_n 0, 1) := by decide +kernel
theorem dL_needs_326 : decode cL_needs 326 = .ok (.iload 5, 2) := by decide +kernel
theorem dL_needs_328 : decode cL_needs 328 = .ok (.bipush 6, 2) := by decide +kernel
theorem dL_needs_330 : decode cL_needs 330 = .ok (.invokevirtual 118, 3) := by decide +kernel
theorem dL_needs_333 : decode cL_needs 333 = .ok (.ifCond .le 7, 3) := by decide +kernel
theorem dL_needs_336 : decode cL_needs 336 = .ok (.iconst 1, 1) := by decide +kernel
theorem dL_needs_337 : decode cL_needs 337 = .ok (.goto 4, 3) := by decide +kernel
theorem dL_needs_340 : decode cL_needs 340 = .ok (.iconst 0, 1) := by decide +kernel
theorem dL_needs_341 : decode cL_needs 341 = .ok (.iadd, 1) := by decide +kernel
theorem dL_needs_342 : decode cL_needs 342 = .ok (.istore 11, 2) := by decide +kernel
theorem dL_needs_344 : decode cL_needs 344 = .ok (.iload 11, 2) := by decide +kernel
theorem dL_needs_346 : decode cL_needs 346 = .ok (.iload 8, 2) := by decide +kernel
theorem dL_needs_348 : decode cL_needs 348 = .ok (.iload 9, 2) := by decide +kernel
theorem dL_needs_350 : decode cL_needs 350 = .ok (.if_icmp .le 7, 3) := by decide +kernel
theorem dL_needs_353 : decode cL_needs 353 = .ok (.iconst 1, 1) := by decide +kernel
theorem dL_needs_354 : decode cL_needs 354 = .ok (.goto 4, 3) := by decide +kernel
theorem dL_needs_357 : decode cL_needs 357 = .ok (.iconst 0, 1) := by decide +kernel
theorem dL_needs_358 : decode cL_needs 358 = .ok (.if_icmp .ne 69, 3) := by decide +kernel
theorem dL_needs_361 : decode cL_needs 361 = .ok (.iload 10, 2) := by decide +kernel
theorem dL_needs_363 : decode cL_needs 363 = .ok (.ifCond .le 7, 3) := by decide +kernel
theorem dL_needs_366 : decode cL_needs 366 = .ok (.iconst 1, 1) := by decide +kernel
theorem dL_needs_367 : decode cL_needs 367 = .ok (.goto 4, 3) := by decide +kernel
theorem dL_needs_370 : decode cL_needs 370 = .ok (.iconst 0, 1) := by decide +kernel
theorem dL_needs_371 : decode cL_needs 371 = .ok (.iload 8, 2) := by decide +kernel
theorem dL_needs_373 : decode cL_needs 373 = .ok (.iload 9, 2) := by decide +kernel
