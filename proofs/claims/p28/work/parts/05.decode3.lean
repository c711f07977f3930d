theorem dL_lot_0 : decode cL_lot 0 = .ok (.iload_n 1, 1) := by decide +kernel
theorem dL_lot_1 : decode cL_lot 1 = .ok (.aload_n 0, 1) := by decide +kernel
theorem dL_lot_2 : decode cL_lot 2 = .ok (.arraylength, 1) := by decide +kernel
theorem dL_lot_3 : decode cL_lot 3 = .ok (.if_icmp .ge 9, 3) := by decide +kernel
theorem dL_lot_6 : decode cL_lot 6 = .ok (.aload_n 0, 1) := by decide +kernel
theorem dL_lot_7 : decode cL_lot 7 = .ok (.iload_n 1, 1) := by decide +kernel
theorem dL_lot_8 : decode cL_lot 8 = .ok (.iaload, 1) := by decide +kernel
theorem dL_lot_9 : decode cL_lot 9 = .ok (.goto 15, 3) := by decide +kernel
theorem dL_lot_12 : decode cL_lot 12 = .ok (.ldc 7, 2) := by decide +kernel
theorem dL_lot_14 : decode cL_lot 14 = .ok (.iload_n 1, 1) := by decide +kernel
theorem dL_lot_15 : decode cL_lot 15 = .ok (.sipush 2647, 3) := by decide +kernel
theorem dL_lot_18 : decode cL_lot 18 = .ok (.iadd, 1) := by decide +kernel
theorem dL_lot_19 : decode cL_lot 19 = .ok (.imul, 1) := by decide +kernel
theorem dL_lot_20 : decode cL_lot 20 = .ok (.sipush 2393, 3) := by decide +kernel
theorem dL_lot_23 : decode cL_lot 23 = .ok (.iadd, 1) := by decide +kernel
theorem dL_lot_24 : decode cL_lot 24 = .ok (.ireturn, 1) := by decide +kernel
theorem dL_low_0 : decode cL_low 0 = .ok (.iload_n 0, 1) := by decide +kernel
theorem dL_low_1 : decode cL_low 1 = .ok (.ldc 8, 2) := by decide +kernel
theorem dL_low_3 : decode cL_low 3 = .ok (.iand, 1) := by decide +kernel
theorem dL_low_4 : decode cL_low 4 = .ok (.iload_n 1, 1) := by decide +kernel
theorem dL_low_5 : decode cL_low 5 = .ok (.irem, 1) := by decide +kernel
theorem dL_low_6 : decode cL_low 6 = .ok (.ireturn, 1) := by decide +kernel
theorem dL_places_0 : decode cL_places 0 = .ok (.aload_n 0, 1) := by decide +kernel
theorem dL_places_1 : decode cL_places 1 = .ok (.iconst 1, 1) := by decide +kernel
theorem dL_places_2 : decode cL_places 2 = .ok (.invokevirtual 9, 3) := by decide +kernel
theorem dL_places_5 : decode cL_places 5 = .ok (.istore_n 1, 1) := by decide +kernel
theorem dL_places_6 : decode cL_places 6 = .ok (.iconst 0, 1) := by decide +kernel
theorem dL_places_7 : decode cL_places 7 = .ok (.istore_n 2, 1) := by decide +kernel
theorem dL_places_8 : decode cL_places 8 = .ok (.iconst 0, 1) := by decide +kernel
theorem dL_places_9 : decode cL_places 9 = .ok (.istore_n 3, 1) := by decide +kernel
theorem dL_places_10 : decode cL_places 10 = .ok (.iconst 5, 1) := by decide +kernel
theorem dL_places_11 : decode cL_places 11 = .ok (.newarray .int, 2) := by decide +kernel
theorem dL_places_13 : decode cL_places 13 = .ok (.astore 4, 2) := by decide +kernel
theorem dL_places_15 : decode cL_places 15 = .ok (.bipush 8, 2) := by decide +kernel
theorem dL_places_17 : decode cL_places 17 = .ok (.newarray .int, 2) := by decide +kernel
theorem dL_places_19 : decode cL_places 19 = .ok (.astore 5, 2) := by decide +kernel
theorem dL_places_21 : decode cL_places 21 = .ok (.iconst 0, 1) := by decide +kernel
theorem dL_places_22 : decode cL_places 22 = .ok (.istore 6, 2) := by decide +kernel
theorem dL_places_24 : decode cL_places 24 = .ok (.iload 6, 2) := by decide +kernel
theorem dL_places_26 : decode cL_places 26 = .ok (.iload_n 1, 1) := by decide +kernel
theorem dL_places_27 : decode cL_places 27 = .ok (.if_icmp .ge 285, 3) := by decide +kernel
theorem dL_places_30 : decode cL_places 30 = .ok (.aload_n 0, 1) := by decide +kernel
theorem dL_places_31 : decode cL_places 31 = .ok (.iload 6, 2) := by decide +kernel
theorem dL_places_33 : decode cL_places 33 = .ok (.iconst 0, 1) := by decide +kernel
theorem dL_places_34 : decode cL_places 34 = .ok (.invokevirtual 15, 3) := by decide +kernel
theorem dL_places_37 : decode cL_places 37 = .ok (.istore 7, 2) := by decide +kernel
theorem dL_places_39 : decode cL_places 39 = .ok (.aload_n 0, 1) := by decide +kernel
theorem dL_places_40 : decode cL_places 40 = .ok (.iload 6, 2) := by decide +kernel
theorem dL_places_42 : decode cL_places 42 = .ok (.iconst 1, 1) := by decide +kernel
theorem dL_places_43 : decode cL_places 43 = .ok (.invokevirtual 15, 3) := by decide +kernel
theorem dL_places_46 : decode cL_places 46 = .ok (.istore 8, 2) := by decide +kernel
theorem dL_places_48 : decode cL_places 48 = .ok (.aload_n 0, 1) := by decide +kernel
theorem dL_places_49 : decode cL_places 49 = .ok (.iload 6, 2) := by decide +kernel
theorem dL_places_51 : decode cL_places 51 = .ok (.iconst 2, 1) := by decide +kernel
theorem dL_places_52 : decode cL_places 52 = .ok (.invokevirtual 15, 3) := by decide +kernel
theorem dL_places_55 : decode cL_places 55 = .ok (.istore 9, 2) := by decide +kernel
theorem dL_places_57 : decode cL_places 57 = .ok (.aload 4, 2) := by decide +kernel
theorem dL_places_59 : decode cL_places 59 = .ok (.iload 7, 2) := by decide +kernel
theorem dL_places_61 : decode cL_places 61 = .ok (.dup2, 1) := by decide +kernel
theorem dL_places_62 : decode cL_places 62 = .ok (.iaload, 1) := by decide +kernel
theorem dL_places_63 : decode cL_places 63 = .ok (.iconst 1, 1) := by decide +kernel
theorem dL_places_64 : decode cL_places 64 = .ok (.iadd, 1) := by decide +kernel
theorem dL_places_65 : decode cL_places 65 = .ok (.iastore, 1) := by decide +kernel
theorem dL_places_66 : decode cL_places 66 = .ok (.iload_n 3, 1) := by decide +kernel
theorem dL_places_67 : decode cL_places 67 = .ok (.aload_n 0, 1) := by decide +kernel
theorem dL_places_68 : decode cL_places 68 = .ok (.iload 6, 2) := by decide +kernel
theorem dL_places_70 : decode cL_places 70 = .ok (.iconst 4, 1) := by decide +kernel
theorem dL_places_71 : decode cL_places 71 = .ok (.invokevirtual 15, 3) := by decide +kernel
theorem dL_places_74 : decode cL_places 74 = .ok (.iadd, 1) := by decide +kernel
theorem dL_places_75 : decode cL_places 75 = .ok (.istore_n 3, 1) := by decide +kernel
theorem dL_places_76 : decode cL_places 76 = .ok (.iload_n 2, 1) := by decide +kernel
theorem dL_places_77 : decode cL_places 77 = .ok (.iload 7, 2) := by decide +kernel
theorem dL_places_79 : decode cL_places 79 = .ok (.iconst 4, 1) := by decide +kernel
theorem dL_places_80 : decode cL_places 80 = .ok (.if_icmp .ge 13, 3) := by decide +kernel
theorem dL_places_83 : decode cL_places 83 = .ok (.aload_n 0, 1) := by decide +kernel
theorem dL_places_84 : decode cL_places 84 = .ok (.iload 6, 2) := by decide +kernel
theorem dL_places_86 : decode cL_places 86 = .ok (.iconst 3, 1) := by decide +kernel
theorem dL_places_87 : decode cL_places 87 = .ok (.invokevirtual 15, 3) := by decide +kernel
theorem dL_places_90 : decode cL_places 90 = .ok (.goto 4, 3) := by decide +kernel
theorem dL_places_93 : decode cL_places 93 = .ok (.iconst 0, 1) := by decide +kernel
theorem dL_places_94 : decode cL_places 94 = .ok (.iadd, 1) := by decide +kernel
theorem dL_places_95 : decode cL_places 95 = .ok (.istore_n 2, 1) := by decide +kernel
theorem dL_places_96 : decode cL_places 96 = .ok (.iload 9, 2) := by decide +kernel
theorem dL_places_98 : decode cL_places 98 = .ok (.ifCond .lt 98, 3) := by decide +kernel
theorem dL_places_101 : decode cL_places 101 = .ok (.iload 9, 2) := by decide +kernel
theorem dL_places_103 : decode cL_places 103 = .ok (.bipush 64, 2) := by decide +kernel
theorem dL_places_105 : decode cL_places 105 = .ok (.if_icmp .gt 91, 3) := by decide +kernel
theorem dL_places_108 : decode cL_places 108 = .ok (.aload_n 0, 1) := by decide +kernel
theorem dL_places_109 : decode cL_places 109 = .ok (.iload 6, 2) := by decide +kernel
theorem dL_places_111 : decode cL_places 111 = .ok (.iconst 3, 1) := by decide +kernel
theorem dL_places_112 : decode cL_places 112 = .ok (.invokevirtual 15, 3) := by decide +kernel
theorem dL_places_115 : decode cL_places 115 = .ok (.iconst 1, 1) := by decide +kernel
theorem dL_places_116 : decode cL_places 116 = .ok (.if_icmp .ne 7, 3) := by decide +kernel
theorem dL_places_119 : decode cL_places 119 = .ok (.iconst 1, 1) := by decide +kernel
theorem dL_places_120 : decode cL_places 120 = .ok (.goto 4, 3) := by decide +kernel
theorem dL_places_123 : decode cL_places 123 = .ok (.iconst 0, 1) := by decide +kernel
theorem dL_places_124 : decode cL_places 124 = .ok (.iload 9, 2) := by decide +kernel
theorem dL_places_126 : decode cL_places 126 = .ok (.bipush 31, 2) := by decide +kernel
theorem dL_places_128 : decode cL_places 128 = .ok (.if_icmp .le 7, 3) := by decide +kernel
theorem dL_places_131 : decode cL_places 131 = .ok (.iconst 1, 1) := by decide +kernel
theorem dL_places_132 : decode cL_places 132 = .ok (.goto 4, 3) := by decide +kernel
theorem dL_places_135 : decode cL_places 135 = .ok (.iconst 0, 1) := by decide +kernel
theorem dL_places_136 : decode cL_places 136 = .ok (.if_icmp .ne 60, 3) := by decide +kernel
theorem dL_places_139 : decode cL_places 139 = .ok (.iload 8, 2) := by decide +kernel
theorem dL_places_141 : decode cL_places 141 = .ok (.bipush (-9), 2) := by decide +kernel
theorem dL_places_143 : decode cL_places 143 = .ok (.if_icmp .ne 7, 3) := by decide +kernel
theorem dL_places_146 : decode cL_places 146 = .ok (.iconst 1, 1) := by decide +kernel
theorem dL_places_147 : decode cL_places 147 = .ok (.goto 4, 3) := by decide +kernel
theorem dL_places_150 : decode cL_places 150 = .ok (.iconst 0, 1) := by decide +kernel
theorem dL_places_151 : decode cL_places 151 = .ok (.iload 7, 2) := by decide +kernel
theorem dL_places_153 : decode cL_places 153 = .ok (.iconst 2, 1) := by decide +kernel
theorem dL_places_154 : decode cL_places 154 = .ok (.if_icmp .le 7, 3) := by decide +kernel
theorem dL_places_157 : decode cL_places 157 = .ok (.iconst 1, 1) := by decide +kernel
theorem dL_places_158 : decode cL_places 158 = .ok (.goto 4, 3) := by decide +kernel
theorem dL_places_161 : decode cL_places 161 = .ok (.iconst 0, 1) := by decide +kernel
theorem dL_places_162 : decode cL_places 162 = .ok (.if_icmp .ne 34, 3) := by decide +kernel
theorem dL_places_165 : decode cL_places 165 = .ok (.iload 7, 2) := by decide +kernel
theorem dL_places_167 : decode cL_places 167 = .ok (.iconst 1, 1) := by decide +kernel
theorem dL_places_168 : decode cL_places 168 = .ok (.if_icmp .ne 15, 3) := by decide +kernel
theorem dL_places_171 : decode cL_places 171 = .ok (.aload_n 0, 1) := by decide +kernel
theorem dL_places_172 : decode cL_places 172 = .ok (.iload 8, 2) := by decide +kernel
theorem dL_places_174 : decode cL_places 174 = .ok (.iconst 1, 1) := by decide +kernel
theorem dL_places_175 : decode cL_places 175 = .ok (.invokevirtual 21, 3) := by decide +kernel
theorem dL_places_178 : decode cL_places 178 = .ok (.iload 6, 2) := by decide +kernel
theorem dL_places_180 : decode cL_places 180 = .ok (.if_icmp .ne 16, 3) := by decide +kernel
theorem dL_places_183 : decode cL_places 183 = .ok (.iload 7, 2) := by decide +kernel
theorem dL_places_185 : decode cL_places 185 = .ok (.iconst 3, 1) := by decide +kernel
theorem dL_places_186 : decode cL_places 186 = .ok (.if_icmp .ne 12, 3) := by decide +kernel
theorem dL_places_189 : decode cL_places 189 = .ok (.iload 9, 2) := by decide +kernel
theorem dL_places_191 : decode cL_places 191 = .ok (.bipush 32, 2) := by decide +kernel
theorem dL_places_193 : decode cL_places 193 = .ok (.if_icmp .ge 5, 3) := by decide +kernel
theorem dL_places_196 : decode cL_places 196 = .ok (.iconst 0, 1) := by decide +kernel
theorem dL_places_197 : decode cL_places 197 = .ok (.ireturn, 1) := by decide +kernel
theorem dL_places_198 : decode cL_places 198 = .ok (.iload 7, 2) := by decide +kernel
theorem dL_places_200 : decode cL_places 200 = .ok (.ifCond .ne 106, 3) := by decide +kernel
theorem dL_places_203 : decode cL_places 203 = .ok (.aload 5, 2) := by decide +kernel
theorem dL_places_205 : decode cL_places 205 = .ok (.iload 8, 2) := by decide +kernel
theorem dL_places_207 : decode cL_places 207 = .ok (.dup2, 1) := by decide +kernel
theorem dL_places_208 : decode cL_places 208 = .ok (.iaload, 1) := by decide +kernel
theorem dL_places_209 : decode cL_places 209 = .ok (.iconst 1, 1) := by decide +kernel
theorem dL_places_210 : decode cL_places 210 = .ok (.iadd, 1) := by decide +kernel
theorem dL_places_211 : decode cL_places 211 = .ok (.iastore, 1) := by decide +kernel
theorem dL_places_212 : decode cL_places 212 = .ok (.aload_n 0, 1) := by decide +kernel
theorem dL_places_213 : decode cL_places 213 = .ok (.iload 8, 2) := by decide +kernel
theorem dL_places_215 : decode cL_places 215 = .ok (.iconst 3, 1) := by decide +kernel
theorem dL_places_216 : decode cL_places 216 = .ok (.invokevirtual 24, 3) := by decide +kernel
theorem dL_places_219 : decode cL_places 219 = .ok (.istore 10, 2) := by decide +kernel
theorem dL_places_221 : decode cL_places 221 = .ok (.aload_n 0, 1) := by decide +kernel
theorem dL_places_222 : decode cL_places 222 = .ok (.iload 8, 2) := by decide +kernel
theorem dL_places_224 : decode cL_places 224 = .ok (.iconst 4, 1) := by decide +kernel
theorem dL_places_225 : decode cL_places 225 = .ok (.invokevirtual 24, 3) := by decide +kernel
theorem dL_places_228 : decode cL_places 228 = .ok (.istore 11, 2) := by decide +kernel
theorem dL_places_230 : decode cL_places 230 = .ok (.iload 9, 2) := by decide +kernel
theorem dL_places_232 : decode cL_places 232 = .ok (.bipush 32, 2) := by decide +kernel
theorem dL_places_234 : decode cL_places 234 = .ok (.if_icmp .ge 39, 3) := by decide +kernel
theorem dL_places_237 : decode cL_places 237 = .ok (.iload 10, 2) := by decide +kernel
theorem dL_places_239 : decode cL_places 239 = .ok (.ifCond .lt 65, 3) := by decide +kernel
theorem dL_places_242 : decode cL_places 242 = .ok (.aload_n 0, 1) := by decide +kernel
theorem dL_places_243 : decode cL_places 243 = .ok (.iload 10, 2) := by decide +kernel
theorem dL_places_245 : decode cL_places 245 = .ok (.iconst 2, 1) := by decide +kernel
theorem dL_places_246 : decode cL_places 246 = .ok (.invokevirtual 15, 3) := by decide +kernel
theorem dL_places_249 : decode cL_places 249 = .ok (.iload 9, 2) := by decide +kernel
theorem dL_places_251 : decode cL_places 251 = .ok (.if_icmp .gt 53, 3) := by decide +kernel
theorem dL_places_254 : decode cL_places 254 = .ok (.aload_n 0, 1) := by decide +kernel
theorem dL_places_255 : decode cL_places 255 = .ok (.iload 10, 2) := by decide +kernel
theorem dL_places_257 : decode cL_places 257 = .ok (.iconst 2, 1) := by decide +kernel
theorem dL_places_258 : decode cL_places 258 = .ok (.invokevirtual 15, 3) := by decide +kernel
theorem dL_places_261 : decode cL_places 261 = .ok (.iload 9, 2) := by decide +kernel
theorem dL_places_263 : decode cL_places 263 = .ok (.if_icmp .ne 10, 3) := by decide +kernel
theorem dL_places_266 : decode cL_places 266 = .ok (.iload 10, 2) := by decide +kernel
theorem dL_places_268 : decode cL_places 268 = .ok (.iload 6, 2) := by decide +kernel
theorem dL_places_270 : decode cL_places 270 = .ok (.if_icmp .gt 34, 3) := by decide +kernel
theorem dL_places_273 : decode cL_places 273 = .ok (.aload_n 0, 1) := by decide +kernel
theorem dL_places_274 : decode cL_places 274 = .ok (.iload 11, 2) := by decide +kernel
theorem dL_places_276 : decode cL_places 276 = .ok (.iconst 2, 1) := by decide +kernel
theorem dL_places_277 : decode cL_places 277 = .ok (.invokevirtual 15, 3) := by decide +kernel
theorem dL_places_280 : decode cL_places 280 = .ok (.iload 9, 2) := by decide +kernel
theorem dL_places_282 : decode cL_places 282 = .ok (.if_icmp .lt 22, 3) := by decide +kernel
theorem dL_places_285 : decode cL_places 285 = .ok (.aload_n 0, 1) := by decide +kernel
theorem dL_places_286 : decode cL_places 286 = .ok (.iload 11, 2) := by decide +kernel
theorem dL_places_288 : decode cL_places 288 = .ok (.iconst 2, 1) := by decide +kernel
theorem dL_places_289 : decode cL_places 289 = .ok (.invokevirtual 15, 3) := by decide +kernel
theorem dL_places_292 : decode cL_places 292 = .ok (.iload 9, 2) := by decide +kernel
theorem dL_places_294 : decode cL_places 294 = .ok (.if_icmp .ne 12, 3) := by decide +kernel
theorem dL_places_297 : decode cL_places 297 = .ok (.iload 11, 2) := by decide +kernel
theorem dL_places_299 : decode cL_places 299 = .ok (.iload 6, 2) := by decide +kernel
theorem dL_places_301 : decode cL_places 301 = .ok (.if_icmp .le 5, 3) := by decide +kernel
theorem dL_places_304 : decode cL_places 304 = .ok (.iconst 0, 1) := by decide +kernel
theorem dL_places_305 : decode cL_places 305 = .ok (.ireturn, 1) := by decide +kernel
theorem dL_places_306 : decode cL_places 306 = .ok (.iinc 6 1, 3) := by decide +kernel
theorem dL_places_309 : decode cL_places 309 = .ok (.goto (-285), 3) := by decide +kernel
theorem dL_places_312 : decode cL_places 312 = .ok (.iconst 0, 1) := by decide +kernel
theorem dL_places_313 : decode cL_places 313 = .ok (.istore 6, 2) := by decide +kernel
theorem dL_places_315 : decode cL_places 315 = .ok (.iload 6, 2) := by decide +kernel
theorem dL_places_317 : decode cL_places 317 = .ok (.bipush 8, 2) := by decide +kernel
theorem dL_places_319 : decode cL_places 319 = .ok (.if_icmp .ge 158, 3) := by decide +kernel
theorem dL_places_322 : decode cL_places 322 = .ok (.aload_n 0, 1) := by decide +kernel
theorem dL_places_323 : decode cL_places 323 = .ok (.iload 6, 2) := by decide +kernel
theorem dL_places_325 : decode cL_places 325 = .ok (.iconst 3, 1) := by decide +kernel
theorem dL_places_326 : decode cL_places 326 = .ok (.invokevirtual 24, 3) := by decide +kernel
theorem dL_places_329 : decode cL_places 329 = .ok (.istore 7, 2) := by decide +kernel
theorem dL_places_331 : decode cL_places 331 = .ok (.aload_n 0, 1) := by decide +kernel
theorem dL_places_332 : decode cL_places 332 = .ok (.iload 6, 2) := by decide +kernel
theorem dL_places_334 : decode cL_places 334 = .ok (.iconst 1, 1) := by decide +kernel
theorem dL_places_335 : decode cL_places 335 = .ok (.invokevirtual 24, 3) := by decide +kernel
theorem dL_places_338 : decode cL_places 338 = .ok (.aload 5, 2) := by decide +kernel
theorem dL_places_340 : decode cL_places 340 = .ok (.iload 6, 2) := by decide +kernel
theorem dL_places_342 : decode cL_places 342 = .ok (.iaload, 1) := by decide +kernel
theorem dL_places_343 : decode cL_places 343 = .ok (.if_icmp .ne 126, 3) := by decide +kernel
theorem dL_places_346 : decode cL_places 346 = .ok (.aload 5, 2) := by decide +kernel
theorem dL_places_348 : decode cL_places 348 = .ok (.iload 6, 2) := by decide +kernel
theorem dL_places_350 : decode cL_places 350 = .ok (.iaload, 1) := by decide +kernel
theorem dL_places_351 : decode cL_places 351 = .ok (.aload_n 0, 1) := by decide +kernel
theorem dL_places_352 : decode cL_places 352 = .ok (.iload 6, 2) := by decide +kernel
theorem dL_places_354 : decode cL_places 354 = .ok (.iconst 0, 1) := by decide +kernel
theorem dL_places_355 : decode cL_places 355 = .ok (.invokevirtual 24, 3) := by decide +kernel
theorem dL_places_358 : decode cL_places 358 = .ok (.if_icmp .gt 111, 3) := by decide +kernel
theorem dL_places_361 : decode cL_places 361 = .ok (.iload 7, 2) := by decide +kernel
theorem dL_places_363 : decode cL_places 363 = .ok (.bipush (-9), 2) := by decide +kernel
theorem dL_places_365 : decode cL_places 365 = .ok (.if_icmp .ne 7, 3) := by decide +kernel
theorem dL_places_368 : decode cL_places 368 = .ok (.iconst 1, 1) := by decide +kernel
theorem dL_places_369 : decode cL_places 369 = .ok (.goto 4, 3) := by decide +kernel
theorem dL_places_372 : decode cL_places 372 = .ok (.iconst 0, 1) := by decide +kernel
theorem dL_places_373 : decode cL_places 373 = .ok (.aload_n 0, 1) := by decide +kernel
theorem dL_places_374 : decode cL_places 374 = .ok (.iload 6, 2) := by decide +kernel
theorem dL_places_376 : decode cL_places 376 = .ok (.iconst 2, 1) := by decide +kernel
theorem dL_places_377 : decode cL_places 377 = .ok (.invokevirtual 24, 3) := by decide +kernel
theorem dL_places_380 : decode cL_places 380 = .ok (.aload 5, 2) := by decide +kernel
theorem dL_places_382 : decode cL_places 382 = .ok (.iload 6, 2) := by decide +kernel
theorem dL_places_384 : decode cL_places 384 = .ok (.iaload, 1) := by decide +kernel
theorem dL_places_385 : decode cL_places 385 = .ok (.if_icmp .ne 7, 3) := by decide +kernel
theorem dL_places_388 : decode cL_places 388 = .ok (.iconst 1, 1) := by decide +kernel
theorem dL_places_389 : decode cL_places 389 = .ok (.goto 4, 3) := by decide +kernel
theorem dL_places_392 : decode cL_places 392 = .ok (.iconst 0, 1) := by decide +kernel
theorem dL_places_393 : decode cL_places 393 = .ok (.if_icmp .ne 76, 3) := by decide +kernel
theorem dL_places_396 : decode cL_places 396 = .ok (.iload 7, 2) := by decide +kernel
theorem dL_places_398 : decode cL_places 398 = .ok (.bipush (-9), 2) := by decide +kernel
theorem dL_places_400 : decode cL_places 400 = .ok (.if_icmp .eq 36, 3) := by decide +kernel
theorem dL_places_403 : decode cL_places 403 = .ok (.aload_n 0, 1) := by decide +kernel
theorem dL_places_404 : decode cL_places 404 = .ok (.iload 7, 2) := by decide +kernel
theorem dL_places_406 : decode cL_places 406 = .ok (.iconst 3, 1) := by decide +kernel
theorem dL_places_407 : decode cL_places 407 = .ok (.invokevirtual 15, 3) := by decide +kernel
theorem dL_places_410 : decode cL_places 410 = .ok (.iconst 1, 1) := by decide +kernel
theorem dL_places_411 : decode cL_places 411 = .ok (.if_icmp .eq 58, 3) := by decide +kernel
theorem dL_places_414 : decode cL_places 414 = .ok (.aload_n 0, 1) := by decide +kernel
theorem dL_places_415 : decode cL_places 415 = .ok (.iload 7, 2) := by decide +kernel
theorem dL_places_417 : decode cL_places 417 = .ok (.iconst 0, 1) := by decide +kernel
theorem dL_places_418 : decode cL_places 418 = .ok (.invokevirtual 15, 3) := by decide +kernel
theorem dL_places_421 : decode cL_places 421 = .ok (.ifCond .ne 48, 3) := by decide +kernel
theorem dL_places_424 : decode cL_places 424 = .ok (.aload_n 0, 1) := by decide +kernel
theorem dL_places_425 : decode cL_places 425 = .ok (.iload 7, 2) := by decide +kernel
theorem dL_places_427 : decode cL_places 427 = .ok (.iconst 1, 1) := by decide +kernel
theorem dL_places_428 : decode cL_places 428 = .ok (.invokevirtual 15, 3) := by decide +kernel
theorem dL_places_431 : decode cL_places 431 = .ok (.iload 6, 2) := by decide +kernel
theorem dL_places_433 : decode cL_places 433 = .ok (.if_icmp .ne 36, 3) := by decide +kernel
theorem dL_places_436 : decode cL_places 436 = .ok (.aload_n 0, 1) := by decide +kernel
theorem dL_places_437 : decode cL_places 437 = .ok (.iload 6, 2) := by decide +kernel
theorem dL_places_439 : decode cL_places 439 = .ok (.iconst 4, 1) := by decide +kernel
theorem dL_places_440 : decode cL_places 440 = .ok (.invokevirtual 24, 3) := by decide +kernel
theorem dL_places_443 : decode cL_places 443 = .ok (.bipush (-9), 2) := by decide +kernel
theorem dL_places_445 : decode cL_places 445 = .ok (.if_icmp .ne 7, 3) := by decide +kernel
theorem dL_places_448 : decode cL_places 448 = .ok (.iconst 1, 1) := by decide +kernel
theorem dL_places_449 : decode cL_places 449 = .ok (.goto 4, 3) := by decide +kernel
theorem dL_places_452 : decode cL_places 452 = .ok (.iconst 0, 1) := by decide +kernel
theorem dL_places_453 : decode cL_places 453 = .ok (.aload 5, 2) := by decide +kernel
theorem dL_places_455 : decode cL_places 455 = .ok (.iload 6, 2) := by decide +kernel
theorem dL_places_457 : decode cL_places 457 = .ok (.iaload, 1) := by decide +kernel
theorem dL_places_458 : decode cL_places 458 = .ok (.ifCond .ne 7, 3) := by decide +kernel
theorem dL_places_461 : decode cL_places 461 = .ok (.iconst 1, 1) := by decide +kernel
theorem dL_places_462 : decode cL_places 462 = .ok (.goto 4, 3) := by decide +kernel
theorem dL_places_465 : decode cL_places 465 = .ok (.iconst 0, 1) := by decide +kernel
theorem dL_places_466 : decode cL_places 466 = .ok (.if_icmp .eq 5, 3) := by decide +kernel
theorem dL_places_469 : decode cL_places 469 = .ok (.iconst 0, 1) := by decide +kernel
theorem dL_places_470 : decode cL_places 470 = .ok (.ireturn, 1) := by decide +kernel
theorem dL_places_471 : decode cL_places 471 = .ok (.iinc 6 1, 3) := by decide +kernel
theorem dL_places_474 : decode cL_places 474 = .ok (.goto (-159), 3) := by decide +kernel
theorem dL_places_477 : decode cL_places 477 = .ok (.iconst 0, 1) := by decide +kernel
theorem dL_places_478 : decode cL_places 478 = .ok (.istore 6, 2) := by decide +kernel
theorem dL_places_480 : decode cL_places 480 = .ok (.iload 6, 2) := by decide +kernel
theorem dL_places_482 : decode cL_places 482 = .ok (.iconst 5, 1) := by decide +kernel
theorem dL_places_483 : decode cL_places 483 = .ok (.if_icmp .ge 27, 3) := by decide +kernel
theorem dL_places_486 : decode cL_places 486 = .ok (.aload_n 0, 1) := by decide +kernel
theorem dL_places_487 : decode cL_places 487 = .ok (.iconst 2, 1) := by decide +kernel
theorem dL_places_488 : decode cL_places 488 = .ok (.iload 6, 2) := by decide +kernel
theorem dL_places_490 : decode cL_places 490 = .ok (.iadd, 1) := by decide +kernel
theorem dL_places_491 : decode cL_places 491 = .ok (.invokevirtual 9, 3) := by decide +kernel
theorem dL_places_494 : decode cL_places 494 = .ok (.aload 4, 2) := by decide +kernel
theorem dL_places_496 : decode cL_places 496 = .ok (.iload 6, 2) := by decide +kernel
theorem dL_places_498 : decode cL_places 498 = .ok (.iaload, 1) := by decide +kernel
theorem dL_places_499 : decode cL_places 499 = .ok (.if_icmp .eq 5, 3) := by decide +kernel
theorem dL_places_502 : decode cL_places 502 = .ok (.iconst 0, 1) := by decide +kernel
theorem dL_places_503 : decode cL_places 503 = .ok (.ireturn, 1) := by decide +kernel
theorem dL_places_504 : decode cL_places 504 = .ok (.iinc 6 1, 3) := by decide +kernel
theorem dL_places_507 : decode cL_places 507 = .ok (.goto (-27), 3) := by decide +kernel
theorem dL_places_510 : decode cL_places 510 = .ok (.aload_n 0, 1) := by decide +kernel
theorem dL_places_511 : decode cL_places 511 = .ok (.bipush 7, 2) := by decide +kernel
theorem dL_places_513 : decode cL_places 513 = .ok (.invokevirtual 9, 3) := by decide +kernel
theorem dL_places_516 : decode cL_places 516 = .ok (.iload_n 2, 1) := by decide +kernel
theorem dL_places_517 : decode cL_places 517 = .ok (.if_icmp .ne 27, 3) := by decide +kernel
theorem dL_places_520 : decode cL_places 520 = .ok (.aload_n 0, 1) := by decide +kernel
theorem dL_places_521 : decode cL_places 521 = .ok (.bipush 12, 2) := by decide +kernel
theorem dL_places_523 : decode cL_places 523 = .ok (.invokevirtual 9, 3) := by decide +kernel
theorem dL_places_526 : decode cL_places 526 = .ok (.iload_n 3, 1) := by decide +kernel
theorem dL_places_527 : decode cL_places 527 = .ok (.if_icmp .ne 17, 3) := by decide +kernel
theorem dL_places_530 : decode cL_places 530 = .ok (.aload_n 0, 1) := by decide +kernel
theorem dL_places_531 : decode cL_places 531 = .ok (.iload_n 1, 1) := by decide +kernel
theorem dL_places_532 : decode cL_places 532 = .ok (.iconst 0, 1) := by decide +kernel
theorem dL_places_533 : decode cL_places 533 = .ok (.invokevirtual 15, 3) := by decide +kernel
theorem dL_places_536 : decode cL_places 536 = .ok (.iconst (-1), 1) := by decide +kernel
theorem dL_places_537 : decode cL_places 537 = .ok (.if_icmp .ne 7, 3) := by decide +kernel
theorem dL_places_540 : decode cL_places 540 = .ok (.iconst 1, 1) := by decide +kernel
theorem dL_places_541 : decode cL_places 541 = .ok (.goto 4, 3) := by decide +kernel
theorem dL_places_544 : decode cL_places 544 = .ok (.iconst 0, 1) := by decide +kernel
theorem dL_places_545 : decode cL_places 545 = .ok (.ireturn, 1) := by decide +kernel
theorem dL_coins_0 : decode cL_coins 0 = .ok (.iconst 0, 1) := by decide +kernel
theorem dL_coins_1 : decode cL_coins 1 = .ok (.istore_n 1, 1) := by decide +kernel
theorem dL_coins_2 : decode cL_coins 2 = .ok (.iconst 0, 1) := by decide +kernel
theorem dL_coins_3 : decode cL_coins 3 = .ok (.istore_n 2, 1) := by decide +kernel
theorem dL_coins_4 : decode cL_coins 4 = .ok (.iconst 0, 1) := by decide +kernel
theorem dL_coins_5 : decode cL_coins 5 = .ok (.istore_n 3, 1) := by decide +kernel
theorem dL_coins_6 : decode cL_coins 6 = .ok (.iconst 0, 1) := by decide +kernel
theorem dL_coins_7 : decode cL_coins 7 = .ok (.istore 4, 2) := by decide +kernel
theorem dL_coins_9 : decode cL_coins 9 = .ok (.iload 4, 2) := by decide +kernel
theorem dL_coins_11 : decode cL_coins 11 = .ok (.bipush 12, 2) := by decide +kernel
theorem dL_coins_13 : decode cL_coins 13 = .ok (.if_icmp .ge 287, 3) := by decide +kernel
theorem dL_coins_16 : decode cL_coins 16 = .ok (.aload_n 0, 1) := by decide +kernel
theorem dL_coins_17 : decode cL_coins 17 = .ok (.iload 4, 2) := by decide +kernel
theorem dL_coins_19 : decode cL_coins 19 = .ok (.iconst 1, 1) := by decide +kernel
theorem dL_coins_20 : decode cL_coins 20 = .ok (.invokevirtual 21, 3) := by decide +kernel
theorem dL_coins_23 : decode cL_coins 23 = .ok (.istore 5, 2) := by decide +kernel
theorem dL_coins_25 : decode cL_coins 25 = .ok (.iload_n 1, 1) := by decide +kernel
theorem dL_coins_26 : decode cL_coins 26 = .ok (.aload_n 0, 1) := by decide +kernel
theorem dL_coins_27 : decode cL_coins 27 = .ok (.iload 4, 2) := by decide +kernel
theorem dL_coins_29 : decode cL_coins 29 = .ok (.iconst 0, 1) := by decide +kernel
theorem dL_coins_30 : decode cL_coins 30 = .ok (.invokevirtual 21, 3) := by decide +kernel
theorem dL_coins_33 : decode cL_coins 33 = .ok (.iadd, 1) := by decide +kernel
theorem dL_coins_34 : decode cL_coins 34 = .ok (.istore_n 1, 1) := by decide +kernel
theorem dL_coins_35 : decode cL_coins 35 = .ok (.iload_n 2, 1) := by decide +kernel
theorem dL_coins_36 : decode cL_coins 36 = .ok (.aload_n 0, 1) := by decide +kernel
theorem dL_coins_37 : decode cL_coins 37 = .ok (.iload 4, 2) := by decide +kernel
theorem dL_coins_39 : decode cL_coins 39 = .ok (.iconst 5, 1) := by decide +kernel
theorem dL_coins_40 : decode cL_coins 40 = .ok (.invokevirtual 21, 3) := by decide +kernel
theorem dL_coins_43 : decode cL_coins 43 = .ok (.iadd, 1) := by decide +kernel
theorem dL_coins_44 : decode cL_coins 44 = .ok (.istore_n 2, 1) := by decide +kernel
theorem dL_coins_45 : decode cL_coins 45 = .ok (.iload_n 3, 1) := by decide +kernel
theorem dL_coins_46 : decode cL_coins 46 = .ok (.iload 5, 2) := by decide +kernel
theorem dL_coins_48 : decode cL_coins 48 = .ok (.bipush (-9), 2) := by decide +kernel
theorem dL_coins_50 : decode cL_coins 50 = .ok (.if_icmp .ne 7, 3) := by decide +kernel
theorem dL_coins_53 : decode cL_coins 53 = .ok (.iconst 0, 1) := by decide +kernel
theorem dL_coins_54 : decode cL_coins 54 = .ok (.goto 4, 3) := by decide +kernel
theorem dL_coins_57 : decode cL_coins 57 = .ok (.iconst 1, 1) := by decide +kernel
theorem dL_coins_58 : decode cL_coins 58 = .ok (.iadd, 1) := by decide +kernel
theorem dL_coins_59 : decode cL_coins 59 = .ok (.istore_n 3, 1) := by decide +kernel
theorem dL_coins_60 : decode cL_coins 60 = .ok (.aload_n 0, 1) := by decide +kernel
theorem dL_coins_61 : decode cL_coins 61 = .ok (.iload 4, 2) := by decide +kernel
theorem dL_coins_63 : decode cL_coins 63 = .ok (.iconst 0, 1) := by decide +kernel
theorem dL_coins_64 : decode cL_coins 64 = .ok (.iconst 0, 1) := by decide +kernel
theorem dL_coins_65 : decode cL_coins 65 = .ok (.invokevirtual 27, 3) := by decide +kernel
theorem dL_coins_68 : decode cL_coins 68 = .ok (.istore 6, 2) := by decide +kernel
theorem dL_coins_70 : decode cL_coins 70 = .ok (.aload_n 0, 1) := by decide +kernel
theorem dL_coins_71 : decode cL_coins 71 = .ok (.iload 4, 2) := by decide +kernel
theorem dL_coins_73 : decode cL_coins 73 = .ok (.iconst 0, 1) := by decide +kernel
theorem dL_coins_74 : decode cL_coins 74 = .ok (.invokevirtual 21, 3) := by decide +kernel
theorem dL_coins_77 : decode cL_coins 77 = .ok (.ifCond .lt 94, 3) := by decide +kernel
theorem dL_coins_80 : decode cL_coins 80 = .ok (.iload 5, 2) := by decide +kernel
theorem dL_coins_82 : decode cL_coins 82 = .ok (.bipush (-9), 2) := by decide +kernel
theorem dL_coins_84 : decode cL_coins 84 = .ok (.if_icmp .eq 26, 3) := by decide +kernel
theorem dL_coins_87 : decode cL_coins 87 = .ok (.aload_n 0, 1) := by decide +kernel
theorem dL_coins_88 : decode cL_coins 88 = .ok (.iload 5, 2) := by decide +kernel
theorem dL_coins_90 : decode cL_coins 90 = .ok (.iconst 0, 1) := by decide +kernel
theorem dL_coins_91 : decode cL_coins 91 = .ok (.invokevirtual 15, 3) := by decide +kernel
theorem dL_coins_94 : decode cL_coins 94 = .ok (.iconst 1, 1) := by decide +kernel
theorem dL_coins_95 : decode cL_coins 95 = .ok (.if_icmp .ne 76, 3) := by decide +kernel
theorem dL_coins_98 : decode cL_coins 98 = .ok (.aload_n 0, 1) := by decide +kernel
theorem dL_coins_99 : decode cL_coins 99 = .ok (.iload 5, 2) := by decide +kernel
theorem dL_coins_101 : decode cL_coins 101 = .ok (.iconst 1, 1) := by decide +kernel
theorem dL_coins_102 : decode cL_coins 102 = .ok (.invokevirtual 15, 3) := by decide +kernel
theorem dL_coins_105 : decode cL_coins 105 = .ok (.iload 4, 2) := by decide +kernel
theorem dL_coins_107 : decode cL_coins 107 = .ok (.if_icmp .ne 64, 3) := by decide +kernel
theorem dL_coins_110 : decode cL_coins 110 = .ok (.iload 5, 2) := by decide +kernel
theorem dL_coins_112 : decode cL_coins 112 = .ok (.bipush (-9), 2) := by decide +kernel
theorem dL_coins_114 : decode cL_coins 114 = .ok (.if_icmp .ne 7, 3) := by decide +kernel
theorem dL_coins_117 : decode cL_coins 117 = .ok (.iconst 1, 1) := by decide +kernel
theorem dL_coins_118 : decode cL_coins 118 = .ok (.goto 4, 3) := by decide +kernel
theorem dL_coins_121 : decode cL_coins 121 = .ok (.iconst 0, 1) := by decide +kernel
theorem dL_coins_122 : decode cL_coins 122 = .ok (.iload 6, 2) := by decide +kernel
theorem dL_coins_124 : decode cL_coins 124 = .ok (.bipush (-2), 2) := by decide +kernel
theorem dL_coins_126 : decode cL_coins 126 = .ok (.if_icmp .ne 7, 3) := by decide +kernel
theorem dL_coins_129 : decode cL_coins 129 = .ok (.iconst 1, 1) := by decide +kernel
theorem dL_coins_130 : decode cL_coins 130 = .ok (.goto 4, 3) := by decide +kernel
theorem dL_coins_133 : decode cL_coins 133 = .ok (.iconst 0, 1) := by decide +kernel
theorem dL_coins_134 : decode cL_coins 134 = .ok (.if_icmp .ne 37, 3) := by decide +kernel
theorem dL_coins_137 : decode cL_coins 137 = .ok (.iload 5, 2) := by decide +kernel
theorem dL_coins_139 : decode cL_coins 139 = .ok (.bipush (-9), 2) := by decide +kernel
theorem dL_coins_141 : decode cL_coins 141 = .ok (.if_icmp .ne 23, 3) := by decide +kernel
theorem dL_coins_144 : decode cL_coins 144 = .ok (.aload_n 0, 1) := by decide +kernel
theorem dL_coins_145 : decode cL_coins 145 = .ok (.iload 4, 2) := by decide +kernel
theorem dL_coins_147 : decode cL_coins 147 = .ok (.iconst 2, 1) := by decide +kernel
theorem dL_coins_148 : decode cL_coins 148 = .ok (.invokevirtual 21, 3) := by decide +kernel
theorem dL_coins_151 : decode cL_coins 151 = .ok (.ifCond .ne 20, 3) := by decide +kernel
theorem dL_coins_154 : decode cL_coins 154 = .ok (.aload_n 0, 1) := by decide +kernel
theorem dL_coins_155 : decode cL_coins 155 = .ok (.iload 4, 2) := by decide +kernel
theorem dL_coins_157 : decode cL_coins 157 = .ok (.iconst 3, 1) := by decide +kernel
theorem dL_coins_158 : decode cL_coins 158 = .ok (.invokevirtual 21, 3) := by decide +kernel
theorem dL_coins_161 : decode cL_coins 161 = .ok (.ifCond .ne 10, 3) := by decide +kernel
theorem dL_coins_164 : decode cL_coins 164 = .ok (.iload 6, 2) := by decide +kernel
theorem dL_coins_166 : decode cL_coins 166 = .ok (.bipush 10, 2) := by decide +kernel
theorem dL_coins_168 : decode cL_coins 168 = .ok (.if_icmp .le 5, 3) := by decide +kernel
theorem dL_coins_171 : decode cL_coins 171 = .ok (.iconst 0, 1) := by decide +kernel
theorem dL_coins_172 : decode cL_coins 172 = .ok (.ireturn, 1) := by decide +kernel
theorem dL_coins_173 : decode cL_coins 173 = .ok (.iload 5, 2) := by decide +kernel
theorem dL_coins_175 : decode cL_coins 175 = .ok (.bipush (-9), 2) := by decide +kernel
theorem dL_coins_177 : decode cL_coins 177 = .ok (.if_icmp .eq 117, 3) := by decide +kernel
theorem dL_coins_180 : decode cL_coins 180 = .ok (.iload 6, 2) := by decide +kernel
theorem dL_coins_182 : decode cL_coins 182 = .ok (.aload_n 0, 1) := by decide +kernel
theorem dL_coins_183 : decode cL_coins 183 = .ok (.iload 4, 2) := by decide +kernel
theorem dL_coins_185 : decode cL_coins 185 = .ok (.iconst 2, 1) := by decide +kernel
theorem dL_coins_186 : decode cL_coins 186 = .ok (.invokevirtual 21, 3) := by decide +kernel
theorem dL_coins_189 : decode cL_coins 189 = .ok (.aload_n 0, 1) := by decide +kernel
theorem dL_coins_190 : decode cL_coins 190 = .ok (.bipush 14, 2) := by decide +kernel
theorem dL_coins_192 : decode cL_coins 192 = .ok (.invokevirtual 9, 3) := by decide +kernel
theorem dL_coins_195 : decode cL_coins 195 = .ok (.imul, 1) := by decide +kernel
theorem dL_coins_196 : decode cL_coins 196 = .ok (.iconst 4, 1) := by decide +kernel
theorem dL_coins_197 : decode cL_coins 197 = .ok (.aload_n 0, 1) := by decide +kernel
theorem dL_coins_198 : decode cL_coins 198 = .ok (.iload 4, 2) := by decide +kernel
theorem dL_coins_200 : decode cL_coins 200 = .ok (.iconst 3, 1) := by decide +kernel
theorem dL_coins_201 : decode cL_coins 201 = .ok (.invokevirtual 21, 3) := by decide +kernel
theorem dL_coins_204 : decode cL_coins 204 = .ok (.imul, 1) := by decide +kernel
theorem dL_coins_205 : decode cL_coins 205 = .ok (.iadd, 1) := by decide +kernel
theorem dL_coins_206 : decode cL_coins 206 = .ok (.bipush 10, 2) := by decide +kernel
theorem dL_coins_208 : decode cL_coins 208 = .ok (.if_icmp .le 8, 3) := by decide +kernel
theorem dL_coins_211 : decode cL_coins 211 = .ok (.bipush 10, 2) := by decide +kernel
theorem dL_coins_213 : decode cL_coins 213 = .ok (.goto 27, 3) := by decide +kernel
theorem dL_coins_216 : decode cL_coins 216 = .ok (.aload_n 0, 1) := by decide +kernel
theorem dL_coins_217 : decode cL_coins 217 = .ok (.iload 4, 2) := by decide +kernel
theorem dL_coins_219 : decode cL_coins 219 = .ok (.iconst 2, 1) := by decide +kernel
theorem dL_coins_220 : decode cL_coins 220 = .ok (.invokevirtual 21, 3) := by decide +kernel
theorem dL_coins_223 : decode cL_coins 223 = .ok (.aload_n 0, 1) := by decide +kernel
theorem dL_coins_224 : decode cL_coins 224 = .ok (.bipush 14, 2) := by decide +kernel
theorem dL_coins_226 : decode cL_coins 226 = .ok (.invokevirtual 9, 3) := by decide +kernel
theorem dL_coins_229 : decode cL_coins 229 = .ok (.imul, 1) := by decide +kernel
theorem dL_coins_230 : decode cL_coins 230 = .ok (.iconst 4, 1) := by decide +kernel
theorem dL_coins_231 : decode cL_coins 231 = .ok (.aload_n 0, 1) := by decide +kernel
theorem dL_coins_232 : decode cL_coins 232 = .ok (.iload 4, 2) := by decide +kernel
theorem dL_coins_234 : decode cL_coins 234 = .ok (.iconst 3, 1) := by decide +kernel
theorem dL_coins_235 : decode cL_coins 235 = .ok (.invokevirtual 21, 3) := by decide +kernel
theorem dL_coins_238 : decode cL_coins 238 = .ok (.imul, 1) := by decide +kernel
theorem dL_coins_239 : decode cL_coins 239 = .ok (.iadd, 1) := by decide +kernel
theorem dL_coins_240 : decode cL_coins 240 = .ok (.if_icmp .ne 52, 3) := by decide +kernel
theorem dL_coins_243 : decode cL_coins 243 = .ok (.aload_n 0, 1) := by decide +kernel
theorem dL_coins_244 : decode cL_coins 244 = .ok (.iload 4, 2) := by decide +kernel
theorem dL_coins_246 : decode cL_coins 246 = .ok (.bipush 7, 2) := by decide +kernel
theorem dL_coins_248 : decode cL_coins 248 = .ok (.iconst 4, 1) := by decide +kernel
theorem dL_coins_249 : decode cL_coins 249 = .ok (.invokevirtual 27, 3) := by decide +kernel
theorem dL_coins_252 : decode cL_coins 252 = .ok (.iload 6, 2) := by decide +kernel
theorem dL_coins_254 : decode cL_coins 254 = .ok (.if_icmp .lt 38, 3) := by decide +kernel
theorem dL_coins_257 : decode cL_coins 257 = .ok (.aload_n 0, 1) := by decide +kernel
theorem dL_coins_258 : decode cL_coins 258 = .ok (.iload 4, 2) := by decide +kernel
theorem dL_coins_260 : decode cL_coins 260 = .ok (.iconst 3, 1) := by decide +kernel
theorem dL_coins_261 : decode cL_coins 261 = .ok (.iconst 1, 1) := by decide +kernel
theorem dL_coins_262 : decode cL_coins 262 = .ok (.invokevirtual 31, 3) := by decide +kernel
theorem dL_coins_265 : decode cL_coins 265 = .ok (.ifCond .ne 7, 3) := by decide +kernel
theorem dL_coins_268 : decode cL_coins 268 = .ok (.iconst 1, 1) := by decide +kernel
theorem dL_coins_269 : decode cL_coins 269 = .ok (.goto 4, 3) := by decide +kernel
theorem dL_coins_272 : decode cL_coins 272 = .ok (.iconst 0, 1) := by decide +kernel
theorem dL_coins_273 : decode cL_coins 273 = .ok (.aload_n 0, 1) := by decide +kernel
theorem dL_coins_274 : decode cL_coins 274 = .ok (.iload 5, 2) := by decide +kernel
theorem dL_coins_276 : decode cL_coins 276 = .ok (.iconst 3, 1) := by decide +kernel
theorem dL_coins_277 : decode cL_coins 277 = .ok (.invokevirtual 15, 3) := by decide +kernel
theorem dL_coins_280 : decode cL_coins 280 = .ok (.iconst 1, 1) := by decide +kernel
theorem dL_coins_281 : decode cL_coins 281 = .ok (.if_icmp .ne 7, 3) := by decide +kernel
theorem dL_coins_284 : decode cL_coins 284 = .ok (.iconst 1, 1) := by decide +kernel
theorem dL_coins_285 : decode cL_coins 285 = .ok (.goto 4, 3) := by decide +kernel
theorem dL_coins_288 : decode cL_coins 288 = .ok (.iconst 0, 1) := by decide +kernel
theorem dL_coins_289 : decode cL_coins 289 = .ok (.if_icmp .eq 5, 3) := by decide +kernel
theorem dL_coins_292 : decode cL_coins 292 = .ok (.iconst 0, 1) := by decide +kernel
theorem dL_coins_293 : decode cL_coins 293 = .ok (.ireturn, 1) := by decide +kernel
theorem dL_coins_294 : decode cL_coins 294 = .ok (.iinc 4 1, 3) := by decide +kernel
theorem dL_coins_297 : decode cL_coins 297 = .ok (.goto (-288), 3) := by decide +kernel
theorem dL_coins_300 : decode cL_coins 300 = .ok (.aload_n 0, 1) := by decide +kernel
theorem dL_coins_301 : decode cL_coins 301 = .ok (.bipush 9, 2) := by decide +kernel
theorem dL_coins_303 : decode cL_coins 303 = .ok (.invokevirtual 9, 3) := by decide +kernel
theorem dL_coins_306 : decode cL_coins 306 = .ok (.iload_n 1, 1) := by decide +kernel
theorem dL_coins_307 : decode cL_coins 307 = .ok (.if_icmp .ne 60, 3) := by decide +kernel
theorem dL_coins_310 : decode cL_coins 310 = .ok (.aload_n 0, 1) := by decide +kernel
theorem dL_coins_311 : decode cL_coins 311 = .ok (.bipush 11, 2) := by decide +kernel
theorem dL_coins_313 : decode cL_coins 313 = .ok (.invokevirtual 9, 3) := by decide +kernel
theorem dL_coins_316 : decode cL_coins 316 = .ok (.iload_n 2, 1) := by decide +kernel
theorem dL_coins_317 : decode cL_coins 317 = .ok (.if_icmp .ne 50, 3) := by decide +kernel
theorem dL_coins_320 : decode cL_coins 320 = .ok (.aload_n 0, 1) := by decide +kernel
theorem dL_coins_321 : decode cL_coins 321 = .ok (.iconst 3, 1) := by decide +kernel
theorem dL_coins_322 : decode cL_coins 322 = .ok (.invokevirtual 9, 3) := by decide +kernel
theorem dL_coins_325 : decode cL_coins 325 = .ok (.iload_n 3, 1) := by decide +kernel
theorem dL_coins_326 : decode cL_coins 326 = .ok (.if_icmp .ne 41, 3) := by decide +kernel
theorem dL_coins_329 : decode cL_coins 329 = .ok (.aload_n 0, 1) := by decide +kernel
theorem dL_coins_330 : decode cL_coins 330 = .ok (.bipush 8, 2) := by decide +kernel
theorem dL_coins_332 : decode cL_coins 332 = .ok (.invokevirtual 9, 3) := by decide +kernel
theorem dL_coins_335 : decode cL_coins 335 = .ok (.iload_n 1, 1) := by decide +kernel
theorem dL_coins_336 : decode cL_coins 336 = .ok (.iadd, 1) := by decide +kernel
theorem dL_coins_337 : decode cL_coins 337 = .ok (.aload_n 0, 1) := by decide +kernel
theorem dL_coins_338 : decode cL_coins 338 = .ok (.bipush 10, 2) := by decide +kernel
theorem dL_coins_340 : decode cL_coins 340 = .ok (.invokevirtual 9, 3) := by decide +kernel
theorem dL_coins_343 : decode cL_coins 343 = .ok (.iadd, 1) := by decide +kernel
theorem dL_coins_344 : decode cL_coins 344 = .ok (.sipush 580, 3) := by decide +kernel
theorem dL_coins_347 : decode cL_coins 347 = .ok (.if_icmp .ne 20, 3) := by decide +kernel
theorem dL_coins_350 : decode cL_coins 350 = .ok (.aload_n 0, 1) := by decide +kernel
theorem dL_coins_351 : decode cL_coins 351 = .ok (.bipush 8, 2) := by decide +kernel
theorem dL_coins_353 : decode cL_coins 353 = .ok (.invokevirtual 9, 3) := by decide +kernel
theorem dL_coins_356 : decode cL_coins 356 = .ok (.bipush 10, 2) := by decide +kernel
theorem dL_coins_358 : decode cL_coins 358 = .ok (.iload_n 3, 1) := by decide +kernel
theorem dL_coins_359 : decode cL_coins 359 = .ok (.imul, 1) := by decide +kernel
theorem dL_coins_360 : decode cL_coins 360 = .ok (.if_icmp .lt 7, 3) := by decide +kernel
theorem dL_coins_363 : decode cL_coins 363 = .ok (.iconst 1, 1) := by decide +kernel
theorem dL_coins_364 : decode cL_coins 364 = .ok (.goto 4, 3) := by decide +kernel
theorem dL_coins_367 : decode cL_coins 367 = .ok (.iconst 0, 1) := by decide +kernel
theorem dL_coins_368 : decode cL_coins 368 = .ok (.ireturn, 1) := by decide +kernel
theorem dL_hour_0 : decode cL_hour 0 = .ok (.aload_n 0, 1) := by decide +kernel
theorem dL_hour_1 : decode cL_hour 1 = .ok (.bipush 13, 2) := by decide +kernel
theorem dL_hour_3 : decode cL_hour 3 = .ok (.invokevirtual 9, 3) := by decide +kernel
theorem dL_hour_6 : decode cL_hour 6 = .ok (.istore_n 3, 1) := by decide +kernel
theorem dL_hour_7 : decode cL_hour 7 = .ok (.aload_n 0, 1) := by decide +kernel
theorem dL_hour_8 : decode cL_hour 8 = .ok (.iconst 0, 1) := by decide +kernel
theorem dL_hour_9 : decode cL_hour 9 = .ok (.invokevirtual 9, 3) := by decide +kernel
theorem dL_hour_12 : decode cL_hour 12 = .ok (.istore 4, 2) := by decide +kernel
theorem dL_hour_14 : decode cL_hour 14 = .ok (.aload_n 0, 1) := by decide +kernel
theorem dL_hour_15 : decode cL_hour 15 = .ok (.invokevirtual 34, 3) := by decide +kernel
theorem dL_hour_18 : decode cL_hour 18 = .ok (.istore 5, 2) := by decide +kernel
theorem dL_hour_20 : decode cL_hour 20 = .ok (.bipush 12, 2) := by decide +kernel
theorem dL_hour_22 : decode cL_hour 22 = .ok (.newarray .int, 2) := by decide +kernel
theorem dL_hour_24 : decode cL_hour 24 = .ok (.astore 6, 2) := by decide +kernel
theorem dL_hour_26 : decode cL_hour 26 = .ok (.iconst 0, 1) := by decide +kernel
theorem dL_hour_27 : decode cL_hour 27 = .ok (.istore 7, 2) := by decide +kernel
theorem dL_hour_29 : decode cL_hour 29 = .ok (.iconst 0, 1) := by decide +kernel
theorem dL_hour_30 : decode cL_hour 30 = .ok (.istore 8, 2) := by decide +kernel
theorem dL_hour_32 : decode cL_hour 32 = .ok (.iload 8, 2) := by decide +kernel
theorem dL_hour_34 : decode cL_hour 34 = .ok (.bipush 12, 2) := by decide +kernel
theorem dL_hour_36 : decode cL_hour 36 = .ok (.if_icmp .ge 41, 3) := by decide +kernel
theorem dL_hour_39 : decode cL_hour 39 = .ok (.aload 6, 2) := by decide +kernel
theorem dL_hour_41 : decode cL_hour 41 = .ok (.iload 8, 2) := by decide +kernel
theorem dL_hour_43 : decode cL_hour 43 = .ok (.aload_n 0, 1) := by decide +kernel
theorem dL_hour_44 : decode cL_hour 44 = .ok (.iload 8, 2) := by decide +kernel
theorem dL_hour_46 : decode cL_hour 46 = .ok (.iload_n 1, 1) := by decide +kernel
theorem dL_hour_47 : decode cL_hour 47 = .ok (.iload_n 2, 1) := by decide +kernel
theorem dL_hour_48 : decode cL_hour 48 = .ok (.invokevirtual 31, 3) := by decide +kernel
theorem dL_hour_51 : decode cL_hour 51 = .ok (.iastore, 1) := by decide +kernel
theorem dL_hour_52 : decode cL_hour 52 = .ok (.iload 7, 2) := by decide +kernel
theorem dL_hour_54 : decode cL_hour 54 = .ok (.aload 6, 2) := by decide +kernel
theorem dL_hour_56 : decode cL_hour 56 = .ok (.iload 8, 2) := by decide +kernel
theorem dL_hour_58 : decode cL_hour 58 = .ok (.iaload, 1) := by decide +kernel
theorem dL_hour_59 : decode cL_hour 59 = .ok (.iconst 1, 1) := by decide +kernel
theorem dL_hour_60 : decode cL_hour 60 = .ok (.if_icmp .ne 7, 3) := by decide +kernel
theorem dL_hour_63 : decode cL_hour 63 = .ok (.iconst 1, 1) := by decide +kernel
theorem dL_hour_64 : decode cL_hour 64 = .ok (.goto 4, 3) := by decide +kernel
theorem dL_hour_67 : decode cL_hour 67 = .ok (.iconst 0, 1) := by decide +kernel
theorem dL_hour_68 : decode cL_hour 68 = .ok (.iadd, 1) := by decide +kernel
theorem dL_hour_69 : decode cL_hour 69 = .ok (.istore 7, 2) := by decide +kernel
theorem dL_hour_71 : decode cL_hour 71 = .ok (.iinc 8 1, 3) := by decide +kernel
theorem dL_hour_74 : decode cL_hour 74 = .ok (.goto (-42), 3) := by decide +kernel
theorem dL_hour_77 : decode cL_hour 77 = .ok (.bipush 60, 2) := by decide +kernel
theorem dL_hour_79 : decode cL_hour 79 = .ok (.newarray .int, 2) := by decide +kernel
theorem dL_hour_81 : decode cL_hour 81 = .ok (.astore 8, 2) := by decide +kernel
theorem dL_hour_83 : decode cL_hour 83 = .ok (.iconst 0, 1) := by decide +kernel
theorem dL_hour_84 : decode cL_hour 84 = .ok (.istore 9, 2) := by decide +kernel
theorem dL_hour_86 : decode cL_hour 86 = .ok (.iload 9, 2) := by decide +kernel
theorem dL_hour_88 : decode cL_hour 88 = .ok (.aload_n 0, 1) := by decide +kernel
theorem dL_hour_89 : decode cL_hour 89 = .ok (.iconst 1, 1) := by decide +kernel
theorem dL_hour_90 : decode cL_hour 90 = .ok (.invokevirtual 9, 3) := by decide +kernel
theorem dL_hour_93 : decode cL_hour 93 = .ok (.if_icmp .ge 36, 3) := by decide +kernel
theorem dL_hour_96 : decode cL_hour 96 = .ok (.aload 8, 2) := by decide +kernel
theorem dL_hour_98 : decode cL_hour 98 = .ok (.iload 9, 2) := by decide +kernel
theorem dL_hour_100 : decode cL_hour 100 = .ok (.aload_n 0, 1) := by decide +kernel
theorem dL_hour_101 : decode cL_hour 101 = .ok (.iload 9, 2) := by decide +kernel
theorem dL_hour_103 : decode cL_hour 103 = .ok (.iconst 0, 1) := by decide +kernel
theorem dL_hour_104 : decode cL_hour 104 = .ok (.invokevirtual 15, 3) := by decide +kernel
theorem dL_hour_107 : decode cL_hour 107 = .ok (.iconst 1, 1) := by decide +kernel
theorem dL_hour_108 : decode cL_hour 108 = .ok (.if_icmp .ne 7, 3) := by decide +kernel
theorem dL_hour_111 : decode cL_hour 111 = .ok (.iconst (-1), 1) := by decide +kernel
theorem dL_hour_112 : decode cL_hour 112 = .ok (.goto 10, 3) := by decide +kernel
theorem dL_hour_115 : decode cL_hour 115 = .ok (.aload_n 0, 1) := by decide +kernel
theorem dL_hour_116 : decode cL_hour 116 = .ok (.iload 9, 2) := by decide +kernel
theorem dL_hour_118 : decode cL_hour 118 = .ok (.iconst 2, 1) := by decide +kernel
theorem dL_hour_119 : decode cL_hour 119 = .ok (.invokevirtual 15, 3) := by decide +kernel
theorem dL_hour_122 : decode cL_hour 122 = .ok (.iastore, 1) := by decide +kernel
theorem dL_hour_123 : decode cL_hour 123 = .ok (.iinc 9 1, 3) := by decide +kernel
theorem dL_hour_126 : decode cL_hour 126 = .ok (.goto (-40), 3) := by decide +kernel
theorem dL_hour_129 : decode cL_hour 129 = .ok (.aload_n 0, 1) := by decide +kernel
theorem dL_hour_130 : decode cL_hour 130 = .ok (.iload_n 1, 1) := by decide +kernel
theorem dL_hour_131 : decode cL_hour 131 = .ok (.iload_n 2, 1) := by decide +kernel
theorem dL_hour_132 : decode cL_hour 132 = .ok (.invokevirtual 38, 3) := by decide +kernel
theorem dL_hour_135 : decode cL_hour 135 = .ok (.iload 7, 2) := by decide +kernel
theorem dL_hour_137 : decode cL_hour 137 = .ok (.if_icmp .ne 40, 3) := by decide +kernel
theorem dL_hour_140 : decode cL_hour 140 = .ok (.aload_n 0, 1) := by decide +kernel
theorem dL_hour_141 : decode cL_hour 141 = .ok (.iconst 0, 1) := by decide +kernel
theorem dL_hour_142 : decode cL_hour 142 = .ok (.invokevirtual 9, 3) := by decide +kernel
theorem dL_hour_145 : decode cL_hour 145 = .ok (.iload 4, 2) := by decide +kernel
theorem dL_hour_147 : decode cL_hour 147 = .ok (.iconst 1, 1) := by decide +kernel
theorem dL_hour_148 : decode cL_hour 148 = .ok (.iadd, 1) := by decide +kernel
theorem dL_hour_149 : decode cL_hour 149 = .ok (.if_icmp .ne 28, 3) := by decide +kernel
theorem dL_hour_152 : decode cL_hour 152 = .ok (.aload_n 0, 1) := by decide +kernel
theorem dL_hour_153 : decode cL_hour 153 = .ok (.bipush 13, 2) := by decide +kernel
theorem dL_hour_155 : decode cL_hour 155 = .ok (.invokevirtual 9, 3) := by decide +kernel
theorem dL_hour_158 : decode cL_hour 158 = .ok (.iload_n 3, 1) := by decide +kernel
theorem dL_hour_159 : decode cL_hour 159 = .ok (.iload_n 1, 1) := by decide +kernel
theorem dL_hour_160 : decode cL_hour 160 = .ok (.iconst 4, 1) := by decide +kernel
theorem dL_hour_161 : decode cL_hour 161 = .ok (.if_icmp .le 7, 3) := by decide +kernel
theorem dL_hour_164 : decode cL_hour 164 = .ok (.iconst 1, 1) := by decide +kernel
theorem dL_hour_165 : decode cL_hour 165 = .ok (.goto 4, 3) := by decide +kernel
theorem dL_hour_168 : decode cL_hour 168 = .ok (.iconst 0, 1) := by decide +kernel
theorem dL_hour_169 : decode cL_hour 169 = .ok (.iadd, 1) := by decide +kernel
theorem dL_hour_170 : decode cL_hour 170 = .ok (.if_icmp .ne 7, 3) := by decide +kernel
theorem dL_hour_173 : decode cL_hour 173 = .ok (.iconst 1, 1) := by decide +kernel
theorem dL_hour_174 : decode cL_hour 174 = .ok (.goto 4, 3) := by decide +kernel
theorem dL_hour_177 : decode cL_hour 177 = .ok (.iconst 0, 1) := by decide +kernel
theorem dL_hour_178 : decode cL_hour 178 = .ok (.istore 9, 2) := by decide +kernel
theorem dL_hour_180 : decode cL_hour 180 = .ok (.iconst 0, 1) := by decide +kernel
theorem dL_hour_181 : decode cL_hour 181 = .ok (.istore 10, 2) := by decide +kernel
theorem dL_hour_183 : decode cL_hour 183 = .ok (.iconst 0, 1) := by decide +kernel
theorem dL_hour_184 : decode cL_hour 184 = .ok (.istore 11, 2) := by decide +kernel
theorem dL_hour_186 : decode cL_hour 186 = .ok (.iload 11, 2) := by decide +kernel
theorem dL_hour_188 : decode cL_hour 188 = .ok (.bipush 8, 2) := by decide +kernel
theorem dL_hour_190 : decode cL_hour 190 = .ok (.if_icmp .ge 34, 3) := by decide +kernel
theorem dL_hour_193 : decode cL_hour 193 = .ok (.iload 10, 2) := by decide +kernel
theorem dL_hour_195 : decode cL_hour 195 = .ok (.aload_n 0, 1) := by decide +kernel
theorem dL_hour_196 : decode cL_hour 196 = .ok (.iload 11, 2) := by decide +kernel
theorem dL_hour_198 : decode cL_hour 198 = .ok (.iconst 3, 1) := by decide +kernel
theorem dL_hour_199 : decode cL_hour 199 = .ok (.invokevirtual 24, 3) := by decide +kernel
theorem dL_hour_202 : decode cL_hour 202 = .ok (.bipush (-9), 2) := by decide +kernel
theorem dL_hour_204 : decode cL_hour 204 = .ok (.if_icmp .ne 10, 3) := by decide +kernel
theorem dL_hour_207 : decode cL_hour 207 = .ok (.iconst 1, 1) := by decide +kernel
theorem dL_hour_208 : decode cL_hour 208 = .ok (.iload 11, 2) := by decide +kernel
theorem dL_hour_210 : decode cL_hour 210 = .ok (.ishl, 1) := by decide +kernel
theorem dL_hour_211 : decode cL_hour 211 = .ok (.goto 4, 3) := by decide +kernel
theorem dL_hour_214 : decode cL_hour 214 = .ok (.iconst 0, 1) := by decide +kernel
theorem dL_hour_215 : decode cL_hour 215 = .ok (.ior, 1) := by decide +kernel
theorem dL_hour_216 : decode cL_hour 216 = .ok (.istore 10, 2) := by decide +kernel
theorem dL_hour_218 : decode cL_hour 218 = .ok (.iinc 11 1, 3) := by decide +kernel
theorem dL_hour_221 : decode cL_hour 221 = .ok (.goto (-35), 3) := by decide +kernel
theorem dL_hour_224 : decode cL_hour 224 = .ok (.iconst 0, 1) := by decide +kernel
theorem dL_hour_225 : decode cL_hour 225 = .ok (.istore 11, 2) := by decide +kernel
theorem dL_hour_227 : decode cL_hour 227 = .ok (.iload 11, 2) := by decide +kernel
theorem dL_hour_229 : decode cL_hour 229 = .ok (.aload_n 0, 1) := by decide +kernel
theorem dL_hour_230 : decode cL_hour 230 = .ok (.iconst 1, 1) := by decide +kernel
theorem dL_hour_231 : decode cL_hour 231 = .ok (.invokevirtual 9, 3) := by decide +kernel
theorem dL_hour_234 : decode cL_hour 234 = .ok (.if_icmp .ge 44, 3) := by decide +kernel
theorem dL_hour_237 : decode cL_hour 237 = .ok (.iload 9, 2) := by decide +kernel
theorem dL_hour_239 : decode cL_hour 239 = .ok (.ifCond .eq 39, 3) := by decide +kernel
theorem dL_hour_242 : decode cL_hour 242 = .ok (.aload 8, 2) := by decide +kernel
theorem dL_hour_244 : decode cL_hour 244 = .ok (.iload 11, 2) := by decide +kernel
theorem dL_hour_246 : decode cL_hour 246 = .ok (.iaload, 1) := by decide +kernel
theorem dL_hour_247 : decode cL_hour 247 = .ok (.ifCond .lt 18, 3) := by decide +kernel
theorem dL_hour_250 : decode cL_hour 250 = .ok (.aload_n 0, 1) := by decide +kernel
theorem dL_hour_251 : decode cL_hour 251 = .ok (.iload 11, 2) := by decide +kernel
theorem dL_hour_253 : decode cL_hour 253 = .ok (.iconst 2, 1) := by decide +kernel
theorem dL_hour_254 : decode cL_hour 254 = .ok (.invokevirtual 15, 3) := by decide +kernel
theorem dL_hour_257 : decode cL_hour 257 = .ok (.aload 8, 2) := by decide +kernel
theorem dL_hour_259 : decode cL_hour 259 = .ok (.iload 11, 2) := by decide +kernel
theorem dL_hour_261 : decode cL_hour 261 = .ok (.iaload, 1) := by decide +kernel
theorem dL_hour_262 : decode cL_hour 262 = .ok (.if_icmp .ne 7, 3) := by decide +kernel
theorem dL_hour_265 : decode cL_hour 265 = .ok (.iconst 1, 1) := by decide +kernel
theorem dL_hour_266 : decode cL_hour 266 = .ok (.goto 4, 3) := by decide +kernel
theorem dL_hour_269 : decode cL_hour 269 = .ok (.iconst 0, 1) := by decide +kernel
theorem dL_hour_270 : decode cL_hour 270 = .ok (.istore 9, 2) := by decide +kernel
theorem dL_hour_272 : decode cL_hour 272 = .ok (.iinc 11 1, 3) := by decide +kernel
theorem dL_hour_275 : decode cL_hour 275 = .ok (.goto (-48), 3) := by decide +kernel
theorem dL_hour_278 : decode cL_hour 278 = .ok (.iconst 0, 1) := by decide +kernel
theorem dL_hour_279 : decode cL_hour 279 = .ok (.istore 11, 2) := by decide +kernel
theorem dL_hour_281 : decode cL_hour 281 = .ok (.iload 11, 2) := by decide +kernel
theorem dL_hour_283 : decode cL_hour 283 = .ok (.bipush 12, 2) := by decide +kernel
theorem dL_hour_285 : decode cL_hour 285 = .ok (.if_icmp .ge 105, 3) := by decide +kernel
theorem dL_hour_288 : decode cL_hour 288 = .ok (.iload 9, 2) := by decide +kernel
theorem dL_hour_290 : decode cL_hour 290 = .ok (.ifCond .eq 100, 3) := by decide +kernel
theorem dL_hour_293 : decode cL_hour 293 = .ok (.aload_n 0, 1) := by decide +kernel
theorem dL_hour_294 : decode cL_hour 294 = .ok (.iload 11, 2) := by decide +kernel
theorem dL_hour_296 : decode cL_hour 296 = .ok (.iconst 1, 1) := by decide +kernel
theorem dL_hour_297 : decode cL_hour 297 = .ok (.invokevirtual 21, 3) := by decide +kernel
theorem dL_hour_300 : decode cL_hour 300 = .ok (.istore 12, 2) := by decide +kernel
theorem dL_hour_302 : decode cL_hour 302 = .ok (.aload 6, 2) := by decide +kernel
theorem dL_hour_304 : decode cL_hour 304 = .ok (.iload 11, 2) := by decide +kernel
theorem dL_hour_306 : decode cL_hour 306 = .ok (.iaload, 1) := by decide +kernel
theorem dL_hour_307 : decode cL_hour 307 = .ok (.ifCond .lt 70, 3) := by decide +kernel
theorem dL_hour_310 : decode cL_hour 310 = .ok (.iload 12, 2) := by decide +kernel
theorem dL_hour_312 : decode cL_hour 312 = .ok (.bipush (-9), 2) := by decide +kernel
theorem dL_hour_314 : decode cL_hour 314 = .ok (.if_icmp .eq 67, 3) := by decide +kernel
theorem dL_hour_317 : decode cL_hour 317 = .ok (.aload_n 0, 1) := by decide +kernel
theorem dL_hour_318 : decode cL_hour 318 = .ok (.iload 12, 2) := by decide +kernel
theorem dL_hour_320 : decode cL_hour 320 = .ok (.iconst 3, 1) := by decide +kernel
theorem dL_hour_321 : decode cL_hour 321 = .ok (.invokevirtual 15, 3) := by decide +kernel
theorem dL_hour_324 : decode cL_hour 324 = .ok (.iconst 1, 1) := by decide +kernel
theorem dL_hour_325 : decode cL_hour 325 = .ok (.if_icmp .ne 7, 3) := by decide +kernel
theorem dL_hour_328 : decode cL_hour 328 = .ok (.iconst 1, 1) := by decide +kernel
theorem dL_hour_329 : decode cL_hour 329 = .ok (.goto 4, 3) := by decide +kernel
theorem dL_hour_332 : decode cL_hour 332 = .ok (.iconst 0, 1) := by decide +kernel
theorem dL_hour_333 : decode cL_hour 333 = .ok (.aload 6, 2) := by decide +kernel
theorem dL_hour_335 : decode cL_hour 335 = .ok (.iload 11, 2) := by decide +kernel
theorem dL_hour_337 : decode cL_hour 337 = .ok (.iaload, 1) := by decide +kernel
theorem dL_hour_338 : decode cL_hour 338 = .ok (.iconst 2, 1) := by decide +kernel
theorem dL_hour_339 : decode cL_hour 339 = .ok (.if_icmp .ge 7, 3) := by decide +kernel
theorem dL_hour_342 : decode cL_hour 342 = .ok (.iconst 1, 1) := by decide +kernel
theorem dL_hour_343 : decode cL_hour 343 = .ok (.goto 4, 3) := by decide +kernel
theorem dL_hour_346 : decode cL_hour 346 = .ok (.iconst 0, 1) := by decide +kernel
theorem dL_hour_347 : decode cL_hour 347 = .ok (.if_icmp .ne 34, 3) := by decide +kernel
theorem dL_hour_350 : decode cL_hour 350 = .ok (.aload 6, 2) := by decide +kernel
theorem dL_hour_352 : decode cL_hour 352 = .ok (.iload 11, 2) := by decide +kernel
theorem dL_hour_354 : decode cL_hour 354 = .ok (.iaload, 1) := by decide +kernel
theorem dL_hour_355 : decode cL_hour 355 = .ok (.iconst 2, 1) := by decide +kernel
theorem dL_hour_356 : decode cL_hour 356 = .ok (.if_icmp .lt 21, 3) := by decide +kernel
theorem dL_hour_359 : decode cL_hour 359 = .ok (.aload_n 0, 1) := by decide +kernel
theorem dL_hour_360 : decode cL_hour 360 = .ok (.iload 11, 2) := by decide +kernel
theorem dL_hour_362 : decode cL_hour 362 = .ok (.iload_n 1, 1) := by decide +kernel
theorem dL_hour_363 : decode cL_hour 363 = .ok (.iload_n 2, 1) := by decide +kernel
theorem dL_hour_364 : decode cL_hour 364 = .ok (.invokevirtual 31, 3) := by decide +kernel
theorem dL_hour_367 : decode cL_hour 367 = .ok (.aload 6, 2) := by decide +kernel
theorem dL_hour_369 : decode cL_hour 369 = .ok (.iload 11, 2) := by decide +kernel
theorem dL_hour_371 : decode cL_hour 371 = .ok (.iaload, 1) := by decide +kernel
theorem dL_hour_372 : decode cL_hour 372 = .ok (.iconst 1, 1) := by decide +kernel
theorem dL_hour_373 : decode cL_hour 373 = .ok (.isub, 1) := by decide +kernel
theorem dL_hour_374 : decode cL_hour 374 = .ok (.if_icmp .ne 7, 3) := by decide +kernel
theorem dL_hour_377 : decode cL_hour 377 = .ok (.iconst 1, 1) := by decide +kernel
theorem dL_hour_378 : decode cL_hour 378 = .ok (.goto 4, 3) := by decide +kernel
theorem dL_hour_381 : decode cL_hour 381 = .ok (.iconst 0, 1) := by decide +kernel
theorem dL_hour_382 : decode cL_hour 382 = .ok (.istore 9, 2) := by decide +kernel
theorem dL_hour_384 : decode cL_hour 384 = .ok (.iinc 11 1, 3) := by decide +kernel
theorem dL_hour_387 : decode cL_hour 387 = .ok (.goto (-106), 3) := by decide +kernel
theorem dL_hour_390 : decode cL_hour 390 = .ok (.iload 9, 2) := by decide +kernel
theorem dL_hour_392 : decode cL_hour 392 = .ok (.ifCond .eq 19, 3) := by decide +kernel
theorem dL_hour_395 : decode cL_hour 395 = .ok (.iload_n 1, 1) := by decide +kernel
theorem dL_hour_396 : decode cL_hour 396 = .ok (.iconst 5, 1) := by decide +kernel
theorem dL_hour_397 : decode cL_hour 397 = .ok (.if_icmp .lt 10, 3) := by decide +kernel
theorem dL_hour_400 : decode cL_hour 400 = .ok (.iload 5, 2) := by decide +kernel
theorem dL_hour_402 : decode cL_hour 402 = .ok (.iload 10, 2) := by decide +kernel
theorem dL_hour_404 : decode cL_hour 404 = .ok (.if_icmp .ne 7, 3) := by decide +kernel
theorem dL_hour_407 : decode cL_hour 407 = .ok (.iconst 1, 1) := by decide +kernel
theorem dL_hour_408 : decode cL_hour 408 = .ok (.goto 4, 3) := by decide +kernel
theorem dL_hour_411 : decode cL_hour 411 = .ok (.iconst 0, 1) := by decide +kernel
theorem dL_hour_412 : decode cL_hour 412 = .ok (.ireturn, 1) := by decide +kernel
theorem dL_acts_0 : decode cL_acts 0 = .ok (.iload_n 1, 1) := by decide +kernel
theorem dL_acts_1 : decode cL_acts 1 = .ok (.bipush 16, 2) := by decide +kernel
theorem dL_acts_3 : decode cL_acts 3 = .ok (.invokestatic 41, 3) := by decide +kernel
theorem dL_acts_6 : decode cL_acts 6 = .ok (.istore_n 3, 1) := by decide +kernel
theorem dL_acts_7 : decode cL_acts 7 = .ok (.iload_n 2, 1) := by decide +kernel
theorem dL_acts_8 : decode cL_acts 8 = .ok (.bipush 8, 2) := by decide +kernel
theorem dL_acts_10 : decode cL_acts 10 = .ok (.invokestatic 41, 3) := by decide +kernel
theorem dL_acts_13 : decode cL_acts 13 = .ok (.istore 4, 2) := by decide +kernel
theorem dL_acts_15 : decode cL_acts 15 = .ok (.iload_n 2, 1) := by decide +kernel
theorem dL_acts_16 : decode cL_acts 16 = .ok (.iconst 3, 1) := by decide +kernel
theorem dL_acts_17 : decode cL_acts 17 = .ok (.ishr, 1) := by decide +kernel
theorem dL_acts_18 : decode cL_acts 18 = .ok (.bipush 12, 2) := by decide +kernel
theorem dL_acts_20 : decode cL_acts 20 = .ok (.invokestatic 41, 3) := by decide +kernel
theorem dL_acts_23 : decode cL_acts 23 = .ok (.istore 5, 2) := by decide +kernel
theorem dL_acts_25 : decode cL_acts 25 = .ok (.aload_n 0, 1) := by decide +kernel
theorem dL_acts_26 : decode cL_acts 26 = .ok (.iconst 1, 1) := by decide +kernel
theorem dL_acts_27 : decode cL_acts 27 = .ok (.invokevirtual 9, 3) := by decide +kernel
theorem dL_acts_30 : decode cL_acts 30 = .ok (.istore 6, 2) := by decide +kernel
theorem dL_acts_32 : decode cL_acts 32 = .ok (.aload_n 0, 1) := by decide +kernel
theorem dL_acts_33 : decode cL_acts 33 = .ok (.bipush 8, 2) := by decide +kernel
theorem dL_acts_35 : decode cL_acts 35 = .ok (.invokevirtual 9, 3) := by decide +kernel
theorem dL_acts_38 : decode cL_acts 38 = .ok (.istore 7, 2) := by decide +kernel
theorem dL_acts_40 : decode cL_acts 40 = .ok (.aload_n 0, 1) := by decide +kernel
theorem dL_acts_41 : decode cL_acts 41 = .ok (.iload 4, 2) := by decide +kernel
theorem dL_acts_43 : decode cL_acts 43 = .ok (.iconst 1, 1) := by decide +kernel
theorem dL_acts_44 : decode cL_acts 44 = .ok (.invokevirtual 24, 3) := by decide +kernel
theorem dL_acts_47 : decode cL_acts 47 = .ok (.istore 8, 2) := by decide +kernel
theorem dL_acts_49 : decode cL_acts 49 = .ok (.iload_n 3, 1) := by decide +kernel
theorem dL_acts_50 : decode cL_acts 50 = .ok (.iconst 2, 1) := by decide +kernel
theorem dL_acts_51 : decode cL_acts 51 = .ok (.if_icmp .ge 156, 3) := by decide +kernel
theorem dL_acts_54 : decode cL_acts 54 = .ok (.iconst 1, 1) := by decide +kernel
theorem dL_acts_55 : decode cL_acts 55 = .ok (.iload_n 2, 1) := by decide +kernel
theorem dL_acts_56 : decode cL_acts 56 = .ok (.bipush 7, 2) := by decide +kernel
theorem dL_acts_58 : decode cL_acts 58 = .ok (.ishr, 1) := by decide +kernel
theorem dL_acts_59 : decode cL_acts 59 = .ok (.bipush 6, 2) := by decide +kernel
theorem dL_acts_61 : decode cL_acts 61 = .ok (.invokestatic 41, 3) := by decide +kernel
theorem dL_acts_64 : decode cL_acts 64 = .ok (.iadd, 1) := by decide +kernel
theorem dL_acts_65 : decode cL_acts 65 = .ok (.istore 9, 2) := by decide +kernel
theorem dL_acts_67 : decode cL_acts 67 = .ok (.aload_n 0, 1) := by decide +kernel
theorem dL_acts_68 : decode cL_acts 68 = .ok (.iload 4, 2) := by decide +kernel
theorem dL_acts_70 : decode cL_acts 70 = .ok (.iload 9, 2) := by decide +kernel
theorem dL_acts_72 : decode cL_acts 72 = .ok (.invokevirtual 44, 3) := by decide +kernel
theorem dL_acts_75 : decode cL_acts 75 = .ok (.istore 10, 2) := by decide +kernel
theorem dL_acts_77 : decode cL_acts 77 = .ok (.iload 10, 2) := by decide +kernel
theorem dL_acts_79 : decode cL_acts 79 = .ok (.bipush (-2), 2) := by decide +kernel
theorem dL_acts_81 : decode cL_acts 81 = .ok (.if_icmp .ne 29, 3) := by decide +kernel
theorem dL_acts_84 : decode cL_acts 84 = .ok (.iload 7, 2) := by decide +kernel
theorem dL_acts_86 : decode cL_acts 86 = .ok (.bipush 10, 2) := by decide +kernel
theorem dL_acts_88 : decode cL_acts 88 = .ok (.aload_n 0, 1) := by decide +kernel
theorem dL_acts_89 : decode cL_acts 89 = .ok (.iconst 3, 1) := by decide +kernel
theorem dL_acts_90 : decode cL_acts 90 = .ok (.invokevirtual 9, 3) := by decide +kernel
theorem dL_acts_93 : decode cL_acts 93 = .ok (.imul, 1) := by decide +kernel
theorem dL_acts_94 : decode cL_acts 94 = .ok (.isub, 1) := by decide +kernel
theorem dL_acts_95 : decode cL_acts 95 = .ok (.iconst 5, 1) := by decide +kernel
theorem dL_acts_96 : decode cL_acts 96 = .ok (.iload 9, 2) := by decide +kernel
theorem dL_acts_98 : decode cL_acts 98 = .ok (.imul, 1) := by decide +kernel
theorem dL_acts_99 : decode cL_acts 99 = .ok (.if_icmp .ge 7, 3) := by decide +kernel
theorem dL_acts_102 : decode cL_acts 102 = .ok (.iconst 1, 1) := by decide +kernel
theorem dL_acts_103 : decode cL_acts 103 = .ok (.goto 103, 3) := by decide +kernel
theorem dL_acts_106 : decode cL_acts 106 = .ok (.iconst 0, 1) := by decide +kernel
theorem dL_acts_107 : decode cL_acts 107 = .ok (.goto 99, 3) := by decide +kernel
theorem dL_acts_110 : decode cL_acts 110 = .ok (.iload 10, 2) := by decide +kernel
theorem dL_acts_112 : decode cL_acts 112 = .ok (.bipush (-3), 2) := by decide +kernel
theorem dL_acts_114 : decode cL_acts 114 = .ok (.if_icmp .ne 36, 3) := by decide +kernel
theorem dL_acts_117 : decode cL_acts 117 = .ok (.iload 6, 2) := by decide +kernel
theorem dL_acts_119 : decode cL_acts 119 = .ok (.iload 9, 2) := by decide +kernel
theorem dL_acts_121 : decode cL_acts 121 = .ok (.iadd, 1) := by decide +kernel
theorem dL_acts_122 : decode cL_acts 122 = .ok (.bipush 60, 2) := by decide +kernel
theorem dL_acts_124 : decode cL_acts 124 = .ok (.if_icmp .gt 18, 3) := by decide +kernel
theorem dL_acts_127 : decode cL_acts 127 = .ok (.iload 8, 2) := by decide +kernel
theorem dL_acts_129 : decode cL_acts 129 = .ok (.iload 9, 2) := by decide +kernel
theorem dL_acts_131 : decode cL_acts 131 = .ok (.iadd, 1) := by decide +kernel
theorem dL_acts_132 : decode cL_acts 132 = .ok (.aload_n 0, 1) := by decide +kernel
theorem dL_acts_133 : decode cL_acts 133 = .ok (.iload 4, 2) := by decide +kernel
theorem dL_acts_135 : decode cL_acts 135 = .ok (.iconst 0, 1) := by decide +kernel
theorem dL_acts_136 : decode cL_acts 136 = .ok (.invokevirtual 24, 3) := by decide +kernel
theorem dL_acts_139 : decode cL_acts 139 = .ok (.if_icmp .le 7, 3) := by decide +kernel
theorem dL_acts_142 : decode cL_acts 142 = .ok (.iconst 1, 1) := by decide +kernel
theorem dL_acts_143 : decode cL_acts 143 = .ok (.goto 63, 3) := by decide +kernel
theorem dL_acts_146 : decode cL_acts 146 = .ok (.iconst 0, 1) := by decide +kernel
theorem dL_acts_147 : decode cL_acts 147 = .ok (.goto 59, 3) := by decide +kernel
theorem dL_acts_150 : decode cL_acts 150 = .ok (.iload 10, 2) := by decide +kernel
theorem dL_acts_152 : decode cL_acts 152 = .ok (.iload 6, 2) := by decide +kernel
theorem dL_acts_154 : decode cL_acts 154 = .ok (.if_icmp .ne 51, 3) := by decide +kernel
theorem dL_acts_157 : decode cL_acts 157 = .ok (.aload_n 0, 1) := by decide +kernel
theorem dL_acts_158 : decode cL_acts 158 = .ok (.iconst 1, 1) := by decide +kernel
theorem dL_acts_159 : decode cL_acts 159 = .ok (.invokevirtual 9, 3) := by decide +kernel
theorem dL_acts_162 : decode cL_acts 162 = .ok (.iload 6, 2) := by decide +kernel
theorem dL_acts_164 : decode cL_acts 164 = .ok (.iload 9, 2) := by decide +kernel
theorem dL_acts_166 : decode cL_acts 166 = .ok (.iadd, 1) := by decide +kernel
theorem dL_acts_167 : decode cL_acts 167 = .ok (.if_icmp .ne 38, 3) := by decide +kernel
theorem dL_acts_170 : decode cL_acts 170 = .ok (.aload_n 0, 1) := by decide +kernel
theorem dL_acts_171 : decode cL_acts 171 = .ok (.bipush 8, 2) := by decide +kernel
theorem dL_acts_173 : decode cL_acts 173 = .ok (.invokevirtual 9, 3) := by decide +kernel
theorem dL_acts_176 : decode cL_acts 176 = .ok (.iload 7, 2) := by decide +kernel
theorem dL_acts_178 : decode cL_acts 178 = .ok (.iconst 5, 1) := by decide +kernel
theorem dL_acts_179 : decode cL_acts 179 = .ok (.iload 9, 2) := by decide +kernel
theorem dL_acts_181 : decode cL_acts 181 = .ok (.imul, 1) := by decide +kernel
theorem dL_acts_182 : decode cL_acts 182 = .ok (.isub, 1) := by decide +kernel
theorem dL_acts_183 : decode cL_acts 183 = .ok (.if_icmp .ne 22, 3) := by decide +kernel
theorem dL_acts_186 : decode cL_acts 186 = .ok (.aload_n 0, 1) := by decide +kernel
theorem dL_acts_187 : decode cL_acts 187 = .ok (.iload 4, 2) := by decide +kernel
theorem dL_acts_189 : decode cL_acts 189 = .ok (.iconst 1, 1) := by decide +kernel
theorem dL_acts_190 : decode cL_acts 190 = .ok (.invokevirtual 24, 3) := by decide +kernel
theorem dL_acts_193 : decode cL_acts 193 = .ok (.iload 8, 2) := by decide +kernel
theorem dL_acts_195 : decode cL_acts 195 = .ok (.iload 9, 2) := by decide +kernel
theorem dL_acts_197 : decode cL_acts 197 = .ok (.iadd, 1) := by decide +kernel
theorem dL_acts_198 : decode cL_acts 198 = .ok (.if_icmp .ne 7, 3) := by decide +kernel
theorem dL_acts_201 : decode cL_acts 201 = .ok (.iconst 1, 1) := by decide +kernel
theorem dL_acts_202 : decode cL_acts 202 = .ok (.goto 4, 3) := by decide +kernel
theorem dL_acts_205 : decode cL_acts 205 = .ok (.iconst 0, 1) := by decide +kernel
theorem dL_acts_206 : decode cL_acts 206 = .ok (.ireturn, 1) := by decide +kernel
theorem dL_acts_207 : decode cL_acts 207 = .ok (.iload_n 3, 1) := by decide +kernel
theorem dL_acts_208 : decode cL_acts 208 = .ok (.iconst 5, 1) := by decide +kernel
theorem dL_acts_209 : decode cL_acts 209 = .ok (.if_icmp .ge 149, 3) := by decide +kernel
theorem dL_acts_212 : decode cL_acts 212 = .ok (.aload_n 0, 1) := by decide +kernel
theorem dL_acts_213 : decode cL_acts 213 = .ok (.iload 4, 2) := by decide +kernel
theorem dL_acts_215 : decode cL_acts 215 = .ok (.iconst 3, 1) := by decide +kernel
theorem dL_acts_216 : decode cL_acts 216 = .ok (.invokevirtual 24, 3) := by decide +kernel
theorem dL_acts_219 : decode cL_acts 219 = .ok (.istore 9, 2) := by decide +kernel
theorem dL_acts_221 : decode cL_acts 221 = .ok (.aload_n 0, 1) := by decide +kernel
theorem dL_acts_222 : decode cL_acts 222 = .ok (.iload 5, 2) := by decide +kernel
theorem dL_acts_224 : decode cL_acts 224 = .ok (.iconst 0, 1) := by decide +kernel
theorem dL_acts_225 : decode cL_acts 225 = .ok (.invokevirtual 21, 3) := by decide +kernel
theorem dL_acts_228 : decode cL_acts 228 = .ok (.istore 10, 2) := by decide +kernel
theorem dL_acts_230 : decode cL_acts 230 = .ok (.iload 9, 2) := by decide +kernel
theorem dL_acts_232 : decode cL_acts 232 = .ok (.bipush (-9), 2) := by decide +kernel
theorem dL_acts_234 : decode cL_acts 234 = .ok (.if_icmp .eq 26, 3) := by decide +kernel
theorem dL_acts_237 : decode cL_acts 237 = .ok (.iload 10, 2) := by decide +kernel
theorem dL_acts_239 : decode cL_acts 239 = .ok (.bipush 9, 2) := by decide +kernel
theorem dL_acts_241 : decode cL_acts 241 = .ok (.if_icmp .le 19, 3) := by decide +kernel
theorem dL_acts_244 : decode cL_acts 244 = .ok (.aload_n 0, 1) := by decide +kernel
theorem dL_acts_245 : decode cL_acts 245 = .ok (.iload 5, 2) := by decide +kernel
theorem dL_acts_247 : decode cL_acts 247 = .ok (.iconst 1, 1) := by decide +kernel
theorem dL_acts_248 : decode cL_acts 248 = .ok (.invokevirtual 21, 3) := by decide +kernel
theorem dL_acts_251 : decode cL_acts 251 = .ok (.bipush (-9), 2) := by decide +kernel
theorem dL_acts_253 : decode cL_acts 253 = .ok (.if_icmp .ne 7, 3) := by decide +kernel
theorem dL_acts_256 : decode cL_acts 256 = .ok (.iconst 1, 1) := by decide +kernel
theorem dL_acts_257 : decode cL_acts 257 = .ok (.goto 4, 3) := by decide +kernel
theorem dL_acts_260 : decode cL_acts 260 = .ok (.iconst 0, 1) := by decide +kernel
theorem dL_acts_261 : decode cL_acts 261 = .ok (.istore 11, 2) := by decide +kernel
theorem dL_acts_263 : decode cL_acts 263 = .ok (.aload_n 0, 1) := by decide +kernel
theorem dL_acts_264 : decode cL_acts 264 = .ok (.iload 5, 2) := by decide +kernel
theorem dL_acts_266 : decode cL_acts 266 = .ok (.iload 4, 2) := by decide +kernel
theorem dL_acts_268 : decode cL_acts 268 = .ok (.invokevirtual 47, 3) := by decide +kernel
theorem dL_acts_271 : decode cL_acts 271 = .ok (.istore 12, 2) := by decide +kernel
theorem dL_acts_273 : decode cL_acts 273 = .ok (.iload 11, 2) := by decide +kernel
theorem dL_acts_275 : decode cL_acts 275 = .ok (.ifCond .eq 59, 3) := by decide +kernel
theorem dL_acts_278 : decode cL_acts 278 = .ok (.iload 12, 2) := by decide +kernel
theorem dL_acts_280 : decode cL_acts 280 = .ok (.iload 9, 2) := by decide +kernel
theorem dL_acts_282 : decode cL_acts 282 = .ok (.if_icmp .ne 48, 3) := by decide +kernel
theorem dL_acts_285 : decode cL_acts 285 = .ok (.aload_n 0, 1) := by decide +kernel
theorem dL_acts_286 : decode cL_acts 286 = .ok (.iload 5, 2) := by decide +kernel
theorem dL_acts_288 : decode cL_acts 288 = .ok (.iconst 1, 1) := by decide +kernel
theorem dL_acts_289 : decode cL_acts 289 = .ok (.invokevirtual 21, 3) := by decide +kernel
theorem dL_acts_292 : decode cL_acts 292 = .ok (.iload 9, 2) := by decide +kernel
theorem dL_acts_294 : decode cL_acts 294 = .ok (.if_icmp .ne 36, 3) := by decide +kernel
theorem dL_acts_297 : decode cL_acts 297 = .ok (.aload_n 0, 1) := by decide +kernel
theorem dL_acts_298 : decode cL_acts 298 = .ok (.iload 5, 2) := by decide +kernel
theorem dL_acts_300 : decode cL_acts 300 = .ok (.iconst 0, 1) := by decide +kernel
theorem dL_acts_301 : decode cL_acts 301 = .ok (.invokevirtual 21, 3) := by decide +kernel
theorem dL_acts_304 : decode cL_acts 304 = .ok (.iload 10, 2) := by decide +kernel
theorem dL_acts_306 : decode cL_acts 306 = .ok (.bipush 10, 2) := by decide +kernel
theorem dL_acts_308 : decode cL_acts 308 = .ok (.isub, 1) := by decide +kernel
theorem dL_acts_309 : decode cL_acts 309 = .ok (.if_icmp .ne 21, 3) := by decide +kernel
theorem dL_acts_312 : decode cL_acts 312 = .ok (.aload_n 0, 1) := by decide +kernel
theorem dL_acts_313 : decode cL_acts 313 = .ok (.bipush 8, 2) := by decide +kernel
theorem dL_acts_315 : decode cL_acts 315 = .ok (.invokevirtual 9, 3) := by decide +kernel
theorem dL_acts_318 : decode cL_acts 318 = .ok (.iload 7, 2) := by decide +kernel
theorem dL_acts_320 : decode cL_acts 320 = .ok (.bipush 10, 2) := by decide +kernel
theorem dL_acts_322 : decode cL_acts 322 = .ok (.iadd, 1) := by decide +kernel
theorem dL_acts_323 : decode cL_acts 323 = .ok (.if_icmp .ne 7, 3) := by decide +kernel
theorem dL_acts_326 : decode cL_acts 326 = .ok (.iconst 1, 1) := by decide +kernel
theorem dL_acts_327 : decode cL_acts 327 = .ok (.goto 30, 3) := by decide +kernel
theorem dL_acts_330 : decode cL_acts 330 = .ok (.iconst 0, 1) := by decide +kernel
theorem dL_acts_331 : decode cL_acts 331 = .ok (.goto 26, 3) := by decide +kernel
theorem dL_acts_334 : decode cL_acts 334 = .ok (.iload 12, 2) := by decide +kernel
theorem dL_acts_336 : decode cL_acts 336 = .ok (.bipush (-2), 2) := by decide +kernel
theorem dL_acts_338 : decode cL_acts 338 = .ok (.if_icmp .ne 18, 3) := by decide +kernel
theorem dL_acts_341 : decode cL_acts 341 = .ok (.aload_n 0, 1) := by decide +kernel
theorem dL_acts_342 : decode cL_acts 342 = .ok (.bipush 8, 2) := by decide +kernel
theorem dL_acts_344 : decode cL_acts 344 = .ok (.invokevirtual 9, 3) := by decide +kernel
theorem dL_acts_347 : decode cL_acts 347 = .ok (.iload 7, 2) := by decide +kernel
theorem dL_acts_349 : decode cL_acts 349 = .ok (.if_icmp .ne 7, 3) := by decide +kernel
theorem dL_acts_352 : decode cL_acts 352 = .ok (.iconst 1, 1) := by decide +kernel
theorem dL_acts_353 : decode cL_acts 353 = .ok (.goto 4, 3) := by decide +kernel
theorem dL_acts_356 : decode cL_acts 356 = .ok (.iconst 0, 1) := by decide +kernel
theorem dL_acts_357 : decode cL_acts 357 = .ok (.ireturn, 1) := by decide +kernel
theorem dL_acts_358 : decode cL_acts 358 = .ok (.iload_n 3, 1) := by decide +kernel
theorem dL_acts_359 : decode cL_acts 359 = .ok (.bipush 8, 2) := by decide +kernel
theorem dL_acts_361 : decode cL_acts 361 = .ok (.if_icmp .ge 191, 3) := by decide +kernel
theorem dL_acts_364 : decode cL_acts 364 = .ok (.aload_n 0, 1) := by decide +kernel
theorem dL_acts_365 : decode cL_acts 365 = .ok (.iload 5, 2) := by decide +kernel
theorem dL_acts_367 : decode cL_acts 367 = .ok (.iconst 1, 1) := by decide +kernel
theorem dL_acts_368 : decode cL_acts 368 = .ok (.invokevirtual 21, 3) := by decide +kernel
theorem dL_acts_371 : decode cL_acts 371 = .ok (.istore 9, 2) := by decide +kernel
theorem dL_acts_373 : decode cL_acts 373 = .ok (.aload_n 0, 1) := by decide +kernel
theorem dL_acts_374 : decode cL_acts 374 = .ok (.iload 5, 2) := by decide +kernel
theorem dL_acts_376 : decode cL_acts 376 = .ok (.iconst 0, 1) := by decide +kernel
theorem dL_acts_377 : decode cL_acts 377 = .ok (.iconst 0, 1) := by decide +kernel
theorem dL_acts_378 : decode cL_acts 378 = .ok (.invokevirtual 27, 3) := by decide +kernel
theorem dL_acts_381 : decode cL_acts 381 = .ok (.istore 10, 2) := by decide +kernel
theorem dL_acts_383 : decode cL_acts 383 = .ok (.aload_n 0, 1) := by decide +kernel
theorem dL_acts_384 : decode cL_acts 384 = .ok (.iload 5, 2) := by decide +kernel
theorem dL_acts_386 : decode cL_acts 386 = .ok (.iload 4, 2) := by decide +kernel
theorem dL_acts_388 : decode cL_acts 388 = .ok (.invokevirtual 50, 3) := by decide +kernel
theorem dL_acts_391 : decode cL_acts 391 = .ok (.istore 11, 2) := by decide +kernel
theorem dL_acts_393 : decode cL_acts 393 = .ok (.iload 9, 2) := by decide +kernel
theorem dL_acts_395 : decode cL_acts 395 = .ok (.bipush (-9), 2) := by decide +kernel
theorem dL_acts_397 : decode cL_acts 397 = .ok (.if_icmp .ne 23, 3) := by decide +kernel
theorem dL_acts_400 : decode cL_acts 400 = .ok (.iload 11, 2) := by decide +kernel
theorem dL_acts_402 : decode cL_acts 402 = .ok (.bipush (-2), 2) := by decide +kernel
theorem dL_acts_404 : decode cL_acts 404 = .ok (.if_icmp .ne 14, 3) := by decide +kernel
theorem dL_acts_407 : decode cL_acts 407 = .ok (.iload 10, 2) := by decide +kernel
theorem dL_acts_409 : decode cL_acts 409 = .ok (.bipush (-2), 2) := by decide +kernel
theorem dL_acts_411 : decode cL_acts 411 = .ok (.if_icmp .ne 7, 3) := by decide +kernel
theorem dL_acts_414 : decode cL_acts 414 = .ok (.iconst 1, 1) := by decide +kernel
theorem dL_acts_415 : decode cL_acts 415 = .ok (.goto 4, 3) := by decide +kernel
theorem dL_acts_418 : decode cL_acts 418 = .ok (.iconst 0, 1) := by decide +kernel
theorem dL_acts_419 : decode cL_acts 419 = .ok (.ireturn, 1) := by decide +kernel
theorem dL_acts_420 : decode cL_acts 420 = .ok (.iload 11, 2) := by decide +kernel
theorem dL_acts_422 : decode cL_acts 422 = .ok (.bipush (-3), 2) := by decide +kernel
theorem dL_acts_424 : decode cL_acts 424 = .ok (.if_icmp .ne 23, 3) := by decide +kernel
theorem dL_acts_427 : decode cL_acts 427 = .ok (.iload 8, 2) := by decide +kernel
theorem dL_acts_429 : decode cL_acts 429 = .ok (.aload_n 0, 1) := by decide +kernel
theorem dL_acts_430 : decode cL_acts 430 = .ok (.iload 4, 2) := by decide +kernel
theorem dL_acts_432 : decode cL_acts 432 = .ok (.iconst 0, 1) := by decide +kernel
theorem dL_acts_433 : decode cL_acts 433 = .ok (.invokevirtual 24, 3) := by decide +kernel
theorem dL_acts_436 : decode cL_acts 436 = .ok (.if_icmp .lt 7, 3) := by decide +kernel
theorem dL_acts_439 : decode cL_acts 439 = .ok (.iconst 1, 1) := by decide +kernel
theorem dL_acts_440 : decode cL_acts 440 = .ok (.goto 111, 3) := by decide +kernel
theorem dL_acts_443 : decode cL_acts 443 = .ok (.iconst 0, 1) := by decide +kernel
theorem dL_acts_444 : decode cL_acts 444 = .ok (.goto 107, 3) := by decide +kernel
theorem dL_acts_447 : decode cL_acts 447 = .ok (.iload 11, 2) := by decide +kernel
theorem dL_acts_449 : decode cL_acts 449 = .ok (.iload 10, 2) := by decide +kernel
theorem dL_acts_451 : decode cL_acts 451 = .ok (.if_icmp .ne 99, 3) := by decide +kernel
theorem dL_acts_454 : decode cL_acts 454 = .ok (.aload_n 0, 1) := by decide +kernel
theorem dL_acts_455 : decode cL_acts 455 = .ok (.iload 5, 2) := by decide +kernel
theorem dL_acts_457 : decode cL_acts 457 = .ok (.iconst 4, 1) := by decide +kernel
theorem dL_acts_458 : decode cL_acts 458 = .ok (.invokevirtual 21, 3) := by decide +kernel
theorem dL_acts_461 : decode cL_acts 461 = .ok (.iload 4, 2) := by decide +kernel
theorem dL_acts_463 : decode cL_acts 463 = .ok (.if_icmp .ne 87, 3) := by decide +kernel
theorem dL_acts_466 : decode cL_acts 466 = .ok (.aload_n 0, 1) := by decide +kernel
theorem dL_acts_467 : decode cL_acts 467 = .ok (.iload 9, 2) := by decide +kernel
theorem dL_acts_469 : decode cL_acts 469 = .ok (.iconst 0, 1) := by decide +kernel
theorem dL_acts_470 : decode cL_acts 470 = .ok (.invokevirtual 15, 3) := by decide +kernel
theorem dL_acts_473 : decode cL_acts 473 = .ok (.ifCond .ne 77, 3) := by decide +kernel
theorem dL_acts_476 : decode cL_acts 476 = .ok (.aload_n 0, 1) := by decide +kernel
theorem dL_acts_477 : decode cL_acts 477 = .ok (.iload 9, 2) := by decide +kernel
theorem dL_acts_479 : decode cL_acts 479 = .ok (.iconst 1, 1) := by decide +kernel
theorem dL_acts_480 : decode cL_acts 480 = .ok (.invokevirtual 15, 3) := by decide +kernel
theorem dL_acts_483 : decode cL_acts 483 = .ok (.iload 4, 2) := by decide +kernel
theorem dL_acts_485 : decode cL_acts 485 = .ok (.if_icmp .ne 65, 3) := by decide +kernel
theorem dL_acts_488 : decode cL_acts 488 = .ok (.aload_n 0, 1) := by decide +kernel
theorem dL_acts_489 : decode cL_acts 489 = .ok (.bipush 8, 2) := by decide +kernel
theorem dL_acts_491 : decode cL_acts 491 = .ok (.invokevirtual 9, 3) := by decide +kernel
theorem dL_acts_494 : decode cL_acts 494 = .ok (.iload 7, 2) := by decide +kernel
theorem dL_acts_496 : decode cL_acts 496 = .ok (.bipush 10, 2) := by decide +kernel
theorem dL_acts_498 : decode cL_acts 498 = .ok (.isub, 1) := by decide +kernel
theorem dL_acts_499 : decode cL_acts 499 = .ok (.iload 10, 2) := by decide +kernel
theorem dL_acts_501 : decode cL_acts 501 = .ok (.iadd, 1) := by decide +kernel
theorem dL_acts_502 : decode cL_acts 502 = .ok (.if_icmp .ne 48, 3) := by decide +kernel
theorem dL_acts_505 : decode cL_acts 505 = .ok (.iload_n 2, 1) := by decide +kernel
theorem dL_acts_506 : decode cL_acts 506 = .ok (.bipush 9, 2) := by decide +kernel
theorem dL_acts_508 : decode cL_acts 508 = .ok (.ishr, 1) := by decide +kernel
theorem dL_acts_509 : decode cL_acts 509 = .ok (.iconst 3, 1) := by decide +kernel
theorem dL_acts_510 : decode cL_acts 510 = .ok (.invokestatic 41, 3) := by decide +kernel
theorem dL_acts_513 : decode cL_acts 513 = .ok (.ifCond .gt 33, 3) := by decide +kernel
theorem dL_acts_516 : decode cL_acts 516 = .ok (.aload_n 0, 1) := by decide +kernel
theorem dL_acts_517 : decode cL_acts 517 = .ok (.invokevirtual 53, 3) := by decide +kernel
theorem dL_acts_520 : decode cL_acts 520 = .ok (.ifCond .lt 30, 3) := by decide +kernel
theorem dL_acts_523 : decode cL_acts 523 = .ok (.aload_n 0, 1) := by decide +kernel
theorem dL_acts_524 : decode cL_acts 524 = .ok (.iload 5, 2) := by decide +kernel
theorem dL_acts_526 : decode cL_acts 526 = .ok (.iconst 1, 1) := by decide +kernel
theorem dL_acts_527 : decode cL_acts 527 = .ok (.invokevirtual 21, 3) := by decide +kernel
theorem dL_acts_530 : decode cL_acts 530 = .ok (.iload 9, 2) := by decide +kernel
theorem dL_acts_532 : decode cL_acts 532 = .ok (.if_icmp .ne 18, 3) := by decide +kernel
theorem dL_acts_535 : decode cL_acts 535 = .ok (.aload_n 0, 1) := by decide +kernel
theorem dL_acts_536 : decode cL_acts 536 = .ok (.bipush 8, 2) := by decide +kernel
theorem dL_acts_538 : decode cL_acts 538 = .ok (.invokevirtual 9, 3) := by decide +kernel
theorem dL_acts_541 : decode cL_acts 541 = .ok (.iload 7, 2) := by decide +kernel
theorem dL_acts_543 : decode cL_acts 543 = .ok (.if_icmp .ne 7, 3) := by decide +kernel
theorem dL_acts_546 : decode cL_acts 546 = .ok (.iconst 1, 1) := by decide +kernel
theorem dL_acts_547 : decode cL_acts 547 = .ok (.goto 4, 3) := by decide +kernel
theorem dL_acts_550 : decode cL_acts 550 = .ok (.iconst 0, 1) := by decide +kernel
theorem dL_acts_551 : decode cL_acts 551 = .ok (.ireturn, 1) := by decide +kernel
theorem dL_acts_552 : decode cL_acts 552 = .ok (.iload_n 3, 1) := by decide +kernel
theorem dL_acts_553 : decode cL_acts 553 = .ok (.bipush 11, 2) := by decide +kernel
theorem dL_acts_555 : decode cL_acts 555 = .ok (.if_icmp .ge 21, 3) := by decide +kernel
theorem dL_acts_558 : decode cL_acts 558 = .ok (.aload_n 0, 1) := by decide +kernel
theorem dL_acts_559 : decode cL_acts 559 = .ok (.iload_n 2, 1) := by decide +kernel
theorem dL_acts_560 : decode cL_acts 560 = .ok (.bipush 10, 2) := by decide +kernel
theorem dL_acts_562 : decode cL_acts 562 = .ok (.invokestatic 41, 3) := by decide +kernel
theorem dL_acts_565 : decode cL_acts 565 = .ok (.iload_n 2, 1) := by decide +kernel
theorem dL_acts_566 : decode cL_acts 566 = .ok (.iconst 4, 1) := by decide +kernel
theorem dL_acts_567 : decode cL_acts 567 = .ok (.ishr, 1) := by decide +kernel
theorem dL_acts_568 : decode cL_acts 568 = .ok (.iconst 4, 1) := by decide +kernel
theorem dL_acts_569 : decode cL_acts 569 = .ok (.invokestatic 41, 3) := by decide +kernel
theorem dL_acts_572 : decode cL_acts 572 = .ok (.invokestatic 56, 3) := by decide +kernel
theorem dL_acts_575 : decode cL_acts 575 = .ok (.ireturn, 1) := by decide +kernel
theorem dL_acts_576 : decode cL_acts 576 = .ok (.iload_n 3, 1) := by decide +kernel
theorem dL_acts_577 : decode cL_acts 577 = .ok (.bipush 11, 2) := by decide +kernel
theorem dL_acts_579 : decode cL_acts 579 = .ok (.if_icmp .ne 148, 3) := by decide +kernel
theorem dL_acts_582 : decode cL_acts 582 = .ok (.iload_n 2, 1) := by decide +kernel
theorem dL_acts_583 : decode cL_acts 583 = .ok (.iconst 3, 1) := by decide +kernel
theorem dL_acts_584 : decode cL_acts 584 = .ok (.ishr, 1) := by decide +kernel
theorem dL_acts_585 : decode cL_acts 585 = .ok (.iconst 4, 1) := by decide +kernel
theorem dL_acts_586 : decode cL_acts 586 = .ok (.invokestatic 41, 3) := by decide +kernel
theorem dL_acts_589 : decode cL_acts 589 = .ok (.ifCond .ne 16, 3) := by decide +kernel
theorem dL_acts_592 : decode cL_acts 592 = .ok (.iconst 1, 1) := by decide +kernel
theorem dL_acts_593 : decode cL_acts 593 = .ok (.iload_n 2, 1) := by decide +kernel
theorem dL_acts_594 : decode cL_acts 594 = .ok (.iconst 5, 1) := by decide +kernel
theorem dL_acts_595 : decode cL_acts 595 = .ok (.ishr, 1) := by decide +kernel
theorem dL_acts_596 : decode cL_acts 596 = .ok (.bipush 20, 2) := by decide +kernel
theorem dL_acts_598 : decode cL_acts 598 = .ok (.invokestatic 41, 3) := by decide +kernel
theorem dL_acts_601 : decode cL_acts 601 = .ok (.iadd, 1) := by decide +kernel
theorem dL_acts_602 : decode cL_acts 602 = .ok (.goto 13, 3) := by decide +kernel
theorem dL_acts_605 : decode cL_acts 605 = .ok (.iconst 3, 1) := by decide +kernel
theorem dL_acts_606 : decode cL_acts 606 = .ok (.iload_n 2, 1) := by decide +kernel
theorem dL_acts_607 : decode cL_acts 607 = .ok (.iconst 5, 1) := by decide +kernel
theorem dL_acts_608 : decode cL_acts 608 = .ok (.ishr, 1) := by decide +kernel
theorem dL_acts_609 : decode cL_acts 609 = .ok (.bipush 9, 2) := by decide +kernel
theorem dL_acts_611 : decode cL_acts 611 = .ok (.invokestatic 41, 3) := by decide +kernel
theorem dL_acts_614 : decode cL_acts 614 = .ok (.iadd, 1) := by decide +kernel
theorem dL_acts_615 : decode cL_acts 615 = .ok (.istore 9, 2) := by decide +kernel
theorem dL_acts_617 : decode cL_acts 617 = .ok (.aload_n 0, 1) := by decide +kernel
theorem dL_acts_618 : decode cL_acts 618 = .ok (.iload 4, 2) := by decide +kernel
theorem dL_acts_620 : decode cL_acts 620 = .ok (.iconst 0, 1) := by decide +kernel
theorem dL_acts_621 : decode cL_acts 621 = .ok (.invokevirtual 24, 3) := by decide +kernel
theorem dL_acts_624 : decode cL_acts 624 = .ok (.istore 10, 2) := by decide +kernel
theorem dL_acts_626 : decode cL_acts 626 = .ok (.aload_n 0, 1) := by decide +kernel
theorem dL_acts_627 : decode cL_acts 627 = .ok (.bipush 14, 2) := by decide +kernel
theorem dL_acts_629 : decode cL_acts 629 = .ok (.invokevirtual 9, 3) := by decide +kernel
theorem dL_acts_632 : decode cL_acts 632 = .ok (.istore 11, 2) := by decide +kernel
theorem dL_acts_634 : decode cL_acts 634 = .ok (.aload_n 0, 1) := by decide +kernel
theorem dL_acts_635 : decode cL_acts 635 = .ok (.iload 4, 2) := by decide +kernel
theorem dL_acts_637 : decode cL_acts 637 = .ok (.iload 9, 2) := by decide +kernel
theorem dL_acts_639 : decode cL_acts 639 = .ok (.invokevirtual 59, 3) := by decide +kernel
theorem dL_acts_642 : decode cL_acts 642 = .ok (.iload 8, 2) := by decide +kernel
theorem dL_acts_644 : decode cL_acts 644 = .ok (.iload 9, 2) := by decide +kernel
theorem dL_acts_646 : decode cL_acts 646 = .ok (.if_icmp .le 8, 3) := by decide +kernel
theorem dL_acts_649 : decode cL_acts 649 = .ok (.bipush (-2), 2) := by decide +kernel
theorem dL_acts_651 : decode cL_acts 651 = .ok (.goto 5, 3) := by decide +kernel
theorem dL_acts_654 : decode cL_acts 654 = .ok (.iload 10, 2) := by decide +kernel
theorem dL_acts_656 : decode cL_acts 656 = .ok (.if_icmp .ne 69, 3) := by decide +kernel
theorem dL_acts_659 : decode cL_acts 659 = .ok (.aload_n 0, 1) := by decide +kernel
theorem dL_acts_660 : decode cL_acts 660 = .ok (.iload 4, 2) := by decide +kernel
theorem dL_acts_662 : decode cL_acts 662 = .ok (.iconst 0, 1) := by decide +kernel
theorem dL_acts_663 : decode cL_acts 663 = .ok (.invokevirtual 24, 3) := by decide +kernel
theorem dL_acts_666 : decode cL_acts 666 = .ok (.iload 8, 2) := by decide +kernel
theorem dL_acts_668 : decode cL_acts 668 = .ok (.iload 9, 2) := by decide +kernel
theorem dL_acts_670 : decode cL_acts 670 = .ok (.if_icmp .le 8, 3) := by decide +kernel
theorem dL_acts_673 : decode cL_acts 673 = .ok (.iload 10, 2) := by decide +kernel
theorem dL_acts_675 : decode cL_acts 675 = .ok (.goto 5, 3) := by decide +kernel
theorem dL_acts_678 : decode cL_acts 678 = .ok (.iload 9, 2) := by decide +kernel
theorem dL_acts_680 : decode cL_acts 680 = .ok (.if_icmp .ne 45, 3) := by decide +kernel
theorem dL_acts_683 : decode cL_acts 683 = .ok (.aload_n 0, 1) := by decide +kernel
theorem dL_acts_684 : decode cL_acts 684 = .ok (.bipush 8, 2) := by decide +kernel
theorem dL_acts_686 : decode cL_acts 686 = .ok (.iload_n 2, 1) := by decide +kernel
theorem dL_acts_687 : decode cL_acts 687 = .ok (.bipush 9, 2) := by decide +kernel
theorem dL_acts_689 : decode cL_acts 689 = .ok (.ishr, 1) := by decide +kernel
theorem dL_acts_690 : decode cL_acts 690 = .ok (.bipush 6, 2) := by decide +kernel
theorem dL_acts_692 : decode cL_acts 692 = .ok (.invokestatic 41, 3) := by decide +kernel
theorem dL_acts_695 : decode cL_acts 695 = .ok (.invokevirtual 59, 3) := by decide +kernel
theorem dL_acts_698 : decode cL_acts 698 = .ok (.iload 11, 2) := by decide +kernel
theorem dL_acts_700 : decode cL_acts 700 = .ok (.if_icmp .ne 25, 3) := by decide +kernel
theorem dL_acts_703 : decode cL_acts 703 = .ok (.aload_n 0, 1) := by decide +kernel
theorem dL_acts_704 : decode cL_acts 704 = .ok (.bipush 14, 2) := by decide +kernel
theorem dL_acts_706 : decode cL_acts 706 = .ok (.invokevirtual 9, 3) := by decide +kernel
theorem dL_acts_709 : decode cL_acts 709 = .ok (.iload_n 2, 1) := by decide +kernel
theorem dL_acts_710 : decode cL_acts 710 = .ok (.bipush 9, 2) := by decide +kernel
theorem dL_acts_712 : decode cL_acts 712 = .ok (.ishr, 1) := by decide +kernel
theorem dL_acts_713 : decode cL_acts 713 = .ok (.bipush 6, 2) := by decide +kernel
theorem dL_acts_715 : decode cL_acts 715 = .ok (.invokestatic 41, 3) := by decide +kernel
theorem dL_acts_718 : decode cL_acts 718 = .ok (.if_icmp .ne 7, 3) := by decide +kernel
theorem dL_acts_721 : decode cL_acts 721 = .ok (.iconst 1, 1) := by decide +kernel
theorem dL_acts_722 : decode cL_acts 722 = .ok (.goto 4, 3) := by decide +kernel
theorem dL_acts_725 : decode cL_acts 725 = .ok (.iconst 0, 1) := by decide +kernel
theorem dL_acts_726 : decode cL_acts 726 = .ok (.ireturn, 1) := by decide +kernel
theorem dL_acts_727 : decode cL_acts 727 = .ok (.iload_n 2, 1) := by decide +kernel
theorem dL_acts_728 : decode cL_acts 728 = .ok (.iconst 3, 1) := by decide +kernel
theorem dL_acts_729 : decode cL_acts 729 = .ok (.ishr, 1) := by decide +kernel
theorem dL_acts_730 : decode cL_acts 730 = .ok (.iconst 2, 1) := by decide +kernel
theorem dL_acts_731 : decode cL_acts 731 = .ok (.invokestatic 41, 3) := by decide +kernel
theorem dL_acts_734 : decode cL_acts 734 = .ok (.istore 9, 2) := by decide +kernel
theorem dL_acts_736 : decode cL_acts 736 = .ok (.iconst 1, 1) := by decide +kernel
theorem dL_acts_737 : decode cL_acts 737 = .ok (.iload_n 2, 1) := by decide +kernel
theorem dL_acts_738 : decode cL_acts 738 = .ok (.iconst 5, 1) := by decide +kernel
theorem dL_acts_739 : decode cL_acts 739 = .ok (.ishr, 1) := by decide +kernel
theorem dL_acts_740 : decode cL_acts 740 = .ok (.bipush 6, 2) := by decide +kernel
theorem dL_acts_742 : decode cL_acts 742 = .ok (.invokestatic 41, 3) := by decide +kernel
theorem dL_acts_745 : decode cL_acts 745 = .ok (.iadd, 1) := by decide +kernel
theorem dL_acts_746 : decode cL_acts 746 = .ok (.istore 10, 2) := by decide +kernel
theorem dL_acts_748 : decode cL_acts 748 = .ok (.aload_n 0, 1) := by decide +kernel
theorem dL_acts_749 : decode cL_acts 749 = .ok (.iconst 4, 1) := by decide +kernel
theorem dL_acts_750 : decode cL_acts 750 = .ok (.invokevirtual 9, 3) := by decide +kernel
theorem dL_acts_753 : decode cL_acts 753 = .ok (.istore 11, 2) := by decide +kernel
theorem dL_acts_755 : decode cL_acts 755 = .ok (.iload_n 3, 1) := by decide +kernel
theorem dL_acts_756 : decode cL_acts 756 = .ok (.bipush 12, 2) := by decide +kernel
theorem dL_acts_758 : decode cL_acts 758 = .ok (.if_icmp .ne 117, 3) := by decide +kernel
theorem dL_acts_761 : decode cL_acts 761 = .ok (.aload_n 0, 1) := by decide +kernel
theorem dL_acts_762 : decode cL_acts 762 = .ok (.iload 4, 2) := by decide +kernel
theorem dL_acts_764 : decode cL_acts 764 = .ok (.iconst 4, 1) := by decide +kernel
theorem dL_acts_765 : decode cL_acts 765 = .ok (.invokevirtual 24, 3) := by decide +kernel
theorem dL_acts_768 : decode cL_acts 768 = .ok (.istore 12, 2) := by decide +kernel
theorem dL_acts_770 : decode cL_acts 770 = .ok (.aload_n 0, 1) := by decide +kernel
theorem dL_acts_771 : decode cL_acts 771 = .ok (.iload 9, 2) := by decide +kernel
theorem dL_acts_773 : decode cL_acts 773 = .ok (.iload 4, 2) := by decide +kernel
theorem dL_acts_775 : decode cL_acts 775 = .ok (.iload 10, 2) := by decide +kernel
theorem dL_acts_777 : decode cL_acts 777 = .ok (.invokevirtual 62, 3) := by decide +kernel
theorem dL_acts_780 : decode cL_acts 780 = .ok (.istore 13, 2) := by decide +kernel
theorem dL_acts_782 : decode cL_acts 782 = .ok (.iload 13, 2) := by decide +kernel
theorem dL_acts_784 : decode cL_acts 784 = .ok (.bipush (-2), 2) := by decide +kernel
theorem dL_acts_786 : decode cL_acts 786 = .ok (.if_icmp .ne 18, 3) := by decide +kernel
theorem dL_acts_789 : decode cL_acts 789 = .ok (.iload 8, 2) := by decide +kernel
theorem dL_acts_791 : decode cL_acts 791 = .ok (.iload 10, 2) := by decide +kernel
theorem dL_acts_793 : decode cL_acts 793 = .ok (.if_icmp .ge 7, 3) := by decide +kernel
theorem dL_acts_796 : decode cL_acts 796 = .ok (.iconst 1, 1) := by decide +kernel
theorem dL_acts_797 : decode cL_acts 797 = .ok (.goto 77, 3) := by decide +kernel
theorem dL_acts_800 : decode cL_acts 800 = .ok (.iconst 0, 1) := by decide +kernel
theorem dL_acts_801 : decode cL_acts 801 = .ok (.goto 73, 3) := by decide +kernel
theorem dL_acts_804 : decode cL_acts 804 = .ok (.iload 13, 2) := by decide +kernel
theorem dL_acts_806 : decode cL_acts 806 = .ok (.bipush (-3), 2) := by decide +kernel
theorem dL_acts_808 : decode cL_acts 808 = .ok (.if_icmp .eq 61, 3) := by decide +kernel
theorem dL_acts_811 : decode cL_acts 811 = .ok (.iload 13, 2) := by decide +kernel
theorem dL_acts_813 : decode cL_acts 813 = .ok (.iload 10, 2) := by decide +kernel
theorem dL_acts_815 : decode cL_acts 815 = .ok (.if_icmp .gt 58, 3) := by decide +kernel
theorem dL_acts_818 : decode cL_acts 818 = .ok (.aload_n 0, 1) := by decide +kernel
theorem dL_acts_819 : decode cL_acts 819 = .ok (.iconst 4, 1) := by decide +kernel
theorem dL_acts_820 : decode cL_acts 820 = .ok (.invokevirtual 9, 3) := by decide +kernel
theorem dL_acts_823 : decode cL_acts 823 = .ok (.iload 11, 2) := by decide +kernel
theorem dL_acts_825 : decode cL_acts 825 = .ok (.iload 10, 2) := by decide +kernel
theorem dL_acts_827 : decode cL_acts 827 = .ok (.iadd, 1) := by decide +kernel
theorem dL_acts_828 : decode cL_acts 828 = .ok (.if_icmp .ne 45, 3) := by decide +kernel
theorem dL_acts_831 : decode cL_acts 831 = .ok (.aload_n 0, 1) := by decide +kernel
theorem dL_acts_832 : decode cL_acts 832 = .ok (.iload 12, 2) := by decide +kernel
theorem dL_acts_834 : decode cL_acts 834 = .ok (.iconst 0, 1) := by decide +kernel
theorem dL_acts_835 : decode cL_acts 835 = .ok (.invokevirtual 15, 3) := by decide +kernel
theorem dL_acts_838 : decode cL_acts 838 = .ok (.iconst 2, 1) := by decide +kernel
theorem dL_acts_839 : decode cL_acts 839 = .ok (.if_icmp .ne 34, 3) := by decide +kernel
theorem dL_acts_842 : decode cL_acts 842 = .ok (.aload_n 0, 1) := by decide +kernel
theorem dL_acts_843 : decode cL_acts 843 = .ok (.iload 12, 2) := by decide +kernel
theorem dL_acts_845 : decode cL_acts 845 = .ok (.iconst 1, 1) := by decide +kernel
theorem dL_acts_846 : decode cL_acts 846 = .ok (.invokevirtual 15, 3) := by decide +kernel
theorem dL_acts_849 : decode cL_acts 849 = .ok (.iload 9, 2) := by decide +kernel
theorem dL_acts_851 : decode cL_acts 851 = .ok (.if_icmp .ne 22, 3) := by decide +kernel
theorem dL_acts_854 : decode cL_acts 854 = .ok (.aload_n 0, 1) := by decide +kernel
theorem dL_acts_855 : decode cL_acts 855 = .ok (.iload 4, 2) := by decide +kernel
theorem dL_acts_857 : decode cL_acts 857 = .ok (.iconst 1, 1) := by decide +kernel
theorem dL_acts_858 : decode cL_acts 858 = .ok (.invokevirtual 24, 3) := by decide +kernel
theorem dL_acts_861 : decode cL_acts 861 = .ok (.iload 8, 2) := by decide +kernel
theorem dL_acts_863 : decode cL_acts 863 = .ok (.iload 10, 2) := by decide +kernel
theorem dL_acts_865 : decode cL_acts 865 = .ok (.isub, 1) := by decide +kernel
theorem dL_acts_866 : decode cL_acts 866 = .ok (.if_icmp .ne 7, 3) := by decide +kernel
theorem dL_acts_869 : decode cL_acts 869 = .ok (.iconst 1, 1) := by decide +kernel
theorem dL_acts_870 : decode cL_acts 870 = .ok (.goto 4, 3) := by decide +kernel
theorem dL_acts_873 : decode cL_acts 873 = .ok (.iconst 0, 1) := by decide +kernel
theorem dL_acts_874 : decode cL_acts 874 = .ok (.ireturn, 1) := by decide +kernel
theorem dL_acts_875 : decode cL_acts 875 = .ok (.iload_n 3, 1) := by decide +kernel
theorem dL_acts_876 : decode cL_acts 876 = .ok (.bipush 13, 2) := by decide +kernel
theorem dL_acts_878 : decode cL_acts 878 = .ok (.if_icmp .ne 112, 3) := by decide +kernel
theorem dL_acts_881 : decode cL_acts 881 = .ok (.aload_n 0, 1) := by decide +kernel
theorem dL_acts_882 : decode cL_acts 882 = .ok (.iload 9, 2) := by decide +kernel
theorem dL_acts_884 : decode cL_acts 884 = .ok (.iload 4, 2) := by decide +kernel
theorem dL_acts_886 : decode cL_acts 886 = .ok (.iload 10, 2) := by decide +kernel
theorem dL_acts_888 : decode cL_acts 888 = .ok (.invokevirtual 65, 3) := by decide +kernel
theorem dL_acts_891 : decode cL_acts 891 = .ok (.istore 12, 2) := by decide +kernel
theorem dL_acts_893 : decode cL_acts 893 = .ok (.iload 12, 2) := by decide +kernel
theorem dL_acts_895 : decode cL_acts 895 = .ok (.bipush (-2), 2) := by decide +kernel
theorem dL_acts_897 : decode cL_acts 897 = .ok (.if_icmp .eq 87, 3) := by decide +kernel
theorem dL_acts_900 : decode cL_acts 900 = .ok (.iload 12, 2) := by decide +kernel
theorem dL_acts_902 : decode cL_acts 902 = .ok (.bipush (-3), 2) := by decide +kernel
theorem dL_acts_904 : decode cL_acts 904 = .ok (.if_icmp .ne 21, 3) := by decide +kernel
theorem dL_acts_907 : decode cL_acts 907 = .ok (.iload 8, 2) := by decide +kernel
theorem dL_acts_909 : decode cL_acts 909 = .ok (.iload 10, 2) := by decide +kernel
theorem dL_acts_911 : decode cL_acts 911 = .ok (.iadd, 1) := by decide +kernel
theorem dL_acts_912 : decode cL_acts 912 = .ok (.aload_n 0, 1) := by decide +kernel
theorem dL_acts_913 : decode cL_acts 913 = .ok (.iload 4, 2) := by decide +kernel
theorem dL_acts_915 : decode cL_acts 915 = .ok (.iconst 0, 1) := by decide +kernel
theorem dL_acts_916 : decode cL_acts 916 = .ok (.invokevirtual 24, 3) := by decide +kernel
theorem dL_acts_919 : decode cL_acts 919 = .ok (.if_icmp .le 69, 3) := by decide +kernel
theorem dL_acts_922 : decode cL_acts 922 = .ok (.goto 62, 3) := by decide +kernel
theorem dL_acts_925 : decode cL_acts 925 = .ok (.aload_n 0, 1) := by decide +kernel
theorem dL_acts_926 : decode cL_acts 926 = .ok (.iconst 4, 1) := by decide +kernel
theorem dL_acts_927 : decode cL_acts 927 = .ok (.invokevirtual 9, 3) := by decide +kernel
theorem dL_acts_930 : decode cL_acts 930 = .ok (.iload 11, 2) := by decide +kernel
theorem dL_acts_932 : decode cL_acts 932 = .ok (.iload 10, 2) := by decide +kernel
theorem dL_acts_934 : decode cL_acts 934 = .ok (.isub, 1) := by decide +kernel
theorem dL_acts_935 : decode cL_acts 935 = .ok (.if_icmp .ne 53, 3) := by decide +kernel
theorem dL_acts_938 : decode cL_acts 938 = .ok (.aload_n 0, 1) := by decide +kernel
theorem dL_acts_939 : decode cL_acts 939 = .ok (.iload 4, 2) := by decide +kernel
theorem dL_acts_941 : decode cL_acts 941 = .ok (.iconst 1, 1) := by decide +kernel
theorem dL_acts_942 : decode cL_acts 942 = .ok (.invokevirtual 24, 3) := by decide +kernel
theorem dL_acts_945 : decode cL_acts 945 = .ok (.iload 8, 2) := by decide +kernel
theorem dL_acts_947 : decode cL_acts 947 = .ok (.iload 10, 2) := by decide +kernel
theorem dL_acts_949 : decode cL_acts 949 = .ok (.iadd, 1) := by decide +kernel
theorem dL_acts_950 : decode cL_acts 950 = .ok (.if_icmp .ne 38, 3) := by decide +kernel
theorem dL_acts_953 : decode cL_acts 953 = .ok (.aload_n 0, 1) := by decide +kernel
theorem dL_acts_954 : decode cL_acts 954 = .ok (.iload 9, 2) := by decide +kernel
theorem dL_acts_956 : decode cL_acts 956 = .ok (.iload 12, 2) := by decide +kernel
theorem dL_acts_958 : decode cL_acts 958 = .ok (.invokevirtual 68, 3) := by decide +kernel
theorem dL_acts_961 : decode cL_acts 961 = .ok (.bipush (-9), 2) := by decide +kernel
theorem dL_acts_963 : decode cL_acts 963 = .ok (.if_icmp .ne 25, 3) := by decide +kernel
theorem dL_acts_966 : decode cL_acts 966 = .ok (.iload 12, 2) := by decide +kernel
theorem dL_acts_968 : decode cL_acts 968 = .ok (.ifCond .eq 16, 3) := by decide +kernel
theorem dL_acts_971 : decode cL_acts 971 = .ok (.aload_n 0, 1) := by decide +kernel
theorem dL_acts_972 : decode cL_acts 972 = .ok (.iload 9, 2) := by decide +kernel
theorem dL_acts_974 : decode cL_acts 974 = .ok (.iload 12, 2) := by decide +kernel
theorem dL_acts_976 : decode cL_acts 976 = .ok (.iconst 1, 1) := by decide +kernel
theorem dL_acts_977 : decode cL_acts 977 = .ok (.isub, 1) := by decide +kernel
theorem dL_acts_978 : decode cL_acts 978 = .ok (.invokevirtual 68, 3) := by decide +kernel
theorem dL_acts_981 : decode cL_acts 981 = .ok (.ifCond .lt 7, 3) := by decide +kernel
theorem dL_acts_984 : decode cL_acts 984 = .ok (.iconst 1, 1) := by decide +kernel
theorem dL_acts_985 : decode cL_acts 985 = .ok (.goto 4, 3) := by decide +kernel
theorem dL_acts_988 : decode cL_acts 988 = .ok (.iconst 0, 1) := by decide +kernel
theorem dL_acts_989 : decode cL_acts 989 = .ok (.ireturn, 1) := by decide +kernel
theorem dL_acts_990 : decode cL_acts 990 = .ok (.iload_n 3, 1) := by decide +kernel
theorem dL_acts_991 : decode cL_acts 991 = .ok (.bipush 14, 2) := by decide +kernel
theorem dL_acts_993 : decode cL_acts 993 = .ok (.if_icmp .ne 213, 3) := by decide +kernel
theorem dL_acts_996 : decode cL_acts 996 = .ok (.aload_n 0, 1) := by decide +kernel
theorem dL_acts_997 : decode cL_acts 997 = .ok (.iconst 5, 1) := by decide +kernel
theorem dL_acts_998 : decode cL_acts 998 = .ok (.invokevirtual 9, 3) := by decide +kernel
theorem dL_acts_1001 : decode cL_acts 1001 = .ok (.istore 12, 2) := by decide +kernel
theorem dL_acts_1003 : decode cL_acts 1003 = .ok (.aload_n 0, 1) := by decide +kernel
theorem dL_acts_1004 : decode cL_acts 1004 = .ok (.iload 9, 2) := by decide +kernel
theorem dL_acts_1006 : decode cL_acts 1006 = .ok (.invokevirtual 71, 3) := by decide +kernel
theorem dL_acts_1009 : decode cL_acts 1009 = .ok (.istore 13, 2) := by decide +kernel
theorem dL_acts_1011 : decode cL_acts 1011 = .ok (.aload_n 0, 1) := by decide +kernel
theorem dL_acts_1012 : decode cL_acts 1012 = .ok (.bipush 6, 2) := by decide +kernel
theorem dL_acts_1014 : decode cL_acts 1014 = .ok (.invokevirtual 9, 3) := by decide +kernel
theorem dL_acts_1017 : decode cL_acts 1017 = .ok (.istore 14, 2) := by decide +kernel
theorem dL_acts_1019 : decode cL_acts 1019 = .ok (.iload 12, 2) := by decide +kernel
theorem dL_acts_1021 : decode cL_acts 1021 = .ok (.iload 13, 2) := by decide +kernel
theorem dL_acts_1023 : decode cL_acts 1023 = .ok (.ifCond .le 8, 3) := by decide +kernel
theorem dL_acts_1026 : decode cL_acts 1026 = .ok (.iload 13, 2) := by decide +kernel
theorem dL_acts_1028 : decode cL_acts 1028 = .ok (.goto 4, 3) := by decide +kernel
theorem dL_acts_1031 : decode cL_acts 1031 = .ok (.iconst 0, 1) := by decide +kernel
theorem dL_acts_1032 : decode cL_acts 1032 = .ok (.iadd, 1) := by decide +kernel
theorem dL_acts_1033 : decode cL_acts 1033 = .ok (.istore 15, 2) := by decide +kernel
theorem dL_acts_1035 : decode cL_acts 1035 = .ok (.aload_n 0, 1) := by decide +kernel
theorem dL_acts_1036 : decode cL_acts 1036 = .ok (.iconst 5, 1) := by decide +kernel
theorem dL_acts_1037 : decode cL_acts 1037 = .ok (.invokevirtual 9, 3) := by decide +kernel
theorem dL_acts_1040 : decode cL_acts 1040 = .ok (.iload 15, 2) := by decide +kernel
theorem dL_acts_1042 : decode cL_acts 1042 = .ok (.if_icmp .ne 12, 3) := by decide +kernel
theorem dL_acts_1045 : decode cL_acts 1045 = .ok (.aload_n 0, 1) := by decide +kernel
theorem dL_acts_1046 : decode cL_acts 1046 = .ok (.iload 4, 2) := by decide +kernel
theorem dL_acts_1048 : decode cL_acts 1048 = .ok (.invokevirtual 74, 3) := by decide +kernel
theorem dL_acts_1051 : decode cL_acts 1051 = .ok (.goto 4, 3) := by decide +kernel
theorem dL_acts_1054 : decode cL_acts 1054 = .ok (.iconst (-1), 1) := by decide +kernel
theorem dL_acts_1055 : decode cL_acts 1055 = .ok (.istore 16, 2) := by decide +kernel
theorem dL_acts_1057 : decode cL_acts 1057 = .ok (.iload 13, 2) := by decide +kernel
theorem dL_acts_1059 : decode cL_acts 1059 = .ok (.bipush (-2), 2) := by decide +kernel
theorem dL_acts_1061 : decode cL_acts 1061 = .ok (.if_icmp .eq 21, 3) := by decide +kernel
theorem dL_acts_1064 : decode cL_acts 1064 = .ok (.iload 13, 2) := by decide +kernel
theorem dL_acts_1066 : decode cL_acts 1066 = .ok (.ifCond .le 138, 3) := by decide +kernel
theorem dL_acts_1069 : decode cL_acts 1069 = .ok (.aload_n 0, 1) := by decide +kernel
theorem dL_acts_1070 : decode cL_acts 1070 = .ok (.iconst 4, 1) := by decide +kernel
theorem dL_acts_1071 : decode cL_acts 1071 = .ok (.invokevirtual 9, 3) := by decide +kernel
theorem dL_acts_1074 : decode cL_acts 1074 = .ok (.iload 11, 2) := by decide +kernel
theorem dL_acts_1076 : decode cL_acts 1076 = .ok (.iload 13, 2) := by decide +kernel
theorem dL_acts_1078 : decode cL_acts 1078 = .ok (.isub, 1) := by decide +kernel
theorem dL_acts_1079 : decode cL_acts 1079 = .ok (.if_icmp .ne 125, 3) := by decide +kernel
theorem dL_acts_1082 : decode cL_acts 1082 = .ok (.iload 16, 2) := by decide +kernel
theorem dL_acts_1084 : decode cL_acts 1084 = .ok (.bipush (-2), 2) := by decide +kernel
theorem dL_acts_1086 : decode cL_acts 1086 = .ok (.if_icmp .ne 27, 3) := by decide +kernel
theorem dL_acts_1089 : decode cL_acts 1089 = .ok (.iload 15, 2) := by decide +kernel
theorem dL_acts_1091 : decode cL_acts 1091 = .ok (.iconst 2, 1) := by decide +kernel
theorem dL_acts_1092 : decode cL_acts 1092 = .ok (.if_icmp .lt 108, 3) := by decide +kernel
theorem dL_acts_1095 : decode cL_acts 1095 = .ok (.iload 7, 2) := by decide +kernel
theorem dL_acts_1097 : decode cL_acts 1097 = .ok (.bipush 10, 2) := by decide +kernel
theorem dL_acts_1099 : decode cL_acts 1099 = .ok (.aload_n 0, 1) := by decide +kernel
theorem dL_acts_1100 : decode cL_acts 1100 = .ok (.iconst 3, 1) := by decide +kernel
theorem dL_acts_1101 : decode cL_acts 1101 = .ok (.invokevirtual 9, 3) := by decide +kernel
theorem dL_acts_1104 : decode cL_acts 1104 = .ok (.imul, 1) := by decide +kernel
theorem dL_acts_1105 : decode cL_acts 1105 = .ok (.isub, 1) := by decide +kernel
theorem dL_acts_1106 : decode cL_acts 1106 = .ok (.iconst 3, 1) := by decide +kernel
theorem dL_acts_1107 : decode cL_acts 1107 = .ok (.if_icmp .ge 97, 3) := by decide +kernel
theorem dL_acts_1110 : decode cL_acts 1110 = .ok (.goto 90, 3) := by decide +kernel
theorem dL_acts_1113 : decode cL_acts 1113 = .ok (.iload 16, 2) := by decide +kernel
theorem dL_acts_1115 : decode cL_acts 1115 = .ok (.bipush (-3), 2) := by decide +kernel
theorem dL_acts_1117 : decode cL_acts 1117 = .ok (.if_icmp .ne 18, 3) := by decide +kernel
theorem dL_acts_1120 : decode cL_acts 1120 = .ok (.iload 8, 2) := by decide +kernel
theorem dL_acts_1122 : decode cL_acts 1122 = .ok (.aload_n 0, 1) := by decide +kernel
theorem dL_acts_1123 : decode cL_acts 1123 = .ok (.iload 4, 2) := by decide +kernel
theorem dL_acts_1125 : decode cL_acts 1125 = .ok (.iconst 0, 1) := by decide +kernel
theorem dL_acts_1126 : decode cL_acts 1126 = .ok (.invokevirtual 24, 3) := by decide +kernel
theorem dL_acts_1129 : decode cL_acts 1129 = .ok (.if_icmp .lt 75, 3) := by decide +kernel
theorem dL_acts_1132 : decode cL_acts 1132 = .ok (.goto 68, 3) := by decide +kernel
theorem dL_acts_1135 : decode cL_acts 1135 = .ok (.iload 16, 2) := by decide +kernel
theorem dL_acts_1137 : decode cL_acts 1137 = .ok (.ifCond .lt 67, 3) := by decide +kernel
theorem dL_acts_1140 : decode cL_acts 1140 = .ok (.aload_n 0, 1) := by decide +kernel
theorem dL_acts_1141 : decode cL_acts 1141 = .ok (.iload 16, 2) := by decide +kernel
theorem dL_acts_1143 : decode cL_acts 1143 = .ok (.iconst 3, 1) := by decide +kernel
theorem dL_acts_1144 : decode cL_acts 1144 = .ok (.invokevirtual 15, 3) := by decide +kernel
theorem dL_acts_1147 : decode cL_acts 1147 = .ok (.ifCond .ne 57, 3) := by decide +kernel
theorem dL_acts_1150 : decode cL_acts 1150 = .ok (.aload_n 0, 1) := by decide +kernel
theorem dL_acts_1151 : decode cL_acts 1151 = .ok (.iload 16, 2) := by decide +kernel
theorem dL_acts_1153 : decode cL_acts 1153 = .ok (.iconst 1, 1) := by decide +kernel
theorem dL_acts_1154 : decode cL_acts 1154 = .ok (.invokevirtual 15, 3) := by decide +kernel
theorem dL_acts_1157 : decode cL_acts 1157 = .ok (.iload 4, 2) := by decide +kernel
theorem dL_acts_1159 : decode cL_acts 1159 = .ok (.if_icmp .ne 45, 3) := by decide +kernel
theorem dL_acts_1162 : decode cL_acts 1162 = .ok (.aload_n 0, 1) := by decide +kernel
theorem dL_acts_1163 : decode cL_acts 1163 = .ok (.bipush 6, 2) := by decide +kernel
theorem dL_acts_1165 : decode cL_acts 1165 = .ok (.invokevirtual 9, 3) := by decide +kernel
theorem dL_acts_1168 : decode cL_acts 1168 = .ok (.iload 14, 2) := by decide +kernel
theorem dL_acts_1170 : decode cL_acts 1170 = .ok (.iconst 1, 1) := by decide +kernel
theorem dL_acts_1171 : decode cL_acts 1171 = .ok (.iadd, 1) := by decide +kernel
theorem dL_acts_1172 : decode cL_acts 1172 = .ok (.if_icmp .ne 32, 3) := by decide +kernel
theorem dL_acts_1175 : decode cL_acts 1175 = .ok (.aload_n 0, 1) := by decide +kernel
theorem dL_acts_1176 : decode cL_acts 1176 = .ok (.iconst 5, 1) := by decide +kernel
theorem dL_acts_1177 : decode cL_acts 1177 = .ok (.invokevirtual 9, 3) := by decide +kernel
theorem dL_acts_1180 : decode cL_acts 1180 = .ok (.iload 15, 2) := by decide +kernel
theorem dL_acts_1182 : decode cL_acts 1182 = .ok (.iconst 2, 1) := by decide +kernel
theorem dL_acts_1183 : decode cL_acts 1183 = .ok (.isub, 1) := by decide +kernel
theorem dL_acts_1184 : decode cL_acts 1184 = .ok (.if_icmp .ne 20, 3) := by decide +kernel
theorem dL_acts_1187 : decode cL_acts 1187 = .ok (.aload_n 0, 1) := by decide +kernel
theorem dL_acts_1188 : decode cL_acts 1188 = .ok (.bipush 8, 2) := by decide +kernel
theorem dL_acts_1190 : decode cL_acts 1190 = .ok (.invokevirtual 9, 3) := by decide +kernel
theorem dL_acts_1193 : decode cL_acts 1193 = .ok (.iload 7, 2) := by decide +kernel
theorem dL_acts_1195 : decode cL_acts 1195 = .ok (.iconst 3, 1) := by decide +kernel
theorem dL_acts_1196 : decode cL_acts 1196 = .ok (.isub, 1) := by decide +kernel
theorem dL_acts_1197 : decode cL_acts 1197 = .ok (.if_icmp .ne 7, 3) := by decide +kernel
theorem dL_acts_1200 : decode cL_acts 1200 = .ok (.iconst 1, 1) := by decide +kernel
theorem dL_acts_1201 : decode cL_acts 1201 = .ok (.goto 4, 3) := by decide +kernel
theorem dL_acts_1204 : decode cL_acts 1204 = .ok (.iconst 0, 1) := by decide +kernel
theorem dL_acts_1205 : decode cL_acts 1205 = .ok (.ireturn, 1) := by decide +kernel
theorem dL_acts_1206 : decode cL_acts 1206 = .ok (.iload_n 2, 1) := by decide +kernel
theorem dL_acts_1207 : decode cL_acts 1207 = .ok (.iconst 2, 1) := by decide +kernel
theorem dL_acts_1208 : decode cL_acts 1208 = .ok (.invokestatic 41, 3) := by decide +kernel
theorem dL_acts_1211 : decode cL_acts 1211 = .ok (.istore 12, 2) := by decide +kernel
theorem dL_acts_1213 : decode cL_acts 1213 = .ok (.aload_n 0, 1) := by decide +kernel
theorem dL_acts_1214 : decode cL_acts 1214 = .ok (.invokevirtual 77, 3) := by decide +kernel
theorem dL_acts_1217 : decode cL_acts 1217 = .ok (.istore 13, 2) := by decide +kernel
theorem dL_acts_1219 : decode cL_acts 1219 = .ok (.iconst 0, 1) := by decide +kernel
theorem dL_acts_1220 : decode cL_acts 1220 = .ok (.istore 14, 2) := by decide +kernel
theorem dL_acts_1222 : decode cL_acts 1222 = .ok (.bipush 99, 2) := by decide +kernel
theorem dL_acts_1224 : decode cL_acts 1224 = .ok (.istore 15, 2) := by decide +kernel
theorem dL_acts_1226 : decode cL_acts 1226 = .ok (.iconst 0, 1) := by decide +kernel
theorem dL_acts_1227 : decode cL_acts 1227 = .ok (.istore 16, 2) := by decide +kernel
theorem dL_acts_1229 : decode cL_acts 1229 = .ok (.iload 16, 2) := by decide +kernel
theorem dL_acts_1231 : decode cL_acts 1231 = .ok (.bipush 8, 2) := by decide +kernel
theorem dL_acts_1233 : decode cL_acts 1233 = .ok (.if_icmp .ge 78, 3) := by decide +kernel
theorem dL_acts_1236 : decode cL_acts 1236 = .ok (.aload_n 0, 1) := by decide +kernel
theorem dL_acts_1237 : decode cL_acts 1237 = .ok (.iload 16, 2) := by decide +kernel
theorem dL_acts_1239 : decode cL_acts 1239 = .ok (.iconst 1, 1) := by decide +kernel
theorem dL_acts_1240 : decode cL_acts 1240 = .ok (.invokevirtual 24, 3) := by decide +kernel
theorem dL_acts_1243 : decode cL_acts 1243 = .ok (.aload_n 0, 1) := by decide +kernel
theorem dL_acts_1244 : decode cL_acts 1244 = .ok (.iload 14, 2) := by decide +kernel
theorem dL_acts_1246 : decode cL_acts 1246 = .ok (.iconst 1, 1) := by decide +kernel
theorem dL_acts_1247 : decode cL_acts 1247 = .ok (.invokevirtual 24, 3) := by decide +kernel
theorem dL_acts_1250 : decode cL_acts 1250 = .ok (.if_icmp .le 8, 3) := by decide +kernel
theorem dL_acts_1253 : decode cL_acts 1253 = .ok (.iload 16, 2) := by decide +kernel
theorem dL_acts_1255 : decode cL_acts 1255 = .ok (.goto 5, 3) := by decide +kernel
theorem dL_acts_1258 : decode cL_acts 1258 = .ok (.iload 14, 2) := by decide +kernel
theorem dL_acts_1260 : decode cL_acts 1260 = .ok (.istore 14, 2) := by decide +kernel
theorem dL_acts_1262 : decode cL_acts 1262 = .ok (.aload_n 0, 1) := by decide +kernel
theorem dL_acts_1263 : decode cL_acts 1263 = .ok (.iload 16, 2) := by decide +kernel
theorem dL_acts_1265 : decode cL_acts 1265 = .ok (.iconst 1, 1) := by decide +kernel
theorem dL_acts_1266 : decode cL_acts 1266 = .ok (.invokevirtual 24, 3) := by decide +kernel
theorem dL_acts_1269 : decode cL_acts 1269 = .ok (.aload_n 0, 1) := by decide +kernel
theorem dL_acts_1270 : decode cL_acts 1270 = .ok (.iload 16, 2) := by decide +kernel
theorem dL_acts_1272 : decode cL_acts 1272 = .ok (.iconst 0, 1) := by decide +kernel
theorem dL_acts_1273 : decode cL_acts 1273 = .ok (.invokevirtual 24, 3) := by decide +kernel
theorem dL_acts_1276 : decode cL_acts 1276 = .ok (.if_icmp .ge 25, 3) := by decide +kernel
theorem dL_acts_1279 : decode cL_acts 1279 = .ok (.aload_n 0, 1) := by decide +kernel
theorem dL_acts_1280 : decode cL_acts 1280 = .ok (.iload 16, 2) := by decide +kernel
theorem dL_acts_1282 : decode cL_acts 1282 = .ok (.iconst 1, 1) := by decide +kernel
theorem dL_acts_1283 : decode cL_acts 1283 = .ok (.invokevirtual 24, 3) := by decide +kernel
theorem dL_acts_1286 : decode cL_acts 1286 = .ok (.iload 15, 2) := by decide +kernel
theorem dL_acts_1288 : decode cL_acts 1288 = .ok (.if_icmp .ge 13, 3) := by decide +kernel
theorem dL_acts_1291 : decode cL_acts 1291 = .ok (.aload_n 0, 1) := by decide +kernel
theorem dL_acts_1292 : decode cL_acts 1292 = .ok (.iload 16, 2) := by decide +kernel
theorem dL_acts_1294 : decode cL_acts 1294 = .ok (.iconst 1, 1) := by decide +kernel
theorem dL_acts_1295 : decode cL_acts 1295 = .ok (.invokevirtual 24, 3) := by decide +kernel
theorem dL_acts_1298 : decode cL_acts 1298 = .ok (.goto 5, 3) := by decide +kernel
theorem dL_acts_1301 : decode cL_acts 1301 = .ok (.iload 15, 2) := by decide +kernel
theorem dL_acts_1303 : decode cL_acts 1303 = .ok (.istore 15, 2) := by decide +kernel
theorem dL_acts_1305 : decode cL_acts 1305 = .ok (.iinc 16 1, 3) := by decide +kernel
theorem dL_acts_1308 : decode cL_acts 1308 = .ok (.goto (-79), 3) := by decide +kernel
theorem dL_acts_1311 : decode cL_acts 1311 = .ok (.iload 13, 2) := by decide +kernel
theorem dL_acts_1313 : decode cL_acts 1313 = .ok (.ifCond .lt 47, 3) := by decide +kernel
theorem dL_acts_1316 : decode cL_acts 1316 = .ok (.iload 15, 2) := by decide +kernel
theorem dL_acts_1318 : decode cL_acts 1318 = .ok (.bipush 99, 2) := by decide +kernel
theorem dL_acts_1320 : decode cL_acts 1320 = .ok (.if_icmp .eq 29, 3) := by decide +kernel
theorem dL_acts_1323 : decode cL_acts 1323 = .ok (.aload_n 0, 1) := by decide +kernel
theorem dL_acts_1324 : decode cL_acts 1324 = .ok (.iload 14, 2) := by decide +kernel
theorem dL_acts_1326 : decode cL_acts 1326 = .ok (.iconst 1, 1) := by decide +kernel
theorem dL_acts_1327 : decode cL_acts 1327 = .ok (.invokevirtual 24, 3) := by decide +kernel
theorem dL_acts_1330 : decode cL_acts 1330 = .ok (.iload 15, 2) := by decide +kernel
theorem dL_acts_1332 : decode cL_acts 1332 = .ok (.iconst 2, 1) := by decide +kernel
theorem dL_acts_1333 : decode cL_acts 1333 = .ok (.iadd, 1) := by decide +kernel
theorem dL_acts_1334 : decode cL_acts 1334 = .ok (.if_icmp .lt 15, 3) := by decide +kernel
theorem dL_acts_1337 : decode cL_acts 1337 = .ok (.aload_n 0, 1) := by decide +kernel
theorem dL_acts_1338 : decode cL_acts 1338 = .ok (.iload 14, 2) := by decide +kernel
theorem dL_acts_1340 : decode cL_acts 1340 = .ok (.iconst 3, 1) := by decide +kernel
theorem dL_acts_1341 : decode cL_acts 1341 = .ok (.invokevirtual 24, 3) := by decide +kernel
theorem dL_acts_1344 : decode cL_acts 1344 = .ok (.bipush (-9), 2) := by decide +kernel
theorem dL_acts_1346 : decode cL_acts 1346 = .ok (.if_icmp .ne 14, 3) := by decide +kernel
theorem dL_acts_1349 : decode cL_acts 1349 = .ok (.aload_n 0, 1) := by decide +kernel
theorem dL_acts_1350 : decode cL_acts 1350 = .ok (.invokevirtual 77, 3) := by decide +kernel
theorem dL_acts_1353 : decode cL_acts 1353 = .ok (.ifCond .ne 7, 3) := by decide +kernel
theorem dL_acts_1356 : decode cL_acts 1356 = .ok (.iconst 1, 1) := by decide +kernel
theorem dL_acts_1357 : decode cL_acts 1357 = .ok (.goto 4, 3) := by decide +kernel
theorem dL_acts_1360 : decode cL_acts 1360 = .ok (.iconst 0, 1) := by decide +kernel
theorem dL_acts_1361 : decode cL_acts 1361 = .ok (.istore 16, 2) := by decide +kernel
theorem dL_acts_1363 : decode cL_acts 1363 = .ok (.aload_n 0, 1) := by decide +kernel
theorem dL_acts_1364 : decode cL_acts 1364 = .ok (.iload 12, 2) := by decide +kernel
theorem dL_acts_1366 : decode cL_acts 1366 = .ok (.invokevirtual 80, 3) := by decide +kernel
theorem dL_acts_1369 : decode cL_acts 1369 = .ok (.istore 17, 2) := by decide +kernel
theorem dL_acts_1371 : decode cL_acts 1371 = .ok (.iload 16, 2) := by decide +kernel
theorem dL_acts_1373 : decode cL_acts 1373 = .ok (.ifCond .eq 74, 3) := by decide +kernel
theorem dL_acts_1376 : decode cL_acts 1376 = .ok (.iload 17, 2) := by decide +kernel
theorem dL_acts_1378 : decode cL_acts 1378 = .ok (.aload_n 0, 1) := by decide +kernel
theorem dL_acts_1379 : decode cL_acts 1379 = .ok (.iconst 0, 1) := by decide +kernel
theorem dL_acts_1380 : decode cL_acts 1380 = .ok (.invokevirtual 9, 3) := by decide +kernel
theorem dL_acts_1383 : decode cL_acts 1383 = .ok (.if_icmp .ne 64, 3) := by decide +kernel
theorem dL_acts_1386 : decode cL_acts 1386 = .ok (.aload_n 0, 1) := by decide +kernel
theorem dL_acts_1387 : decode cL_acts 1387 = .ok (.iload_n 2, 1) := by decide +kernel
theorem dL_acts_1388 : decode cL_acts 1388 = .ok (.iconst 3, 1) := by decide +kernel
theorem dL_acts_1389 : decode cL_acts 1389 = .ok (.ishr, 1) := by decide +kernel
theorem dL_acts_1390 : decode cL_acts 1390 = .ok (.bipush 10, 2) := by decide +kernel
theorem dL_acts_1392 : decode cL_acts 1392 = .ok (.invokestatic 41, 3) := by decide +kernel
theorem dL_acts_1395 : decode cL_acts 1395 = .ok (.iconst 3, 1) := by decide +kernel
theorem dL_acts_1396 : decode cL_acts 1396 = .ok (.invokestatic 56, 3) := by decide +kernel
theorem dL_acts_1399 : decode cL_acts 1399 = .ok (.ifCond .eq 48, 3) := by decide +kernel
theorem dL_acts_1402 : decode cL_acts 1402 = .ok (.aload_n 0, 1) := by decide +kernel
theorem dL_acts_1403 : decode cL_acts 1403 = .ok (.iload 12, 2) := by decide +kernel
theorem dL_acts_1405 : decode cL_acts 1405 = .ok (.invokevirtual 83, 3) := by decide +kernel
theorem dL_acts_1408 : decode cL_acts 1408 = .ok (.iload 17, 2) := by decide +kernel
theorem dL_acts_1410 : decode cL_acts 1410 = .ok (.if_icmp .ne 37, 3) := by decide +kernel
theorem dL_acts_1413 : decode cL_acts 1413 = .ok (.aload_n 0, 1) := by decide +kernel
theorem dL_acts_1414 : decode cL_acts 1414 = .ok (.iconst 0, 1) := by decide +kernel
theorem dL_acts_1415 : decode cL_acts 1415 = .ok (.invokevirtual 9, 3) := by decide +kernel
theorem dL_acts_1418 : decode cL_acts 1418 = .ok (.iload 17, 2) := by decide +kernel
theorem dL_acts_1420 : decode cL_acts 1420 = .ok (.if_icmp .ne 27, 3) := by decide +kernel
theorem dL_acts_1423 : decode cL_acts 1423 = .ok (.aload_n 0, 1) := by decide +kernel
theorem dL_acts_1424 : decode cL_acts 1424 = .ok (.bipush 8, 2) := by decide +kernel
theorem dL_acts_1426 : decode cL_acts 1426 = .ok (.invokevirtual 9, 3) := by decide +kernel
theorem dL_acts_1429 : decode cL_acts 1429 = .ok (.iload 7, 2) := by decide +kernel
theorem dL_acts_1431 : decode cL_acts 1431 = .ok (.if_icmp .ne 16, 3) := by decide +kernel
theorem dL_acts_1434 : decode cL_acts 1434 = .ok (.aload_n 0, 1) := by decide +kernel
theorem dL_acts_1435 : decode cL_acts 1435 = .ok (.iconst 2, 1) := by decide +kernel
theorem dL_acts_1436 : decode cL_acts 1436 = .ok (.invokevirtual 83, 3) := by decide +kernel
theorem dL_acts_1439 : decode cL_acts 1439 = .ok (.iconst (-1), 1) := by decide +kernel
theorem dL_acts_1440 : decode cL_acts 1440 = .ok (.if_icmp .ne 7, 3) := by decide +kernel
theorem dL_acts_1443 : decode cL_acts 1443 = .ok (.iconst 1, 1) := by decide +kernel
theorem dL_acts_1444 : decode cL_acts 1444 = .ok (.goto 4, 3) := by decide +kernel
theorem dL_acts_1447 : decode cL_acts 1447 = .ok (.iconst 0, 1) := by decide +kernel
theorem dL_acts_1448 : decode cL_acts 1448 = .ok (.ireturn, 1) := by decide +kernel
theorem dL_law_0 : decode cL_law 0 = .ok (.new 10, 3) := by decide +kernel
theorem dL_law_3 : decode cL_law 3 = .ok (.dup, 1) := by decide +kernel
theorem dL_law_4 : decode cL_law 4 = .ok (.invokespecial 86, 3) := by decide +kernel
theorem dL_law_7 : decode cL_law 7 = .ok (.astore_n 1, 1) := by decide +kernel
theorem dL_law_8 : decode cL_law 8 = .ok (.aload_n 1, 1) := by decide +kernel
theorem dL_law_9 : decode cL_law 9 = .ok (.invokestatic 87, 3) := by decide +kernel
theorem dL_law_12 : decode cL_law 12 = .ok (.ifCond .eq 68, 3) := by decide +kernel
theorem dL_law_15 : decode cL_law 15 = .ok (.aload_n 1, 1) := by decide +kernel
theorem dL_law_16 : decode cL_law 16 = .ok (.invokestatic 91, 3) := by decide +kernel
theorem dL_law_19 : decode cL_law 19 = .ok (.ifCond .eq 61, 3) := by decide +kernel
theorem dL_law_22 : decode cL_law 22 = .ok (.aload_n 1, 1) := by decide +kernel
theorem dL_law_23 : decode cL_law 23 = .ok (.invokevirtual 53, 3) := by decide +kernel
theorem dL_law_26 : decode cL_law 26 = .ok (.bipush (-2), 2) := by decide +kernel
theorem dL_law_28 : decode cL_law 28 = .ok (.if_icmp .ne 52, 3) := by decide +kernel
theorem dL_law_31 : decode cL_law 31 = .ok (.aload_n 1, 1) := by decide +kernel
theorem dL_law_32 : decode cL_law 32 = .ok (.iconst 0, 1) := by decide +kernel
theorem dL_law_33 : decode cL_law 33 = .ok (.invokevirtual 83, 3) := by decide +kernel
theorem dL_law_36 : decode cL_law 36 = .ok (.bipush (-2), 2) := by decide +kernel
theorem dL_law_38 : decode cL_law 38 = .ok (.if_icmp .ne 42, 3) := by decide +kernel
theorem dL_law_41 : decode cL_law 41 = .ok (.aload_n 1, 1) := by decide +kernel
theorem dL_law_42 : decode cL_law 42 = .ok (.iconst 0, 1) := by decide +kernel
theorem dL_law_43 : decode cL_law 43 = .ok (.iconst 4, 1) := by decide +kernel
theorem dL_law_44 : decode cL_law 44 = .ok (.invokevirtual 44, 3) := by decide +kernel
theorem dL_law_47 : decode cL_law 47 = .ok (.ifCond .ne 33, 3) := by decide +kernel
theorem dL_law_50 : decode cL_law 50 = .ok (.aload_n 1, 1) := by decide +kernel
theorem dL_law_51 : decode cL_law 51 = .ok (.invokevirtual 53, 3) := by decide +kernel
theorem dL_law_54 : decode cL_law 54 = .ok (.ifCond .ne 26, 3) := by decide +kernel
theorem dL_law_57 : decode cL_law 57 = .ok (.aload_n 1, 1) := by decide +kernel
theorem dL_law_58 : decode cL_law 58 = .ok (.aload_n 0, 1) := by decide +kernel
theorem dL_law_59 : decode cL_law 59 = .ok (.iconst 0, 1) := by decide +kernel
theorem dL_law_60 : decode cL_law 60 = .ok (.invokestatic 94, 3) := by decide +kernel
theorem dL_law_63 : decode cL_law 63 = .ok (.bipush 8, 2) := by decide +kernel
theorem dL_law_65 : decode cL_law 65 = .ok (.invokestatic 41, 3) := by decide +kernel
theorem dL_law_68 : decode cL_law 68 = .ok (.bipush 6, 2) := by decide +kernel
theorem dL_law_70 : decode cL_law 70 = .ok (.invokevirtual 44, 3) := by decide +kernel
theorem dL_law_73 : decode cL_law 73 = .ok (.ifCond .ne 7, 3) := by decide +kernel
theorem dL_law_76 : decode cL_law 76 = .ok (.iconst 1, 1) := by decide +kernel
theorem dL_law_77 : decode cL_law 77 = .ok (.goto 4, 3) := by decide +kernel
theorem dL_law_80 : decode cL_law 80 = .ok (.iconst 0, 1) := by decide +kernel
theorem dL_law_81 : decode cL_law 81 = .ok (.istore_n 2, 1) := by decide +kernel
theorem dL_law_82 : decode cL_law 82 = .ok (.iconst 1, 1) := by decide +kernel
theorem dL_law_83 : decode cL_law 83 = .ok (.istore_n 3, 1) := by decide +kernel
theorem dL_law_84 : decode cL_law 84 = .ok (.iload_n 3, 1) := by decide +kernel
theorem dL_law_85 : decode cL_law 85 = .ok (.bipush 30, 2) := by decide +kernel
theorem dL_law_87 : decode cL_law 87 = .ok (.if_icmp .ge 56, 3) := by decide +kernel
theorem dL_law_90 : decode cL_law 90 = .ok (.iload_n 2, 1) := by decide +kernel
theorem dL_law_91 : decode cL_law 91 = .ok (.ifCond .eq 52, 3) := by decide +kernel
theorem dL_law_94 : decode cL_law 94 = .ok (.aload_n 1, 1) := by decide +kernel
theorem dL_law_95 : decode cL_law 95 = .ok (.aload_n 0, 1) := by decide +kernel
theorem dL_law_96 : decode cL_law 96 = .ok (.iconst 2, 1) := by decide +kernel
theorem dL_law_97 : decode cL_law 97 = .ok (.iload_n 3, 1) := by decide +kernel
theorem dL_law_98 : decode cL_law 98 = .ok (.imul, 1) := by decide +kernel
theorem dL_law_99 : decode cL_law 99 = .ok (.invokestatic 94, 3) := by decide +kernel
theorem dL_law_102 : decode cL_law 102 = .ok (.aload_n 0, 1) := by decide +kernel
theorem dL_law_103 : decode cL_law 103 = .ok (.iconst 2, 1) := by decide +kernel
theorem dL_law_104 : decode cL_law 104 = .ok (.iload_n 3, 1) := by decide +kernel
theorem dL_law_105 : decode cL_law 105 = .ok (.imul, 1) := by decide +kernel
theorem dL_law_106 : decode cL_law 106 = .ok (.iconst 1, 1) := by decide +kernel
theorem dL_law_107 : decode cL_law 107 = .ok (.iadd, 1) := by decide +kernel
theorem dL_law_108 : decode cL_law 108 = .ok (.invokestatic 94, 3) := by decide +kernel
theorem dL_law_111 : decode cL_law 111 = .ok (.invokestatic 98, 3) := by decide +kernel
theorem dL_law_114 : decode cL_law 114 = .ok (.ifCond .eq 21, 3) := by decide +kernel
theorem dL_law_117 : decode cL_law 117 = .ok (.aload_n 1, 1) := by decide +kernel
theorem dL_law_118 : decode cL_law 118 = .ok (.invokestatic 87, 3) := by decide +kernel
theorem dL_law_121 : decode cL_law 121 = .ok (.ifCond .eq 14, 3) := by decide +kernel
theorem dL_law_124 : decode cL_law 124 = .ok (.aload_n 1, 1) := by decide +kernel
theorem dL_law_125 : decode cL_law 125 = .ok (.invokestatic 91, 3) := by decide +kernel
theorem dL_law_128 : decode cL_law 128 = .ok (.ifCond .eq 7, 3) := by decide +kernel
theorem dL_law_131 : decode cL_law 131 = .ok (.iconst 1, 1) := by decide +kernel
theorem dL_law_132 : decode cL_law 132 = .ok (.goto 4, 3) := by decide +kernel
theorem dL_law_135 : decode cL_law 135 = .ok (.iconst 0, 1) := by decide +kernel
theorem dL_law_136 : decode cL_law 136 = .ok (.istore_n 2, 1) := by decide +kernel
theorem dL_law_137 : decode cL_law 137 = .ok (.iinc 3 1, 3) := by decide +kernel
theorem dL_law_140 : decode cL_law 140 = .ok (.goto (-56), 3) := by decide +kernel
theorem dL_law_143 : decode cL_law 143 = .ok (.iload_n 2, 1) := by decide +kernel
theorem dL_law_144 : decode cL_law 144 = .ok (.ireturn, 1) := by decide +kernel
