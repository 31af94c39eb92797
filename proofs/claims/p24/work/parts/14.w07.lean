/-! PlantServerLaw.opens -/
theorem dL_opens_0 : decode cL_opens 0 = .ok (.iload_n 2, 1) := by decide +kernel
theorem dL_opens_1 : decode cL_opens 1 = .ok (.iconst 1, 1) := by decide +kernel
theorem dL_opens_2 : decode cL_opens 2 = .ok (.iand, 1) := by decide +kernel
theorem dL_opens_3 : decode cL_opens 3 = .ok (.istore 14, 2) := by decide +kernel
theorem dL_opens_5 : decode cL_opens 5 = .ok (.iload 14, 2) := by decide +kernel
theorem dL_opens_7 : decode cL_opens 7 = .ok (.aload 13, 2) := by decide +kernel
theorem dL_opens_9 : decode cL_opens 9 = .ok (.iconst 1, 1) := by decide +kernel
theorem dL_opens_10 : decode cL_opens 10 = .ok (.iaload, 1) := by decide +kernel
theorem dL_opens_11 : decode cL_opens 11 = .ok (.if_icmp .ge 19, 3) := by decide +kernel
theorem dL_opens_14 : decode cL_opens 14 = .ok (.aload 5, 2) := by decide +kernel
theorem dL_opens_16 : decode cL_opens 16 = .ok (.bipush 11, 2) := by decide +kernel
theorem dL_opens_18 : decode cL_opens 18 = .ok (.iload 14, 2) := by decide +kernel
theorem dL_opens_20 : decode cL_opens 20 = .ok (.imul, 1) := by decide +kernel
theorem dL_opens_21 : decode cL_opens 21 = .ok (.iaload, 1) := by decide +kernel
theorem dL_opens_22 : decode cL_opens 22 = .ok (.iconst 1, 1) := by decide +kernel
theorem dL_opens_23 : decode cL_opens 23 = .ok (.if_icmp .ne 7, 3) := by decide +kernel
theorem dL_opens_26 : decode cL_opens 26 = .ok (.iconst 1, 1) := by decide +kernel
theorem dL_opens_27 : decode cL_opens 27 = .ok (.goto 4, 3) := by decide +kernel
theorem dL_opens_30 : decode cL_opens 30 = .ok (.iconst 0, 1) := by decide +kernel
theorem dL_opens_31 : decode cL_opens 31 = .ok (.istore 15, 2) := by decide +kernel
theorem dL_opens_33 : decode cL_opens 33 = .ok (.iload_n 1, 1) := by decide +kernel
theorem dL_opens_34 : decode cL_opens 34 = .ok (.ifCond .ne 381, 3) := by decide +kernel
theorem dL_opens_37 : decode cL_opens 37 = .ok (.iconst 1, 1) := by decide +kernel
theorem dL_opens_38 : decode cL_opens 38 = .ok (.iload_n 3, 1) := by decide +kernel
theorem dL_opens_39 : decode cL_opens 39 = .ok (.iload_n 3, 1) := by decide +kernel
theorem dL_opens_40 : decode cL_opens 40 = .ok (.bipush 96, 2) := by decide +kernel
theorem dL_opens_42 : decode cL_opens 42 = .ok (.iand, 1) := by decide +kernel
theorem dL_opens_43 : decode cL_opens 43 = .ok (.ifCond .ne 8, 3) := by decide +kernel
theorem dL_opens_46 : decode cL_opens 46 = .ok (.bipush 20, 2) := by decide +kernel
theorem dL_opens_48 : decode cL_opens 48 = .ok (.goto 4, 3) := by decide +kernel
theorem dL_opens_51 : decode cL_opens 51 = .ok (.iconst 4, 1) := by decide +kernel
theorem dL_opens_52 : decode cL_opens 52 = .ok (.invokestatic 93, 3) := by decide +kernel
theorem dL_opens_55 : decode cL_opens 55 = .ok (.iadd, 1) := by decide +kernel
theorem dL_opens_56 : decode cL_opens 56 = .ok (.istore 16, 2) := by decide +kernel
theorem dL_opens_58 : decode cL_opens 58 = .ok (.iconst 1, 1) := by decide +kernel
theorem dL_opens_59 : decode cL_opens 59 = .ok (.iload_n 3, 1) := by decide +kernel
theorem dL_opens_60 : decode cL_opens 60 = .ok (.bipush 7, 2) := by decide +kernel
theorem dL_opens_62 : decode cL_opens 62 = .ok (.ishr, 1) := by decide +kernel
theorem dL_opens_63 : decode cL_opens 63 = .ok (.bipush 10, 2) := by decide +kernel
theorem dL_opens_65 : decode cL_opens 65 = .ok (.invokestatic 93, 3) := by decide +kernel
theorem dL_opens_68 : decode cL_opens 68 = .ok (.iadd, 1) := by decide +kernel
theorem dL_opens_69 : decode cL_opens 69 = .ok (.istore 17, 2) := by decide +kernel
theorem dL_opens_71 : decode cL_opens 71 = .ok (.iconst 1, 1) := by decide +kernel
theorem dL_opens_72 : decode cL_opens 72 = .ok (.iload_n 2, 1) := by decide +kernel
theorem dL_opens_73 : decode cL_opens 73 = .ok (.iload_n 2, 1) := by decide +kernel
theorem dL_opens_74 : decode cL_opens 74 = .ok (.bipush 96, 2) := by decide +kernel
theorem dL_opens_76 : decode cL_opens 76 = .ok (.iand, 1) := by decide +kernel
theorem dL_opens_77 : decode cL_opens 77 = .ok (.ifCond .ne 8, 3) := by decide +kernel
theorem dL_opens_80 : decode cL_opens 80 = .ok (.bipush 30, 2) := by decide +kernel
theorem dL_opens_82 : decode cL_opens 82 = .ok (.goto 5, 3) := by decide +kernel
theorem dL_opens_85 : decode cL_opens 85 = .ok (.bipush 8, 2) := by decide +kernel
theorem dL_opens_87 : decode cL_opens 87 = .ok (.invokestatic 93, 3) := by decide +kernel
theorem dL_opens_90 : decode cL_opens 90 = .ok (.iadd, 1) := by decide +kernel
theorem dL_opens_91 : decode cL_opens 91 = .ok (.istore 18, 2) := by decide +kernel
theorem dL_opens_93 : decode cL_opens 93 = .ok (.iload_n 2, 1) := by decide +kernel
theorem dL_opens_94 : decode cL_opens 94 = .ok (.bipush 7, 2) := by decide +kernel
theorem dL_opens_96 : decode cL_opens 96 = .ok (.ishr, 1) := by decide +kernel
theorem dL_opens_97 : decode cL_opens 97 = .ok (.bipush 10, 2) := by decide +kernel
theorem dL_opens_99 : decode cL_opens 99 = .ok (.invokestatic 93, 3) := by decide +kernel
theorem dL_opens_102 : decode cL_opens 102 = .ok (.istore 19, 2) := by decide +kernel
theorem dL_opens_104 : decode cL_opens 104 = .ok (.iconst 1, 1) := by decide +kernel
theorem dL_opens_105 : decode cL_opens 105 = .ok (.iload_n 3, 1) := by decide +kernel
theorem dL_opens_106 : decode cL_opens 106 = .ok (.bipush 11, 2) := by decide +kernel
theorem dL_opens_108 : decode cL_opens 108 = .ok (.ishr, 1) := by decide +kernel
theorem dL_opens_109 : decode cL_opens 109 = .ok (.bipush 6, 2) := by decide +kernel
theorem dL_opens_111 : decode cL_opens 111 = .ok (.invokestatic 93, 3) := by decide +kernel
theorem dL_opens_114 : decode cL_opens 114 = .ok (.iadd, 1) := by decide +kernel
theorem dL_opens_115 : decode cL_opens 115 = .ok (.istore 20, 2) := by decide +kernel
theorem dL_opens_117 : decode cL_opens 117 = .ok (.aload_n 0, 1) := by decide +kernel
theorem dL_opens_118 : decode cL_opens 118 = .ok (.iconst 0, 1) := by decide +kernel
theorem dL_opens_119 : decode cL_opens 119 = .ok (.iload 17, 2) := by decide +kernel
theorem dL_opens_121 : decode cL_opens 121 = .ok (.iload 18, 2) := by decide +kernel
theorem dL_opens_123 : decode cL_opens 123 = .ok (.iload 19, 2) := by decide +kernel
theorem dL_opens_125 : decode cL_opens 125 = .ok (.iload 20, 2) := by decide +kernel
theorem dL_opens_127 : decode cL_opens 127 = .ok (.invokestatic 96, 3) := by decide +kernel
theorem dL_opens_130 : decode cL_opens 130 = .ok (.sipush (-7200), 3) := by decide +kernel
theorem dL_opens_133 : decode cL_opens 133 = .ok (.if_icmp .ne 141, 3) := by decide +kernel
theorem dL_opens_136 : decode cL_opens 136 = .ok (.aload_n 0, 1) := by decide +kernel
theorem dL_opens_137 : decode cL_opens 137 = .ok (.bipush 21, 2) := by decide +kernel
theorem dL_opens_139 : decode cL_opens 139 = .ok (.iload 17, 2) := by decide +kernel
theorem dL_opens_141 : decode cL_opens 141 = .ok (.iload 18, 2) := by decide +kernel
theorem dL_opens_143 : decode cL_opens 143 = .ok (.iload 19, 2) := by decide +kernel
theorem dL_opens_145 : decode cL_opens 145 = .ok (.iload 20, 2) := by decide +kernel
theorem dL_opens_147 : decode cL_opens 147 = .ok (.invokestatic 96, 3) := by decide +kernel
theorem dL_opens_150 : decode cL_opens 150 = .ok (.sipush (-7200), 3) := by decide +kernel
theorem dL_opens_153 : decode cL_opens 153 = .ok (.if_icmp .ne 121, 3) := by decide +kernel
theorem dL_opens_156 : decode cL_opens 156 = .ok (.aload_n 0, 1) := by decide +kernel
theorem dL_opens_157 : decode cL_opens 157 = .ok (.iload 16, 2) := by decide +kernel
theorem dL_opens_159 : decode cL_opens 159 = .ok (.bipush 11, 2) := by decide +kernel
theorem dL_opens_161 : decode cL_opens 161 = .ok (.iload 18, 2) := by decide +kernel
theorem dL_opens_163 : decode cL_opens 163 = .ok (.iload 19, 2) := by decide +kernel
theorem dL_opens_165 : decode cL_opens 165 = .ok (.iload 20, 2) := by decide +kernel
theorem dL_opens_167 : decode cL_opens 167 = .ok (.invokestatic 96, 3) := by decide +kernel
theorem dL_opens_170 : decode cL_opens 170 = .ok (.sipush (-7200), 3) := by decide +kernel
theorem dL_opens_173 : decode cL_opens 173 = .ok (.if_icmp .ne 101, 3) := by decide +kernel
theorem dL_opens_176 : decode cL_opens 176 = .ok (.aload_n 0, 1) := by decide +kernel
theorem dL_opens_177 : decode cL_opens 177 = .ok (.iload 16, 2) := by decide +kernel
theorem dL_opens_179 : decode cL_opens 179 = .ok (.iconst 0, 1) := by decide +kernel
theorem dL_opens_180 : decode cL_opens 180 = .ok (.iload 18, 2) := by decide +kernel
theorem dL_opens_182 : decode cL_opens 182 = .ok (.iload 19, 2) := by decide +kernel
theorem dL_opens_184 : decode cL_opens 184 = .ok (.iload 20, 2) := by decide +kernel
theorem dL_opens_186 : decode cL_opens 186 = .ok (.invokestatic 96, 3) := by decide +kernel
theorem dL_opens_189 : decode cL_opens 189 = .ok (.sipush (-7200), 3) := by decide +kernel
theorem dL_opens_192 : decode cL_opens 192 = .ok (.if_icmp .ne 82, 3) := by decide +kernel
theorem dL_opens_195 : decode cL_opens 195 = .ok (.aload_n 0, 1) := by decide +kernel
theorem dL_opens_196 : decode cL_opens 196 = .ok (.iload 16, 2) := by decide +kernel
theorem dL_opens_198 : decode cL_opens 198 = .ok (.iload 17, 2) := by decide +kernel
theorem dL_opens_200 : decode cL_opens 200 = .ok (.bipush 31, 2) := by decide +kernel
theorem dL_opens_202 : decode cL_opens 202 = .ok (.iload 19, 2) := by decide +kernel
theorem dL_opens_204 : decode cL_opens 204 = .ok (.iload 20, 2) := by decide +kernel
theorem dL_opens_206 : decode cL_opens 206 = .ok (.invokestatic 96, 3) := by decide +kernel
theorem dL_opens_209 : decode cL_opens 209 = .ok (.sipush (-7200), 3) := by decide +kernel
theorem dL_opens_212 : decode cL_opens 212 = .ok (.if_icmp .ne 62, 3) := by decide +kernel
theorem dL_opens_215 : decode cL_opens 215 = .ok (.aload_n 0, 1) := by decide +kernel
theorem dL_opens_216 : decode cL_opens 216 = .ok (.iload 16, 2) := by decide +kernel
theorem dL_opens_218 : decode cL_opens 218 = .ok (.iload 17, 2) := by decide +kernel
theorem dL_opens_220 : decode cL_opens 220 = .ok (.iload 18, 2) := by decide +kernel
theorem dL_opens_222 : decode cL_opens 222 = .ok (.bipush 10, 2) := by decide +kernel
theorem dL_opens_224 : decode cL_opens 224 = .ok (.iload 20, 2) := by decide +kernel
theorem dL_opens_226 : decode cL_opens 226 = .ok (.invokestatic 96, 3) := by decide +kernel
theorem dL_opens_229 : decode cL_opens 229 = .ok (.sipush (-7200), 3) := by decide +kernel
theorem dL_opens_232 : decode cL_opens 232 = .ok (.if_icmp .ne 42, 3) := by decide +kernel
theorem dL_opens_235 : decode cL_opens 235 = .ok (.aload_n 0, 1) := by decide +kernel
theorem dL_opens_236 : decode cL_opens 236 = .ok (.iload 16, 2) := by decide +kernel
theorem dL_opens_238 : decode cL_opens 238 = .ok (.iload 17, 2) := by decide +kernel
theorem dL_opens_240 : decode cL_opens 240 = .ok (.iload 18, 2) := by decide +kernel
theorem dL_opens_242 : decode cL_opens 242 = .ok (.iconst (-1), 1) := by decide +kernel
theorem dL_opens_243 : decode cL_opens 243 = .ok (.iload 20, 2) := by decide +kernel
theorem dL_opens_245 : decode cL_opens 245 = .ok (.invokestatic 96, 3) := by decide +kernel
theorem dL_opens_248 : decode cL_opens 248 = .ok (.sipush (-7200), 3) := by decide +kernel
theorem dL_opens_251 : decode cL_opens 251 = .ok (.if_icmp .ne 23, 3) := by decide +kernel
theorem dL_opens_254 : decode cL_opens 254 = .ok (.aload_n 0, 1) := by decide +kernel
theorem dL_opens_255 : decode cL_opens 255 = .ok (.iload 16, 2) := by decide +kernel
theorem dL_opens_257 : decode cL_opens 257 = .ok (.iload 17, 2) := by decide +kernel
theorem dL_opens_259 : decode cL_opens 259 = .ok (.iload 18, 2) := by decide +kernel
theorem dL_opens_261 : decode cL_opens 261 = .ok (.iload 19, 2) := by decide +kernel
theorem dL_opens_263 : decode cL_opens 263 = .ok (.bipush 11, 2) := by decide +kernel
theorem dL_opens_265 : decode cL_opens 265 = .ok (.invokestatic 96, 3) := by decide +kernel
theorem dL_opens_268 : decode cL_opens 268 = .ok (.sipush (-7200), 3) := by decide +kernel
theorem dL_opens_271 : decode cL_opens 271 = .ok (.if_icmp .eq 5, 3) := by decide +kernel
theorem dL_opens_274 : decode cL_opens 274 = .ok (.iconst 0, 1) := by decide +kernel
theorem dL_opens_275 : decode cL_opens 275 = .ok (.ireturn, 1) := by decide +kernel
theorem dL_opens_276 : decode cL_opens 276 = .ok (.aload 13, 2) := by decide +kernel
theorem dL_opens_278 : decode cL_opens 278 = .ok (.iconst 1, 1) := by decide +kernel
theorem dL_opens_279 : decode cL_opens 279 = .ok (.iaload, 1) := by decide +kernel
theorem dL_opens_280 : decode cL_opens 280 = .ok (.iconst 2, 1) := by decide +kernel
theorem dL_opens_281 : decode cL_opens 281 = .ok (.if_icmp .ne 25, 3) := by decide +kernel
theorem dL_opens_284 : decode cL_opens 284 = .ok (.aload_n 0, 1) := by decide +kernel
theorem dL_opens_285 : decode cL_opens 285 = .ok (.iconst 2, 1) := by decide +kernel
theorem dL_opens_286 : decode cL_opens 286 = .ok (.invokestatic 99, 3) := by decide +kernel
theorem dL_opens_289 : decode cL_opens 289 = .ok (.ifCond .ne 15, 3) := by decide +kernel
theorem dL_opens_292 : decode cL_opens 292 = .ok (.aload_n 0, 1) := by decide +kernel
theorem dL_opens_293 : decode cL_opens 293 = .ok (.iconst 3, 1) := by decide +kernel
theorem dL_opens_294 : decode cL_opens 294 = .ok (.invokestatic 99, 3) := by decide +kernel
theorem dL_opens_297 : decode cL_opens 297 = .ok (.ifCond .ne 7, 3) := by decide +kernel
theorem dL_opens_300 : decode cL_opens 300 = .ok (.iconst 1, 1) := by decide +kernel
theorem dL_opens_301 : decode cL_opens 301 = .ok (.goto 4, 3) := by decide +kernel
theorem dL_opens_304 : decode cL_opens 304 = .ok (.iconst 0, 1) := by decide +kernel
theorem dL_opens_305 : decode cL_opens 305 = .ok (.ireturn, 1) := by decide +kernel
theorem dL_opens_306 : decode cL_opens 306 = .ok (.bipush 11, 2) := by decide +kernel
theorem dL_opens_308 : decode cL_opens 308 = .ok (.aload 13, 2) := by decide +kernel
theorem dL_opens_310 : decode cL_opens 310 = .ok (.iconst 1, 1) := by decide +kernel
theorem dL_opens_311 : decode cL_opens 311 = .ok (.iaload, 1) := by decide +kernel
theorem dL_opens_312 : decode cL_opens 312 = .ok (.imul, 1) := by decide +kernel
theorem dL_opens_313 : decode cL_opens 313 = .ok (.istore 21, 2) := by decide +kernel
theorem dL_opens_315 : decode cL_opens 315 = .ok (.aload 5, 2) := by decide +kernel
theorem dL_opens_317 : decode cL_opens 317 = .ok (.iload 21, 2) := by decide +kernel
theorem dL_opens_319 : decode cL_opens 319 = .ok (.iconst 1, 1) := by decide +kernel
theorem dL_opens_320 : decode cL_opens 320 = .ok (.iastore, 1) := by decide +kernel
theorem dL_opens_321 : decode cL_opens 321 = .ok (.aload 5, 2) := by decide +kernel
theorem dL_opens_323 : decode cL_opens 323 = .ok (.iload 21, 2) := by decide +kernel
theorem dL_opens_325 : decode cL_opens 325 = .ok (.iconst 1, 1) := by decide +kernel
theorem dL_opens_326 : decode cL_opens 326 = .ok (.iadd, 1) := by decide +kernel
theorem dL_opens_327 : decode cL_opens 327 = .ok (.aload 13, 2) := by decide +kernel
theorem dL_opens_329 : decode cL_opens 329 = .ok (.iconst 0, 1) := by decide +kernel
theorem dL_opens_330 : decode cL_opens 330 = .ok (.iaload, 1) := by decide +kernel
theorem dL_opens_331 : decode cL_opens 331 = .ok (.iastore, 1) := by decide +kernel
theorem dL_opens_332 : decode cL_opens 332 = .ok (.aload 5, 2) := by decide +kernel
theorem dL_opens_334 : decode cL_opens 334 = .ok (.iload 21, 2) := by decide +kernel
theorem dL_opens_336 : decode cL_opens 336 = .ok (.iconst 2, 1) := by decide +kernel
theorem dL_opens_337 : decode cL_opens 337 = .ok (.iadd, 1) := by decide +kernel
theorem dL_opens_338 : decode cL_opens 338 = .ok (.iload 16, 2) := by decide +kernel
theorem dL_opens_340 : decode cL_opens 340 = .ok (.iastore, 1) := by decide +kernel
theorem dL_opens_341 : decode cL_opens 341 = .ok (.aload 5, 2) := by decide +kernel
theorem dL_opens_343 : decode cL_opens 343 = .ok (.iload 21, 2) := by decide +kernel
theorem dL_opens_345 : decode cL_opens 345 = .ok (.iconst 3, 1) := by decide +kernel
theorem dL_opens_346 : decode cL_opens 346 = .ok (.iadd, 1) := by decide +kernel
theorem dL_opens_347 : decode cL_opens 347 = .ok (.iload 17, 2) := by decide +kernel
theorem dL_opens_349 : decode cL_opens 349 = .ok (.iastore, 1) := by decide +kernel
theorem dL_opens_350 : decode cL_opens 350 = .ok (.aload 5, 2) := by decide +kernel
theorem dL_opens_352 : decode cL_opens 352 = .ok (.iload 21, 2) := by decide +kernel
theorem dL_opens_354 : decode cL_opens 354 = .ok (.iconst 4, 1) := by decide +kernel
theorem dL_opens_355 : decode cL_opens 355 = .ok (.iadd, 1) := by decide +kernel
theorem dL_opens_356 : decode cL_opens 356 = .ok (.iload 18, 2) := by decide +kernel
theorem dL_opens_358 : decode cL_opens 358 = .ok (.iastore, 1) := by decide +kernel
theorem dL_opens_359 : decode cL_opens 359 = .ok (.aload 5, 2) := by decide +kernel
theorem dL_opens_361 : decode cL_opens 361 = .ok (.iload 21, 2) := by decide +kernel
theorem dL_opens_363 : decode cL_opens 363 = .ok (.iconst 5, 1) := by decide +kernel
theorem dL_opens_364 : decode cL_opens 364 = .ok (.iadd, 1) := by decide +kernel
theorem dL_opens_365 : decode cL_opens 365 = .ok (.iload 19, 2) := by decide +kernel
theorem dL_opens_367 : decode cL_opens 367 = .ok (.iastore, 1) := by decide +kernel
theorem dL_opens_368 : decode cL_opens 368 = .ok (.aload 5, 2) := by decide +kernel
theorem dL_opens_370 : decode cL_opens 370 = .ok (.iload 21, 2) := by decide +kernel
theorem dL_opens_372 : decode cL_opens 372 = .ok (.bipush 6, 2) := by decide +kernel
theorem dL_opens_374 : decode cL_opens 374 = .ok (.iadd, 1) := by decide +kernel
theorem dL_opens_375 : decode cL_opens 375 = .ok (.iload 20, 2) := by decide +kernel
theorem dL_opens_377 : decode cL_opens 377 = .ok (.iastore, 1) := by decide +kernel
theorem dL_opens_378 : decode cL_opens 378 = .ok (.aload 13, 2) := by decide +kernel
theorem dL_opens_380 : decode cL_opens 380 = .ok (.iconst 1, 1) := by decide +kernel
theorem dL_opens_381 : decode cL_opens 381 = .ok (.dup2, 1) := by decide +kernel
theorem dL_opens_382 : decode cL_opens 382 = .ok (.iaload, 1) := by decide +kernel
theorem dL_opens_383 : decode cL_opens 383 = .ok (.iconst 1, 1) := by decide +kernel
theorem dL_opens_384 : decode cL_opens 384 = .ok (.iadd, 1) := by decide +kernel
theorem dL_opens_385 : decode cL_opens 385 = .ok (.iastore, 1) := by decide +kernel
theorem dL_opens_386 : decode cL_opens 386 = .ok (.aload_n 0, 1) := by decide +kernel
theorem dL_opens_387 : decode cL_opens 387 = .ok (.iload 16, 2) := by decide +kernel
theorem dL_opens_389 : decode cL_opens 389 = .ok (.iload 17, 2) := by decide +kernel
theorem dL_opens_391 : decode cL_opens 391 = .ok (.iload 18, 2) := by decide +kernel
theorem dL_opens_393 : decode cL_opens 393 = .ok (.iload 19, 2) := by decide +kernel
theorem dL_opens_395 : decode cL_opens 395 = .ok (.iload 20, 2) := by decide +kernel
theorem dL_opens_397 : decode cL_opens 397 = .ok (.invokestatic 96, 3) := by decide +kernel
theorem dL_opens_400 : decode cL_opens 400 = .ok (.aload 13, 2) := by decide +kernel
theorem dL_opens_402 : decode cL_opens 402 = .ok (.iconst 1, 1) := by decide +kernel
theorem dL_opens_403 : decode cL_opens 403 = .ok (.iaload, 1) := by decide +kernel
theorem dL_opens_404 : decode cL_opens 404 = .ok (.iconst 1, 1) := by decide +kernel
theorem dL_opens_405 : decode cL_opens 405 = .ok (.isub, 1) := by decide +kernel
theorem dL_opens_406 : decode cL_opens 406 = .ok (.if_icmp .ne 7, 3) := by decide +kernel
theorem dL_opens_409 : decode cL_opens 409 = .ok (.iconst 1, 1) := by decide +kernel
theorem dL_opens_410 : decode cL_opens 410 = .ok (.goto 4, 3) := by decide +kernel
theorem dL_opens_413 : decode cL_opens 413 = .ok (.iconst 0, 1) := by decide +kernel
theorem dL_opens_414 : decode cL_opens 414 = .ok (.ireturn, 1) := by decide +kernel
theorem dL_opens_415 : decode cL_opens 415 = .ok (.iload_n 1, 1) := by decide +kernel
theorem dL_opens_416 : decode cL_opens 416 = .ok (.iconst 1, 1) := by decide +kernel
theorem dL_opens_417 : decode cL_opens 417 = .ok (.if_icmp .ne 138, 3) := by decide +kernel
theorem dL_opens_420 : decode cL_opens 420 = .ok (.iload 15, 2) := by decide +kernel
theorem dL_opens_422 : decode cL_opens 422 = .ok (.ifCond .eq 11, 3) := by decide +kernel
theorem dL_opens_425 : decode cL_opens 425 = .ok (.iload_n 3, 1) := by decide +kernel
theorem dL_opens_426 : decode cL_opens 426 = .ok (.sipush 1792, 3) := by decide +kernel
theorem dL_opens_429 : decode cL_opens 429 = .ok (.iand, 1) := by decide +kernel
theorem dL_opens_430 : decode cL_opens 430 = .ok (.ifCond .le 56, 3) := by decide +kernel
theorem dL_opens_433 : decode cL_opens 433 = .ok (.iload 15, 2) := by decide +kernel
theorem dL_opens_435 : decode cL_opens 435 = .ok (.ifCond .eq 22, 3) := by decide +kernel
theorem dL_opens_438 : decode cL_opens 438 = .ok (.aload_n 0, 1) := by decide +kernel
theorem dL_opens_439 : decode cL_opens 439 = .ok (.iconst 3, 1) := by decide +kernel
theorem dL_opens_440 : decode cL_opens 440 = .ok (.invokestatic 102, 3) := by decide +kernel
theorem dL_opens_443 : decode cL_opens 443 = .ok (.sipush (-7100), 3) := by decide +kernel
theorem dL_opens_446 : decode cL_opens 446 = .ok (.if_icmp .ne 7, 3) := by decide +kernel
theorem dL_opens_449 : decode cL_opens 449 = .ok (.iconst 1, 1) := by decide +kernel
theorem dL_opens_450 : decode cL_opens 450 = .ok (.goto 35, 3) := by decide +kernel
theorem dL_opens_453 : decode cL_opens 453 = .ok (.iconst 0, 1) := by decide +kernel
theorem dL_opens_454 : decode cL_opens 454 = .ok (.goto 31, 3) := by decide +kernel
theorem dL_opens_457 : decode cL_opens 457 = .ok (.aload_n 0, 1) := by decide +kernel
theorem dL_opens_458 : decode cL_opens 458 = .ok (.iload 14, 2) := by decide +kernel
theorem dL_opens_460 : decode cL_opens 460 = .ok (.invokestatic 102, 3) := by decide +kernel
theorem dL_opens_463 : decode cL_opens 463 = .ok (.sipush (-7100), 3) := by decide +kernel
theorem dL_opens_466 : decode cL_opens 466 = .ok (.if_icmp .ne 18, 3) := by decide +kernel
theorem dL_opens_469 : decode cL_opens 469 = .ok (.aload_n 0, 1) := by decide +kernel
theorem dL_opens_470 : decode cL_opens 470 = .ok (.iconst (-1), 1) := by decide +kernel
theorem dL_opens_471 : decode cL_opens 471 = .ok (.invokestatic 102, 3) := by decide +kernel
theorem dL_opens_474 : decode cL_opens 474 = .ok (.sipush (-7100), 3) := by decide +kernel
theorem dL_opens_477 : decode cL_opens 477 = .ok (.if_icmp .ne 7, 3) := by decide +kernel
theorem dL_opens_480 : decode cL_opens 480 = .ok (.iconst 1, 1) := by decide +kernel
theorem dL_opens_481 : decode cL_opens 481 = .ok (.goto 4, 3) := by decide +kernel
theorem dL_opens_484 : decode cL_opens 484 = .ok (.iconst 0, 1) := by decide +kernel
theorem dL_opens_485 : decode cL_opens 485 = .ok (.ireturn, 1) := by decide +kernel
theorem dL_opens_486 : decode cL_opens 486 = .ok (.iconst 0, 1) := by decide +kernel
theorem dL_opens_487 : decode cL_opens 487 = .ok (.istore 16, 2) := by decide +kernel
theorem dL_opens_489 : decode cL_opens 489 = .ok (.iconst 0, 1) := by decide +kernel
theorem dL_opens_490 : decode cL_opens 490 = .ok (.istore 17, 2) := by decide +kernel
theorem dL_opens_492 : decode cL_opens 492 = .ok (.iload 17, 2) := by decide +kernel
theorem dL_opens_494 : decode cL_opens 494 = .ok (.aload 13, 2) := by decide +kernel
theorem dL_opens_496 : decode cL_opens 496 = .ok (.iconst 2, 1) := by decide +kernel
theorem dL_opens_497 : decode cL_opens 497 = .ok (.iaload, 1) := by decide +kernel
theorem dL_opens_498 : decode cL_opens 498 = .ok (.if_icmp .ge 31, 3) := by decide +kernel
theorem dL_opens_501 : decode cL_opens 501 = .ok (.iload 16, 2) := by decide +kernel
theorem dL_opens_503 : decode cL_opens 503 = .ok (.aload 6, 2) := by decide +kernel
theorem dL_opens_505 : decode cL_opens 505 = .ok (.iload 17, 2) := by decide +kernel
theorem dL_opens_507 : decode cL_opens 507 = .ok (.iaload, 1) := by decide +kernel
theorem dL_opens_508 : decode cL_opens 508 = .ok (.iconst 1, 1) := by decide +kernel
theorem dL_opens_509 : decode cL_opens 509 = .ok (.iand, 1) := by decide +kernel
theorem dL_opens_510 : decode cL_opens 510 = .ok (.iload 14, 2) := by decide +kernel
theorem dL_opens_512 : decode cL_opens 512 = .ok (.if_icmp .ne 7, 3) := by decide +kernel
theorem dL_opens_515 : decode cL_opens 515 = .ok (.iconst 1, 1) := by decide +kernel
theorem dL_opens_516 : decode cL_opens 516 = .ok (.goto 4, 3) := by decide +kernel
theorem dL_opens_519 : decode cL_opens 519 = .ok (.iconst 0, 1) := by decide +kernel
theorem dL_opens_520 : decode cL_opens 520 = .ok (.iadd, 1) := by decide +kernel
theorem dL_opens_521 : decode cL_opens 521 = .ok (.istore 16, 2) := by decide +kernel
theorem dL_opens_523 : decode cL_opens 523 = .ok (.iinc 17 1, 3) := by decide +kernel
theorem dL_opens_526 : decode cL_opens 526 = .ok (.goto (-34), 3) := by decide +kernel
theorem dL_opens_529 : decode cL_opens 529 = .ok (.aload 5, 2) := by decide +kernel
theorem dL_opens_531 : decode cL_opens 531 = .ok (.bipush 11, 2) := by decide +kernel
theorem dL_opens_533 : decode cL_opens 533 = .ok (.iload 14, 2) := by decide +kernel
theorem dL_opens_535 : decode cL_opens 535 = .ok (.imul, 1) := by decide +kernel
theorem dL_opens_536 : decode cL_opens 536 = .ok (.iconst 0, 1) := by decide +kernel
theorem dL_opens_537 : decode cL_opens 537 = .ok (.iastore, 1) := by decide +kernel
theorem dL_opens_538 : decode cL_opens 538 = .ok (.aload_n 0, 1) := by decide +kernel
theorem dL_opens_539 : decode cL_opens 539 = .ok (.iload 14, 2) := by decide +kernel
theorem dL_opens_541 : decode cL_opens 541 = .ok (.invokestatic 102, 3) := by decide +kernel
theorem dL_opens_544 : decode cL_opens 544 = .ok (.iload 16, 2) := by decide +kernel
theorem dL_opens_546 : decode cL_opens 546 = .ok (.if_icmp .ne 7, 3) := by decide +kernel
theorem dL_opens_549 : decode cL_opens 549 = .ok (.iconst 1, 1) := by decide +kernel
theorem dL_opens_550 : decode cL_opens 550 = .ok (.goto 4, 3) := by decide +kernel
theorem dL_opens_553 : decode cL_opens 553 = .ok (.iconst 0, 1) := by decide +kernel
theorem dL_opens_554 : decode cL_opens 554 = .ok (.ireturn, 1) := by decide +kernel
theorem dL_opens_555 : decode cL_opens 555 = .ok (.iload_n 1, 1) := by decide +kernel
theorem dL_opens_556 : decode cL_opens 556 = .ok (.bipush 6, 2) := by decide +kernel
theorem dL_opens_558 : decode cL_opens 558 = .ok (.if_icmp .ge 447, 3) := by decide +kernel
theorem dL_opens_561 : decode cL_opens 561 = .ok (.iload_n 2, 1) := by decide +kernel
theorem dL_opens_562 : decode cL_opens 562 = .ok (.iconst 3, 1) := by decide +kernel
theorem dL_opens_563 : decode cL_opens 563 = .ok (.invokestatic 93, 3) := by decide +kernel
theorem dL_opens_566 : decode cL_opens 566 = .ok (.istore 16, 2) := by decide +kernel
theorem dL_opens_568 : decode cL_opens 568 = .ok (.iconst 1, 1) := by decide +kernel
theorem dL_opens_569 : decode cL_opens 569 = .ok (.iload_n 3, 1) := by decide +kernel
theorem dL_opens_570 : decode cL_opens 570 = .ok (.iload_n 3, 1) := by decide +kernel
theorem dL_opens_571 : decode cL_opens 571 = .ok (.bipush 96, 2) := by decide +kernel
theorem dL_opens_573 : decode cL_opens 573 = .ok (.iand, 1) := by decide +kernel
theorem dL_opens_574 : decode cL_opens 574 = .ok (.ifCond .ne 8, 3) := by decide +kernel
theorem dL_opens_577 : decode cL_opens 577 = .ok (.bipush 20, 2) := by decide +kernel
theorem dL_opens_579 : decode cL_opens 579 = .ok (.goto 4, 3) := by decide +kernel
theorem dL_opens_582 : decode cL_opens 582 = .ok (.iconst 3, 1) := by decide +kernel
theorem dL_opens_583 : decode cL_opens 583 = .ok (.invokestatic 93, 3) := by decide +kernel
theorem dL_opens_586 : decode cL_opens 586 = .ok (.iadd, 1) := by decide +kernel
theorem dL_opens_587 : decode cL_opens 587 = .ok (.istore 17, 2) := by decide +kernel
theorem dL_opens_589 : decode cL_opens 589 = .ok (.iconst 1, 1) := by decide +kernel
theorem dL_opens_590 : decode cL_opens 590 = .ok (.iload_n 3, 1) := by decide +kernel
theorem dL_opens_591 : decode cL_opens 591 = .ok (.bipush 7, 2) := by decide +kernel
theorem dL_opens_593 : decode cL_opens 593 = .ok (.ishr, 1) := by decide +kernel
theorem dL_opens_594 : decode cL_opens 594 = .ok (.iconst 4, 1) := by decide +kernel
theorem dL_opens_595 : decode cL_opens 595 = .ok (.invokestatic 93, 3) := by decide +kernel
theorem dL_opens_598 : decode cL_opens 598 = .ok (.iadd, 1) := by decide +kernel
theorem dL_opens_599 : decode cL_opens 599 = .ok (.istore 18, 2) := by decide +kernel
theorem dL_opens_601 : decode cL_opens 601 = .ok (.iload_n 3, 1) := by decide +kernel
theorem dL_opens_602 : decode cL_opens 602 = .ok (.sipush 4096, 3) := by decide +kernel
theorem dL_opens_605 : decode cL_opens 605 = .ok (.iand, 1) := by decide +kernel
theorem dL_opens_606 : decode cL_opens 606 = .ok (.ifCond .ne 7, 3) := by decide +kernel
theorem dL_opens_609 : decode cL_opens 609 = .ok (.iconst 1, 1) := by decide +kernel
theorem dL_opens_610 : decode cL_opens 610 = .ok (.goto 4, 3) := by decide +kernel
theorem dL_opens_613 : decode cL_opens 613 = .ok (.iconst 0, 1) := by decide +kernel
theorem dL_opens_614 : decode cL_opens 614 = .ok (.istore 19, 2) := by decide +kernel
theorem dL_opens_616 : decode cL_opens 616 = .ok (.iload_n 2, 1) := by decide +kernel
theorem dL_opens_617 : decode cL_opens 617 = .ok (.bipush 96, 2) := by decide +kernel
theorem dL_opens_619 : decode cL_opens 619 = .ok (.iand, 1) := by decide +kernel
theorem dL_opens_620 : decode cL_opens 620 = .ok (.ifCond .ne 16, 3) := by decide +kernel
theorem dL_opens_623 : decode cL_opens 623 = .ok (.iload_n 2, 1) := by decide +kernel
theorem dL_opens_624 : decode cL_opens 624 = .ok (.bipush 7, 2) := by decide +kernel
theorem dL_opens_626 : decode cL_opens 626 = .ok (.ishr, 1) := by decide +kernel
theorem dL_opens_627 : decode cL_opens 627 = .ok (.sipush 1001, 3) := by decide +kernel
theorem dL_opens_630 : decode cL_opens 630 = .ok (.invokestatic 93, 3) := by decide +kernel
theorem dL_opens_633 : decode cL_opens 633 = .ok (.goto 11, 3) := by decide +kernel
theorem dL_opens_636 : decode cL_opens 636 = .ok (.iload_n 2, 1) := by decide +kernel
theorem dL_opens_637 : decode cL_opens 637 = .ok (.bipush 7, 2) := by decide +kernel
theorem dL_opens_639 : decode cL_opens 639 = .ok (.ishr, 1) := by decide +kernel
theorem dL_opens_640 : decode cL_opens 640 = .ok (.iconst 4, 1) := by decide +kernel
theorem dL_opens_641 : decode cL_opens 641 = .ok (.invokestatic 93, 3) := by decide +kernel
theorem dL_opens_644 : decode cL_opens 644 = .ok (.istore 20, 2) := by decide +kernel
theorem dL_opens_646 : decode cL_opens 646 = .ok (.aload_n 0, 1) := by decide +kernel
theorem dL_opens_647 : decode cL_opens 647 = .ok (.iconst 4, 1) := by decide +kernel
theorem dL_opens_648 : decode cL_opens 648 = .ok (.iload 16, 2) := by decide +kernel
theorem dL_opens_650 : decode cL_opens 650 = .ok (.iload 17, 2) := by decide +kernel
theorem dL_opens_652 : decode cL_opens 652 = .ok (.iload 18, 2) := by decide +kernel
theorem dL_opens_654 : decode cL_opens 654 = .ok (.iload 19, 2) := by decide +kernel
theorem dL_opens_656 : decode cL_opens 656 = .ok (.iload 20, 2) := by decide +kernel
theorem dL_opens_658 : decode cL_opens 658 = .ok (.invokestatic 104, 3) := by decide +kernel
theorem dL_opens_661 : decode cL_opens 661 = .ok (.sipush (-7100), 3) := by decide +kernel
theorem dL_opens_664 : decode cL_opens 664 = .ok (.if_icmp .ne 137, 3) := by decide +kernel
theorem dL_opens_667 : decode cL_opens 667 = .ok (.iload 15, 2) := by decide +kernel
theorem dL_opens_669 : decode cL_opens 669 = .ok (.ifCond .eq 134, 3) := by decide +kernel
theorem dL_opens_672 : decode cL_opens 672 = .ok (.aload_n 0, 1) := by decide +kernel
theorem dL_opens_673 : decode cL_opens 673 = .ok (.iload 14, 2) := by decide +kernel
theorem dL_opens_675 : decode cL_opens 675 = .ok (.bipush 10, 2) := by decide +kernel
theorem dL_opens_677 : decode cL_opens 677 = .ok (.iconst 0, 1) := by decide +kernel
theorem dL_opens_678 : decode cL_opens 678 = .ok (.iload 18, 2) := by decide +kernel
theorem dL_opens_680 : decode cL_opens 680 = .ok (.iload 19, 2) := by decide +kernel
theorem dL_opens_682 : decode cL_opens 682 = .ok (.iload 20, 2) := by decide +kernel
theorem dL_opens_684 : decode cL_opens 684 = .ok (.invokestatic 104, 3) := by decide +kernel
theorem dL_opens_687 : decode cL_opens 687 = .ok (.sipush (-7100), 3) := by decide +kernel
theorem dL_opens_690 : decode cL_opens 690 = .ok (.if_icmp .ne 111, 3) := by decide +kernel
theorem dL_opens_693 : decode cL_opens 693 = .ok (.aload_n 0, 1) := by decide +kernel
theorem dL_opens_694 : decode cL_opens 694 = .ok (.iload 14, 2) := by decide +kernel
theorem dL_opens_696 : decode cL_opens 696 = .ok (.iload 16, 2) := by decide +kernel
theorem dL_opens_698 : decode cL_opens 698 = .ok (.bipush 21, 2) := by decide +kernel
theorem dL_opens_700 : decode cL_opens 700 = .ok (.iload 18, 2) := by decide +kernel
theorem dL_opens_702 : decode cL_opens 702 = .ok (.iload 19, 2) := by decide +kernel
theorem dL_opens_704 : decode cL_opens 704 = .ok (.iload 20, 2) := by decide +kernel
theorem dL_opens_706 : decode cL_opens 706 = .ok (.invokestatic 104, 3) := by decide +kernel
theorem dL_opens_709 : decode cL_opens 709 = .ok (.sipush (-7200), 3) := by decide +kernel
theorem dL_opens_712 : decode cL_opens 712 = .ok (.if_icmp .ne 89, 3) := by decide +kernel
theorem dL_opens_715 : decode cL_opens 715 = .ok (.aload_n 0, 1) := by decide +kernel
theorem dL_opens_716 : decode cL_opens 716 = .ok (.iload 14, 2) := by decide +kernel
theorem dL_opens_718 : decode cL_opens 718 = .ok (.iload 16, 2) := by decide +kernel
theorem dL_opens_720 : decode cL_opens 720 = .ok (.iload 17, 2) := by decide +kernel
theorem dL_opens_722 : decode cL_opens 722 = .ok (.iconst 5, 1) := by decide +kernel
theorem dL_opens_723 : decode cL_opens 723 = .ok (.iload 19, 2) := by decide +kernel
theorem dL_opens_725 : decode cL_opens 725 = .ok (.iload 20, 2) := by decide +kernel
theorem dL_opens_727 : decode cL_opens 727 = .ok (.invokestatic 104, 3) := by decide +kernel
theorem dL_opens_730 : decode cL_opens 730 = .ok (.sipush (-7200), 3) := by decide +kernel
theorem dL_opens_733 : decode cL_opens 733 = .ok (.if_icmp .ne 68, 3) := by decide +kernel
theorem dL_opens_736 : decode cL_opens 736 = .ok (.aload_n 0, 1) := by decide +kernel
theorem dL_opens_737 : decode cL_opens 737 = .ok (.iload 14, 2) := by decide +kernel
theorem dL_opens_739 : decode cL_opens 739 = .ok (.iload 16, 2) := by decide +kernel
theorem dL_opens_741 : decode cL_opens 741 = .ok (.iload 17, 2) := by decide +kernel
theorem dL_opens_743 : decode cL_opens 743 = .ok (.iconst 0, 1) := by decide +kernel
theorem dL_opens_744 : decode cL_opens 744 = .ok (.iload 19, 2) := by decide +kernel
theorem dL_opens_746 : decode cL_opens 746 = .ok (.iload 20, 2) := by decide +kernel
theorem dL_opens_748 : decode cL_opens 748 = .ok (.invokestatic 104, 3) := by decide +kernel
theorem dL_opens_751 : decode cL_opens 751 = .ok (.sipush (-7200), 3) := by decide +kernel
theorem dL_opens_754 : decode cL_opens 754 = .ok (.if_icmp .ne 47, 3) := by decide +kernel
theorem dL_opens_757 : decode cL_opens 757 = .ok (.aload_n 0, 1) := by decide +kernel
theorem dL_opens_758 : decode cL_opens 758 = .ok (.iload 14, 2) := by decide +kernel
theorem dL_opens_760 : decode cL_opens 760 = .ok (.iload 16, 2) := by decide +kernel
theorem dL_opens_762 : decode cL_opens 762 = .ok (.iload 17, 2) := by decide +kernel
theorem dL_opens_764 : decode cL_opens 764 = .ok (.iload 18, 2) := by decide +kernel
theorem dL_opens_766 : decode cL_opens 766 = .ok (.iload 19, 2) := by decide +kernel
theorem dL_opens_768 : decode cL_opens 768 = .ok (.sipush 1001, 3) := by decide +kernel
theorem dL_opens_771 : decode cL_opens 771 = .ok (.invokestatic 104, 3) := by decide +kernel
theorem dL_opens_774 : decode cL_opens 774 = .ok (.sipush (-7200), 3) := by decide +kernel
theorem dL_opens_777 : decode cL_opens 777 = .ok (.if_icmp .ne 24, 3) := by decide +kernel
theorem dL_opens_780 : decode cL_opens 780 = .ok (.aload_n 0, 1) := by decide +kernel
theorem dL_opens_781 : decode cL_opens 781 = .ok (.iload 14, 2) := by decide +kernel
theorem dL_opens_783 : decode cL_opens 783 = .ok (.iload 16, 2) := by decide +kernel
theorem dL_opens_785 : decode cL_opens 785 = .ok (.iload 17, 2) := by decide +kernel
theorem dL_opens_787 : decode cL_opens 787 = .ok (.iload 18, 2) := by decide +kernel
theorem dL_opens_789 : decode cL_opens 789 = .ok (.iload 19, 2) := by decide +kernel
theorem dL_opens_791 : decode cL_opens 791 = .ok (.iconst (-1), 1) := by decide +kernel
theorem dL_opens_792 : decode cL_opens 792 = .ok (.invokestatic 104, 3) := by decide +kernel
theorem dL_opens_795 : decode cL_opens 795 = .ok (.sipush (-7200), 3) := by decide +kernel
theorem dL_opens_798 : decode cL_opens 798 = .ok (.if_icmp .eq 5, 3) := by decide +kernel
theorem dL_opens_801 : decode cL_opens 801 = .ok (.iconst 0, 1) := by decide +kernel
theorem dL_opens_802 : decode cL_opens 802 = .ok (.ireturn, 1) := by decide +kernel
theorem dL_opens_803 : decode cL_opens 803 = .ok (.iload 15, 2) := by decide +kernel
theorem dL_opens_805 : decode cL_opens 805 = .ok (.ifCond .ne 30, 3) := by decide +kernel
theorem dL_opens_808 : decode cL_opens 808 = .ok (.aload_n 0, 1) := by decide +kernel
theorem dL_opens_809 : decode cL_opens 809 = .ok (.iload 14, 2) := by decide +kernel
theorem dL_opens_811 : decode cL_opens 811 = .ok (.iload 16, 2) := by decide +kernel
theorem dL_opens_813 : decode cL_opens 813 = .ok (.iconst 0, 1) := by decide +kernel
theorem dL_opens_814 : decode cL_opens 814 = .ok (.iload 18, 2) := by decide +kernel
theorem dL_opens_816 : decode cL_opens 816 = .ok (.iload 19, 2) := by decide +kernel
theorem dL_opens_818 : decode cL_opens 818 = .ok (.iload 20, 2) := by decide +kernel
theorem dL_opens_820 : decode cL_opens 820 = .ok (.invokestatic 104, 3) := by decide +kernel
theorem dL_opens_823 : decode cL_opens 823 = .ok (.sipush (-7100), 3) := by decide +kernel
theorem dL_opens_826 : decode cL_opens 826 = .ok (.if_icmp .ne 7, 3) := by decide +kernel
theorem dL_opens_829 : decode cL_opens 829 = .ok (.iconst 1, 1) := by decide +kernel
theorem dL_opens_830 : decode cL_opens 830 = .ok (.goto 4, 3) := by decide +kernel
theorem dL_opens_833 : decode cL_opens 833 = .ok (.iconst 0, 1) := by decide +kernel
theorem dL_opens_834 : decode cL_opens 834 = .ok (.ireturn, 1) := by decide +kernel
theorem dL_opens_835 : decode cL_opens 835 = .ok (.aload 13, 2) := by decide +kernel
theorem dL_opens_837 : decode cL_opens 837 = .ok (.iconst 2, 1) := by decide +kernel
theorem dL_opens_838 : decode cL_opens 838 = .ok (.iaload, 1) := by decide +kernel
theorem dL_opens_839 : decode cL_opens 839 = .ok (.bipush 10, 2) := by decide +kernel
theorem dL_opens_841 : decode cL_opens 841 = .ok (.if_icmp .ne 21, 3) := by decide +kernel
theorem dL_opens_844 : decode cL_opens 844 = .ok (.aload_n 0, 1) := by decide +kernel
theorem dL_opens_845 : decode cL_opens 845 = .ok (.bipush 10, 2) := by decide +kernel
theorem dL_opens_847 : decode cL_opens 847 = .ok (.invokestatic 107, 3) := by decide +kernel
theorem dL_opens_850 : decode cL_opens 850 = .ok (.sipush (-7100), 3) := by decide +kernel
theorem dL_opens_853 : decode cL_opens 853 = .ok (.if_icmp .ne 7, 3) := by decide +kernel
theorem dL_opens_856 : decode cL_opens 856 = .ok (.iconst 1, 1) := by decide +kernel
theorem dL_opens_857 : decode cL_opens 857 = .ok (.goto 4, 3) := by decide +kernel
theorem dL_opens_860 : decode cL_opens 860 = .ok (.iconst 0, 1) := by decide +kernel
theorem dL_opens_861 : decode cL_opens 861 = .ok (.ireturn, 1) := by decide +kernel
theorem dL_opens_862 : decode cL_opens 862 = .ok (.aload 6, 2) := by decide +kernel
theorem dL_opens_864 : decode cL_opens 864 = .ok (.aload 13, 2) := by decide +kernel
theorem dL_opens_866 : decode cL_opens 866 = .ok (.iconst 2, 1) := by decide +kernel
theorem dL_opens_867 : decode cL_opens 867 = .ok (.iaload, 1) := by decide +kernel
theorem dL_opens_868 : decode cL_opens 868 = .ok (.iload 14, 2) := by decide +kernel
theorem dL_opens_870 : decode cL_opens 870 = .ok (.iconst 2, 1) := by decide +kernel
theorem dL_opens_871 : decode cL_opens 871 = .ok (.iload 16, 2) := by decide +kernel
theorem dL_opens_873 : decode cL_opens 873 = .ok (.imul, 1) := by decide +kernel
theorem dL_opens_874 : decode cL_opens 874 = .ok (.iadd, 1) := by decide +kernel
theorem dL_opens_875 : decode cL_opens 875 = .ok (.bipush 32, 2) := by decide +kernel
theorem dL_opens_877 : decode cL_opens 877 = .ok (.iload 17, 2) := by decide +kernel
theorem dL_opens_879 : decode cL_opens 879 = .ok (.imul, 1) := by decide +kernel
theorem dL_opens_880 : decode cL_opens 880 = .ok (.iadd, 1) := by decide +kernel
theorem dL_opens_881 : decode cL_opens 881 = .ok (.sipush 1024, 3) := by decide +kernel
theorem dL_opens_884 : decode cL_opens 884 = .ok (.iload 18, 2) := by decide +kernel
theorem dL_opens_886 : decode cL_opens 886 = .ok (.imul, 1) := by decide +kernel
theorem dL_opens_887 : decode cL_opens 887 = .ok (.iadd, 1) := by decide +kernel
theorem dL_opens_888 : decode cL_opens 888 = .ok (.iload 19, 2) := by decide +kernel
theorem dL_opens_890 : decode cL_opens 890 = .ok (.ifCond .eq 9, 3) := by decide +kernel
theorem dL_opens_893 : decode cL_opens 893 = .ok (.sipush 8192, 3) := by decide +kernel
theorem dL_opens_896 : decode cL_opens 896 = .ok (.goto 4, 3) := by decide +kernel
theorem dL_opens_899 : decode cL_opens 899 = .ok (.iconst 0, 1) := by decide +kernel
theorem dL_opens_900 : decode cL_opens 900 = .ok (.iadd, 1) := by decide +kernel
theorem dL_opens_901 : decode cL_opens 901 = .ok (.sipush 16384, 3) := by decide +kernel
theorem dL_opens_904 : decode cL_opens 904 = .ok (.iadd, 1) := by decide +kernel
theorem dL_opens_905 : decode cL_opens 905 = .ok (.ldc 109, 2) := by decide +kernel
theorem dL_opens_907 : decode cL_opens 907 = .ok (.iload 20, 2) := by decide +kernel
theorem dL_opens_909 : decode cL_opens 909 = .ok (.imul, 1) := by decide +kernel
theorem dL_opens_910 : decode cL_opens 910 = .ok (.iadd, 1) := by decide +kernel
theorem dL_opens_911 : decode cL_opens 911 = .ok (.iastore, 1) := by decide +kernel
theorem dL_opens_912 : decode cL_opens 912 = .ok (.aload 7, 2) := by decide +kernel
theorem dL_opens_914 : decode cL_opens 914 = .ok (.aload 13, 2) := by decide +kernel
theorem dL_opens_916 : decode cL_opens 916 = .ok (.iconst 2, 1) := by decide +kernel
theorem dL_opens_917 : decode cL_opens 917 = .ok (.iaload, 1) := by decide +kernel
theorem dL_opens_918 : decode cL_opens 918 = .ok (.aload 13, 2) := by decide +kernel
theorem dL_opens_920 : decode cL_opens 920 = .ok (.iconst 0, 1) := by decide +kernel
theorem dL_opens_921 : decode cL_opens 921 = .ok (.iaload, 1) := by decide +kernel
theorem dL_opens_922 : decode cL_opens 922 = .ok (.iastore, 1) := by decide +kernel
theorem dL_opens_923 : decode cL_opens 923 = .ok (.aload 9, 2) := by decide +kernel
theorem dL_opens_925 : decode cL_opens 925 = .ok (.aload 13, 2) := by decide +kernel
theorem dL_opens_927 : decode cL_opens 927 = .ok (.iconst 2, 1) := by decide +kernel
theorem dL_opens_928 : decode cL_opens 928 = .ok (.iaload, 1) := by decide +kernel
theorem dL_opens_929 : decode cL_opens 929 = .ok (.iconst 0, 1) := by decide +kernel
theorem dL_opens_930 : decode cL_opens 930 = .ok (.iastore, 1) := by decide +kernel
theorem dL_opens_931 : decode cL_opens 931 = .ok (.aload 10, 2) := by decide +kernel
theorem dL_opens_933 : decode cL_opens 933 = .ok (.aload 13, 2) := by decide +kernel
theorem dL_opens_935 : decode cL_opens 935 = .ok (.iconst 2, 1) := by decide +kernel
theorem dL_opens_936 : decode cL_opens 936 = .ok (.iaload, 1) := by decide +kernel
theorem dL_opens_937 : decode cL_opens 937 = .ok (.iconst 0, 1) := by decide +kernel
theorem dL_opens_938 : decode cL_opens 938 = .ok (.iastore, 1) := by decide +kernel
theorem dL_opens_939 : decode cL_opens 939 = .ok (.aload 11, 2) := by decide +kernel
theorem dL_opens_941 : decode cL_opens 941 = .ok (.aload 13, 2) := by decide +kernel
theorem dL_opens_943 : decode cL_opens 943 = .ok (.iconst 2, 1) := by decide +kernel
theorem dL_opens_944 : decode cL_opens 944 = .ok (.iaload, 1) := by decide +kernel
theorem dL_opens_945 : decode cL_opens 945 = .ok (.iconst 0, 1) := by decide +kernel
theorem dL_opens_946 : decode cL_opens 946 = .ok (.iastore, 1) := by decide +kernel
theorem dL_opens_947 : decode cL_opens 947 = .ok (.aload 13, 2) := by decide +kernel
theorem dL_opens_949 : decode cL_opens 949 = .ok (.iconst 2, 1) := by decide +kernel
theorem dL_opens_950 : decode cL_opens 950 = .ok (.iaload, 1) := by decide +kernel
theorem dL_opens_951 : decode cL_opens 951 = .ok (.aload 4, 2) := by decide +kernel
theorem dL_opens_953 : decode cL_opens 953 = .ok (.aload 6, 2) := by decide +kernel
theorem dL_opens_955 : decode cL_opens 955 = .ok (.aload 8, 2) := by decide +kernel
theorem dL_opens_957 : decode cL_opens 957 = .ok (.aload 9, 2) := by decide +kernel
theorem dL_opens_959 : decode cL_opens 959 = .ok (.aload 10, 2) := by decide +kernel
theorem dL_opens_961 : decode cL_opens 961 = .ok (.aload 12, 2) := by decide +kernel
theorem dL_opens_963 : decode cL_opens 963 = .ok (.invokestatic 85, 3) := by decide +kernel
theorem dL_opens_966 : decode cL_opens 966 = .ok (.aload 13, 2) := by decide +kernel
theorem dL_opens_968 : decode cL_opens 968 = .ok (.iconst 2, 1) := by decide +kernel
theorem dL_opens_969 : decode cL_opens 969 = .ok (.dup2, 1) := by decide +kernel
theorem dL_opens_970 : decode cL_opens 970 = .ok (.iaload, 1) := by decide +kernel
theorem dL_opens_971 : decode cL_opens 971 = .ok (.iconst 1, 1) := by decide +kernel
theorem dL_opens_972 : decode cL_opens 972 = .ok (.iadd, 1) := by decide +kernel
theorem dL_opens_973 : decode cL_opens 973 = .ok (.iastore, 1) := by decide +kernel
theorem dL_opens_974 : decode cL_opens 974 = .ok (.aload_n 0, 1) := by decide +kernel
theorem dL_opens_975 : decode cL_opens 975 = .ok (.iload 14, 2) := by decide +kernel
theorem dL_opens_977 : decode cL_opens 977 = .ok (.iload 16, 2) := by decide +kernel
theorem dL_opens_979 : decode cL_opens 979 = .ok (.iload 17, 2) := by decide +kernel
theorem dL_opens_981 : decode cL_opens 981 = .ok (.iload 18, 2) := by decide +kernel
theorem dL_opens_983 : decode cL_opens 983 = .ok (.iload 19, 2) := by decide +kernel
theorem dL_opens_985 : decode cL_opens 985 = .ok (.iload 20, 2) := by decide +kernel
theorem dL_opens_987 : decode cL_opens 987 = .ok (.invokestatic 104, 3) := by decide +kernel
theorem dL_opens_990 : decode cL_opens 990 = .ok (.aload 13, 2) := by decide +kernel
theorem dL_opens_992 : decode cL_opens 992 = .ok (.iconst 2, 1) := by decide +kernel
theorem dL_opens_993 : decode cL_opens 993 = .ok (.iaload, 1) := by decide +kernel
theorem dL_opens_994 : decode cL_opens 994 = .ok (.iconst 1, 1) := by decide +kernel
theorem dL_opens_995 : decode cL_opens 995 = .ok (.isub, 1) := by decide +kernel
theorem dL_opens_996 : decode cL_opens 996 = .ok (.if_icmp .ne 7, 3) := by decide +kernel
theorem dL_opens_999 : decode cL_opens 999 = .ok (.iconst 1, 1) := by decide +kernel
theorem dL_opens_1000 : decode cL_opens 1000 = .ok (.goto 4, 3) := by decide +kernel
theorem dL_opens_1003 : decode cL_opens 1003 = .ok (.iconst 0, 1) := by decide +kernel
theorem dL_opens_1004 : decode cL_opens 1004 = .ok (.ireturn, 1) := by decide +kernel
theorem dL_opens_1005 : decode cL_opens 1005 = .ok (.iload_n 2, 1) := by decide +kernel
theorem dL_opens_1006 : decode cL_opens 1006 = .ok (.aload 13, 2) := by decide +kernel
theorem dL_opens_1008 : decode cL_opens 1008 = .ok (.iconst 2, 1) := by decide +kernel
theorem dL_opens_1009 : decode cL_opens 1009 = .ok (.iaload, 1) := by decide +kernel
theorem dL_opens_1010 : decode cL_opens 1010 = .ok (.iconst 1, 1) := by decide +kernel
theorem dL_opens_1011 : decode cL_opens 1011 = .ok (.iadd, 1) := by decide +kernel
theorem dL_opens_1012 : decode cL_opens 1012 = .ok (.invokestatic 93, 3) := by decide +kernel
theorem dL_opens_1015 : decode cL_opens 1015 = .ok (.istore 16, 2) := by decide +kernel
theorem dL_opens_1017 : decode cL_opens 1017 = .ok (.iload_n 3, 1) := by decide +kernel
theorem dL_opens_1018 : decode cL_opens 1018 = .ok (.iconst 2, 1) := by decide +kernel
theorem dL_opens_1019 : decode cL_opens 1019 = .ok (.iand, 1) := by decide +kernel
theorem dL_opens_1020 : decode cL_opens 1020 = .ok (.ifCond .ne 7, 3) := by decide +kernel
theorem dL_opens_1023 : decode cL_opens 1023 = .ok (.iconst 1, 1) := by decide +kernel
theorem dL_opens_1024 : decode cL_opens 1024 = .ok (.goto 4, 3) := by decide +kernel
theorem dL_opens_1027 : decode cL_opens 1027 = .ok (.iconst 0, 1) := by decide +kernel
theorem dL_opens_1028 : decode cL_opens 1028 = .ok (.istore 17, 2) := by decide +kernel
theorem dL_opens_1030 : decode cL_opens 1030 = .ok (.iload_n 1, 1) := by decide +kernel
theorem dL_opens_1031 : decode cL_opens 1031 = .ok (.bipush 8, 2) := by decide +kernel
theorem dL_opens_1033 : decode cL_opens 1033 = .ok (.if_icmp .ge 127, 3) := by decide +kernel
theorem dL_opens_1036 : decode cL_opens 1036 = .ok (.aload 5, 2) := by decide +kernel
theorem dL_opens_1038 : decode cL_opens 1038 = .ok (.aload 6, 2) := by decide +kernel
theorem dL_opens_1040 : decode cL_opens 1040 = .ok (.aload 13, 2) := by decide +kernel
theorem dL_opens_1042 : decode cL_opens 1042 = .ok (.iload 16, 2) := by decide +kernel
theorem dL_opens_1044 : decode cL_opens 1044 = .ok (.invokestatic 110, 3) := by decide +kernel
theorem dL_opens_1047 : decode cL_opens 1047 = .ok (.ifCond .ne 36, 3) := by decide +kernel
theorem dL_opens_1050 : decode cL_opens 1050 = .ok (.aload_n 0, 1) := by decide +kernel
theorem dL_opens_1051 : decode cL_opens 1051 = .ok (.iload 16, 2) := by decide +kernel
theorem dL_opens_1053 : decode cL_opens 1053 = .ok (.iload 17, 2) := by decide +kernel
theorem dL_opens_1055 : decode cL_opens 1055 = .ok (.invokestatic 114, 3) := by decide +kernel
theorem dL_opens_1058 : decode cL_opens 1058 = .ok (.sipush (-7100), 3) := by decide +kernel
theorem dL_opens_1061 : decode cL_opens 1061 = .ok (.if_icmp .ne 20, 3) := by decide +kernel
theorem dL_opens_1064 : decode cL_opens 1064 = .ok (.aload_n 0, 1) := by decide +kernel
theorem dL_opens_1065 : decode cL_opens 1065 = .ok (.iconst (-1), 1) := by decide +kernel
theorem dL_opens_1066 : decode cL_opens 1066 = .ok (.iload 17, 2) := by decide +kernel
theorem dL_opens_1068 : decode cL_opens 1068 = .ok (.invokestatic 114, 3) := by decide +kernel
theorem dL_opens_1071 : decode cL_opens 1071 = .ok (.sipush (-7100), 3) := by decide +kernel
theorem dL_opens_1074 : decode cL_opens 1074 = .ok (.if_icmp .ne 7, 3) := by decide +kernel
theorem dL_opens_1077 : decode cL_opens 1077 = .ok (.iconst 1, 1) := by decide +kernel
theorem dL_opens_1078 : decode cL_opens 1078 = .ok (.goto 4, 3) := by decide +kernel
theorem dL_opens_1081 : decode cL_opens 1081 = .ok (.iconst 0, 1) := by decide +kernel
theorem dL_opens_1082 : decode cL_opens 1082 = .ok (.ireturn, 1) := by decide +kernel
theorem dL_opens_1083 : decode cL_opens 1083 = .ok (.aload 6, 2) := by decide +kernel
theorem dL_opens_1085 : decode cL_opens 1085 = .ok (.iload 16, 2) := by decide +kernel
theorem dL_opens_1087 : decode cL_opens 1087 = .ok (.iaload, 1) := by decide +kernel
theorem dL_opens_1088 : decode cL_opens 1088 = .ok (.bipush 14, 2) := by decide +kernel
theorem dL_opens_1090 : decode cL_opens 1090 = .ok (.ishr, 1) := by decide +kernel
theorem dL_opens_1091 : decode cL_opens 1091 = .ok (.iconst 1, 1) := by decide +kernel
theorem dL_opens_1092 : decode cL_opens 1092 = .ok (.iand, 1) := by decide +kernel
theorem dL_opens_1093 : decode cL_opens 1093 = .ok (.iconst 1, 1) := by decide +kernel
theorem dL_opens_1094 : decode cL_opens 1094 = .ok (.if_icmp .ne 7, 3) := by decide +kernel
theorem dL_opens_1097 : decode cL_opens 1097 = .ok (.iconst 1, 1) := by decide +kernel
theorem dL_opens_1098 : decode cL_opens 1098 = .ok (.goto 4, 3) := by decide +kernel
theorem dL_opens_1101 : decode cL_opens 1101 = .ok (.iconst 0, 1) := by decide +kernel
theorem dL_opens_1102 : decode cL_opens 1102 = .ok (.istore 18, 2) := by decide +kernel
theorem dL_opens_1104 : decode cL_opens 1104 = .ok (.aload 6, 2) := by decide +kernel
theorem dL_opens_1106 : decode cL_opens 1106 = .ok (.iload 16, 2) := by decide +kernel
theorem dL_opens_1108 : decode cL_opens 1108 = .ok (.aload 6, 2) := by decide +kernel
theorem dL_opens_1110 : decode cL_opens 1110 = .ok (.iload 16, 2) := by decide +kernel
theorem dL_opens_1112 : decode cL_opens 1112 = .ok (.iaload, 1) := by decide +kernel
theorem dL_opens_1113 : decode cL_opens 1113 = .ok (.sipush (-16385), 3) := by decide +kernel
theorem dL_opens_1116 : decode cL_opens 1116 = .ok (.iand, 1) := by decide +kernel
theorem dL_opens_1117 : decode cL_opens 1117 = .ok (.iload 17, 2) := by decide +kernel
theorem dL_opens_1119 : decode cL_opens 1119 = .ok (.ifCond .eq 9, 3) := by decide +kernel
theorem dL_opens_1122 : decode cL_opens 1122 = .ok (.sipush 16384, 3) := by decide +kernel
theorem dL_opens_1125 : decode cL_opens 1125 = .ok (.goto 4, 3) := by decide +kernel
theorem dL_opens_1128 : decode cL_opens 1128 = .ok (.iconst 0, 1) := by decide +kernel
theorem dL_opens_1129 : decode cL_opens 1129 = .ok (.ior, 1) := by decide +kernel
theorem dL_opens_1130 : decode cL_opens 1130 = .ok (.iastore, 1) := by decide +kernel
theorem dL_opens_1131 : decode cL_opens 1131 = .ok (.aload_n 0, 1) := by decide +kernel
theorem dL_opens_1132 : decode cL_opens 1132 = .ok (.iload 16, 2) := by decide +kernel
theorem dL_opens_1134 : decode cL_opens 1134 = .ok (.iload 17, 2) := by decide +kernel
theorem dL_opens_1136 : decode cL_opens 1136 = .ok (.invokestatic 114, 3) := by decide +kernel
theorem dL_opens_1139 : decode cL_opens 1139 = .ok (.iload 18, 2) := by decide +kernel
theorem dL_opens_1141 : decode cL_opens 1141 = .ok (.iload 17, 2) := by decide +kernel
theorem dL_opens_1143 : decode cL_opens 1143 = .ok (.if_icmp .eq 7, 3) := by decide +kernel
theorem dL_opens_1146 : decode cL_opens 1146 = .ok (.iconst 1, 1) := by decide +kernel
theorem dL_opens_1147 : decode cL_opens 1147 = .ok (.goto 4, 3) := by decide +kernel
theorem dL_opens_1150 : decode cL_opens 1150 = .ok (.iconst 0, 1) := by decide +kernel
theorem dL_opens_1151 : decode cL_opens 1151 = .ok (.if_icmp .ne 7, 3) := by decide +kernel
theorem dL_opens_1154 : decode cL_opens 1154 = .ok (.iconst 1, 1) := by decide +kernel
theorem dL_opens_1155 : decode cL_opens 1155 = .ok (.goto 4, 3) := by decide +kernel
theorem dL_opens_1158 : decode cL_opens 1158 = .ok (.iconst 0, 1) := by decide +kernel
theorem dL_opens_1159 : decode cL_opens 1159 = .ok (.ireturn, 1) := by decide +kernel
theorem dL_opens_1160 : decode cL_opens 1160 = .ok (.iload_n 3, 1) := by decide +kernel
theorem dL_opens_1161 : decode cL_opens 1161 = .ok (.iconst 2, 1) := by decide +kernel
theorem dL_opens_1162 : decode cL_opens 1162 = .ok (.ishr, 1) := by decide +kernel
theorem dL_opens_1163 : decode cL_opens 1163 = .ok (.aload 13, 2) := by decide +kernel
theorem dL_opens_1165 : decode cL_opens 1165 = .ok (.iconst 2, 1) := by decide +kernel
theorem dL_opens_1166 : decode cL_opens 1166 = .ok (.iaload, 1) := by decide +kernel
theorem dL_opens_1167 : decode cL_opens 1167 = .ok (.iconst 1, 1) := by decide +kernel
theorem dL_opens_1168 : decode cL_opens 1168 = .ok (.iadd, 1) := by decide +kernel
theorem dL_opens_1169 : decode cL_opens 1169 = .ok (.invokestatic 93, 3) := by decide +kernel
theorem dL_opens_1172 : decode cL_opens 1172 = .ok (.istore 18, 2) := by decide +kernel
theorem dL_opens_1174 : decode cL_opens 1174 = .ok (.aload 5, 2) := by decide +kernel
theorem dL_opens_1176 : decode cL_opens 1176 = .ok (.aload 6, 2) := by decide +kernel
theorem dL_opens_1178 : decode cL_opens 1178 = .ok (.aload 13, 2) := by decide +kernel
theorem dL_opens_1180 : decode cL_opens 1180 = .ok (.iload 16, 2) := by decide +kernel
theorem dL_opens_1182 : decode cL_opens 1182 = .ok (.invokestatic 110, 3) := by decide +kernel
theorem dL_opens_1185 : decode cL_opens 1185 = .ok (.ifCond .eq 17, 3) := by decide +kernel
theorem dL_opens_1188 : decode cL_opens 1188 = .ok (.aload 5, 2) := by decide +kernel
theorem dL_opens_1190 : decode cL_opens 1190 = .ok (.aload 6, 2) := by decide +kernel
theorem dL_opens_1192 : decode cL_opens 1192 = .ok (.aload 13, 2) := by decide +kernel
theorem dL_opens_1194 : decode cL_opens 1194 = .ok (.iload 18, 2) := by decide +kernel
theorem dL_opens_1196 : decode cL_opens 1196 = .ok (.invokestatic 110, 3) := by decide +kernel
theorem dL_opens_1199 : decode cL_opens 1199 = .ok (.ifCond .ne 41, 3) := by decide +kernel
theorem dL_opens_1202 : decode cL_opens 1202 = .ok (.aload_n 0, 1) := by decide +kernel
theorem dL_opens_1203 : decode cL_opens 1203 = .ok (.iload 16, 2) := by decide +kernel
theorem dL_opens_1205 : decode cL_opens 1205 = .ok (.iload 18, 2) := by decide +kernel
theorem dL_opens_1207 : decode cL_opens 1207 = .ok (.iload 17, 2) := by decide +kernel
theorem dL_opens_1209 : decode cL_opens 1209 = .ok (.invokestatic 117, 3) := by decide +kernel
theorem dL_opens_1212 : decode cL_opens 1212 = .ok (.sipush (-7100), 3) := by decide +kernel
theorem dL_opens_1215 : decode cL_opens 1215 = .ok (.if_icmp .ne 23, 3) := by decide +kernel
theorem dL_opens_1218 : decode cL_opens 1218 = .ok (.aload_n 0, 1) := by decide +kernel
theorem dL_opens_1219 : decode cL_opens 1219 = .ok (.iload 18, 2) := by decide +kernel
theorem dL_opens_1221 : decode cL_opens 1221 = .ok (.iload 16, 2) := by decide +kernel
theorem dL_opens_1223 : decode cL_opens 1223 = .ok (.iload 17, 2) := by decide +kernel
theorem dL_opens_1225 : decode cL_opens 1225 = .ok (.invokestatic 117, 3) := by decide +kernel
theorem dL_opens_1228 : decode cL_opens 1228 = .ok (.sipush (-7100), 3) := by decide +kernel
theorem dL_opens_1231 : decode cL_opens 1231 = .ok (.if_icmp .ne 7, 3) := by decide +kernel
theorem dL_opens_1234 : decode cL_opens 1234 = .ok (.iconst 1, 1) := by decide +kernel
theorem dL_opens_1235 : decode cL_opens 1235 = .ok (.goto 4, 3) := by decide +kernel
theorem dL_opens_1238 : decode cL_opens 1238 = .ok (.iconst 0, 1) := by decide +kernel
theorem dL_opens_1239 : decode cL_opens 1239 = .ok (.ireturn, 1) := by decide +kernel
theorem dL_opens_1240 : decode cL_opens 1240 = .ok (.iload 16, 2) := by decide +kernel
theorem dL_opens_1242 : decode cL_opens 1242 = .ok (.iload 18, 2) := by decide +kernel
theorem dL_opens_1244 : decode cL_opens 1244 = .ok (.if_icmp .eq 20, 3) := by decide +kernel
theorem dL_opens_1247 : decode cL_opens 1247 = .ok (.aload 6, 2) := by decide +kernel
theorem dL_opens_1249 : decode cL_opens 1249 = .ok (.iload 16, 2) := by decide +kernel
theorem dL_opens_1251 : decode cL_opens 1251 = .ok (.iaload, 1) := by decide +kernel
theorem dL_opens_1252 : decode cL_opens 1252 = .ok (.iconst 1, 1) := by decide +kernel
theorem dL_opens_1253 : decode cL_opens 1253 = .ok (.iand, 1) := by decide +kernel
theorem dL_opens_1254 : decode cL_opens 1254 = .ok (.aload 6, 2) := by decide +kernel
theorem dL_opens_1256 : decode cL_opens 1256 = .ok (.iload 18, 2) := by decide +kernel
theorem dL_opens_1258 : decode cL_opens 1258 = .ok (.iaload, 1) := by decide +kernel
theorem dL_opens_1259 : decode cL_opens 1259 = .ok (.iconst 1, 1) := by decide +kernel
theorem dL_opens_1260 : decode cL_opens 1260 = .ok (.iand, 1) := by decide +kernel
theorem dL_opens_1261 : decode cL_opens 1261 = .ok (.if_icmp .eq 25, 3) := by decide +kernel
theorem dL_opens_1264 : decode cL_opens 1264 = .ok (.aload_n 0, 1) := by decide +kernel
theorem dL_opens_1265 : decode cL_opens 1265 = .ok (.iload 16, 2) := by decide +kernel
theorem dL_opens_1267 : decode cL_opens 1267 = .ok (.iload 18, 2) := by decide +kernel
theorem dL_opens_1269 : decode cL_opens 1269 = .ok (.iload 17, 2) := by decide +kernel
theorem dL_opens_1271 : decode cL_opens 1271 = .ok (.invokestatic 117, 3) := by decide +kernel
theorem dL_opens_1274 : decode cL_opens 1274 = .ok (.sipush (-7200), 3) := by decide +kernel
theorem dL_opens_1277 : decode cL_opens 1277 = .ok (.if_icmp .ne 7, 3) := by decide +kernel
theorem dL_opens_1280 : decode cL_opens 1280 = .ok (.iconst 1, 1) := by decide +kernel
theorem dL_opens_1281 : decode cL_opens 1281 = .ok (.goto 4, 3) := by decide +kernel
theorem dL_opens_1284 : decode cL_opens 1284 = .ok (.iconst 0, 1) := by decide +kernel
theorem dL_opens_1285 : decode cL_opens 1285 = .ok (.ireturn, 1) := by decide +kernel
theorem dL_opens_1286 : decode cL_opens 1286 = .ok (.aload 11, 2) := by decide +kernel
theorem dL_opens_1288 : decode cL_opens 1288 = .ok (.iload 16, 2) := by decide +kernel
theorem dL_opens_1290 : decode cL_opens 1290 = .ok (.iaload, 1) := by decide +kernel
theorem dL_opens_1291 : decode cL_opens 1291 = .ok (.iload 18, 2) := by decide +kernel
theorem dL_opens_1293 : decode cL_opens 1293 = .ok (.ishr, 1) := by decide +kernel
theorem dL_opens_1294 : decode cL_opens 1294 = .ok (.iconst 1, 1) := by decide +kernel
theorem dL_opens_1295 : decode cL_opens 1295 = .ok (.iand, 1) := by decide +kernel
theorem dL_opens_1296 : decode cL_opens 1296 = .ok (.iconst 1, 1) := by decide +kernel
theorem dL_opens_1297 : decode cL_opens 1297 = .ok (.if_icmp .ne 7, 3) := by decide +kernel
theorem dL_opens_1300 : decode cL_opens 1300 = .ok (.iconst 1, 1) := by decide +kernel
theorem dL_opens_1301 : decode cL_opens 1301 = .ok (.goto 4, 3) := by decide +kernel
theorem dL_opens_1304 : decode cL_opens 1304 = .ok (.iconst 0, 1) := by decide +kernel
theorem dL_opens_1305 : decode cL_opens 1305 = .ok (.istore 19, 2) := by decide +kernel
theorem dL_opens_1307 : decode cL_opens 1307 = .ok (.aload 11, 2) := by decide +kernel
theorem dL_opens_1309 : decode cL_opens 1309 = .ok (.iload 16, 2) := by decide +kernel
theorem dL_opens_1311 : decode cL_opens 1311 = .ok (.iload 17, 2) := by decide +kernel
theorem dL_opens_1313 : decode cL_opens 1313 = .ok (.ifCond .eq 16, 3) := by decide +kernel
theorem dL_opens_1316 : decode cL_opens 1316 = .ok (.aload 11, 2) := by decide +kernel
theorem dL_opens_1318 : decode cL_opens 1318 = .ok (.iload 16, 2) := by decide +kernel
theorem dL_opens_1320 : decode cL_opens 1320 = .ok (.iaload, 1) := by decide +kernel
theorem dL_opens_1321 : decode cL_opens 1321 = .ok (.iconst 1, 1) := by decide +kernel
theorem dL_opens_1322 : decode cL_opens 1322 = .ok (.iload 18, 2) := by decide +kernel
theorem dL_opens_1324 : decode cL_opens 1324 = .ok (.ishl, 1) := by decide +kernel
theorem dL_opens_1325 : decode cL_opens 1325 = .ok (.ior, 1) := by decide +kernel
theorem dL_opens_1326 : decode cL_opens 1326 = .ok (.goto 15, 3) := by decide +kernel
theorem dL_opens_1329 : decode cL_opens 1329 = .ok (.aload 11, 2) := by decide +kernel
theorem dL_opens_1331 : decode cL_opens 1331 = .ok (.iload 16, 2) := by decide +kernel
theorem dL_opens_1333 : decode cL_opens 1333 = .ok (.iaload, 1) := by decide +kernel
theorem dL_opens_1334 : decode cL_opens 1334 = .ok (.iconst 1, 1) := by decide +kernel
theorem dL_opens_1335 : decode cL_opens 1335 = .ok (.iload 18, 2) := by decide +kernel
theorem dL_opens_1337 : decode cL_opens 1337 = .ok (.ishl, 1) := by decide +kernel
theorem dL_opens_1338 : decode cL_opens 1338 = .ok (.iconst (-1), 1) := by decide +kernel
theorem dL_opens_1339 : decode cL_opens 1339 = .ok (.ixor, 1) := by decide +kernel
theorem dL_opens_1340 : decode cL_opens 1340 = .ok (.iand, 1) := by decide +kernel
theorem dL_opens_1341 : decode cL_opens 1341 = .ok (.iastore, 1) := by decide +kernel
theorem dL_opens_1342 : decode cL_opens 1342 = .ok (.aload_n 0, 1) := by decide +kernel
theorem dL_opens_1343 : decode cL_opens 1343 = .ok (.iload 16, 2) := by decide +kernel
theorem dL_opens_1345 : decode cL_opens 1345 = .ok (.iload 18, 2) := by decide +kernel
theorem dL_opens_1347 : decode cL_opens 1347 = .ok (.iload 17, 2) := by decide +kernel
theorem dL_opens_1349 : decode cL_opens 1349 = .ok (.invokestatic 117, 3) := by decide +kernel
theorem dL_opens_1352 : decode cL_opens 1352 = .ok (.iload 19, 2) := by decide +kernel
theorem dL_opens_1354 : decode cL_opens 1354 = .ok (.iload 17, 2) := by decide +kernel
theorem dL_opens_1356 : decode cL_opens 1356 = .ok (.if_icmp .eq 7, 3) := by decide +kernel
theorem dL_opens_1359 : decode cL_opens 1359 = .ok (.iconst 1, 1) := by decide +kernel
theorem dL_opens_1360 : decode cL_opens 1360 = .ok (.goto 4, 3) := by decide +kernel
theorem dL_opens_1363 : decode cL_opens 1363 = .ok (.iconst 0, 1) := by decide +kernel
theorem dL_opens_1364 : decode cL_opens 1364 = .ok (.if_icmp .ne 7, 3) := by decide +kernel
theorem dL_opens_1367 : decode cL_opens 1367 = .ok (.iconst 1, 1) := by decide +kernel
theorem dL_opens_1368 : decode cL_opens 1368 = .ok (.goto 4, 3) := by decide +kernel
theorem dL_opens_1371 : decode cL_opens 1371 = .ok (.iconst 0, 1) := by decide +kernel
theorem dL_opens_1372 : decode cL_opens 1372 = .ok (.ireturn, 1) := by decide +kernel
abbrev rmL_opens : Room := { frames := 9, cells := 81, slots := 603, locals := 169 }
theorem hdL_opens : yL_opens.cls ≠ "java/lang/invoke/MethodHandle" ∧ yL_opens.cls ≠ "java/lang/invoke/VarHandle" ∧ (parseMethodDescriptor yL_opens.desc).map (fun d => d.parameters.length) = some 14 := by decide +kernel
set_option maxHeartbeats 4000000 in
set_option maxRecDepth 20000 in
theorem mlL_opens_492 {G : xG} {X : xX} (hC : xC G X "PlantServerLaw" cL_opens 22 rmL_opens) (hr : xRt X (some .boolean)) (htab : xTab X []) (a1 : Nm) (p3 : Int32) (a6 : Nm) (a7 : Nm) (a14 : Nm) {ρ : Nm → Nat} (h0 : xR0 X ρ) (k n : Nat) (hk1 : k ≤ 81) (hk2 : n ≤ 603) (K : Int32 → Int32 → PH → Prop) (Q : Int32 → PH → Prop) (Xp : String → PH → Prop) : ∀ (f492 : Nat) (x492_16 : Int32) (x492_17 : Int32) (τ492 : PH), lL_opens_492 a1 p3 a6 a7 a14 K Q f492 x492_16 x492_17 τ492 → (∀ (x492_16 : Int32) (x492_17 : Int32) (τ492 : PH), K x492_16 x492_17 τ492 → xJ G X (xT X (eIA Q) Xp G rmL_opens) 22 ρ τ492 k n 529 [(0, .ref (ρ a1)), (5, .ref (ρ a6)), (6, .ref (ρ a7)), (13, .ref (ρ a14)), (14, .int (p3 &&& 1)), (16, .int x492_16), (17, .int x492_17)] []) → xJ G X (xT X (eIA Q) Xp G rmL_opens) 22 ρ τ492 k n 492 [(0, .ref (ρ a1)), (5, .ref (ρ a6)), (6, .ref (ρ a7)), (13, .ref (ρ a14)), (14, .int (p3 &&& 1)), (16, .int x492_16), (17, .int x492_17)] [] := by
  intro f492
  induction f492 with
  | zero => intro x492_16 x492_17 τ492 h hKK; unfold lL_opens_492 at h; exact h.elim
  | succ f492 ih =>
    intro x492_16 x492_17 τ492 h hKK
    unfold lL_opens_492 at h
    refine x_iload hC 6 rfl dL_opens_492 ?_
    refine x_aload hC 3 rfl dL_opens_494 ?_
    refine x_iconst (v := 2) hC dL_opens_496 (by decide) ?_
    obtain ⟨k21, h⟩ := h
    obtain ⟨v51, h⟩ := h
    refine x_iald (a := a14) hC k21 v51 dL_opens_497 ?_
    refine x_icmp_ge (tgt := 529) hC dL_opens_498 (by decide) (fun c54 => ?_) (fun c54 => ?_)
    · have h := h.1 c54
      exact hKK _ _ _ h
    · have h := h.2 c54
      refine x_iload hC 5 rfl dL_opens_501 ?_
      refine x_aload hC 2 rfl dL_opens_503 ?_
      refine x_iload hC 6 rfl dL_opens_505 ?_
      obtain ⟨k22, h⟩ := h
      obtain ⟨v52, h⟩ := h
      refine x_iald (a := a7) hC k22 v52 dL_opens_507 ?_
      refine x_iconst (v := 1) hC dL_opens_508 (by decide) ?_
      refine x_iand hC dL_opens_509 ?_
      refine x_iload hC 4 rfl dL_opens_510 ?_
      refine x_icmp_ne (tgt := 519) hC dL_opens_512 (by decide) (fun c55 => ?_) (fun c55 => ?_)
      · have h := h.1 c55
        refine x_iconst (v := 0) hC dL_opens_519 (by decide) ?_
        refine x_iadd hC dL_opens_520 ?_
        refine x_istore (L' := [(16, .int (x492_16 + 0)), (0, .ref (ρ a1)), (5, .ref (ρ a6)), (6, .ref (ρ a7)), (13, .ref (ρ a14)), (14, .int (p3 &&& 1)), (17, .int x492_17)]) hC dL_opens_521 (by decide) (by first | rfl | simp (decide := true) [rv_cat, cat_ref, cat_int]) ?_
        refine x_iinc (v' := x492_17 + 1) (L' := [(17, .int (x492_17 + 1)), (16, .int (x492_16 + 0)), (0, .ref (ρ a1)), (5, .ref (ρ a6)), (6, .ref (ρ a7)), (13, .ref (ρ a14)), (14, .int (p3 &&& 1))]) hC 6 rfl dL_opens_523 rfl (by decide) (by first | rfl | simp (decide := true) [rv_cat, cat_ref, cat_int]) ?_
        refine x_goto (tgt := 492) hC dL_opens_526 (by decide) ?_
        refine xJ.sub (L' := [(0, .ref (ρ a1)), (5, .ref (ρ a6)), (6, .ref (ρ a7)), (13, .ref (ρ a14)), (14, .int (p3 &&& 1)), (16, .int (x492_16 + 0)), (17, .int (x492_17 + 1))]) [2, 3, 4, 5, 6, 1, 0] rfl ?_
        exact ih _ _ _ h hKK
      · have h := h.2 c55
        refine x_iconst (v := 1) hC dL_opens_515 (by decide) ?_
        refine x_goto (tgt := 520) hC dL_opens_516 (by decide) ?_
        refine x_iadd hC dL_opens_520 ?_
        refine x_istore (L' := [(16, .int (x492_16 + 1)), (0, .ref (ρ a1)), (5, .ref (ρ a6)), (6, .ref (ρ a7)), (13, .ref (ρ a14)), (14, .int (p3 &&& 1)), (17, .int x492_17)]) hC dL_opens_521 (by decide) (by first | rfl | simp (decide := true) [rv_cat, cat_ref, cat_int]) ?_
        refine x_iinc (v' := x492_17 + 1) (L' := [(17, .int (x492_17 + 1)), (16, .int (x492_16 + 1)), (0, .ref (ρ a1)), (5, .ref (ρ a6)), (6, .ref (ρ a7)), (13, .ref (ρ a14)), (14, .int (p3 &&& 1))]) hC 6 rfl dL_opens_523 rfl (by decide) (by first | rfl | simp (decide := true) [rv_cat, cat_ref, cat_int]) ?_
        refine x_goto (tgt := 492) hC dL_opens_526 (by decide) ?_
        refine xJ.sub (L' := [(0, .ref (ρ a1)), (5, .ref (ρ a6)), (6, .ref (ρ a7)), (13, .ref (ρ a14)), (14, .int (p3 &&& 1)), (16, .int (x492_16 + 1)), (17, .int (x492_17 + 1))]) [2, 3, 4, 5, 6, 1, 0] rfl ?_
        exact ih _ _ _ h hKK
set_option maxHeartbeats 4000000 in
set_option maxRecDepth 20000 in
theorem mL_opens (l : Launch) (hl : l.stackTraces = false) (G : xG) (ρ : Nm → Nat) (a1 : Nm) (p2 : Int32) (p3 : Int32) (p4 : Int32) (a5 : Nm) (a6 : Nm) (a7 : Nm) (a8 : Nm) (a9 : Nm) (a10 : Nm) (a11 : Nm) (a12 : Nm) (a13 : Nm) (a14 : Nm) (σ : PH) (Q : Int32 → PH → Prop) (h : wL_opens a1 p2 p3 p4 a5 a6 a7 a8 a9 a10 a11 a12 a13 a14 σ Q) : xMet l yL_opens (.code yL_opens cL_opens 22 (some .boolean)) rmL_opens G ρ σ [.ref (ρ a1), .int p2, .int p3, .int p4, .ref (ρ a5), .ref (ρ a6), .ref (ρ a7), .ref (ρ a8), .ref (ρ a9), .ref (ρ a10), .ref (ρ a11), .ref (ρ a12), .ref (ρ a13), .ref (ρ a14)] (eIA Q) xNo := by
  refine xMet.of hl (by decide +kernel) (Nat.le_of_ble_eq_true rfl) (fun X hC hr hn htab h0 => ?_)
  have hC : xC G X "PlantServerLaw" cL_opens 22 rmL_opens := hC
  unfold wL_opens at h
  refine xJ.loc (L' := [(0, .ref (ρ a1)), (1, .int p2), (2, .int p3), (3, .int p4), (4, .ref (ρ a5)), (5, .ref (ρ a6)), (6, .ref (ρ a7)), (7, .ref (ρ a8)), (8, .ref (ρ a9)), (9, .ref (ρ a10)), (10, .ref (ρ a11)), (11, .ref (ρ a12)), (12, .ref (ρ a13)), (13, .ref (ρ a14))]) rfl ?_
  refine x_iload_n hC 2 rfl dL_opens_0 ?_
  refine x_iconst (v := 1) hC dL_opens_1 (by decide) ?_
  refine x_iand hC dL_opens_2 ?_
  refine x_istore (L' := [(14, .int (p3 &&& 1)), (0, .ref (ρ a1)), (1, .int p2), (2, .int p3), (3, .int p4), (4, .ref (ρ a5)), (5, .ref (ρ a6)), (6, .ref (ρ a7)), (7, .ref (ρ a8)), (8, .ref (ρ a9)), (9, .ref (ρ a10)), (10, .ref (ρ a11)), (11, .ref (ρ a12)), (12, .ref (ρ a13)), (13, .ref (ρ a14))]) hC dL_opens_3 (by decide) (by first | rfl | simp (decide := true) [rv_cat, cat_ref, cat_int]) ?_
  refine x_iload hC 0 rfl dL_opens_5 ?_
  refine x_aload hC 14 rfl dL_opens_7 ?_
  refine x_iconst (v := 1) hC dL_opens_9 (by decide) ?_
  obtain ⟨k1, h⟩ := h
  obtain ⟨v1, h⟩ := h
  refine x_iald (a := a14) hC k1 v1 dL_opens_10 ?_
  refine xJ.jV (pcJ := 31) (stJ := []) h (fun x1 h => ?_) (fun K1 hk1 h => ?_)
  · refine x_istore (L' := [(15, .int x1), (14, .int (p3 &&& 1)), (0, .ref (ρ a1)), (1, .int p2), (2, .int p3), (3, .int p4), (4, .ref (ρ a5)), (5, .ref (ρ a6)), (6, .ref (ρ a7)), (7, .ref (ρ a8)), (8, .ref (ρ a9)), (9, .ref (ρ a10)), (10, .ref (ρ a11)), (11, .ref (ρ a12)), (12, .ref (ρ a13)), (13, .ref (ρ a14))]) hC dL_opens_31 (by decide) (by first | rfl | simp (decide := true) [rv_cat, cat_ref, cat_int]) ?_
    refine x_iload_n hC 3 rfl dL_opens_33 ?_
    refine x_if_ne (tgt := 415) hC dL_opens_34 (by decide) (fun c3 => ?_) (fun c3 => ?_)
    · have h := h.1 c3
      refine x_iload_n hC 3 rfl dL_opens_415 ?_
      refine x_iconst (v := 1) hC dL_opens_416 (by decide) ?_
      refine x_icmp_ne (tgt := 555) hC dL_opens_417 (by decide) (fun c4 => ?_) (fun c4 => ?_)
      · have h := h.1 c4
        refine x_iload_n hC 3 rfl dL_opens_555 ?_
        refine x_bipush (v := 6) hC dL_opens_556 (by decide) ?_
        refine x_icmp_ge (tgt := 1005) hC dL_opens_558 (by decide) (fun c5 => ?_) (fun c5 => ?_)
        · have h := h.1 c5
          refine x_iload_n hC 4 rfl dL_opens_1005 ?_
          refine x_aload hC 15 rfl dL_opens_1006 ?_
          refine x_iconst (v := 2) hC dL_opens_1008 (by decide) ?_
          obtain ⟨v3, h⟩ := h
          refine x_iald (a := a14) hC k1 v3 dL_opens_1009 ?_
          refine x_iconst (v := 1) hC dL_opens_1010 (by decide) ?_
          refine x_iadd hC dL_opens_1011 ?_
          refine x_callS (as := [.int p3, .int ((hI σ a14 (Int32.toNatClampNeg 2)) + 1)]) (rest := []) hC (fun l hl => mL_low l hl G ρ p3 ((hI σ a14 (Int32.toNatClampNeg 2)) + 1) σ _ h) q81 q82 q0 q83 hdL_low (by decide) ⟨(by decide), (by decide)⟩ (by first | exact Nat.le_of_ble_eq_true rfl | (simp [rv_cat]; done) | (simp (decide := true) [rv_cat, cat_ref, cat_int]; done)) rfl dL_opens_1012 (fun E σ9 hx => False.elim hx) (fun v4 σ1 ρ1 hp1 hag1 => ?_)
          obtain ⟨e9, r1, e8, h⟩ := hp1
          rw [e8, e9]
          refine xJ.nrm (k' := 0) (n' := 0) (pc' := 1015) (st' := [.int r1]) rfl rfl rfl rfl ?_
          refine x_istore (L' := [(16, .int r1), (15, .int x1), (14, .int (p3 &&& 1)), (0, .ref (ρ a1)), (1, .int p2), (2, .int p3), (3, .int p4), (4, .ref (ρ a5)), (5, .ref (ρ a6)), (6, .ref (ρ a7)), (7, .ref (ρ a8)), (8, .ref (ρ a9)), (9, .ref (ρ a10)), (10, .ref (ρ a11)), (11, .ref (ρ a12)), (12, .ref (ρ a13)), (13, .ref (ρ a14))]) hC dL_opens_1015 (by decide) (by first | rfl | simp (decide := true) [rv_cat, cat_ref, cat_int]) ?_
          refine x_iload_n hC 6 rfl dL_opens_1017 ?_
          refine x_iconst (v := 2) hC dL_opens_1018 (by decide) ?_
          refine x_iand hC dL_opens_1019 ?_
          refine xJ.jV (pcJ := 1028) (stJ := []) h (fun x2 h => ?_) (fun K2 hk2 h => ?_)
          · refine x_istore (L' := [(17, .int x2), (16, .int r1), (15, .int x1), (14, .int (p3 &&& 1)), (0, .ref (ρ a1)), (1, .int p2), (2, .int p3), (3, .int p4), (4, .ref (ρ a5)), (5, .ref (ρ a6)), (6, .ref (ρ a7)), (7, .ref (ρ a8)), (8, .ref (ρ a9)), (9, .ref (ρ a10)), (10, .ref (ρ a11)), (11, .ref (ρ a12)), (12, .ref (ρ a13)), (13, .ref (ρ a14))]) hC dL_opens_1028 (by decide) (by first | rfl | simp (decide := true) [rv_cat, cat_ref, cat_int]) ?_
            refine x_iload_n hC 5 rfl dL_opens_1030 ?_
            refine x_bipush (v := 8) hC dL_opens_1031 (by decide) ?_
            refine x_icmp_ge (tgt := 1160) hC dL_opens_1033 (by decide) (fun c7 => ?_) (fun c7 => ?_)
            · have h := h.1 c7
              refine x_iload_n hC 7 rfl dL_opens_1160 ?_
              refine x_iconst (v := 2) hC dL_opens_1161 (by decide) ?_
              refine x_ishr hC dL_opens_1162 ?_
              refine x_aload hC 17 rfl dL_opens_1163 ?_
              refine x_iconst (v := 2) hC dL_opens_1165 (by decide) ?_
              have k3 : hK σ1 a14 = 9 := (hag1 a14 (by rw [k1]; decide)).1.trans k1
              obtain ⟨v5, h⟩ := h
              refine x_iald (a := a14) hC k3 v5 dL_opens_1166 ?_
              refine x_iconst (v := 1) hC dL_opens_1167 (by decide) ?_
              refine x_iadd hC dL_opens_1168 ?_
              refine x_callS (as := [.int (p4 >>> (2 &&& 31)), .int ((hI σ1 a14 (Int32.toNatClampNeg 2)) + 1)]) (rest := []) hC (fun l hl => mL_low l hl G ρ (p4 >>> (2 &&& 31)) ((hI σ1 a14 (Int32.toNatClampNeg 2)) + 1) σ1 _ h) q81 q82 q0 q83 hdL_low (by decide) ⟨(by decide), (by decide)⟩ (by first | exact Nat.le_of_ble_eq_true rfl | (simp [rv_cat]; done) | (simp (decide := true) [rv_cat, cat_ref, cat_int]; done)) rfl dL_opens_1169 (fun E σ9 hx => False.elim hx) (fun v6 σ2 ρ2 hp2 hag2 => ?_)
              obtain ⟨e9, r2, e8, h⟩ := hp2
              rw [e8, e9]
              refine xJ.nrm (k' := 0) (n' := 0) (pc' := 1172) (st' := [.int r2]) rfl rfl rfl rfl ?_
              refine x_istore (L' := [(18, .int r2), (17, .int x2), (16, .int r1), (15, .int x1), (14, .int (p3 &&& 1)), (0, .ref (ρ a1)), (1, .int p2), (2, .int p3), (3, .int p4), (4, .ref (ρ a5)), (5, .ref (ρ a6)), (6, .ref (ρ a7)), (7, .ref (ρ a8)), (8, .ref (ρ a9)), (9, .ref (ρ a10)), (10, .ref (ρ a11)), (11, .ref (ρ a12)), (12, .ref (ρ a13)), (13, .ref (ρ a14))]) hC dL_opens_1172 (by decide) (by first | rfl | simp (decide := true) [rv_cat, cat_ref, cat_int]) ?_
              refine x_aload hC 10 rfl dL_opens_1174 ?_
              refine x_aload hC 11 rfl dL_opens_1176 ?_
              refine x_aload hC 18 rfl dL_opens_1178 ?_
              refine x_iload hC 2 rfl dL_opens_1180 ?_
              refine x_callS (as := [.ref (ρ a6), .ref (ρ a7), .ref (ρ a14), .int r1]) (rest := []) hC (fun l hl => mL_isThere l hl G ρ a6 a7 a14 r1 σ2 _ h) q435 q436 q0 q437 hdL_isThere (by decide) ⟨(by decide), (by decide)⟩ (by first | exact Nat.le_of_ble_eq_true rfl | (simp [rv_cat]; done) | (simp (decide := true) [rv_cat, cat_ref, cat_int]; done)) rfl dL_opens_1182 (fun E σ9 hx => False.elim hx) (fun v7 σ3 ρ3 hp3 hag3 => ?_)
              obtain ⟨e9, r3, e8, h⟩ := hp3
              rw [e8, e9]
              refine xJ.nrm (k' := 0) (n' := 0) (pc' := 1185) (st' := [.int r3]) rfl rfl rfl rfl ?_
              refine x_if_eq (tgt := 1202) hC dL_opens_1185 (by decide) (fun c8 => ?_) (fun c8 => ?_)
              · have h := h.1 c8
                refine x_aload_n hC 5 rfl dL_opens_1202 ?_
                refine x_iload hC 2 rfl dL_opens_1203 ?_
                refine x_iload hC 0 rfl dL_opens_1205 ?_
                refine x_iload hC 1 rfl dL_opens_1207 ?_
                refine x_callSW (as := [.ref (ρ a1), .int r1, .int r2, .int x2]) (rest := []) hC (fun l hl => mL_link l hl G ρ a1 r1 r2 x2 σ3 _ h) q445 q446 q0 q447 hdL_link (by decide) ⟨(by decide), (by decide)⟩ (by first | exact Nat.le_of_ble_eq_true rfl | (simp [rv_cat]; done) | (simp (decide := true) [rv_cat, cat_ref, cat_int]; done)) rfl dL_opens_1209 (fun E σ9 hx => False.elim hx) (fun v8 σ4 ρ4 hp4 hag4 => ?_)
                obtain ⟨e9, r4, e8, h⟩ := hp4
                rw [e8, e9]
                refine xJ.nrm (k' := 3) (n' := 18) (pc' := 1212) (st' := [.int r4]) rfl rfl rfl rfl ?_
                refine x_sipush (v := (-7100)) hC dL_opens_1212 (by decide) ?_
                refine x_icmp_ne (tgt := 1238) hC dL_opens_1215 (by decide) (fun c9 => ?_) (fun c9 => ?_)
                · have h := h.1 c9
                  refine x_iconst (v := 0) hC dL_opens_1238 (by decide) ?_
                  exact x_zret hC hr zb0 dL_opens_1239 (by decide) (by decide) ⟨_, rfl, h⟩
                · have h := h.2 c9
                  refine x_aload_n hC 5 rfl dL_opens_1218 ?_
                  refine x_iload hC 0 rfl dL_opens_1219 ?_
                  refine x_iload hC 2 rfl dL_opens_1221 ?_
                  refine x_iload hC 1 rfl dL_opens_1223 ?_
                  refine x_callSW (as := [.ref (ρ a1), .int r2, .int r1, .int x2]) (rest := []) hC (fun l hl => mL_link l hl G ρ a1 r2 r1 x2 σ4 _ h) q445 q446 q0 q447 hdL_link (by decide) ⟨(by decide), (by decide)⟩ (by first | exact Nat.le_of_ble_eq_true rfl | (simp [rv_cat]; done) | (simp (decide := true) [rv_cat, cat_ref, cat_int]; done)) rfl dL_opens_1225 (fun E σ9 hx => False.elim hx) (fun v9 σ5 ρ5 hp5 hag5 => ?_)
                  obtain ⟨e9, r5, e8, h⟩ := hp5
                  rw [e8, e9]
                  refine xJ.nrm (k' := 6) (n' := 36) (pc' := 1228) (st' := [.int r5]) rfl rfl rfl rfl ?_
                  refine x_sipush (v := (-7100)) hC dL_opens_1228 (by decide) ?_
                  refine x_icmp_ne (tgt := 1238) hC dL_opens_1231 (by decide) (fun c10 => ?_) (fun c10 => ?_)
                  · have h := h.1 c10
                    refine x_iconst (v := 0) hC dL_opens_1238 (by decide) ?_
                    exact x_zret hC hr zb0 dL_opens_1239 (by decide) (by decide) ⟨_, rfl, h⟩
                  · have h := h.2 c10
                    refine x_iconst (v := 1) hC dL_opens_1234 (by decide) ?_
                    refine x_goto (tgt := 1239) hC dL_opens_1235 (by decide) ?_
                    exact x_zret hC hr zb1 dL_opens_1239 (by decide) (by decide) ⟨_, rfl, h⟩
              · have h := h.2 c8
                refine x_aload hC 10 rfl dL_opens_1188 ?_
                refine x_aload hC 11 rfl dL_opens_1190 ?_
                refine x_aload hC 18 rfl dL_opens_1192 ?_
                refine x_iload hC 0 rfl dL_opens_1194 ?_
                refine x_callS (as := [.ref (ρ a6), .ref (ρ a7), .ref (ρ a14), .int r2]) (rest := []) hC (fun l hl => mL_isThere l hl G ρ a6 a7 a14 r2 σ3 _ h) q435 q436 q0 q437 hdL_isThere (by decide) ⟨(by decide), (by decide)⟩ (by first | exact Nat.le_of_ble_eq_true rfl | (simp [rv_cat]; done) | (simp (decide := true) [rv_cat, cat_ref, cat_int]; done)) rfl dL_opens_1196 (fun E σ9 hx => False.elim hx) (fun v10 σ6 ρ6 hp6 hag6 => ?_)
                obtain ⟨e9, r6, e8, h⟩ := hp6
                rw [e8, e9]
                refine xJ.nrm (k' := 0) (n' := 0) (pc' := 1199) (st' := [.int r6]) rfl rfl rfl rfl ?_
                refine x_if_ne (tgt := 1240) hC dL_opens_1199 (by decide) (fun c11 => ?_) (fun c11 => ?_)
                · have h := h.1 c11
                  refine x_iload hC 2 rfl dL_opens_1240 ?_
                  refine x_iload hC 0 rfl dL_opens_1242 ?_
                  refine x_icmp_eq (tgt := 1264) hC dL_opens_1244 (by decide) (fun c12 => ?_) (fun c12 => ?_)
                  · have h := h.1 c12
                    refine x_aload_n hC 5 rfl dL_opens_1264 ?_
                    refine x_iload hC 2 rfl dL_opens_1265 ?_
                    refine x_iload hC 0 rfl dL_opens_1267 ?_
                    refine x_iload hC 1 rfl dL_opens_1269 ?_
                    refine x_callSW (as := [.ref (ρ a1), .int r1, .int r2, .int x2]) (rest := []) hC (fun l hl => mL_link l hl G ρ a1 r1 r2 x2 σ6 _ h) q445 q446 q0 q447 hdL_link (by decide) ⟨(by decide), (by decide)⟩ (by first | exact Nat.le_of_ble_eq_true rfl | (simp [rv_cat]; done) | (simp (decide := true) [rv_cat, cat_ref, cat_int]; done)) rfl dL_opens_1271 (fun E σ9 hx => False.elim hx) (fun v11 σ7 ρ7 hp7 hag7 => ?_)
                    obtain ⟨e9, r7, e8, h⟩ := hp7
                    rw [e8, e9]
                    refine xJ.nrm (k' := 3) (n' := 18) (pc' := 1274) (st' := [.int r7]) rfl rfl rfl rfl ?_
                    refine x_sipush (v := (-7200)) hC dL_opens_1274 (by decide) ?_
                    refine x_icmp_ne (tgt := 1284) hC dL_opens_1277 (by decide) (fun c13 => ?_) (fun c13 => ?_)
                    · have h := h.1 c13
                      refine x_iconst (v := 0) hC dL_opens_1284 (by decide) ?_
                      exact x_zret hC hr zb0 dL_opens_1285 (by decide) (by decide) ⟨_, rfl, h⟩
                    · have h := h.2 c13
                      refine x_iconst (v := 1) hC dL_opens_1280 (by decide) ?_
                      refine x_goto (tgt := 1285) hC dL_opens_1281 (by decide) ?_
                      exact x_zret hC hr zb1 dL_opens_1285 (by decide) (by decide) ⟨_, rfl, h⟩
                  · have h := h.2 c12
                    refine x_aload hC 11 rfl dL_opens_1247 ?_
                    refine x_iload hC 2 rfl dL_opens_1249 ?_
                    obtain ⟨k4, h⟩ := h
                    obtain ⟨v12, h⟩ := h
                    refine x_iald (a := a7) hC k4 v12 dL_opens_1251 ?_
                    refine x_iconst (v := 1) hC dL_opens_1252 (by decide) ?_
                    refine x_iand hC dL_opens_1253 ?_
                    refine x_aload hC 11 rfl dL_opens_1254 ?_
                    refine x_iload hC 0 rfl dL_opens_1256 ?_
                    obtain ⟨v13, h⟩ := h
                    refine x_iald (a := a7) hC k4 v13 dL_opens_1258 ?_
                    refine x_iconst (v := 1) hC dL_opens_1259 (by decide) ?_
                    refine x_iand hC dL_opens_1260 ?_
                    refine x_icmp_eq (tgt := 1286) hC dL_opens_1261 (by decide) (fun c14 => ?_) (fun c14 => ?_)
                    · have h := h.1 c14
                      refine x_aload hC 16 rfl dL_opens_1286 ?_
                      refine x_iload hC 2 rfl dL_opens_1288 ?_
                      obtain ⟨k5, h⟩ := h
                      obtain ⟨v14, h⟩ := h
                      refine x_iald (a := a12) hC k5 v14 dL_opens_1290 ?_
                      refine x_iload hC 0 rfl dL_opens_1291 ?_
                      refine x_ishr hC dL_opens_1293 ?_
                      refine x_iconst (v := 1) hC dL_opens_1294 (by decide) ?_
                      refine x_iand hC dL_opens_1295 ?_
                      refine x_iconst (v := 1) hC dL_opens_1296 (by decide) ?_
                      refine xJ.jV (pcJ := 1305) (stJ := []) h (fun x3 h => ?_) (fun K3 hk3 h => ?_)
                      · refine x_istore (L' := [(19, .int x3), (18, .int r2), (17, .int x2), (16, .int r1), (15, .int x1), (14, .int (p3 &&& 1)), (0, .ref (ρ a1)), (1, .int p2), (2, .int p3), (3, .int p4), (4, .ref (ρ a5)), (5, .ref (ρ a6)), (6, .ref (ρ a7)), (7, .ref (ρ a8)), (8, .ref (ρ a9)), (9, .ref (ρ a10)), (10, .ref (ρ a11)), (11, .ref (ρ a12)), (12, .ref (ρ a13)), (13, .ref (ρ a14))]) hC dL_opens_1305 (by decide) (by first | rfl | simp (decide := true) [rv_cat, cat_ref, cat_int]) ?_
                        refine x_aload hC 17 rfl dL_opens_1307 ?_
                        refine x_iload hC 3 rfl dL_opens_1309 ?_
                        refine x_iload hC 2 rfl dL_opens_1311 ?_
                        refine xJ.jV (pcJ := 1341) (stJ := [.int r1, .ref (ρ a12)]) h (fun x4 h => ?_) (fun K4 hk4 h => ?_)
                        · refine x_iast (a := a12) hC k5 v14 dL_opens_1341 ?_
                          refine xJ.nmH (fun σ8 e1 => ?_)
                          have h := h σ8 e1
                          have r8 : hR σ8 = hR σ6 ∧ hL σ8 = hL σ6 := by rw [e1]; exact ⟨rfl, rfl⟩
                          refine x_aload_n hC 6 rfl dL_opens_1342 ?_
                          refine x_iload hC 3 rfl dL_opens_1343 ?_
                          refine x_iload hC 1 rfl dL_opens_1345 ?_
                          refine x_iload hC 2 rfl dL_opens_1347 ?_
                          refine x_callSW (as := [.ref (ρ a1), .int r1, .int r2, .int x2]) (rest := []) hC (fun l hl => mL_link l hl G ρ a1 r1 r2 x2 σ8 _ h) q445 q446 q0 q447 hdL_link (by decide) ⟨(by decide), (by decide)⟩ (by first | exact Nat.le_of_ble_eq_true rfl | (simp [rv_cat]; done) | (simp (decide := true) [rv_cat, cat_ref, cat_int]; done)) rfl dL_opens_1349 (fun E σ9 hx => False.elim hx) (fun v15 σ9 ρ8 hp8 hag8 => ?_)
                          obtain ⟨e9, r9, e8, h⟩ := hp8
                          rw [e8, e9]
                          refine xJ.nrm (k' := 3) (n' := 18) (pc' := 1352) (st' := [.int r9]) rfl rfl rfl rfl ?_
                          refine x_iload hC 0 rfl dL_opens_1352 ?_
                          refine x_iload hC 2 rfl dL_opens_1354 ?_
                          refine x_icmp_eq (tgt := 1363) hC dL_opens_1356 (by decide) (fun c17 => ?_) (fun c17 => ?_)
                          · have h := h.1 c17
                            refine x_iconst (v := 0) hC dL_opens_1363 (by decide) ?_
                            refine x_icmp_ne (tgt := 1371) hC dL_opens_1364 (by decide) (fun c18 => ?_) (fun c18 => ?_)
                            · have h := h.1 c18
                              refine x_iconst (v := 0) hC dL_opens_1371 (by decide) ?_
                              exact x_zret hC hr zb0 dL_opens_1372 (by decide) (by decide) ⟨_, rfl, h⟩
                            · have h := h.2 c18
                              refine x_iconst (v := 1) hC dL_opens_1367 (by decide) ?_
                              refine x_goto (tgt := 1372) hC dL_opens_1368 (by decide) ?_
                              exact x_zret hC hr zb1 dL_opens_1372 (by decide) (by decide) ⟨_, rfl, h⟩
                          · have h := h.2 c17
                            refine x_iconst (v := 1) hC dL_opens_1359 (by decide) ?_
                            refine x_goto (tgt := 1364) hC dL_opens_1360 (by decide) ?_
                            refine x_icmp_ne (tgt := 1371) hC dL_opens_1364 (by decide) (fun c19 => ?_) (fun c19 => ?_)
                            · have h := h.1 c19
                              refine x_iconst (v := 0) hC dL_opens_1371 (by decide) ?_
                              exact x_zret hC hr zb0 dL_opens_1372 (by decide) (by decide) ⟨_, rfl, h⟩
                            · have h := h.2 c19
                              refine x_iconst (v := 1) hC dL_opens_1367 (by decide) ?_
                              refine x_goto (tgt := 1372) hC dL_opens_1368 (by decide) ?_
                              exact x_zret hC hr zb1 dL_opens_1372 (by decide) (by decide) ⟨_, rfl, h⟩
                        · refine x_if_eq (tgt := 1329) hC dL_opens_1313 (by decide) (fun c16 => ?_) (fun c16 => ?_)
                          · have h := h.1 c16
                            refine x_aload hC 17 rfl dL_opens_1329 ?_
                            refine x_iload hC 3 rfl dL_opens_1331 ?_
                            refine x_iald (a := a12) hC k5 v14 dL_opens_1333 ?_
                            refine x_iconst (v := 1) hC dL_opens_1334 (by decide) ?_
                            refine x_iload hC 1 rfl dL_opens_1335 ?_
                            refine x_ishl hC dL_opens_1337 ?_
                            refine x_iconst (v := (-1)) hC dL_opens_1338 (by decide) ?_
                            refine x_ixor hC dL_opens_1339 ?_
                            refine x_iand hC dL_opens_1340 ?_
                            exact hk4 _ h
                          · have h := h.2 c16
                            refine x_aload hC 17 rfl dL_opens_1316 ?_
                            refine x_iload hC 3 rfl dL_opens_1318 ?_
                            refine x_iald (a := a12) hC k5 v14 dL_opens_1320 ?_
                            refine x_iconst (v := 1) hC dL_opens_1321 (by decide) ?_
                            refine x_iload hC 1 rfl dL_opens_1322 ?_
                            refine x_ishl hC dL_opens_1324 ?_
                            refine x_ior hC dL_opens_1325 ?_
                            refine x_goto (tgt := 1341) hC dL_opens_1326 (by decide) ?_
                            exact hk4 _ h
                      · refine x_icmp_ne (tgt := 1304) hC dL_opens_1297 (by decide) (fun c15 => ?_) (fun c15 => ?_)
                        · have h := h.1 c15
                          refine x_iconst (v := 0) hC dL_opens_1304 (by decide) ?_
                          exact hk3 _ h
                        · have h := h.2 c15
                          refine x_iconst (v := 1) hC dL_opens_1300 (by decide) ?_
                          refine x_goto (tgt := 1305) hC dL_opens_1301 (by decide) ?_
                          exact hk3 _ h
                    · have h := h.2 c14
                      refine x_aload_n hC 5 rfl dL_opens_1264 ?_
                      refine x_iload hC 2 rfl dL_opens_1265 ?_
                      refine x_iload hC 0 rfl dL_opens_1267 ?_
                      refine x_iload hC 1 rfl dL_opens_1269 ?_
                      refine x_callSW (as := [.ref (ρ a1), .int r1, .int r2, .int x2]) (rest := []) hC (fun l hl => mL_link l hl G ρ a1 r1 r2 x2 σ6 _ h) q445 q446 q0 q447 hdL_link (by decide) ⟨(by decide), (by decide)⟩ (by first | exact Nat.le_of_ble_eq_true rfl | (simp [rv_cat]; done) | (simp (decide := true) [rv_cat, cat_ref, cat_int]; done)) rfl dL_opens_1271 (fun E σ9 hx => False.elim hx) (fun v16 σ10 ρ9 hp9 hag9 => ?_)
                      obtain ⟨e9, r10, e8, h⟩ := hp9
                      rw [e8, e9]
                      refine xJ.nrm (k' := 3) (n' := 18) (pc' := 1274) (st' := [.int r10]) rfl rfl rfl rfl ?_
                      refine x_sipush (v := (-7200)) hC dL_opens_1274 (by decide) ?_
                      refine x_icmp_ne (tgt := 1284) hC dL_opens_1277 (by decide) (fun c20 => ?_) (fun c20 => ?_)
                      · have h := h.1 c20
                        refine x_iconst (v := 0) hC dL_opens_1284 (by decide) ?_
                        exact x_zret hC hr zb0 dL_opens_1285 (by decide) (by decide) ⟨_, rfl, h⟩
                      · have h := h.2 c20
                        refine x_iconst (v := 1) hC dL_opens_1280 (by decide) ?_
                        refine x_goto (tgt := 1285) hC dL_opens_1281 (by decide) ?_
                        exact x_zret hC hr zb1 dL_opens_1285 (by decide) (by decide) ⟨_, rfl, h⟩
                · have h := h.2 c11
                  refine x_aload_n hC 5 rfl dL_opens_1202 ?_
                  refine x_iload hC 2 rfl dL_opens_1203 ?_
                  refine x_iload hC 0 rfl dL_opens_1205 ?_
                  refine x_iload hC 1 rfl dL_opens_1207 ?_
                  refine x_callSW (as := [.ref (ρ a1), .int r1, .int r2, .int x2]) (rest := []) hC (fun l hl => mL_link l hl G ρ a1 r1 r2 x2 σ6 _ h) q445 q446 q0 q447 hdL_link (by decide) ⟨(by decide), (by decide)⟩ (by first | exact Nat.le_of_ble_eq_true rfl | (simp [rv_cat]; done) | (simp (decide := true) [rv_cat, cat_ref, cat_int]; done)) rfl dL_opens_1209 (fun E σ9 hx => False.elim hx) (fun v17 σ11 ρ10 hp10 hag10 => ?_)
                  obtain ⟨e9, r11, e8, h⟩ := hp10
                  rw [e8, e9]
                  refine xJ.nrm (k' := 3) (n' := 18) (pc' := 1212) (st' := [.int r11]) rfl rfl rfl rfl ?_
                  refine x_sipush (v := (-7100)) hC dL_opens_1212 (by decide) ?_
                  refine x_icmp_ne (tgt := 1238) hC dL_opens_1215 (by decide) (fun c21 => ?_) (fun c21 => ?_)
                  · have h := h.1 c21
                    refine x_iconst (v := 0) hC dL_opens_1238 (by decide) ?_
                    exact x_zret hC hr zb0 dL_opens_1239 (by decide) (by decide) ⟨_, rfl, h⟩
                  · have h := h.2 c21
                    refine x_aload_n hC 5 rfl dL_opens_1218 ?_
                    refine x_iload hC 0 rfl dL_opens_1219 ?_
                    refine x_iload hC 2 rfl dL_opens_1221 ?_
                    refine x_iload hC 1 rfl dL_opens_1223 ?_
                    refine x_callSW (as := [.ref (ρ a1), .int r2, .int r1, .int x2]) (rest := []) hC (fun l hl => mL_link l hl G ρ a1 r2 r1 x2 σ11 _ h) q445 q446 q0 q447 hdL_link (by decide) ⟨(by decide), (by decide)⟩ (by first | exact Nat.le_of_ble_eq_true rfl | (simp [rv_cat]; done) | (simp (decide := true) [rv_cat, cat_ref, cat_int]; done)) rfl dL_opens_1225 (fun E σ9 hx => False.elim hx) (fun v18 σ12 ρ11 hp11 hag11 => ?_)
                    obtain ⟨e9, r12, e8, h⟩ := hp11
                    rw [e8, e9]
                    refine xJ.nrm (k' := 6) (n' := 36) (pc' := 1228) (st' := [.int r12]) rfl rfl rfl rfl ?_
                    refine x_sipush (v := (-7100)) hC dL_opens_1228 (by decide) ?_
                    refine x_icmp_ne (tgt := 1238) hC dL_opens_1231 (by decide) (fun c22 => ?_) (fun c22 => ?_)
                    · have h := h.1 c22
                      refine x_iconst (v := 0) hC dL_opens_1238 (by decide) ?_
                      exact x_zret hC hr zb0 dL_opens_1239 (by decide) (by decide) ⟨_, rfl, h⟩
                    · have h := h.2 c22
                      refine x_iconst (v := 1) hC dL_opens_1234 (by decide) ?_
                      refine x_goto (tgt := 1239) hC dL_opens_1235 (by decide) ?_
                      exact x_zret hC hr zb1 dL_opens_1239 (by decide) (by decide) ⟨_, rfl, h⟩
            · have h := h.2 c7
              refine x_aload hC 9 rfl dL_opens_1036 ?_
              refine x_aload hC 10 rfl dL_opens_1038 ?_
              refine x_aload hC 17 rfl dL_opens_1040 ?_
              refine x_iload hC 1 rfl dL_opens_1042 ?_
              refine x_callS (as := [.ref (ρ a6), .ref (ρ a7), .ref (ρ a14), .int r1]) (rest := []) hC (fun l hl => mL_isThere l hl G ρ a6 a7 a14 r1 σ1 _ h) q435 q436 q0 q437 hdL_isThere (by decide) ⟨(by decide), (by decide)⟩ (by first | exact Nat.le_of_ble_eq_true rfl | (simp [rv_cat]; done) | (simp (decide := true) [rv_cat, cat_ref, cat_int]; done)) rfl dL_opens_1044 (fun E σ9 hx => False.elim hx) (fun v19 σ13 ρ12 hp12 hag12 => ?_)
              obtain ⟨e9, r13, e8, h⟩ := hp12
              rw [e8, e9]
              refine xJ.nrm (k' := 0) (n' := 0) (pc' := 1047) (st' := [.int r13]) rfl rfl rfl rfl ?_
              refine x_if_ne (tgt := 1083) hC dL_opens_1047 (by decide) (fun c23 => ?_) (fun c23 => ?_)
              · have h := h.1 c23
                refine x_aload hC 10 rfl dL_opens_1083 ?_
                refine x_iload hC 1 rfl dL_opens_1085 ?_
                obtain ⟨k6, h⟩ := h
                obtain ⟨v20, h⟩ := h
                refine x_iald (a := a7) hC k6 v20 dL_opens_1087 ?_
                refine x_bipush (v := 14) hC dL_opens_1088 (by decide) ?_
                refine x_ishr hC dL_opens_1090 ?_
                refine x_iconst (v := 1) hC dL_opens_1091 (by decide) ?_
                refine x_iand hC dL_opens_1092 ?_
                refine x_iconst (v := 1) hC dL_opens_1093 (by decide) ?_
                refine xJ.jV (pcJ := 1102) (stJ := []) h (fun x5 h => ?_) (fun K5 hk5 h => ?_)
                · refine x_istore (L' := [(18, .int x5), (17, .int x2), (16, .int r1), (15, .int x1), (14, .int (p3 &&& 1)), (0, .ref (ρ a1)), (1, .int p2), (2, .int p3), (3, .int p4), (4, .ref (ρ a5)), (5, .ref (ρ a6)), (6, .ref (ρ a7)), (7, .ref (ρ a8)), (8, .ref (ρ a9)), (9, .ref (ρ a10)), (10, .ref (ρ a11)), (11, .ref (ρ a12)), (12, .ref (ρ a13)), (13, .ref (ρ a14))]) hC dL_opens_1102 (by decide) (by first | rfl | simp (decide := true) [rv_cat, cat_ref, cat_int]) ?_
                  refine x_aload hC 11 rfl dL_opens_1104 ?_
                  refine x_iload hC 2 rfl dL_opens_1106 ?_
                  refine x_aload hC 11 rfl dL_opens_1108 ?_
                  refine x_iload hC 2 rfl dL_opens_1110 ?_
                  refine x_iald (a := a7) hC k6 v20 dL_opens_1112 ?_
                  refine x_sipush (v := (-16385)) hC dL_opens_1113 (by decide) ?_
                  refine x_iand hC dL_opens_1116 ?_
                  refine x_iload hC 1 rfl dL_opens_1117 ?_
                  refine xJ.jV (pcJ := 1129) (stJ := [.int ((hI σ13 a7 (Int32.toNatClampNeg r1)) &&& (-16385)), .int r1, .ref (ρ a7)]) h (fun x6 h => ?_) (fun K6 hk6 h => ?_)
                  · refine x_ior hC dL_opens_1129 ?_
                    refine x_iast (a := a7) hC k6 v20 dL_opens_1130 ?_
                    refine xJ.nmH (fun σ14 e2 => ?_)
                    have h := h σ14 e2
                    have r14 : hR σ14 = hR σ13 ∧ hL σ14 = hL σ13 := by rw [e2]; exact ⟨rfl, rfl⟩
                    refine x_aload_n hC 5 rfl dL_opens_1131 ?_
                    refine x_iload hC 2 rfl dL_opens_1132 ?_
                    refine x_iload hC 1 rfl dL_opens_1134 ?_
                    refine x_callSW (as := [.ref (ρ a1), .int r1, .int x2]) (rest := []) hC (fun l hl => mL_setReporting l hl G ρ a1 r1 x2 σ14 _ h) q438 q439 q0 q440 hdL_setReporting (by decide) ⟨(by decide), (by decide)⟩ (by first | exact Nat.le_of_ble_eq_true rfl | (simp [rv_cat]; done) | (simp (decide := true) [rv_cat, cat_ref, cat_int]; done)) rfl dL_opens_1136 (fun E σ9 hx => False.elim hx) (fun v21 σ15 ρ13 hp13 hag13 => ?_)
                    obtain ⟨e9, r15, e8, h⟩ := hp13
                    rw [e8, e9]
                    refine xJ.nrm (k' := 1) (n' := 6) (pc' := 1139) (st' := [.int r15]) rfl rfl rfl rfl ?_
                    refine x_iload hC 0 rfl dL_opens_1139 ?_
                    refine x_iload hC 1 rfl dL_opens_1141 ?_
                    refine x_icmp_eq (tgt := 1150) hC dL_opens_1143 (by decide) (fun c26 => ?_) (fun c26 => ?_)
                    · have h := h.1 c26
                      refine x_iconst (v := 0) hC dL_opens_1150 (by decide) ?_
                      refine x_icmp_ne (tgt := 1158) hC dL_opens_1151 (by decide) (fun c27 => ?_) (fun c27 => ?_)
                      · have h := h.1 c27
                        refine x_iconst (v := 0) hC dL_opens_1158 (by decide) ?_
                        exact x_zret hC hr zb0 dL_opens_1159 (by decide) (by decide) ⟨_, rfl, h⟩
                      · have h := h.2 c27
                        refine x_iconst (v := 1) hC dL_opens_1154 (by decide) ?_
                        refine x_goto (tgt := 1159) hC dL_opens_1155 (by decide) ?_
                        exact x_zret hC hr zb1 dL_opens_1159 (by decide) (by decide) ⟨_, rfl, h⟩
                    · have h := h.2 c26
                      refine x_iconst (v := 1) hC dL_opens_1146 (by decide) ?_
                      refine x_goto (tgt := 1151) hC dL_opens_1147 (by decide) ?_
                      refine x_icmp_ne (tgt := 1158) hC dL_opens_1151 (by decide) (fun c28 => ?_) (fun c28 => ?_)
                      · have h := h.1 c28
                        refine x_iconst (v := 0) hC dL_opens_1158 (by decide) ?_
                        exact x_zret hC hr zb0 dL_opens_1159 (by decide) (by decide) ⟨_, rfl, h⟩
                      · have h := h.2 c28
                        refine x_iconst (v := 1) hC dL_opens_1154 (by decide) ?_
                        refine x_goto (tgt := 1159) hC dL_opens_1155 (by decide) ?_
                        exact x_zret hC hr zb1 dL_opens_1159 (by decide) (by decide) ⟨_, rfl, h⟩
                  · refine x_if_eq (tgt := 1128) hC dL_opens_1119 (by decide) (fun c25 => ?_) (fun c25 => ?_)
                    · have h := h.1 c25
                      refine x_iconst (v := 0) hC dL_opens_1128 (by decide) ?_
                      exact hk6 _ h
                    · have h := h.2 c25
                      refine x_sipush (v := 16384) hC dL_opens_1122 (by decide) ?_
                      refine x_goto (tgt := 1129) hC dL_opens_1125 (by decide) ?_
                      exact hk6 _ h
                · refine x_icmp_ne (tgt := 1101) hC dL_opens_1094 (by decide) (fun c24 => ?_) (fun c24 => ?_)
                  · have h := h.1 c24
                    refine x_iconst (v := 0) hC dL_opens_1101 (by decide) ?_
                    exact hk5 _ h
                  · have h := h.2 c24
                    refine x_iconst (v := 1) hC dL_opens_1097 (by decide) ?_
                    refine x_goto (tgt := 1102) hC dL_opens_1098 (by decide) ?_
                    exact hk5 _ h
              · have h := h.2 c23
                refine x_aload_n hC 4 rfl dL_opens_1050 ?_
                refine x_iload hC 1 rfl dL_opens_1051 ?_
                refine x_iload hC 0 rfl dL_opens_1053 ?_
                refine x_callSW (as := [.ref (ρ a1), .int r1, .int x2]) (rest := []) hC (fun l hl => mL_setReporting l hl G ρ a1 r1 x2 σ13 _ h) q438 q439 q0 q440 hdL_setReporting (by decide) ⟨(by decide), (by decide)⟩ (by first | exact Nat.le_of_ble_eq_true rfl | (simp [rv_cat]; done) | (simp (decide := true) [rv_cat, cat_ref, cat_int]; done)) rfl dL_opens_1055 (fun E σ9 hx => False.elim hx) (fun v22 σ16 ρ14 hp14 hag14 => ?_)
                obtain ⟨e9, r16, e8, h⟩ := hp14
                rw [e8, e9]
                refine xJ.nrm (k' := 1) (n' := 6) (pc' := 1058) (st' := [.int r16]) rfl rfl rfl rfl ?_
                refine x_sipush (v := (-7100)) hC dL_opens_1058 (by decide) ?_
                refine x_icmp_ne (tgt := 1081) hC dL_opens_1061 (by decide) (fun c29 => ?_) (fun c29 => ?_)
                · have h := h.1 c29
                  refine x_iconst (v := 0) hC dL_opens_1081 (by decide) ?_
                  exact x_zret hC hr zb0 dL_opens_1082 (by decide) (by decide) ⟨_, rfl, h⟩
                · have h := h.2 c29
                  refine x_aload_n hC 4 rfl dL_opens_1064 ?_
                  refine x_iconst (v := (-1)) hC dL_opens_1065 (by decide) ?_
                  refine x_iload hC 0 rfl dL_opens_1066 ?_
                  refine x_callSW (as := [.ref (ρ a1), .int (-1), .int x2]) (rest := []) hC (fun l hl => mL_setReporting l hl G ρ a1 (-1) x2 σ16 _ h) q438 q439 q0 q440 hdL_setReporting (by decide) ⟨(by decide), (by decide)⟩ (by first | exact Nat.le_of_ble_eq_true rfl | (simp [rv_cat]; done) | (simp (decide := true) [rv_cat, cat_ref, cat_int]; done)) rfl dL_opens_1068 (fun E σ9 hx => False.elim hx) (fun v23 σ17 ρ15 hp15 hag15 => ?_)
                  obtain ⟨e9, r17, e8, h⟩ := hp15
                  rw [e8, e9]
                  refine xJ.nrm (k' := 2) (n' := 12) (pc' := 1071) (st' := [.int r17]) rfl rfl rfl rfl ?_
                  refine x_sipush (v := (-7100)) hC dL_opens_1071 (by decide) ?_
                  refine x_icmp_ne (tgt := 1081) hC dL_opens_1074 (by decide) (fun c30 => ?_) (fun c30 => ?_)
                  · have h := h.1 c30
                    refine x_iconst (v := 0) hC dL_opens_1081 (by decide) ?_
                    exact x_zret hC hr zb0 dL_opens_1082 (by decide) (by decide) ⟨_, rfl, h⟩
                  · have h := h.2 c30
                    refine x_iconst (v := 1) hC dL_opens_1077 (by decide) ?_
                    refine x_goto (tgt := 1082) hC dL_opens_1078 (by decide) ?_
                    exact x_zret hC hr zb1 dL_opens_1082 (by decide) (by decide) ⟨_, rfl, h⟩
          · refine x_if_ne (tgt := 1027) hC dL_opens_1020 (by decide) (fun c6 => ?_) (fun c6 => ?_)
            · have h := h.1 c6
              refine x_iconst (v := 0) hC dL_opens_1027 (by decide) ?_
              exact hk2 _ h
            · have h := h.2 c6
              refine x_iconst (v := 1) hC dL_opens_1023 (by decide) ?_
              refine x_goto (tgt := 1028) hC dL_opens_1024 (by decide) ?_
              exact hk2 _ h
        · have h := h.2 c5
          refine x_iload_n hC 4 rfl dL_opens_561 ?_
          refine x_iconst (v := 3) hC dL_opens_562 (by decide) ?_
          refine x_callS (as := [.int p3, .int 3]) (rest := []) hC (fun l hl => mL_low l hl G ρ p3 3 σ _ h) q81 q82 q0 q83 hdL_low (by decide) ⟨(by decide), (by decide)⟩ (by first | exact Nat.le_of_ble_eq_true rfl | (simp [rv_cat]; done) | (simp (decide := true) [rv_cat, cat_ref, cat_int]; done)) rfl dL_opens_563 (fun E σ9 hx => False.elim hx) (fun v24 σ18 ρ16 hp16 hag16 => ?_)
          obtain ⟨e9, r18, e8, h⟩ := hp16
          rw [e8, e9]
          refine xJ.nrm (k' := 0) (n' := 0) (pc' := 566) (st' := [.int r18]) rfl rfl rfl rfl ?_
          refine x_istore (L' := [(16, .int r18), (15, .int x1), (14, .int (p3 &&& 1)), (0, .ref (ρ a1)), (1, .int p2), (2, .int p3), (3, .int p4), (4, .ref (ρ a5)), (5, .ref (ρ a6)), (6, .ref (ρ a7)), (7, .ref (ρ a8)), (8, .ref (ρ a9)), (9, .ref (ρ a10)), (10, .ref (ρ a11)), (11, .ref (ρ a12)), (12, .ref (ρ a13)), (13, .ref (ρ a14))]) hC dL_opens_566 (by decide) (by first | rfl | simp (decide := true) [rv_cat, cat_ref, cat_int]) ?_
          refine x_iconst (v := 1) hC dL_opens_568 (by decide) ?_
          refine x_iload_n hC 6 rfl dL_opens_569 ?_
          refine x_iload_n hC 6 rfl dL_opens_570 ?_
          refine x_bipush (v := 96) hC dL_opens_571 (by decide) ?_
          refine x_iand hC dL_opens_573 ?_
          refine xJ.jV (pcJ := 583) (stJ := [.int p4, .int 1]) h (fun x7 h => ?_) (fun K7 hk7 h => ?_)
          · refine x_callS (as := [.int p4, .int x7]) (rest := [.int 1]) hC (fun l hl => mL_low l hl G ρ p4 x7 σ18 _ h) q81 q82 q0 q83 hdL_low (by decide) ⟨(by decide), (by decide)⟩ (by first | exact Nat.le_of_ble_eq_true rfl | (simp [rv_cat]; done) | (simp (decide := true) [rv_cat, cat_ref, cat_int]; done)) rfl dL_opens_583 (fun E σ9 hx => False.elim hx) (fun v25 σ19 ρ17 hp17 hag17 => ?_)
            obtain ⟨e9, r19, e8, h⟩ := hp17
            rw [e8, e9]
            refine xJ.nrm (k' := 0) (n' := 0) (pc' := 586) (st' := [.int r19, .int 1]) rfl rfl rfl rfl ?_
            refine x_iadd hC dL_opens_586 ?_
            refine x_istore (L' := [(17, .int (1 + r19)), (16, .int r18), (15, .int x1), (14, .int (p3 &&& 1)), (0, .ref (ρ a1)), (1, .int p2), (2, .int p3), (3, .int p4), (4, .ref (ρ a5)), (5, .ref (ρ a6)), (6, .ref (ρ a7)), (7, .ref (ρ a8)), (8, .ref (ρ a9)), (9, .ref (ρ a10)), (10, .ref (ρ a11)), (11, .ref (ρ a12)), (12, .ref (ρ a13)), (13, .ref (ρ a14))]) hC dL_opens_587 (by decide) (by first | rfl | simp (decide := true) [rv_cat, cat_ref, cat_int]) ?_
            refine x_iconst (v := 1) hC dL_opens_589 (by decide) ?_
            refine x_iload_n hC 7 rfl dL_opens_590 ?_
            refine x_bipush (v := 7) hC dL_opens_591 (by decide) ?_
            refine x_ishr hC dL_opens_593 ?_
            refine x_iconst (v := 4) hC dL_opens_594 (by decide) ?_
            refine x_callS (as := [.int (p4 >>> (7 &&& 31)), .int 4]) (rest := [.int 1]) hC (fun l hl => mL_low l hl G ρ (p4 >>> (7 &&& 31)) 4 σ19 _ h) q81 q82 q0 q83 hdL_low (by decide) ⟨(by decide), (by decide)⟩ (by first | exact Nat.le_of_ble_eq_true rfl | (simp [rv_cat]; done) | (simp (decide := true) [rv_cat, cat_ref, cat_int]; done)) rfl dL_opens_595 (fun E σ9 hx => False.elim hx) (fun v26 σ20 ρ18 hp18 hag18 => ?_)
            obtain ⟨e9, r20, e8, h⟩ := hp18
            rw [e8, e9]
            refine xJ.nrm (k' := 0) (n' := 0) (pc' := 598) (st' := [.int r20, .int 1]) rfl rfl rfl rfl ?_
            refine x_iadd hC dL_opens_598 ?_
            refine x_istore (L' := [(18, .int (1 + r20)), (17, .int (1 + r19)), (16, .int r18), (15, .int x1), (14, .int (p3 &&& 1)), (0, .ref (ρ a1)), (1, .int p2), (2, .int p3), (3, .int p4), (4, .ref (ρ a5)), (5, .ref (ρ a6)), (6, .ref (ρ a7)), (7, .ref (ρ a8)), (8, .ref (ρ a9)), (9, .ref (ρ a10)), (10, .ref (ρ a11)), (11, .ref (ρ a12)), (12, .ref (ρ a13)), (13, .ref (ρ a14))]) hC dL_opens_599 (by decide) (by first | rfl | simp (decide := true) [rv_cat, cat_ref, cat_int]) ?_
            refine x_iload_n hC 8 rfl dL_opens_601 ?_
            refine x_sipush (v := 4096) hC dL_opens_602 (by decide) ?_
            refine x_iand hC dL_opens_605 ?_
            refine xJ.jV (pcJ := 614) (stJ := []) h (fun x8 h => ?_) (fun K8 hk8 h => ?_)
            · refine x_istore (L' := [(19, .int x8), (18, .int (1 + r20)), (17, .int (1 + r19)), (16, .int r18), (15, .int x1), (14, .int (p3 &&& 1)), (0, .ref (ρ a1)), (1, .int p2), (2, .int p3), (3, .int p4), (4, .ref (ρ a5)), (5, .ref (ρ a6)), (6, .ref (ρ a7)), (7, .ref (ρ a8)), (8, .ref (ρ a9)), (9, .ref (ρ a10)), (10, .ref (ρ a11)), (11, .ref (ρ a12)), (12, .ref (ρ a13)), (13, .ref (ρ a14))]) hC dL_opens_614 (by decide) (by first | rfl | simp (decide := true) [rv_cat, cat_ref, cat_int]) ?_
              refine x_iload_n hC 8 rfl dL_opens_616 ?_
              refine x_bipush (v := 96) hC dL_opens_617 (by decide) ?_
              refine x_iand hC dL_opens_619 ?_
              refine xJ.jW (pcJ := 644) (stJ := []) h (fun x9 σ23 h => ?_) (fun K9 hk9 h => ?_)
              · refine x_istore (L' := [(20, .int x9), (19, .int x8), (18, .int (1 + r20)), (17, .int (1 + r19)), (16, .int r18), (15, .int x1), (14, .int (p3 &&& 1)), (0, .ref (ρ a1)), (1, .int p2), (2, .int p3), (3, .int p4), (4, .ref (ρ a5)), (5, .ref (ρ a6)), (6, .ref (ρ a7)), (7, .ref (ρ a8)), (8, .ref (ρ a9)), (9, .ref (ρ a10)), (10, .ref (ρ a11)), (11, .ref (ρ a12)), (12, .ref (ρ a13)), (13, .ref (ρ a14))]) hC dL_opens_644 (by decide) (by first | rfl | simp (decide := true) [rv_cat, cat_ref, cat_int]) ?_
                refine x_aload_n hC 7 rfl dL_opens_646 ?_
                refine x_iconst (v := 4) hC dL_opens_647 (by decide) ?_
                refine x_iload hC 4 rfl dL_opens_648 ?_
                refine x_iload hC 3 rfl dL_opens_650 ?_
                refine x_iload hC 2 rfl dL_opens_652 ?_
                refine x_iload hC 1 rfl dL_opens_654 ?_
                refine x_iload hC 0 rfl dL_opens_656 ?_
                obtain ⟨z1, h⟩ := h
                obtain ⟨z2, h⟩ := h
                obtain ⟨z3, h⟩ := h
                obtain ⟨z4, h⟩ := h
                obtain ⟨z5, h⟩ := h
                obtain ⟨z6, h⟩ := h
                obtain ⟨z7, h⟩ := h
                obtain ⟨z8, h⟩ := h
                obtain ⟨z9, h⟩ := h
                obtain ⟨z10, h⟩ := h
                refine xJ.sub (L' := [(20, .int x9), (19, .int x8), (18, .int (1 + r20)), (17, .int (1 + r19)), (16, .int r18), (15, .int x1), (14, .int (p3 &&& 1)), (0, .ref (ρ a1)), (4, .ref (ρ a5)), (6, .ref (ρ a7)), (7, .ref (ρ a8)), (8, .ref (ρ a9)), (9, .ref (ρ a10)), (10, .ref (ρ a11)), (11, .ref (ρ a12)), (12, .ref (ρ a13)), (13, .ref (ρ a14))]) [0, 1, 2, 3, 4, 5, 6, 7, 11, 13, 14, 15, 16, 17, 18, 19, 20] rfl ?_
                refine x_callSW (as := [.ref (ρ a1), .int 4, .int r18, .int (1 + r19), .int (1 + r20), .int x8, .int x9]) (rest := []) hC (fun l hl => mL_add l hl G ρ a1 4 r18 (1 + r19) (1 + r20) x8 x9 σ23 _ h) q295 q296 q0 q297 hdL_add (by decide) ⟨(by decide), (by decide)⟩ (by first | exact Nat.le_of_ble_eq_true rfl | (simp [rv_cat]; done) | (simp (decide := true) [rv_cat, cat_ref, cat_int]; done)) rfl dL_opens_658 (fun E σ9 hx => False.elim hx) (fun v29 σ24 ρ21 hp21 hag21 => ?_)
                obtain ⟨r23, e8, h⟩ := hp21
                rw [e8]
                rw [← (hag21 a1 z1).2, ← (hag21 a5 z2).2, ← (hag21 a7 z3).2, ← (hag21 a8 z4).2, ← (hag21 a9 z5).2, ← (hag21 a10 z6).2, ← (hag21 a11 z7).2, ← (hag21 a12 z8).2, ← (hag21 a13 z9).2, ← (hag21 a14 z10).2]
                refine xJ.nrm (k' := 10) (n' := 57) (pc' := 661) (st' := [.int r23]) rfl rfl rfl rfl ?_
                refine x_sipush (v := (-7100)) hC dL_opens_661 (by decide) ?_
                refine x_icmp_ne (tgt := 801) hC dL_opens_664 (by decide) (fun c34 => ?_) (fun c34 => ?_)
                · have h := h.1 c34
                  refine x_iconst (v := 0) hC dL_opens_801 (by decide) ?_
                  exact x_zret hC hr zb0 dL_opens_802 (by decide) (by decide) ⟨_, rfl, h⟩
                · have h := h.2 c34
                  refine x_iload hC 5 rfl dL_opens_667 ?_
                  refine x_if_eq (tgt := 803) hC dL_opens_669 (by decide) (fun c35 => ?_) (fun c35 => ?_)
                  · have h := h.1 c35
                    refine x_iload hC 5 rfl dL_opens_803 ?_
                    refine x_if_ne (tgt := 835) hC dL_opens_805 (by decide) (fun c36 => absurd c35 c36) (fun _ => ?_)
                    refine x_aload_n hC 7 rfl dL_opens_808 ?_
                    refine x_iload hC 6 rfl dL_opens_809 ?_
                    refine x_iload hC 4 rfl dL_opens_811 ?_
                    refine x_iconst (v := 0) hC dL_opens_813 (by decide) ?_
                    refine x_iload hC 2 rfl dL_opens_814 ?_
                    refine x_iload hC 1 rfl dL_opens_816 ?_
                    refine x_iload hC 0 rfl dL_opens_818 ?_
                    refine xJ.sub (L' := []) [] rfl ?_
                    refine x_callSW (as := [.ref (ρ21 a1), .int (p3 &&& 1), .int r18, .int 0, .int (1 + r20), .int x8, .int x9]) (rest := []) hC (fun l hl => mL_add l hl G ρ21 a1 (p3 &&& 1) r18 0 (1 + r20) x8 x9 σ24 _ h) q295 q296 q0 q297 hdL_add (by decide) ⟨(by decide), (by decide)⟩ (by first | exact Nat.le_of_ble_eq_true rfl | (simp [rv_cat]; done) | (simp (decide := true) [rv_cat, cat_ref, cat_int]; done)) rfl dL_opens_820 (fun E σ9 hx => False.elim hx) (fun v30 σ25 ρ22 hp22 hag22 => ?_)
                    obtain ⟨r24, e8, h⟩ := hp22
                    rw [e8]
                    refine xJ.nrm (k' := 20) (n' := 114) (pc' := 823) (st' := [.int r24]) rfl rfl rfl rfl ?_
                    refine x_sipush (v := (-7100)) hC dL_opens_823 (by decide) ?_
                    refine x_icmp_ne (tgt := 833) hC dL_opens_826 (by decide) (fun c37 => ?_) (fun c37 => ?_)
                    · have h := h.1 c37
                      refine x_iconst (v := 0) hC dL_opens_833 (by decide) ?_
                      exact x_zret hC hr zb0 dL_opens_834 (by decide) (by decide) ⟨_, rfl, h⟩
                    · have h := h.2 c37
                      refine x_iconst (v := 1) hC dL_opens_829 (by decide) ?_
                      refine x_goto (tgt := 834) hC dL_opens_830 (by decide) ?_
                      exact x_zret hC hr zb1 dL_opens_834 (by decide) (by decide) ⟨_, rfl, h⟩
                  · have h := h.2 c35
                    refine x_aload_n hC 7 rfl dL_opens_672 ?_
                    refine x_iload hC 6 rfl dL_opens_673 ?_
                    refine x_bipush (v := 10) hC dL_opens_675 (by decide) ?_
                    refine x_iconst (v := 0) hC dL_opens_677 (by decide) ?_
                    refine x_iload hC 2 rfl dL_opens_678 ?_
                    refine x_iload hC 1 rfl dL_opens_680 ?_
                    refine x_iload hC 0 rfl dL_opens_682 ?_
                    obtain ⟨z11, h⟩ := h
                    obtain ⟨z12, h⟩ := h
                    obtain ⟨z13, h⟩ := h
                    obtain ⟨z14, h⟩ := h
                    obtain ⟨z15, h⟩ := h
                    obtain ⟨z16, h⟩ := h
                    obtain ⟨z17, h⟩ := h
                    obtain ⟨z18, h⟩ := h
                    obtain ⟨z19, h⟩ := h
                    obtain ⟨z20, h⟩ := h
                    refine x_callSW (as := [.ref (ρ21 a1), .int (p3 &&& 1), .int 10, .int 0, .int (1 + r20), .int x8, .int x9]) (rest := []) hC (fun l hl => mL_add l hl G ρ21 a1 (p3 &&& 1) 10 0 (1 + r20) x8 x9 σ24 _ h) q295 q296 q0 q297 hdL_add (by decide) ⟨(by decide), (by decide)⟩ (by first | exact Nat.le_of_ble_eq_true rfl | (simp [rv_cat]; done) | (simp (decide := true) [rv_cat, cat_ref, cat_int]; done)) rfl dL_opens_684 (fun E σ9 hx => False.elim hx) (fun v31 σ26 ρ23 hp23 hag23 => ?_)
                    obtain ⟨r25, e8, h⟩ := hp23
                    rw [e8]
                    rw [← (hag23 a1 z11).2, ← (hag23 a5 z12).2, ← (hag23 a7 z13).2, ← (hag23 a8 z14).2, ← (hag23 a9 z15).2, ← (hag23 a10 z16).2, ← (hag23 a11 z17).2, ← (hag23 a12 z18).2, ← (hag23 a13 z19).2, ← (hag23 a14 z20).2]
                    refine xJ.nrm (k' := 20) (n' := 114) (pc' := 687) (st' := [.int r25]) rfl rfl rfl rfl ?_
                    refine x_sipush (v := (-7100)) hC dL_opens_687 (by decide) ?_
                    refine x_icmp_ne (tgt := 801) hC dL_opens_690 (by decide) (fun c38 => ?_) (fun c38 => ?_)
                    · have h := h.1 c38
                      refine x_iconst (v := 0) hC dL_opens_801 (by decide) ?_
                      exact x_zret hC hr zb0 dL_opens_802 (by decide) (by decide) ⟨_, rfl, h⟩
                    · have h := h.2 c38
                      refine x_aload_n hC 7 rfl dL_opens_693 ?_
                      refine x_iload hC 6 rfl dL_opens_694 ?_
                      refine x_iload hC 4 rfl dL_opens_696 ?_
                      refine x_bipush (v := 21) hC dL_opens_698 (by decide) ?_
                      refine x_iload hC 2 rfl dL_opens_700 ?_
                      refine x_iload hC 1 rfl dL_opens_702 ?_
                      refine x_iload hC 0 rfl dL_opens_704 ?_
                      obtain ⟨z21, h⟩ := h
                      obtain ⟨z22, h⟩ := h
                      obtain ⟨z23, h⟩ := h
                      obtain ⟨z24, h⟩ := h
                      obtain ⟨z25, h⟩ := h
                      obtain ⟨z26, h⟩ := h
                      obtain ⟨z27, h⟩ := h
                      obtain ⟨z28, h⟩ := h
                      obtain ⟨z29, h⟩ := h
                      obtain ⟨z30, h⟩ := h
                      refine x_callSW (as := [.ref (ρ23 a1), .int (p3 &&& 1), .int r18, .int 21, .int (1 + r20), .int x8, .int x9]) (rest := []) hC (fun l hl => mL_add l hl G ρ23 a1 (p3 &&& 1) r18 21 (1 + r20) x8 x9 σ26 _ h) q295 q296 q0 q297 hdL_add (by decide) ⟨(by decide), (by decide)⟩ (by first | exact Nat.le_of_ble_eq_true rfl | (simp [rv_cat]; done) | (simp (decide := true) [rv_cat, cat_ref, cat_int]; done)) rfl dL_opens_706 (fun E σ9 hx => False.elim hx) (fun v32 σ27 ρ24 hp24 hag24 => ?_)
                      obtain ⟨r26, e8, h⟩ := hp24
                      rw [e8]
                      rw [← (hag24 a1 z21).2, ← (hag24 a5 z22).2, ← (hag24 a7 z23).2, ← (hag24 a8 z24).2, ← (hag24 a9 z25).2, ← (hag24 a10 z26).2, ← (hag24 a11 z27).2, ← (hag24 a12 z28).2, ← (hag24 a13 z29).2, ← (hag24 a14 z30).2]
                      refine xJ.nrm (k' := 30) (n' := 171) (pc' := 709) (st' := [.int r26]) rfl rfl rfl rfl ?_
                      refine x_sipush (v := (-7200)) hC dL_opens_709 (by decide) ?_
                      refine x_icmp_ne (tgt := 801) hC dL_opens_712 (by decide) (fun c39 => ?_) (fun c39 => ?_)
                      · have h := h.1 c39
                        refine x_iconst (v := 0) hC dL_opens_801 (by decide) ?_
                        exact x_zret hC hr zb0 dL_opens_802 (by decide) (by decide) ⟨_, rfl, h⟩
                      · have h := h.2 c39
                        refine x_aload_n hC 7 rfl dL_opens_715 ?_
                        refine x_iload hC 6 rfl dL_opens_716 ?_
                        refine x_iload hC 4 rfl dL_opens_718 ?_
                        refine x_iload hC 3 rfl dL_opens_720 ?_
                        refine x_iconst (v := 5) hC dL_opens_722 (by decide) ?_
                        refine x_iload hC 1 rfl dL_opens_723 ?_
                        refine x_iload hC 0 rfl dL_opens_725 ?_
                        obtain ⟨z31, h⟩ := h
                        obtain ⟨z32, h⟩ := h
                        obtain ⟨z33, h⟩ := h
                        obtain ⟨z34, h⟩ := h
                        obtain ⟨z35, h⟩ := h
                        obtain ⟨z36, h⟩ := h
                        obtain ⟨z37, h⟩ := h
                        obtain ⟨z38, h⟩ := h
                        obtain ⟨z39, h⟩ := h
                        obtain ⟨z40, h⟩ := h
                        refine x_callSW (as := [.ref (ρ24 a1), .int (p3 &&& 1), .int r18, .int (1 + r19), .int 5, .int x8, .int x9]) (rest := []) hC (fun l hl => mL_add l hl G ρ24 a1 (p3 &&& 1) r18 (1 + r19) 5 x8 x9 σ27 _ h) q295 q296 q0 q297 hdL_add (by decide) ⟨(by decide), (by decide)⟩ (by first | exact Nat.le_of_ble_eq_true rfl | (simp [rv_cat]; done) | (simp (decide := true) [rv_cat, cat_ref, cat_int]; done)) rfl dL_opens_727 (fun E σ9 hx => False.elim hx) (fun v33 σ28 ρ25 hp25 hag25 => ?_)
                        obtain ⟨r27, e8, h⟩ := hp25
                        rw [e8]
                        rw [← (hag25 a1 z31).2, ← (hag25 a5 z32).2, ← (hag25 a7 z33).2, ← (hag25 a8 z34).2, ← (hag25 a9 z35).2, ← (hag25 a10 z36).2, ← (hag25 a11 z37).2, ← (hag25 a12 z38).2, ← (hag25 a13 z39).2, ← (hag25 a14 z40).2]
                        refine xJ.nrm (k' := 40) (n' := 228) (pc' := 730) (st' := [.int r27]) rfl rfl rfl rfl ?_
                        refine x_sipush (v := (-7200)) hC dL_opens_730 (by decide) ?_
                        refine x_icmp_ne (tgt := 801) hC dL_opens_733 (by decide) (fun c40 => ?_) (fun c40 => ?_)
                        · have h := h.1 c40
                          refine x_iconst (v := 0) hC dL_opens_801 (by decide) ?_
                          exact x_zret hC hr zb0 dL_opens_802 (by decide) (by decide) ⟨_, rfl, h⟩
                        · have h := h.2 c40
                          refine x_aload_n hC 7 rfl dL_opens_736 ?_
                          refine x_iload hC 6 rfl dL_opens_737 ?_
                          refine x_iload hC 4 rfl dL_opens_739 ?_
                          refine x_iload hC 3 rfl dL_opens_741 ?_
                          refine x_iconst (v := 0) hC dL_opens_743 (by decide) ?_
                          refine x_iload hC 1 rfl dL_opens_744 ?_
                          refine x_iload hC 0 rfl dL_opens_746 ?_
                          obtain ⟨z41, h⟩ := h
                          obtain ⟨z42, h⟩ := h
                          obtain ⟨z43, h⟩ := h
                          obtain ⟨z44, h⟩ := h
                          obtain ⟨z45, h⟩ := h
                          obtain ⟨z46, h⟩ := h
                          obtain ⟨z47, h⟩ := h
                          obtain ⟨z48, h⟩ := h
                          obtain ⟨z49, h⟩ := h
                          obtain ⟨z50, h⟩ := h
                          refine x_callSW (as := [.ref (ρ25 a1), .int (p3 &&& 1), .int r18, .int (1 + r19), .int 0, .int x8, .int x9]) (rest := []) hC (fun l hl => mL_add l hl G ρ25 a1 (p3 &&& 1) r18 (1 + r19) 0 x8 x9 σ28 _ h) q295 q296 q0 q297 hdL_add (by decide) ⟨(by decide), (by decide)⟩ (by first | exact Nat.le_of_ble_eq_true rfl | (simp [rv_cat]; done) | (simp (decide := true) [rv_cat, cat_ref, cat_int]; done)) rfl dL_opens_748 (fun E σ9 hx => False.elim hx) (fun v34 σ29 ρ26 hp26 hag26 => ?_)
                          obtain ⟨r28, e8, h⟩ := hp26
                          rw [e8]
                          rw [← (hag26 a1 z41).2, ← (hag26 a5 z42).2, ← (hag26 a7 z43).2, ← (hag26 a8 z44).2, ← (hag26 a9 z45).2, ← (hag26 a10 z46).2, ← (hag26 a11 z47).2, ← (hag26 a12 z48).2, ← (hag26 a13 z49).2, ← (hag26 a14 z50).2]
                          refine xJ.nrm (k' := 50) (n' := 285) (pc' := 751) (st' := [.int r28]) rfl rfl rfl rfl ?_
                          refine x_sipush (v := (-7200)) hC dL_opens_751 (by decide) ?_
                          refine x_icmp_ne (tgt := 801) hC dL_opens_754 (by decide) (fun c41 => ?_) (fun c41 => ?_)
                          · have h := h.1 c41
                            refine x_iconst (v := 0) hC dL_opens_801 (by decide) ?_
                            exact x_zret hC hr zb0 dL_opens_802 (by decide) (by decide) ⟨_, rfl, h⟩
                          · have h := h.2 c41
                            refine x_aload_n hC 7 rfl dL_opens_757 ?_
                            refine x_iload hC 6 rfl dL_opens_758 ?_
                            refine x_iload hC 4 rfl dL_opens_760 ?_
                            refine x_iload hC 3 rfl dL_opens_762 ?_
                            refine x_iload hC 2 rfl dL_opens_764 ?_
                            refine x_iload hC 1 rfl dL_opens_766 ?_
                            refine x_sipush (v := 1001) hC dL_opens_768 (by decide) ?_
                            obtain ⟨z51, h⟩ := h
                            obtain ⟨z52, h⟩ := h
                            obtain ⟨z53, h⟩ := h
                            obtain ⟨z54, h⟩ := h
                            obtain ⟨z55, h⟩ := h
                            obtain ⟨z56, h⟩ := h
                            obtain ⟨z57, h⟩ := h
                            obtain ⟨z58, h⟩ := h
                            obtain ⟨z59, h⟩ := h
                            obtain ⟨z60, h⟩ := h
                            refine x_callSW (as := [.ref (ρ26 a1), .int (p3 &&& 1), .int r18, .int (1 + r19), .int (1 + r20), .int x8, .int 1001]) (rest := []) hC (fun l hl => mL_add l hl G ρ26 a1 (p3 &&& 1) r18 (1 + r19) (1 + r20) x8 1001 σ29 _ h) q295 q296 q0 q297 hdL_add (by decide) ⟨(by decide), (by decide)⟩ (by first | exact Nat.le_of_ble_eq_true rfl | (simp [rv_cat]; done) | (simp (decide := true) [rv_cat, cat_ref, cat_int]; done)) rfl dL_opens_771 (fun E σ9 hx => False.elim hx) (fun v35 σ30 ρ27 hp27 hag27 => ?_)
                            obtain ⟨r29, e8, h⟩ := hp27
                            rw [e8]
                            rw [← (hag27 a1 z51).2, ← (hag27 a5 z52).2, ← (hag27 a7 z53).2, ← (hag27 a8 z54).2, ← (hag27 a9 z55).2, ← (hag27 a10 z56).2, ← (hag27 a11 z57).2, ← (hag27 a12 z58).2, ← (hag27 a13 z59).2, ← (hag27 a14 z60).2]
                            refine xJ.nrm (k' := 60) (n' := 342) (pc' := 774) (st' := [.int r29]) rfl rfl rfl rfl ?_
                            refine x_sipush (v := (-7200)) hC dL_opens_774 (by decide) ?_
                            refine x_icmp_ne (tgt := 801) hC dL_opens_777 (by decide) (fun c42 => ?_) (fun c42 => ?_)
                            · have h := h.1 c42
                              refine x_iconst (v := 0) hC dL_opens_801 (by decide) ?_
                              exact x_zret hC hr zb0 dL_opens_802 (by decide) (by decide) ⟨_, rfl, h⟩
                            · have h := h.2 c42
                              refine x_aload_n hC 7 rfl dL_opens_780 ?_
                              refine x_iload hC 6 rfl dL_opens_781 ?_
                              refine x_iload hC 4 rfl dL_opens_783 ?_
                              refine x_iload hC 3 rfl dL_opens_785 ?_
                              refine x_iload hC 2 rfl dL_opens_787 ?_
                              refine x_iload hC 1 rfl dL_opens_789 ?_
                              refine x_iconst (v := (-1)) hC dL_opens_791 (by decide) ?_
                              obtain ⟨z61, h⟩ := h
                              obtain ⟨z62, h⟩ := h
                              obtain ⟨z63, h⟩ := h
                              obtain ⟨z64, h⟩ := h
                              obtain ⟨z65, h⟩ := h
                              obtain ⟨z66, h⟩ := h
                              obtain ⟨z67, h⟩ := h
                              obtain ⟨z68, h⟩ := h
                              obtain ⟨z69, h⟩ := h
                              obtain ⟨z70, h⟩ := h
                              refine x_callSW (as := [.ref (ρ27 a1), .int (p3 &&& 1), .int r18, .int (1 + r19), .int (1 + r20), .int x8, .int (-1)]) (rest := []) hC (fun l hl => mL_add l hl G ρ27 a1 (p3 &&& 1) r18 (1 + r19) (1 + r20) x8 (-1) σ30 _ h) q295 q296 q0 q297 hdL_add (by decide) ⟨(by decide), (by decide)⟩ (by first | exact Nat.le_of_ble_eq_true rfl | (simp [rv_cat]; done) | (simp (decide := true) [rv_cat, cat_ref, cat_int]; done)) rfl dL_opens_792 (fun E σ9 hx => False.elim hx) (fun v36 σ31 ρ28 hp28 hag28 => ?_)
                              obtain ⟨r30, e8, h⟩ := hp28
                              rw [e8]
                              rw [← (hag28 a1 z61).2, ← (hag28 a5 z62).2, ← (hag28 a7 z63).2, ← (hag28 a8 z64).2, ← (hag28 a9 z65).2, ← (hag28 a10 z66).2, ← (hag28 a11 z67).2, ← (hag28 a12 z68).2, ← (hag28 a13 z69).2, ← (hag28 a14 z70).2]
                              refine xJ.nrm (k' := 70) (n' := 399) (pc' := 795) (st' := [.int r30]) rfl rfl rfl rfl ?_
                              refine x_sipush (v := (-7200)) hC dL_opens_795 (by decide) ?_
                              refine x_icmp_eq (tgt := 803) hC dL_opens_798 (by decide) (fun c43 => ?_) (fun c43 => ?_)
                              · have h := h.1 c43
                                refine x_iload hC 5 rfl dL_opens_803 ?_
                                refine x_if_ne (tgt := 835) hC dL_opens_805 (by decide) (fun _ => ?_) (fun c44 => absurd c44 c35)
                                refine x_aload hC 16 rfl dL_opens_835 ?_
                                refine x_iconst (v := 2) hC dL_opens_837 (by decide) ?_
                                obtain ⟨k7, h⟩ := h
                                obtain ⟨v37, h⟩ := h
                                refine x_iald (a := a14) hC k7 v37 dL_opens_838 ?_
                                refine x_bipush (v := 10) hC dL_opens_839 (by decide) ?_
                                refine x_icmp_ne (tgt := 862) hC dL_opens_841 (by decide) (fun c45 => ?_) (fun c45 => ?_)
                                · have h := h.1 c45
                                  refine x_aload hC 9 rfl dL_opens_862 ?_
                                  refine x_aload hC 16 rfl dL_opens_864 ?_
                                  refine x_iconst (v := 2) hC dL_opens_866 (by decide) ?_
                                  refine x_iald (a := a14) hC k7 v37 dL_opens_867 ?_
                                  refine x_iload hC 6 rfl dL_opens_868 ?_
                                  refine x_iconst (v := 2) hC dL_opens_870 (by decide) ?_
                                  refine x_iload hC 4 rfl dL_opens_871 ?_
                                  refine x_imul hC dL_opens_873 ?_
                                  refine x_iadd hC dL_opens_874 ?_
                                  refine x_bipush (v := 32) hC dL_opens_875 (by decide) ?_
                                  refine x_iload hC 3 rfl dL_opens_877 ?_
                                  refine x_imul hC dL_opens_879 ?_
                                  refine x_iadd hC dL_opens_880 ?_
                                  refine x_sipush (v := 1024) hC dL_opens_881 (by decide) ?_
                                  refine x_iload hC 2 rfl dL_opens_884 ?_
                                  refine x_imul hC dL_opens_886 ?_
                                  refine x_iadd hC dL_opens_887 ?_
                                  refine x_iload hC 1 rfl dL_opens_888 ?_
                                  refine xJ.jV (pcJ := 900) (stJ := [.int ((((p3 &&& 1) + (2 * r18)) + (32 * (1 + r19))) + (1024 * (1 + r20))), .int (hI σ31 a14 (Int32.toNatClampNeg 2)), .ref (ρ28 a7)]) h (fun x10 h => ?_) (fun K10 hk10 h => ?_)
                                  · refine x_iadd hC dL_opens_900 ?_
                                    refine x_sipush (v := 16384) hC dL_opens_901 (by decide) ?_
                                    refine x_iadd hC dL_opens_904 ?_
                                    refine x_ldc (v := 32768) hC q431 dL_opens_905 ?_
                                    refine x_iload hC 0 rfl dL_opens_907 ?_
                                    refine x_imul hC dL_opens_909 ?_
                                    refine x_iadd hC dL_opens_910 ?_
                                    obtain ⟨k8, h⟩ := h
                                    obtain ⟨v38, h⟩ := h
                                    refine x_iast (a := a7) hC k8 v38 dL_opens_911 ?_
                                    refine xJ.nmH (fun σ32 e3 => ?_)
                                    have h := h σ32 e3
                                    have r31 : hR σ32 = hR σ31 ∧ hL σ32 = hL σ31 := by rw [e3]; exact ⟨rfl, rfl⟩
                                    refine x_aload hC 10 rfl dL_opens_912 ?_
                                    refine x_aload hC 16 rfl dL_opens_914 ?_
                                    refine x_iconst (v := 2) hC dL_opens_916 (by decide) ?_
                                    have k9 : hK σ32 a14 = 9 := by rw [e3]; exact k7
                                    refine x_iald (a := a14) hC k9 (by rw [r31.2]; exact v37) dL_opens_917 ?_
                                    refine x_aload hC 16 rfl dL_opens_918 ?_
                                    refine x_iconst (v := 0) hC dL_opens_920 (by decide) ?_
                                    obtain ⟨v39, h⟩ := h
                                    refine x_iald (a := a14) hC k9 (by rw [r31.2]; exact v39) dL_opens_921 ?_
                                    obtain ⟨k10, h⟩ := h
                                    obtain ⟨v40, h⟩ := h
                                    refine x_iast (a := a8) hC k10 (by rw [r31.2]; exact v40) dL_opens_922 ?_
                                    refine xJ.nmH (fun σ33 e4 => ?_)
                                    have h := h σ33 e4
                                    have r32 : hR σ33 = hR σ31 ∧ hL σ33 = hL σ31 := by rw [e4]; exact ⟨r31.1, r31.2⟩
                                    refine x_aload hC 12 rfl dL_opens_923 ?_
                                    refine x_aload hC 16 rfl dL_opens_925 ?_
                                    refine x_iconst (v := 2) hC dL_opens_927 (by decide) ?_
                                    have k11 : hK σ33 a14 = 9 := by rw [e4]; exact k9
                                    refine x_iald (a := a14) hC k11 (by rw [r32.2]; exact v37) dL_opens_928 ?_
                                    refine x_iconst (v := 0) hC dL_opens_929 (by decide) ?_
                                    obtain ⟨k12, h⟩ := h
                                    obtain ⟨v41, h⟩ := h
                                    refine x_iast (a := a10) hC k12 (by rw [r32.2]; exact v41) dL_opens_930 ?_
                                    refine xJ.nmH (fun σ34 e5 => ?_)
                                    have h := h σ34 e5
                                    have r33 : hR σ34 = hR σ31 ∧ hL σ34 = hL σ31 := by rw [e5]; exact ⟨r32.1, r32.2⟩
                                    refine x_aload hC 13 rfl dL_opens_931 ?_
                                    refine x_aload hC 16 rfl dL_opens_933 ?_
                                    refine x_iconst (v := 2) hC dL_opens_935 (by decide) ?_
                                    have k13 : hK σ34 a14 = 9 := by rw [e5]; exact k11
                                    refine x_iald (a := a14) hC k13 (by rw [r33.2]; exact v37) dL_opens_936 ?_
                                    refine x_iconst (v := 0) hC dL_opens_937 (by decide) ?_
                                    obtain ⟨k14, h⟩ := h
                                    obtain ⟨v42, h⟩ := h
                                    refine x_iast (a := a11) hC k14 (by rw [r33.2]; exact v42) dL_opens_938 ?_
                                    refine xJ.nmH (fun σ35 e6 => ?_)
                                    have h := h σ35 e6
                                    have r34 : hR σ35 = hR σ31 ∧ hL σ35 = hL σ31 := by rw [e6]; exact ⟨r33.1, r33.2⟩
                                    refine x_aload hC 14 rfl dL_opens_939 ?_
                                    refine x_aload hC 16 rfl dL_opens_941 ?_
                                    refine x_iconst (v := 2) hC dL_opens_943 (by decide) ?_
                                    have k15 : hK σ35 a14 = 9 := by rw [e6]; exact k13
                                    refine x_iald (a := a14) hC k15 (by rw [r34.2]; exact v37) dL_opens_944 ?_
                                    refine x_iconst (v := 0) hC dL_opens_945 (by decide) ?_
                                    obtain ⟨k16, h⟩ := h
                                    obtain ⟨v43, h⟩ := h
                                    refine x_iast (a := a12) hC k16 (by rw [r34.2]; exact v43) dL_opens_946 ?_
                                    refine xJ.nmH (fun σ36 e7 => ?_)
                                    have h := h σ36 e7
                                    have r35 : hR σ36 = hR σ31 ∧ hL σ36 = hL σ31 := by rw [e7]; exact ⟨r34.1, r34.2⟩
                                    refine x_aload hC 16 rfl dL_opens_947 ?_
                                    refine x_iconst (v := 2) hC dL_opens_949 (by decide) ?_
                                    have k17 : hK σ36 a14 = 9 := by rw [e7]; exact k15
                                    refine x_iald (a := a14) hC k17 (by rw [r35.2]; exact v37) dL_opens_950 ?_
                                    refine x_aload hC 8 rfl dL_opens_951 ?_
                                    refine x_aload hC 9 rfl dL_opens_953 ?_
                                    refine x_aload hC 11 rfl dL_opens_955 ?_
                                    refine x_aload hC 12 rfl dL_opens_957 ?_
                                    refine x_aload hC 13 rfl dL_opens_959 ?_
                                    refine x_aload hC 15 rfl dL_opens_961 ?_
                                    refine x_callS (as := [.int (hI σ36 a14 (Int32.toNatClampNeg 2)), .ref (ρ28 a5), .ref (ρ28 a7), .ref (ρ28 a9), .ref (ρ28 a10), .ref (ρ28 a11), .ref (ρ28 a13)]) (rest := []) hC (fun l hl => mL_sample l hl G ρ28 (hI σ36 a14 (Int32.toNatClampNeg 2)) a5 a7 a9 a10 a11 a13 σ36 _ h) q432 q433 q0 q434 hdL_sample (by decide) ⟨(by decide), (by decide)⟩ (by first | exact Nat.le_of_ble_eq_true rfl | (simp [rv_cat]; done) | (simp (decide := true) [rv_cat, cat_ref, cat_int]; done)) rfl dL_opens_963 (fun E σ9 hx => False.elim hx) (fun v44 σ37 ρ29 hp29 hag29 => ?_)
                                    obtain ⟨e9, e8, h⟩ := hp29
                                    rw [e8, e9]
                                    refine xJ.nrm (k' := 70) (n' := 399) (pc' := 966) (st' := []) rfl rfl rfl rfl ?_
                                    refine x_aload hC 16 rfl dL_opens_966 ?_
                                    refine x_iconst (v := 2) hC dL_opens_968 (by decide) ?_
                                    refine x_dup2 hC (by first | rfl | exact rv_cat) (by first | rfl | exact rv_cat) dL_opens_969 ?_
                                    have k18 : hK σ37 a14 = 9 := (hag29 a14 (by rw [k17]; decide)).1.trans k17
                                    obtain ⟨v45, h⟩ := h
                                    refine x_iald (a := a14) hC k18 v45 dL_opens_970 ?_
                                    refine x_iconst (v := 1) hC dL_opens_971 (by decide) ?_
                                    refine x_iadd hC dL_opens_972 ?_
                                    refine x_iast (a := a14) hC k18 v45 dL_opens_973 ?_
                                    refine xJ.nmH (fun σ38 e8 => ?_)
                                    have h := h σ38 e8
                                    have r36 : hR σ38 = hR σ37 ∧ hL σ38 = hL σ37 := by rw [e8]; exact ⟨rfl, rfl⟩
                                    refine x_aload_n hC 7 rfl dL_opens_974 ?_
                                    refine x_iload hC 6 rfl dL_opens_975 ?_
                                    refine x_iload hC 4 rfl dL_opens_977 ?_
                                    refine x_iload hC 3 rfl dL_opens_979 ?_
                                    refine x_iload hC 2 rfl dL_opens_981 ?_
                                    refine x_iload hC 1 rfl dL_opens_983 ?_
                                    refine x_iload hC 0 rfl dL_opens_985 ?_
                                    have k19 : hK σ38 a14 = 9 := by rw [e8]; exact k18
                                    refine xJ.sub (L' := [(13, .ref (ρ28 a14))]) [16] rfl ?_
                                    refine x_callSW (as := [.ref (ρ28 a1), .int (p3 &&& 1), .int r18, .int (1 + r19), .int (1 + r20), .int x8, .int x9]) (rest := []) hC (fun l hl => mL_add l hl G ρ28 a1 (p3 &&& 1) r18 (1 + r19) (1 + r20) x8 x9 σ38 _ h) q295 q296 q0 q297 hdL_add (by decide) ⟨(by decide), (by decide)⟩ (by first | exact Nat.le_of_ble_eq_true rfl | (simp [rv_cat]; done) | (simp (decide := true) [rv_cat, cat_ref, cat_int]; done)) rfl dL_opens_987 (fun E σ9 hx => False.elim hx) (fun v46 σ39 ρ30 hp30 hag30 => ?_)
                                    obtain ⟨r37, e8, h⟩ := hp30
                                    rw [e8]
                                    rw [← (hag30 a14 (by rw [k19]; decide)).2]
                                    refine xJ.nrm (k' := 80) (n' := 456) (pc' := 990) (st' := [.int r37]) rfl rfl rfl rfl ?_
                                    refine x_aload hC 0 rfl dL_opens_990 ?_
                                    refine x_iconst (v := 2) hC dL_opens_992 (by decide) ?_
                                    have k20 : hK σ39 a14 = 9 := (hag30 a14 (by rw [k19]; decide)).1.trans k19
                                    obtain ⟨v47, h⟩ := h
                                    refine x_iald (a := a14) hC k20 v47 dL_opens_993 ?_
                                    refine x_iconst (v := 1) hC dL_opens_994 (by decide) ?_
                                    refine x_isub hC dL_opens_995 ?_
                                    refine x_icmp_ne (tgt := 1003) hC dL_opens_996 (by decide) (fun c47 => ?_) (fun c47 => ?_)
                                    · have h := h.1 c47
                                      refine x_iconst (v := 0) hC dL_opens_1003 (by decide) ?_
                                      exact x_zret hC hr zb0 dL_opens_1004 (by decide) (by decide) ⟨_, rfl, h⟩
                                    · have h := h.2 c47
                                      refine x_iconst (v := 1) hC dL_opens_999 (by decide) ?_
                                      refine x_goto (tgt := 1004) hC dL_opens_1000 (by decide) ?_
                                      exact x_zret hC hr zb1 dL_opens_1004 (by decide) (by decide) ⟨_, rfl, h⟩
                                  · refine x_if_eq (tgt := 899) hC dL_opens_890 (by decide) (fun c46 => ?_) (fun c46 => ?_)
                                    · have h := h.1 c46
                                      refine x_iconst (v := 0) hC dL_opens_899 (by decide) ?_
                                      exact hk10 _ h
                                    · have h := h.2 c46
                                      refine x_sipush (v := 8192) hC dL_opens_893 (by decide) ?_
                                      refine x_goto (tgt := 900) hC dL_opens_896 (by decide) ?_
                                      exact hk10 _ h
                                · have h := h.2 c45
                                  refine x_aload_n hC 7 rfl dL_opens_844 ?_
                                  refine x_bipush (v := 10) hC dL_opens_845 (by decide) ?_
                                  refine x_callSW (as := [.ref (ρ28 a1), .int 10]) (rest := []) hC (fun l hl => mL_queued l hl G ρ28 a1 10 σ31 _ h) q418 q419 q0 q420 hdL_queued (by decide) ⟨(by decide), (by decide)⟩ (by first | exact Nat.le_of_ble_eq_true rfl | (simp [rv_cat]; done) | (simp (decide := true) [rv_cat, cat_ref, cat_int]; done)) rfl dL_opens_847 (fun E σ9 hx => False.elim hx) (fun v48 σ40 ρ31 hp31 hag31 => ?_)
                                  obtain ⟨e9, r38, e8, h⟩ := hp31
                                  rw [e8, e9]
                                  refine xJ.nrm (k' := 71) (n' := 405) (pc' := 850) (st' := [.int r38]) rfl rfl rfl rfl ?_
                                  refine x_sipush (v := (-7100)) hC dL_opens_850 (by decide) ?_
                                  refine x_icmp_ne (tgt := 860) hC dL_opens_853 (by decide) (fun c48 => ?_) (fun c48 => ?_)
                                  · have h := h.1 c48
                                    refine x_iconst (v := 0) hC dL_opens_860 (by decide) ?_
                                    exact x_zret hC hr zb0 dL_opens_861 (by decide) (by decide) ⟨_, rfl, h⟩
                                  · have h := h.2 c48
                                    refine x_iconst (v := 1) hC dL_opens_856 (by decide) ?_
                                    refine x_goto (tgt := 861) hC dL_opens_857 (by decide) ?_
                                    exact x_zret hC hr zb1 dL_opens_861 (by decide) (by decide) ⟨_, rfl, h⟩
                              · have h := h.2 c43
                                refine x_iconst (v := 0) hC dL_opens_801 (by decide) ?_
                                exact x_zret hC hr zb0 dL_opens_802 (by decide) (by decide) ⟨_, rfl, h⟩
              · refine x_if_ne (tgt := 636) hC dL_opens_620 (by decide) (fun c33 => ?_) (fun c33 => ?_)
                · have h := h.1 c33
                  refine x_iload_n hC 8 rfl dL_opens_636 ?_
                  refine x_bipush (v := 7) hC dL_opens_637 (by decide) ?_
                  refine x_ishr hC dL_opens_639 ?_
                  refine x_iconst (v := 4) hC dL_opens_640 (by decide) ?_
                  refine x_callS (as := [.int (p3 >>> (7 &&& 31)), .int 4]) (rest := []) hC (fun l hl => mL_low l hl G ρ (p3 >>> (7 &&& 31)) 4 σ20 _ h) q81 q82 q0 q83 hdL_low (by decide) ⟨(by decide), (by decide)⟩ (by first | exact Nat.le_of_ble_eq_true rfl | (simp [rv_cat]; done) | (simp (decide := true) [rv_cat, cat_ref, cat_int]; done)) rfl dL_opens_641 (fun E σ9 hx => False.elim hx) (fun v27 σ21 ρ19 hp19 hag19 => ?_)
                  obtain ⟨e9, r21, e8, h⟩ := hp19
                  rw [e8, e9]
                  refine xJ.nrm (k' := 0) (n' := 0) (pc' := 644) (st' := [.int r21]) rfl rfl rfl rfl ?_
                  exact hk9 _ _ h
                · have h := h.2 c33
                  refine x_iload_n hC 8 rfl dL_opens_623 ?_
                  refine x_bipush (v := 7) hC dL_opens_624 (by decide) ?_
                  refine x_ishr hC dL_opens_626 ?_
                  refine x_sipush (v := 1001) hC dL_opens_627 (by decide) ?_
                  refine x_callS (as := [.int (p3 >>> (7 &&& 31)), .int 1001]) (rest := []) hC (fun l hl => mL_low l hl G ρ (p3 >>> (7 &&& 31)) 1001 σ20 _ h) q81 q82 q0 q83 hdL_low (by decide) ⟨(by decide), (by decide)⟩ (by first | exact Nat.le_of_ble_eq_true rfl | (simp [rv_cat]; done) | (simp (decide := true) [rv_cat, cat_ref, cat_int]; done)) rfl dL_opens_630 (fun E σ9 hx => False.elim hx) (fun v28 σ22 ρ20 hp20 hag20 => ?_)
                  obtain ⟨e9, r22, e8, h⟩ := hp20
                  rw [e8, e9]
                  refine xJ.nrm (k' := 0) (n' := 0) (pc' := 633) (st' := [.int r22]) rfl rfl rfl rfl ?_
                  refine x_goto (tgt := 644) hC dL_opens_633 (by decide) ?_
                  exact hk9 _ _ h
            · refine x_if_ne (tgt := 613) hC dL_opens_606 (by decide) (fun c32 => ?_) (fun c32 => ?_)
              · have h := h.1 c32
                refine x_iconst (v := 0) hC dL_opens_613 (by decide) ?_
                exact hk8 _ h
              · have h := h.2 c32
                refine x_iconst (v := 1) hC dL_opens_609 (by decide) ?_
                refine x_goto (tgt := 614) hC dL_opens_610 (by decide) ?_
                exact hk8 _ h
          · refine x_if_ne (tgt := 582) hC dL_opens_574 (by decide) (fun c31 => ?_) (fun c31 => ?_)
            · have h := h.1 c31
              refine x_iconst (v := 3) hC dL_opens_582 (by decide) ?_
              exact hk7 _ h
            · have h := h.2 c31
              refine x_bipush (v := 20) hC dL_opens_577 (by decide) ?_
              refine x_goto (tgt := 583) hC dL_opens_579 (by decide) ?_
              exact hk7 _ h
      · have h := h.2 c4
        refine x_iload hC 0 rfl dL_opens_420 ?_
        refine x_if_eq (tgt := 433) hC dL_opens_422 (by decide) (fun c49 => ?_) (fun c49 => ?_)
        · have h := h.1 c49
          refine x_iload hC 0 rfl dL_opens_433 ?_
          refine x_if_eq (tgt := 457) hC dL_opens_435 (by decide) (fun _ => ?_) (fun c50 => absurd c49 c50)
          refine x_aload_n hC 2 rfl dL_opens_457 ?_
          refine x_iload hC 1 rfl dL_opens_458 ?_
          refine x_callSW (as := [.ref (ρ a1), .int (p3 &&& 1)]) (rest := []) hC (fun l hl => mL_close l hl G ρ a1 (p3 &&& 1) σ _ h) q266 q267 q0 q268 hdL_close (by decide) ⟨(by decide), (by decide)⟩ (by first | exact Nat.le_of_ble_eq_true rfl | (simp [rv_cat]; done) | (simp (decide := true) [rv_cat, cat_ref, cat_int]; done)) rfl dL_opens_460 (fun E σ9 hx => False.elim hx) (fun v49 σ41 ρ32 hp32 hag32 => ?_)
          obtain ⟨e9, r39, e8, h⟩ := hp32
          rw [e8, e9]
          refine xJ.nrm (k' := 1) (n' := 6) (pc' := 463) (st' := [.int r39]) rfl rfl rfl rfl ?_
          refine x_sipush (v := (-7100)) hC dL_opens_463 (by decide) ?_
          refine x_icmp_ne (tgt := 484) hC dL_opens_466 (by decide) (fun c51 => ?_) (fun c51 => ?_)
          · have h := h.1 c51
            refine x_iconst (v := 0) hC dL_opens_484 (by decide) ?_
            exact x_zret hC hr zb0 dL_opens_485 (by decide) (by decide) ⟨_, rfl, h⟩
          · have h := h.2 c51
            refine x_aload_n hC 2 rfl dL_opens_469 ?_
            refine x_iconst (v := (-1)) hC dL_opens_470 (by decide) ?_
            refine x_callSW (as := [.ref (ρ a1), .int (-1)]) (rest := []) hC (fun l hl => mL_close l hl G ρ a1 (-1) σ41 _ h) q266 q267 q0 q268 hdL_close (by decide) ⟨(by decide), (by decide)⟩ (by first | exact Nat.le_of_ble_eq_true rfl | (simp [rv_cat]; done) | (simp (decide := true) [rv_cat, cat_ref, cat_int]; done)) rfl dL_opens_471 (fun E σ9 hx => False.elim hx) (fun v50 σ42 ρ33 hp33 hag33 => ?_)
            obtain ⟨e9, r40, e8, h⟩ := hp33
            rw [e8, e9]
            refine xJ.nrm (k' := 2) (n' := 12) (pc' := 474) (st' := [.int r40]) rfl rfl rfl rfl ?_
            refine x_sipush (v := (-7100)) hC dL_opens_474 (by decide) ?_
            refine x_icmp_ne (tgt := 484) hC dL_opens_477 (by decide) (fun c52 => ?_) (fun c52 => ?_)
            · have h := h.1 c52
              refine x_iconst (v := 0) hC dL_opens_484 (by decide) ?_
              exact x_zret hC hr zb0 dL_opens_485 (by decide) (by decide) ⟨_, rfl, h⟩
            · have h := h.2 c52
              refine x_iconst (v := 1) hC dL_opens_480 (by decide) ?_
              refine x_goto (tgt := 485) hC dL_opens_481 (by decide) ?_
              exact x_zret hC hr zb1 dL_opens_485 (by decide) (by decide) ⟨_, rfl, h⟩
        · have h := h.2 c49
          refine x_iload_n hC 5 rfl dL_opens_425 ?_
          refine x_sipush (v := 1792) hC dL_opens_426 (by decide) ?_
          refine x_iand hC dL_opens_429 ?_
          refine x_if_le (tgt := 486) hC dL_opens_430 (by decide) (fun c53 => ?_) (fun c53 => ?_)
          · have h := h.1 c53
            refine x_iconst (v := 0) hC dL_opens_486 (by decide) ?_
            refine x_istore (L' := [(16, .int 0), (15, .int x1), (14, .int (p3 &&& 1)), (0, .ref (ρ a1)), (1, .int p2), (2, .int p3), (3, .int p4), (4, .ref (ρ a5)), (5, .ref (ρ a6)), (6, .ref (ρ a7)), (7, .ref (ρ a8)), (8, .ref (ρ a9)), (9, .ref (ρ a10)), (10, .ref (ρ a11)), (11, .ref (ρ a12)), (12, .ref (ρ a13)), (13, .ref (ρ a14))]) hC dL_opens_487 (by decide) (by first | rfl | simp (decide := true) [rv_cat, cat_ref, cat_int]) ?_
            refine x_iconst (v := 0) hC dL_opens_489 (by decide) ?_
            refine x_istore (L' := [(17, .int 0), (16, .int 0), (15, .int x1), (14, .int (p3 &&& 1)), (0, .ref (ρ a1)), (1, .int p2), (2, .int p3), (3, .int p4), (4, .ref (ρ a5)), (5, .ref (ρ a6)), (6, .ref (ρ a7)), (7, .ref (ρ a8)), (8, .ref (ρ a9)), (9, .ref (ρ a10)), (10, .ref (ρ a11)), (11, .ref (ρ a12)), (12, .ref (ρ a13)), (13, .ref (ρ a14))]) hC dL_opens_490 (by decide) (by first | rfl | simp (decide := true) [rv_cat, cat_ref, cat_int]) ?_
            refine xJ.sub (L' := [(0, .ref (ρ a1)), (5, .ref (ρ a6)), (6, .ref (ρ a7)), (13, .ref (ρ a14)), (14, .int (p3 &&& 1)), (16, .int 0), (17, .int 0)]) [4, 9, 10, 17, 3, 1, 0] rfl ?_
            obtain ⟨f492, h⟩ := h
            refine mlL_opens_492 hC hr htab a1 p3 a6 a7 a14 h0 (0) (0) (by decide) (by decide) _ Q _ f492 _ _ _ h (fun y1 y2 τ1 h => ?_)
            refine x_aload hC 1 rfl dL_opens_529 ?_
            refine x_bipush (v := 11) hC dL_opens_531 (by decide) ?_
            refine x_iload hC 4 rfl dL_opens_533 ?_
            refine x_imul hC dL_opens_535 ?_
            refine x_iconst (v := 0) hC dL_opens_536 (by decide) ?_
            obtain ⟨k23, h⟩ := h
            obtain ⟨v53, h⟩ := h
            refine x_iast (a := a6) hC k23 v53 dL_opens_537 ?_
            refine xJ.nmH (fun σ43 e9 => ?_)
            have h := h σ43 e9
            have r41 : hR σ43 = hR τ1 ∧ hL σ43 = hL τ1 := by rw [e9]; exact ⟨rfl, rfl⟩
            refine x_aload_n hC 0 rfl dL_opens_538 ?_
            refine x_iload hC 4 rfl dL_opens_539 ?_
            refine x_callSW (as := [.ref (ρ a1), .int (p3 &&& 1)]) (rest := []) hC (fun l hl => mL_close l hl G ρ a1 (p3 &&& 1) σ43 _ h) q266 q267 q0 q268 hdL_close (by decide) ⟨(by decide), (by decide)⟩ (by first | exact Nat.le_of_ble_eq_true rfl | (simp [rv_cat]; done) | (simp (decide := true) [rv_cat, cat_ref, cat_int]; done)) rfl dL_opens_541 (fun E σ9 hx => False.elim hx) (fun v54 σ44 ρ34 hp34 hag34 => ?_)
            obtain ⟨e9, r42, e8, h⟩ := hp34
            rw [e8, e9]
            refine xJ.nrm (k' := 1) (n' := 6) (pc' := 544) (st' := [.int r42]) rfl rfl rfl rfl ?_
            refine x_iload hC 5 rfl dL_opens_544 ?_
            refine x_icmp_ne (tgt := 553) hC dL_opens_546 (by decide) (fun c56 => ?_) (fun c56 => ?_)
            · have h := h.1 c56
              refine x_iconst (v := 0) hC dL_opens_553 (by decide) ?_
              exact x_zret hC hr zb0 dL_opens_554 (by decide) (by decide) ⟨_, rfl, h⟩
            · have h := h.2 c56
              refine x_iconst (v := 1) hC dL_opens_549 (by decide) ?_
              refine x_goto (tgt := 554) hC dL_opens_550 (by decide) ?_
              exact x_zret hC hr zb1 dL_opens_554 (by decide) (by decide) ⟨_, rfl, h⟩
          · have h := h.2 c53
            refine x_iload hC 0 rfl dL_opens_433 ?_
            refine x_if_eq (tgt := 457) hC dL_opens_435 (by decide) (fun c57 => absurd c57 c49) (fun _ => ?_)
            refine x_aload_n hC 2 rfl dL_opens_438 ?_
            refine x_iconst (v := 3) hC dL_opens_439 (by decide) ?_
            refine x_callSW (as := [.ref (ρ a1), .int 3]) (rest := []) hC (fun l hl => mL_close l hl G ρ a1 3 σ _ h) q266 q267 q0 q268 hdL_close (by decide) ⟨(by decide), (by decide)⟩ (by first | exact Nat.le_of_ble_eq_true rfl | (simp [rv_cat]; done) | (simp (decide := true) [rv_cat, cat_ref, cat_int]; done)) rfl dL_opens_440 (fun E σ9 hx => False.elim hx) (fun v55 σ45 ρ35 hp35 hag35 => ?_)
            obtain ⟨e9, r43, e8, h⟩ := hp35
            rw [e8, e9]
            refine xJ.nrm (k' := 1) (n' := 6) (pc' := 443) (st' := [.int r43]) rfl rfl rfl rfl ?_
            refine x_sipush (v := (-7100)) hC dL_opens_443 (by decide) ?_
            refine x_icmp_ne (tgt := 453) hC dL_opens_446 (by decide) (fun c58 => ?_) (fun c58 => ?_)
            · have h := h.1 c58
              refine x_iconst (v := 0) hC dL_opens_453 (by decide) ?_
              refine x_goto (tgt := 485) hC dL_opens_454 (by decide) ?_
              exact x_zret hC hr zb0 dL_opens_485 (by decide) (by decide) ⟨_, rfl, h⟩
            · have h := h.2 c58
              refine x_iconst (v := 1) hC dL_opens_449 (by decide) ?_
              refine x_goto (tgt := 485) hC dL_opens_450 (by decide) ?_
              exact x_zret hC hr zb1 dL_opens_485 (by decide) (by decide) ⟨_, rfl, h⟩
    · have h := h.2 c3
      refine x_iconst (v := 1) hC dL_opens_37 (by decide) ?_
      refine x_iload_n hC 5 rfl dL_opens_38 ?_
      refine x_iload_n hC 5 rfl dL_opens_39 ?_
      refine x_bipush (v := 96) hC dL_opens_40 (by decide) ?_
      refine x_iand hC dL_opens_42 ?_
      refine xJ.jV (pcJ := 52) (stJ := [.int p4, .int 1]) h (fun x11 h => ?_) (fun K11 hk11 h => ?_)
      · refine x_callS (as := [.int p4, .int x11]) (rest := [.int 1]) hC (fun l hl => mL_low l hl G ρ p4 x11 σ _ h) q81 q82 q0 q83 hdL_low (by decide) ⟨(by decide), (by decide)⟩ (by first | exact Nat.le_of_ble_eq_true rfl | (simp [rv_cat]; done) | (simp (decide := true) [rv_cat, cat_ref, cat_int]; done)) rfl dL_opens_52 (fun E σ9 hx => False.elim hx) (fun v56 σ46 ρ36 hp36 hag36 => ?_)
        obtain ⟨e9, r44, e8, h⟩ := hp36
        rw [e8, e9]
        refine xJ.nrm (k' := 0) (n' := 0) (pc' := 55) (st' := [.int r44, .int 1]) rfl rfl rfl rfl ?_
        refine x_iadd hC dL_opens_55 ?_
        refine x_istore (L' := [(16, .int (1 + r44)), (15, .int x1), (14, .int (p3 &&& 1)), (0, .ref (ρ a1)), (1, .int p2), (2, .int p3), (3, .int p4), (4, .ref (ρ a5)), (5, .ref (ρ a6)), (6, .ref (ρ a7)), (7, .ref (ρ a8)), (8, .ref (ρ a9)), (9, .ref (ρ a10)), (10, .ref (ρ a11)), (11, .ref (ρ a12)), (12, .ref (ρ a13)), (13, .ref (ρ a14))]) hC dL_opens_56 (by decide) (by first | rfl | simp (decide := true) [rv_cat, cat_ref, cat_int]) ?_
        refine x_iconst (v := 1) hC dL_opens_58 (by decide) ?_
        refine x_iload_n hC 6 rfl dL_opens_59 ?_
        refine x_bipush (v := 7) hC dL_opens_60 (by decide) ?_
        refine x_ishr hC dL_opens_62 ?_
        refine x_bipush (v := 10) hC dL_opens_63 (by decide) ?_
        refine x_callS (as := [.int (p4 >>> (7 &&& 31)), .int 10]) (rest := [.int 1]) hC (fun l hl => mL_low l hl G ρ (p4 >>> (7 &&& 31)) 10 σ46 _ h) q81 q82 q0 q83 hdL_low (by decide) ⟨(by decide), (by decide)⟩ (by first | exact Nat.le_of_ble_eq_true rfl | (simp [rv_cat]; done) | (simp (decide := true) [rv_cat, cat_ref, cat_int]; done)) rfl dL_opens_65 (fun E σ9 hx => False.elim hx) (fun v57 σ47 ρ37 hp37 hag37 => ?_)
        obtain ⟨e9, r45, e8, h⟩ := hp37
        rw [e8, e9]
        refine xJ.nrm (k' := 0) (n' := 0) (pc' := 68) (st' := [.int r45, .int 1]) rfl rfl rfl rfl ?_
        refine x_iadd hC dL_opens_68 ?_
        refine x_istore (L' := [(17, .int (1 + r45)), (16, .int (1 + r44)), (15, .int x1), (14, .int (p3 &&& 1)), (0, .ref (ρ a1)), (1, .int p2), (2, .int p3), (3, .int p4), (4, .ref (ρ a5)), (5, .ref (ρ a6)), (6, .ref (ρ a7)), (7, .ref (ρ a8)), (8, .ref (ρ a9)), (9, .ref (ρ a10)), (10, .ref (ρ a11)), (11, .ref (ρ a12)), (12, .ref (ρ a13)), (13, .ref (ρ a14))]) hC dL_opens_69 (by decide) (by first | rfl | simp (decide := true) [rv_cat, cat_ref, cat_int]) ?_
        refine x_iconst (v := 1) hC dL_opens_71 (by decide) ?_
        refine x_iload_n hC 6 rfl dL_opens_72 ?_
        refine x_iload_n hC 6 rfl dL_opens_73 ?_
        refine x_bipush (v := 96) hC dL_opens_74 (by decide) ?_
        refine x_iand hC dL_opens_76 ?_
        refine xJ.jV (pcJ := 87) (stJ := [.int p3, .int 1]) h (fun x12 h => ?_) (fun K12 hk12 h => ?_)
        · refine x_callS (as := [.int p3, .int x12]) (rest := [.int 1]) hC (fun l hl => mL_low l hl G ρ p3 x12 σ47 _ h) q81 q82 q0 q83 hdL_low (by decide) ⟨(by decide), (by decide)⟩ (by first | exact Nat.le_of_ble_eq_true rfl | (simp [rv_cat]; done) | (simp (decide := true) [rv_cat, cat_ref, cat_int]; done)) rfl dL_opens_87 (fun E σ9 hx => False.elim hx) (fun v58 σ48 ρ38 hp38 hag38 => ?_)
          obtain ⟨e9, r46, e8, h⟩ := hp38
          rw [e8, e9]
          refine xJ.nrm (k' := 0) (n' := 0) (pc' := 90) (st' := [.int r46, .int 1]) rfl rfl rfl rfl ?_
          refine x_iadd hC dL_opens_90 ?_
          refine x_istore (L' := [(18, .int (1 + r46)), (17, .int (1 + r45)), (16, .int (1 + r44)), (15, .int x1), (14, .int (p3 &&& 1)), (0, .ref (ρ a1)), (1, .int p2), (2, .int p3), (3, .int p4), (4, .ref (ρ a5)), (5, .ref (ρ a6)), (6, .ref (ρ a7)), (7, .ref (ρ a8)), (8, .ref (ρ a9)), (9, .ref (ρ a10)), (10, .ref (ρ a11)), (11, .ref (ρ a12)), (12, .ref (ρ a13)), (13, .ref (ρ a14))]) hC dL_opens_91 (by decide) (by first | rfl | simp (decide := true) [rv_cat, cat_ref, cat_int]) ?_
          refine x_iload_n hC 7 rfl dL_opens_93 ?_
          refine x_bipush (v := 7) hC dL_opens_94 (by decide) ?_
          refine x_ishr hC dL_opens_96 ?_
          refine x_bipush (v := 10) hC dL_opens_97 (by decide) ?_
          refine x_callS (as := [.int (p3 >>> (7 &&& 31)), .int 10]) (rest := []) hC (fun l hl => mL_low l hl G ρ (p3 >>> (7 &&& 31)) 10 σ48 _ h) q81 q82 q0 q83 hdL_low (by decide) ⟨(by decide), (by decide)⟩ (by first | exact Nat.le_of_ble_eq_true rfl | (simp [rv_cat]; done) | (simp (decide := true) [rv_cat, cat_ref, cat_int]; done)) rfl dL_opens_99 (fun E σ9 hx => False.elim hx) (fun v59 σ49 ρ39 hp39 hag39 => ?_)
          obtain ⟨e9, r47, e8, h⟩ := hp39
          rw [e8, e9]
          refine xJ.nrm (k' := 0) (n' := 0) (pc' := 102) (st' := [.int r47]) rfl rfl rfl rfl ?_
          refine x_istore (L' := [(19, .int r47), (18, .int (1 + r46)), (17, .int (1 + r45)), (16, .int (1 + r44)), (15, .int x1), (14, .int (p3 &&& 1)), (0, .ref (ρ a1)), (1, .int p2), (2, .int p3), (3, .int p4), (4, .ref (ρ a5)), (5, .ref (ρ a6)), (6, .ref (ρ a7)), (7, .ref (ρ a8)), (8, .ref (ρ a9)), (9, .ref (ρ a10)), (10, .ref (ρ a11)), (11, .ref (ρ a12)), (12, .ref (ρ a13)), (13, .ref (ρ a14))]) hC dL_opens_102 (by decide) (by first | rfl | simp (decide := true) [rv_cat, cat_ref, cat_int]) ?_
          refine x_iconst (v := 1) hC dL_opens_104 (by decide) ?_
          refine x_iload_n hC 9 rfl dL_opens_105 ?_
          refine x_bipush (v := 11) hC dL_opens_106 (by decide) ?_
          refine x_ishr hC dL_opens_108 ?_
          refine x_bipush (v := 6) hC dL_opens_109 (by decide) ?_
          refine x_callS (as := [.int (p4 >>> (11 &&& 31)), .int 6]) (rest := [.int 1]) hC (fun l hl => mL_low l hl G ρ (p4 >>> (11 &&& 31)) 6 σ49 _ h) q81 q82 q0 q83 hdL_low (by decide) ⟨(by decide), (by decide)⟩ (by first | exact Nat.le_of_ble_eq_true rfl | (simp [rv_cat]; done) | (simp (decide := true) [rv_cat, cat_ref, cat_int]; done)) rfl dL_opens_111 (fun E σ9 hx => False.elim hx) (fun v60 σ50 ρ40 hp40 hag40 => ?_)
          obtain ⟨e9, r48, e8, h⟩ := hp40
          rw [e8, e9]
          refine xJ.nrm (k' := 0) (n' := 0) (pc' := 114) (st' := [.int r48, .int 1]) rfl rfl rfl rfl ?_
          refine x_iadd hC dL_opens_114 ?_
          refine x_istore (L' := [(20, .int (1 + r48)), (19, .int r47), (18, .int (1 + r46)), (17, .int (1 + r45)), (16, .int (1 + r44)), (15, .int x1), (14, .int (p3 &&& 1)), (0, .ref (ρ a1)), (1, .int p2), (2, .int p3), (3, .int p4), (4, .ref (ρ a5)), (5, .ref (ρ a6)), (6, .ref (ρ a7)), (7, .ref (ρ a8)), (8, .ref (ρ a9)), (9, .ref (ρ a10)), (10, .ref (ρ a11)), (11, .ref (ρ a12)), (12, .ref (ρ a13)), (13, .ref (ρ a14))]) hC dL_opens_115 (by decide) (by first | rfl | simp (decide := true) [rv_cat, cat_ref, cat_int]) ?_
          refine x_aload_n hC 7 rfl dL_opens_117 ?_
          refine x_iconst (v := 0) hC dL_opens_118 (by decide) ?_
          refine x_iload hC 3 rfl dL_opens_119 ?_
          refine x_iload hC 2 rfl dL_opens_121 ?_
          refine x_iload hC 1 rfl dL_opens_123 ?_
          refine x_iload hC 0 rfl dL_opens_125 ?_
          obtain ⟨z71, h⟩ := h
          obtain ⟨z72, h⟩ := h
          have k24 : hK σ46 a14 = 9 := (hag36 a14 (by rw [k1]; decide)).1.trans k1
          have k25 : hK σ47 a14 = 9 := (hag37 a14 (by rw [k24]; decide)).1.trans k24
          have k26 : hK σ48 a14 = 9 := (hag38 a14 (by rw [k25]; decide)).1.trans k25
          have k27 : hK σ49 a14 = 9 := (hag39 a14 (by rw [k26]; decide)).1.trans k26
          have k28 : hK σ50 a14 = 9 := (hag40 a14 (by rw [k27]; decide)).1.trans k27
          refine xJ.sub (L' := [(20, .int (1 + r48)), (19, .int r47), (18, .int (1 + r46)), (17, .int (1 + r45)), (16, .int (1 + r44)), (0, .ref (ρ a1)), (5, .ref (ρ a6)), (13, .ref (ρ a14))]) [0, 1, 2, 3, 4, 7, 12, 20] rfl ?_
          refine x_callSW (as := [.ref (ρ a1), .int 0, .int (1 + r45), .int (1 + r46), .int r47, .int (1 + r48)]) (rest := []) hC (fun l hl => mL_open l hl G ρ a1 0 (1 + r45) (1 + r46) r47 (1 + r48) σ50 _ h) q87 q88 q0 q89 hdL_open (by decide) ⟨(by decide), (by decide)⟩ (by first | exact Nat.le_of_ble_eq_true rfl | (simp [rv_cat]; done) | (simp (decide := true) [rv_cat, cat_ref, cat_int]; done)) rfl dL_opens_127 (fun E σ9 hx => False.elim hx) (fun v61 σ51 ρ41 hp41 hag41 => ?_)
          obtain ⟨r49, e8, h⟩ := hp41
          rw [e8]
          rw [← (hag41 a1 z71).2, ← (hag41 a6 z72).2, ← (hag41 a14 (by rw [k28]; decide)).2]
          refine xJ.nrm (k' := 9) (n' := 67) (pc' := 130) (st' := [.int r49]) rfl rfl rfl rfl ?_
          refine x_sipush (v := (-7200)) hC dL_opens_130 (by decide) ?_
          refine x_icmp_ne (tgt := 274) hC dL_opens_133 (by decide) (fun c61 => ?_) (fun c61 => ?_)
          · have h := h.1 c61
            refine x_iconst (v := 0) hC dL_opens_274 (by decide) ?_
            exact x_zret hC hr zb0 dL_opens_275 (by decide) (by decide) ⟨_, rfl, h⟩
          · have h := h.2 c61
            refine x_aload_n hC 5 rfl dL_opens_136 ?_
            refine x_bipush (v := 21) hC dL_opens_137 (by decide) ?_
            refine x_iload hC 3 rfl dL_opens_139 ?_
            refine x_iload hC 2 rfl dL_opens_141 ?_
            refine x_iload hC 1 rfl dL_opens_143 ?_
            refine x_iload hC 0 rfl dL_opens_145 ?_
            obtain ⟨z73, h⟩ := h
            obtain ⟨z74, h⟩ := h
            have k29 : hK σ51 a14 = 9 := (hag41 a14 (by rw [k28]; decide)).1.trans k28
            refine x_callSW (as := [.ref (ρ41 a1), .int 21, .int (1 + r45), .int (1 + r46), .int r47, .int (1 + r48)]) (rest := []) hC (fun l hl => mL_open l hl G ρ41 a1 21 (1 + r45) (1 + r46) r47 (1 + r48) σ51 _ h) q87 q88 q0 q89 hdL_open (by decide) ⟨(by decide), (by decide)⟩ (by first | exact Nat.le_of_ble_eq_true rfl | (simp [rv_cat]; done) | (simp (decide := true) [rv_cat, cat_ref, cat_int]; done)) rfl dL_opens_147 (fun E σ9 hx => False.elim hx) (fun v62 σ52 ρ42 hp42 hag42 => ?_)
            obtain ⟨r50, e8, h⟩ := hp42
            rw [e8]
            rw [← (hag42 a1 z73).2, ← (hag42 a6 z74).2, ← (hag42 a14 (by rw [k29]; decide)).2]
            refine xJ.nrm (k' := 18) (n' := 134) (pc' := 150) (st' := [.int r50]) rfl rfl rfl rfl ?_
            refine x_sipush (v := (-7200)) hC dL_opens_150 (by decide) ?_
            refine x_icmp_ne (tgt := 274) hC dL_opens_153 (by decide) (fun c62 => ?_) (fun c62 => ?_)
            · have h := h.1 c62
              refine x_iconst (v := 0) hC dL_opens_274 (by decide) ?_
              exact x_zret hC hr zb0 dL_opens_275 (by decide) (by decide) ⟨_, rfl, h⟩
            · have h := h.2 c62
              refine x_aload_n hC 5 rfl dL_opens_156 ?_
              refine x_iload hC 4 rfl dL_opens_157 ?_
              refine x_bipush (v := 11) hC dL_opens_159 (by decide) ?_
              refine x_iload hC 2 rfl dL_opens_161 ?_
              refine x_iload hC 1 rfl dL_opens_163 ?_
              refine x_iload hC 0 rfl dL_opens_165 ?_
              obtain ⟨z75, h⟩ := h
              obtain ⟨z76, h⟩ := h
              have k30 : hK σ52 a14 = 9 := (hag42 a14 (by rw [k29]; decide)).1.trans k29
              refine x_callSW (as := [.ref (ρ42 a1), .int (1 + r44), .int 11, .int (1 + r46), .int r47, .int (1 + r48)]) (rest := []) hC (fun l hl => mL_open l hl G ρ42 a1 (1 + r44) 11 (1 + r46) r47 (1 + r48) σ52 _ h) q87 q88 q0 q89 hdL_open (by decide) ⟨(by decide), (by decide)⟩ (by first | exact Nat.le_of_ble_eq_true rfl | (simp [rv_cat]; done) | (simp (decide := true) [rv_cat, cat_ref, cat_int]; done)) rfl dL_opens_167 (fun E σ9 hx => False.elim hx) (fun v63 σ53 ρ43 hp43 hag43 => ?_)
              obtain ⟨r51, e8, h⟩ := hp43
              rw [e8]
              rw [← (hag43 a1 z75).2, ← (hag43 a6 z76).2, ← (hag43 a14 (by rw [k30]; decide)).2]
              refine xJ.nrm (k' := 27) (n' := 201) (pc' := 170) (st' := [.int r51]) rfl rfl rfl rfl ?_
              refine x_sipush (v := (-7200)) hC dL_opens_170 (by decide) ?_
              refine x_icmp_ne (tgt := 274) hC dL_opens_173 (by decide) (fun c63 => ?_) (fun c63 => ?_)
              · have h := h.1 c63
                refine x_iconst (v := 0) hC dL_opens_274 (by decide) ?_
                exact x_zret hC hr zb0 dL_opens_275 (by decide) (by decide) ⟨_, rfl, h⟩
              · have h := h.2 c63
                refine x_aload_n hC 5 rfl dL_opens_176 ?_
                refine x_iload hC 4 rfl dL_opens_177 ?_
                refine x_iconst (v := 0) hC dL_opens_179 (by decide) ?_
                refine x_iload hC 2 rfl dL_opens_180 ?_
                refine x_iload hC 1 rfl dL_opens_182 ?_
                refine x_iload hC 0 rfl dL_opens_184 ?_
                obtain ⟨z77, h⟩ := h
                obtain ⟨z78, h⟩ := h
                have k31 : hK σ53 a14 = 9 := (hag43 a14 (by rw [k30]; decide)).1.trans k30
                refine x_callSW (as := [.ref (ρ43 a1), .int (1 + r44), .int 0, .int (1 + r46), .int r47, .int (1 + r48)]) (rest := []) hC (fun l hl => mL_open l hl G ρ43 a1 (1 + r44) 0 (1 + r46) r47 (1 + r48) σ53 _ h) q87 q88 q0 q89 hdL_open (by decide) ⟨(by decide), (by decide)⟩ (by first | exact Nat.le_of_ble_eq_true rfl | (simp [rv_cat]; done) | (simp (decide := true) [rv_cat, cat_ref, cat_int]; done)) rfl dL_opens_186 (fun E σ9 hx => False.elim hx) (fun v64 σ54 ρ44 hp44 hag44 => ?_)
                obtain ⟨r52, e8, h⟩ := hp44
                rw [e8]
                rw [← (hag44 a1 z77).2, ← (hag44 a6 z78).2, ← (hag44 a14 (by rw [k31]; decide)).2]
                refine xJ.nrm (k' := 36) (n' := 268) (pc' := 189) (st' := [.int r52]) rfl rfl rfl rfl ?_
                refine x_sipush (v := (-7200)) hC dL_opens_189 (by decide) ?_
                refine x_icmp_ne (tgt := 274) hC dL_opens_192 (by decide) (fun c64 => ?_) (fun c64 => ?_)
                · have h := h.1 c64
                  refine x_iconst (v := 0) hC dL_opens_274 (by decide) ?_
                  exact x_zret hC hr zb0 dL_opens_275 (by decide) (by decide) ⟨_, rfl, h⟩
                · have h := h.2 c64
                  refine x_aload_n hC 5 rfl dL_opens_195 ?_
                  refine x_iload hC 4 rfl dL_opens_196 ?_
                  refine x_iload hC 3 rfl dL_opens_198 ?_
                  refine x_bipush (v := 31) hC dL_opens_200 (by decide) ?_
                  refine x_iload hC 1 rfl dL_opens_202 ?_
                  refine x_iload hC 0 rfl dL_opens_204 ?_
                  obtain ⟨z79, h⟩ := h
                  obtain ⟨z80, h⟩ := h
                  have k32 : hK σ54 a14 = 9 := (hag44 a14 (by rw [k31]; decide)).1.trans k31
                  refine x_callSW (as := [.ref (ρ44 a1), .int (1 + r44), .int (1 + r45), .int 31, .int r47, .int (1 + r48)]) (rest := []) hC (fun l hl => mL_open l hl G ρ44 a1 (1 + r44) (1 + r45) 31 r47 (1 + r48) σ54 _ h) q87 q88 q0 q89 hdL_open (by decide) ⟨(by decide), (by decide)⟩ (by first | exact Nat.le_of_ble_eq_true rfl | (simp [rv_cat]; done) | (simp (decide := true) [rv_cat, cat_ref, cat_int]; done)) rfl dL_opens_206 (fun E σ9 hx => False.elim hx) (fun v65 σ55 ρ45 hp45 hag45 => ?_)
                  obtain ⟨r53, e8, h⟩ := hp45
                  rw [e8]
                  rw [← (hag45 a1 z79).2, ← (hag45 a6 z80).2, ← (hag45 a14 (by rw [k32]; decide)).2]
                  refine xJ.nrm (k' := 45) (n' := 335) (pc' := 209) (st' := [.int r53]) rfl rfl rfl rfl ?_
                  refine x_sipush (v := (-7200)) hC dL_opens_209 (by decide) ?_
                  refine x_icmp_ne (tgt := 274) hC dL_opens_212 (by decide) (fun c65 => ?_) (fun c65 => ?_)
                  · have h := h.1 c65
                    refine x_iconst (v := 0) hC dL_opens_274 (by decide) ?_
                    exact x_zret hC hr zb0 dL_opens_275 (by decide) (by decide) ⟨_, rfl, h⟩
                  · have h := h.2 c65
                    refine x_aload_n hC 5 rfl dL_opens_215 ?_
                    refine x_iload hC 4 rfl dL_opens_216 ?_
                    refine x_iload hC 3 rfl dL_opens_218 ?_
                    refine x_iload hC 2 rfl dL_opens_220 ?_
                    refine x_bipush (v := 10) hC dL_opens_222 (by decide) ?_
                    refine x_iload hC 0 rfl dL_opens_224 ?_
                    obtain ⟨z81, h⟩ := h
                    obtain ⟨z82, h⟩ := h
                    have k33 : hK σ55 a14 = 9 := (hag45 a14 (by rw [k32]; decide)).1.trans k32
                    refine x_callSW (as := [.ref (ρ45 a1), .int (1 + r44), .int (1 + r45), .int (1 + r46), .int 10, .int (1 + r48)]) (rest := []) hC (fun l hl => mL_open l hl G ρ45 a1 (1 + r44) (1 + r45) (1 + r46) 10 (1 + r48) σ55 _ h) q87 q88 q0 q89 hdL_open (by decide) ⟨(by decide), (by decide)⟩ (by first | exact Nat.le_of_ble_eq_true rfl | (simp [rv_cat]; done) | (simp (decide := true) [rv_cat, cat_ref, cat_int]; done)) rfl dL_opens_226 (fun E σ9 hx => False.elim hx) (fun v66 σ56 ρ46 hp46 hag46 => ?_)
                    obtain ⟨r54, e8, h⟩ := hp46
                    rw [e8]
                    rw [← (hag46 a1 z81).2, ← (hag46 a6 z82).2, ← (hag46 a14 (by rw [k33]; decide)).2]
                    refine xJ.nrm (k' := 54) (n' := 402) (pc' := 229) (st' := [.int r54]) rfl rfl rfl rfl ?_
                    refine x_sipush (v := (-7200)) hC dL_opens_229 (by decide) ?_
                    refine x_icmp_ne (tgt := 274) hC dL_opens_232 (by decide) (fun c66 => ?_) (fun c66 => ?_)
                    · have h := h.1 c66
                      refine x_iconst (v := 0) hC dL_opens_274 (by decide) ?_
                      exact x_zret hC hr zb0 dL_opens_275 (by decide) (by decide) ⟨_, rfl, h⟩
                    · have h := h.2 c66
                      refine x_aload_n hC 5 rfl dL_opens_235 ?_
                      refine x_iload hC 4 rfl dL_opens_236 ?_
                      refine x_iload hC 3 rfl dL_opens_238 ?_
                      refine x_iload hC 2 rfl dL_opens_240 ?_
                      refine x_iconst (v := (-1)) hC dL_opens_242 (by decide) ?_
                      refine x_iload hC 0 rfl dL_opens_243 ?_
                      obtain ⟨z83, h⟩ := h
                      obtain ⟨z84, h⟩ := h
                      have k34 : hK σ56 a14 = 9 := (hag46 a14 (by rw [k33]; decide)).1.trans k33
                      refine x_callSW (as := [.ref (ρ46 a1), .int (1 + r44), .int (1 + r45), .int (1 + r46), .int (-1), .int (1 + r48)]) (rest := []) hC (fun l hl => mL_open l hl G ρ46 a1 (1 + r44) (1 + r45) (1 + r46) (-1) (1 + r48) σ56 _ h) q87 q88 q0 q89 hdL_open (by decide) ⟨(by decide), (by decide)⟩ (by first | exact Nat.le_of_ble_eq_true rfl | (simp [rv_cat]; done) | (simp (decide := true) [rv_cat, cat_ref, cat_int]; done)) rfl dL_opens_245 (fun E σ9 hx => False.elim hx) (fun v67 σ57 ρ47 hp47 hag47 => ?_)
                      obtain ⟨r55, e8, h⟩ := hp47
                      rw [e8]
                      rw [← (hag47 a1 z83).2, ← (hag47 a6 z84).2, ← (hag47 a14 (by rw [k34]; decide)).2]
                      refine xJ.nrm (k' := 63) (n' := 469) (pc' := 248) (st' := [.int r55]) rfl rfl rfl rfl ?_
                      refine x_sipush (v := (-7200)) hC dL_opens_248 (by decide) ?_
                      refine x_icmp_ne (tgt := 274) hC dL_opens_251 (by decide) (fun c67 => ?_) (fun c67 => ?_)
                      · have h := h.1 c67
                        refine x_iconst (v := 0) hC dL_opens_274 (by decide) ?_
                        exact x_zret hC hr zb0 dL_opens_275 (by decide) (by decide) ⟨_, rfl, h⟩
                      · have h := h.2 c67
                        refine x_aload_n hC 5 rfl dL_opens_254 ?_
                        refine x_iload hC 4 rfl dL_opens_255 ?_
                        refine x_iload hC 3 rfl dL_opens_257 ?_
                        refine x_iload hC 2 rfl dL_opens_259 ?_
                        refine x_iload hC 1 rfl dL_opens_261 ?_
                        refine x_bipush (v := 11) hC dL_opens_263 (by decide) ?_
                        obtain ⟨z85, h⟩ := h
                        obtain ⟨z86, h⟩ := h
                        have k35 : hK σ57 a14 = 9 := (hag47 a14 (by rw [k34]; decide)).1.trans k34
                        refine x_callSW (as := [.ref (ρ47 a1), .int (1 + r44), .int (1 + r45), .int (1 + r46), .int r47, .int 11]) (rest := []) hC (fun l hl => mL_open l hl G ρ47 a1 (1 + r44) (1 + r45) (1 + r46) r47 11 σ57 _ h) q87 q88 q0 q89 hdL_open (by decide) ⟨(by decide), (by decide)⟩ (by first | exact Nat.le_of_ble_eq_true rfl | (simp [rv_cat]; done) | (simp (decide := true) [rv_cat, cat_ref, cat_int]; done)) rfl dL_opens_265 (fun E σ9 hx => False.elim hx) (fun v68 σ58 ρ48 hp48 hag48 => ?_)
                        obtain ⟨r56, e8, h⟩ := hp48
                        rw [e8]
                        rw [← (hag48 a1 z85).2, ← (hag48 a6 z86).2, ← (hag48 a14 (by rw [k35]; decide)).2]
                        refine xJ.nrm (k' := 72) (n' := 536) (pc' := 268) (st' := [.int r56]) rfl rfl rfl rfl ?_
                        refine x_sipush (v := (-7200)) hC dL_opens_268 (by decide) ?_
                        refine x_icmp_eq (tgt := 276) hC dL_opens_271 (by decide) (fun c68 => ?_) (fun c68 => ?_)
                        · have h := h.1 c68
                          refine x_aload hC 7 rfl dL_opens_276 ?_
                          refine x_iconst (v := 1) hC dL_opens_278 (by decide) ?_
                          have k36 : hK σ58 a14 = 9 := (hag48 a14 (by rw [k35]; decide)).1.trans k35
                          obtain ⟨v69, h⟩ := h
                          refine x_iald (a := a14) hC k36 v69 dL_opens_279 ?_
                          refine x_iconst (v := 2) hC dL_opens_280 (by decide) ?_
                          refine x_icmp_ne (tgt := 306) hC dL_opens_281 (by decide) (fun c69 => ?_) (fun c69 => ?_)
                          · have h := h.1 c69
                            refine x_bipush (v := 11) hC dL_opens_306 (by decide) ?_
                            refine x_aload hC 7 rfl dL_opens_308 ?_
                            refine x_iconst (v := 1) hC dL_opens_310 (by decide) ?_
                            refine x_iald (a := a14) hC k36 v69 dL_opens_311 ?_
                            refine x_imul hC dL_opens_312 ?_
                            refine xJ.nmT (fun x13 ex1 => ?_)
                            have h := h x13 ex1
                            refine x_istore (L' := [(21, .int x13), (20, .int (1 + r48)), (19, .int r47), (18, .int (1 + r46)), (17, .int (1 + r45)), (16, .int (1 + r44)), (0, .ref (ρ48 a1)), (5, .ref (ρ48 a6)), (13, .ref (ρ48 a14))]) hC dL_opens_313 (by decide) (by first | rfl | simp (decide := true) [rv_cat, cat_ref, cat_int]) ?_
                            refine x_aload hC 7 rfl dL_opens_315 ?_
                            refine x_iload hC 0 rfl dL_opens_317 ?_
                            refine x_iconst (v := 1) hC dL_opens_319 (by decide) ?_
                            obtain ⟨k37, h⟩ := h
                            obtain ⟨v70, h⟩ := h
                            refine x_iast (a := a6) hC k37 v70 dL_opens_320 ?_
                            refine xJ.nmH (fun σ59 e10 => ?_)
                            have h := h σ59 e10
                            have r57 : hR σ59 = hR σ58 ∧ hL σ59 = hL σ58 := by rw [e10]; exact ⟨rfl, rfl⟩
                            refine x_aload hC 7 rfl dL_opens_321 ?_
                            refine x_iload hC 0 rfl dL_opens_323 ?_
                            refine x_iconst (v := 1) hC dL_opens_325 (by decide) ?_
                            refine x_iadd hC dL_opens_326 ?_
                            refine x_aload hC 8 rfl dL_opens_327 ?_
                            refine x_iconst (v := 0) hC dL_opens_329 (by decide) ?_
                            have k38 : hK σ59 a14 = 9 := by rw [e10]; exact k36
                            obtain ⟨v71, h⟩ := h
                            refine x_iald (a := a14) hC k38 (by rw [r57.2]; exact v71) dL_opens_330 ?_
                            have k39 : hK σ59 a6 = 9 := by rw [e10]; exact k37
                            obtain ⟨v72, h⟩ := h
                            refine x_iast (a := a6) hC k39 (by rw [r57.2]; exact v72) dL_opens_331 ?_
                            refine xJ.nmH (fun σ60 e11 => ?_)
                            have h := h σ60 e11
                            have r58 : hR σ60 = hR σ58 ∧ hL σ60 = hL σ58 := by rw [e11]; exact ⟨r57.1, r57.2⟩
                            refine x_aload hC 7 rfl dL_opens_332 ?_
                            refine x_iload hC 0 rfl dL_opens_334 ?_
                            refine x_iconst (v := 2) hC dL_opens_336 (by decide) ?_
                            refine x_iadd hC dL_opens_337 ?_
                            refine x_iload hC 5 rfl dL_opens_338 ?_
                            have k40 : hK σ60 a6 = 9 := by rw [e11]; exact k39
                            obtain ⟨v73, h⟩ := h
                            refine x_iast (a := a6) hC k40 (by rw [r58.2]; exact v73) dL_opens_340 ?_
                            refine xJ.nmH (fun σ61 e12 => ?_)
                            have h := h σ61 e12
                            have r59 : hR σ61 = hR σ58 ∧ hL σ61 = hL σ58 := by rw [e12]; exact ⟨r58.1, r58.2⟩
                            refine x_aload hC 7 rfl dL_opens_341 ?_
                            refine x_iload hC 0 rfl dL_opens_343 ?_
                            refine x_iconst (v := 3) hC dL_opens_345 (by decide) ?_
                            refine x_iadd hC dL_opens_346 ?_
                            refine x_iload hC 4 rfl dL_opens_347 ?_
                            have k41 : hK σ61 a6 = 9 := by rw [e12]; exact k40
                            obtain ⟨v74, h⟩ := h
                            refine x_iast (a := a6) hC k41 (by rw [r59.2]; exact v74) dL_opens_349 ?_
                            refine xJ.nmH (fun σ62 e13 => ?_)
                            have h := h σ62 e13
                            have r60 : hR σ62 = hR σ58 ∧ hL σ62 = hL σ58 := by rw [e13]; exact ⟨r59.1, r59.2⟩
                            refine x_aload hC 7 rfl dL_opens_350 ?_
                            refine x_iload hC 0 rfl dL_opens_352 ?_
                            refine x_iconst (v := 4) hC dL_opens_354 (by decide) ?_
                            refine x_iadd hC dL_opens_355 ?_
                            refine x_iload hC 3 rfl dL_opens_356 ?_
                            have k42 : hK σ62 a6 = 9 := by rw [e13]; exact k41
                            obtain ⟨v75, h⟩ := h
                            refine x_iast (a := a6) hC k42 (by rw [r60.2]; exact v75) dL_opens_358 ?_
                            refine xJ.nmH (fun σ63 e14 => ?_)
                            have h := h σ63 e14
                            have r61 : hR σ63 = hR σ58 ∧ hL σ63 = hL σ58 := by rw [e14]; exact ⟨r60.1, r60.2⟩
                            refine x_aload hC 7 rfl dL_opens_359 ?_
                            refine x_iload hC 0 rfl dL_opens_361 ?_
                            refine x_iconst (v := 5) hC dL_opens_363 (by decide) ?_
                            refine x_iadd hC dL_opens_364 ?_
                            refine x_iload hC 2 rfl dL_opens_365 ?_
                            have k43 : hK σ63 a6 = 9 := by rw [e14]; exact k42
                            obtain ⟨v76, h⟩ := h
                            refine x_iast (a := a6) hC k43 (by rw [r61.2]; exact v76) dL_opens_367 ?_
                            refine xJ.nmH (fun σ64 e15 => ?_)
                            have h := h σ64 e15
                            have r62 : hR σ64 = hR σ58 ∧ hL σ64 = hL σ58 := by rw [e15]; exact ⟨r61.1, r61.2⟩
                            refine x_aload hC 7 rfl dL_opens_368 ?_
                            refine x_iload hC 0 rfl dL_opens_370 ?_
                            refine x_bipush (v := 6) hC dL_opens_372 (by decide) ?_
                            refine x_iadd hC dL_opens_374 ?_
                            refine x_iload hC 1 rfl dL_opens_375 ?_
                            have k44 : hK σ64 a6 = 9 := by rw [e15]; exact k43
                            obtain ⟨v77, h⟩ := h
                            refine x_iast (a := a6) hC k44 (by rw [r62.2]; exact v77) dL_opens_377 ?_
                            refine xJ.nmH (fun σ65 e16 => ?_)
                            have h := h σ65 e16
                            have r63 : hR σ65 = hR σ58 ∧ hL σ65 = hL σ58 := by rw [e16]; exact ⟨r62.1, r62.2⟩
                            refine x_aload hC 8 rfl dL_opens_378 ?_
                            refine x_iconst (v := 1) hC dL_opens_380 (by decide) ?_
                            refine x_dup2 hC (by first | rfl | exact rv_cat) (by first | rfl | exact rv_cat) dL_opens_381 ?_
                            have k45 : hK σ60 a14 = 9 := by rw [e11]; exact k38
                            have k46 : hK σ61 a14 = 9 := by rw [e12]; exact k45
                            have k47 : hK σ62 a14 = 9 := by rw [e13]; exact k46
                            have k48 : hK σ63 a14 = 9 := by rw [e14]; exact k47
                            have k49 : hK σ64 a14 = 9 := by rw [e15]; exact k48
                            have k50 : hK σ65 a14 = 9 := by rw [e16]; exact k49
                            refine x_iald (a := a14) hC k50 (by rw [r63.2]; exact v69) dL_opens_382 ?_
                            refine x_iconst (v := 1) hC dL_opens_383 (by decide) ?_
                            refine x_iadd hC dL_opens_384 ?_
                            refine x_iast (a := a14) hC k50 (by rw [r63.2]; exact v69) dL_opens_385 ?_
                            refine xJ.nmH (fun σ66 e17 => ?_)
                            have h := h σ66 e17
                            have r64 : hR σ66 = hR σ58 ∧ hL σ66 = hL σ58 := by rw [e17]; exact ⟨r63.1, r63.2⟩
                            refine x_aload_n hC 6 rfl dL_opens_386 ?_
                            refine x_iload hC 5 rfl dL_opens_387 ?_
                            refine x_iload hC 4 rfl dL_opens_389 ?_
                            refine x_iload hC 3 rfl dL_opens_391 ?_
                            refine x_iload hC 2 rfl dL_opens_393 ?_
                            refine x_iload hC 1 rfl dL_opens_395 ?_
                            have k51 : hK σ66 a14 = 9 := by rw [e17]; exact k50
                            refine xJ.sub (L' := [(13, .ref (ρ48 a14))]) [8] rfl ?_
                            refine x_callSW (as := [.ref (ρ48 a1), .int (1 + r44), .int (1 + r45), .int (1 + r46), .int r47, .int (1 + r48)]) (rest := []) hC (fun l hl => mL_open l hl G ρ48 a1 (1 + r44) (1 + r45) (1 + r46) r47 (1 + r48) σ66 _ h) q87 q88 q0 q89 hdL_open (by decide) ⟨(by decide), (by decide)⟩ (by first | exact Nat.le_of_ble_eq_true rfl | (simp [rv_cat]; done) | (simp (decide := true) [rv_cat, cat_ref, cat_int]; done)) rfl dL_opens_397 (fun E σ9 hx => False.elim hx) (fun v78 σ67 ρ49 hp49 hag49 => ?_)
                            obtain ⟨r65, e8, h⟩ := hp49
                            rw [e8]
                            rw [← (hag49 a14 (by rw [k51]; decide)).2]
                            refine xJ.nrm (k' := 81) (n' := 603) (pc' := 400) (st' := [.int r65]) rfl rfl rfl rfl ?_
                            refine x_aload hC 0 rfl dL_opens_400 ?_
                            refine x_iconst (v := 1) hC dL_opens_402 (by decide) ?_
                            have k52 : hK σ67 a14 = 9 := (hag49 a14 (by rw [k51]; decide)).1.trans k51
                            obtain ⟨v79, h⟩ := h
                            refine x_iald (a := a14) hC k52 v79 dL_opens_403 ?_
                            refine x_iconst (v := 1) hC dL_opens_404 (by decide) ?_
                            refine x_isub hC dL_opens_405 ?_
                            refine x_icmp_ne (tgt := 413) hC dL_opens_406 (by decide) (fun c70 => ?_) (fun c70 => ?_)
                            · have h := h.1 c70
                              refine x_iconst (v := 0) hC dL_opens_413 (by decide) ?_
                              exact x_zret hC hr zb0 dL_opens_414 (by decide) (by decide) ⟨_, rfl, h⟩
                            · have h := h.2 c70
                              refine x_iconst (v := 1) hC dL_opens_409 (by decide) ?_
                              refine x_goto (tgt := 414) hC dL_opens_410 (by decide) ?_
                              exact x_zret hC hr zb1 dL_opens_414 (by decide) (by decide) ⟨_, rfl, h⟩
                          · have h := h.2 c69
                            refine x_aload_n hC 5 rfl dL_opens_284 ?_
                            refine x_iconst (v := 2) hC dL_opens_285 (by decide) ?_
                            refine x_callSW (as := [.ref (ρ48 a1), .int 2]) (rest := []) hC (fun l hl => mL_isOpen l hl G ρ48 a1 2 σ58 _ h) q259 q260 q0 q261 hdL_isOpen (by decide) ⟨(by decide), (by decide)⟩ (by first | exact Nat.le_of_ble_eq_true rfl | (simp [rv_cat]; done) | (simp (decide := true) [rv_cat, cat_ref, cat_int]; done)) rfl dL_opens_286 (fun E σ9 hx => False.elim hx) (fun v80 σ68 ρ50 hp50 hag50 => ?_)
                            obtain ⟨e9, r66, e8, h⟩ := hp50
                            rw [e8, e9]
                            refine xJ.nrm (k' := 73) (n' := 542) (pc' := 289) (st' := [.int r66]) rfl rfl rfl rfl ?_
                            refine x_if_ne (tgt := 304) hC dL_opens_289 (by decide) (fun c71 => ?_) (fun c71 => ?_)
                            · have h := h.1 c71
                              refine x_iconst (v := 0) hC dL_opens_304 (by decide) ?_
                              exact x_zret hC hr zb0 dL_opens_305 (by decide) (by decide) ⟨_, rfl, h⟩
                            · have h := h.2 c71
                              refine x_aload_n hC 5 rfl dL_opens_292 ?_
                              refine x_iconst (v := 3) hC dL_opens_293 (by decide) ?_
                              refine x_callSW (as := [.ref (ρ48 a1), .int 3]) (rest := []) hC (fun l hl => mL_isOpen l hl G ρ48 a1 3 σ68 _ h) q259 q260 q0 q261 hdL_isOpen (by decide) ⟨(by decide), (by decide)⟩ (by first | exact Nat.le_of_ble_eq_true rfl | (simp [rv_cat]; done) | (simp (decide := true) [rv_cat, cat_ref, cat_int]; done)) rfl dL_opens_294 (fun E σ9 hx => False.elim hx) (fun v81 σ69 ρ51 hp51 hag51 => ?_)
                              obtain ⟨e9, r67, e8, h⟩ := hp51
                              rw [e8, e9]
                              refine xJ.nrm (k' := 74) (n' := 548) (pc' := 297) (st' := [.int r67]) rfl rfl rfl rfl ?_
                              refine x_if_ne (tgt := 304) hC dL_opens_297 (by decide) (fun c72 => ?_) (fun c72 => ?_)
                              · have h := h.1 c72
                                refine x_iconst (v := 0) hC dL_opens_304 (by decide) ?_
                                exact x_zret hC hr zb0 dL_opens_305 (by decide) (by decide) ⟨_, rfl, h⟩
                              · have h := h.2 c72
                                refine x_iconst (v := 1) hC dL_opens_300 (by decide) ?_
                                refine x_goto (tgt := 305) hC dL_opens_301 (by decide) ?_
                                exact x_zret hC hr zb1 dL_opens_305 (by decide) (by decide) ⟨_, rfl, h⟩
                        · have h := h.2 c68
                          refine x_iconst (v := 0) hC dL_opens_274 (by decide) ?_
                          exact x_zret hC hr zb0 dL_opens_275 (by decide) (by decide) ⟨_, rfl, h⟩
        · refine x_if_ne (tgt := 85) hC dL_opens_77 (by decide) (fun c60 => ?_) (fun c60 => ?_)
          · have h := h.1 c60
            refine x_bipush (v := 8) hC dL_opens_85 (by decide) ?_
            exact hk12 _ h
          · have h := h.2 c60
            refine x_bipush (v := 30) hC dL_opens_80 (by decide) ?_
            refine x_goto (tgt := 87) hC dL_opens_82 (by decide) ?_
            exact hk12 _ h
      · refine x_if_ne (tgt := 51) hC dL_opens_43 (by decide) (fun c59 => ?_) (fun c59 => ?_)
        · have h := h.1 c59
          refine x_iconst (v := 4) hC dL_opens_51 (by decide) ?_
          exact hk11 _ h
        · have h := h.2 c59
          refine x_bipush (v := 20) hC dL_opens_46 (by decide) ?_
          refine x_goto (tgt := 52) hC dL_opens_48 (by decide) ?_
          exact hk11 _ h
  · refine x_icmp_ge (tgt := 30) hC dL_opens_11 (by decide) (fun c1 => ?_) (fun c1 => ?_)
    · have h := h.1 c1
      refine x_iconst (v := 0) hC dL_opens_30 (by decide) ?_
      exact hk1 _ h
    · have h := h.2 c1
      refine x_aload hC 6 rfl dL_opens_14 ?_
      refine x_bipush (v := 11) hC dL_opens_16 (by decide) ?_
      refine x_iload hC 0 rfl dL_opens_18 ?_
      refine x_imul hC dL_opens_20 ?_
      obtain ⟨k2, h⟩ := h
      obtain ⟨v2, h⟩ := h
      refine x_iald (a := a6) hC k2 v2 dL_opens_21 ?_
      refine x_iconst (v := 1) hC dL_opens_22 (by decide) ?_
      refine x_icmp_ne (tgt := 30) hC dL_opens_23 (by decide) (fun c2 => ?_) (fun c2 => ?_)
      · have h := h.1 c2
        refine x_iconst (v := 0) hC dL_opens_30 (by decide) ?_
        exact hk1 _ h
      · have h := h.2 c2
        refine x_iconst (v := 1) hC dL_opens_26 (by decide) ?_
        refine x_goto (tgt := 31) hC dL_opens_27 (by decide) ?_
        exact hk1 _ h
