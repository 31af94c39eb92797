/-! PlantServerLaw.goes -/
theorem dL_goes_0 : decode cL_goes 0 = .ok (.iload_n 1, 1) := by decide +kernel
theorem dL_goes_1 : decode cL_goes 1 = .ok (.iconst 5, 1) := by decide +kernel
theorem dL_goes_2 : decode cL_goes 2 = .ok (.if_icmp .ge 129, 3) := by decide +kernel
theorem dL_goes_5 : decode cL_goes 5 = .ok (.iload_n 2, 1) := by decide +kernel
theorem dL_goes_6 : decode cL_goes 6 = .ok (.iconst 3, 1) := by decide +kernel
theorem dL_goes_7 : decode cL_goes 7 = .ok (.invokestatic 93, 3) := by decide +kernel
theorem dL_goes_10 : decode cL_goes 10 = .ok (.istore 16, 2) := by decide +kernel
theorem dL_goes_12 : decode cL_goes 12 = .ok (.iload_n 3, 1) := by decide +kernel
theorem dL_goes_13 : decode cL_goes 13 = .ok (.bipush 96, 2) := by decide +kernel
theorem dL_goes_15 : decode cL_goes 15 = .ok (.iand, 1) := by decide +kernel
theorem dL_goes_16 : decode cL_goes 16 = .ok (.ifCond .ne 16, 3) := by decide +kernel
theorem dL_goes_19 : decode cL_goes 19 = .ok (.iload_n 3, 1) := by decide +kernel
theorem dL_goes_20 : decode cL_goes 20 = .ok (.bipush 7, 2) := by decide +kernel
theorem dL_goes_22 : decode cL_goes 22 = .ok (.ishr, 1) := by decide +kernel
theorem dL_goes_23 : decode cL_goes 23 = .ok (.sipush 1001, 3) := by decide +kernel
theorem dL_goes_26 : decode cL_goes 26 = .ok (.invokestatic 93, 3) := by decide +kernel
theorem dL_goes_29 : decode cL_goes 29 = .ok (.goto 12, 3) := by decide +kernel
theorem dL_goes_32 : decode cL_goes 32 = .ok (.iload_n 3, 1) := by decide +kernel
theorem dL_goes_33 : decode cL_goes 33 = .ok (.bipush 7, 2) := by decide +kernel
theorem dL_goes_35 : decode cL_goes 35 = .ok (.ishr, 1) := by decide +kernel
theorem dL_goes_36 : decode cL_goes 36 = .ok (.bipush 9, 2) := by decide +kernel
theorem dL_goes_38 : decode cL_goes 38 = .ok (.invokestatic 93, 3) := by decide +kernel
theorem dL_goes_41 : decode cL_goes 41 = .ok (.istore 17, 2) := by decide +kernel
theorem dL_goes_43 : decode cL_goes 43 = .ok (.aload 4, 2) := by decide +kernel
theorem dL_goes_45 : decode cL_goes 45 = .ok (.iload 16, 2) := by decide +kernel
theorem dL_goes_47 : decode cL_goes 47 = .ok (.iaload, 1) := by decide +kernel
theorem dL_goes_48 : decode cL_goes 48 = .ok (.istore 18, 2) := by decide +kernel
theorem dL_goes_50 : decode cL_goes 50 = .ok (.aload 4, 2) := by decide +kernel
theorem dL_goes_52 : decode cL_goes 52 = .ok (.iload 16, 2) := by decide +kernel
theorem dL_goes_54 : decode cL_goes 54 = .ok (.iload 17, 2) := by decide +kernel
theorem dL_goes_56 : decode cL_goes 56 = .ok (.iastore, 1) := by decide +kernel
theorem dL_goes_57 : decode cL_goes 57 = .ok (.aload_n 0, 1) := by decide +kernel
theorem dL_goes_58 : decode cL_goes 58 = .ok (.bipush 10, 2) := by decide +kernel
theorem dL_goes_60 : decode cL_goes 60 = .ok (.iconst 0, 1) := by decide +kernel
theorem dL_goes_61 : decode cL_goes 61 = .ok (.invokestatic 120, 3) := by decide +kernel
theorem dL_goes_64 : decode cL_goes 64 = .ok (.sipush (-7100), 3) := by decide +kernel
theorem dL_goes_67 : decode cL_goes 67 = .ok (.if_icmp .ne 62, 3) := by decide +kernel
theorem dL_goes_70 : decode cL_goes 70 = .ok (.aload_n 0, 1) := by decide +kernel
theorem dL_goes_71 : decode cL_goes 71 = .ok (.iconst (-1), 1) := by decide +kernel
theorem dL_goes_72 : decode cL_goes 72 = .ok (.sipush 1001, 3) := by decide +kernel
theorem dL_goes_75 : decode cL_goes 75 = .ok (.invokestatic 120, 3) := by decide +kernel
theorem dL_goes_78 : decode cL_goes 78 = .ok (.sipush (-7100), 3) := by decide +kernel
theorem dL_goes_81 : decode cL_goes 81 = .ok (.if_icmp .ne 48, 3) := by decide +kernel
theorem dL_goes_84 : decode cL_goes 84 = .ok (.aload_n 0, 1) := by decide +kernel
theorem dL_goes_85 : decode cL_goes 85 = .ok (.iload 16, 2) := by decide +kernel
theorem dL_goes_87 : decode cL_goes 87 = .ok (.sipush 1001, 3) := by decide +kernel
theorem dL_goes_90 : decode cL_goes 90 = .ok (.invokestatic 120, 3) := by decide +kernel
theorem dL_goes_93 : decode cL_goes 93 = .ok (.sipush (-7200), 3) := by decide +kernel
theorem dL_goes_96 : decode cL_goes 96 = .ok (.if_icmp .ne 33, 3) := by decide +kernel
theorem dL_goes_99 : decode cL_goes 99 = .ok (.aload_n 0, 1) := by decide +kernel
theorem dL_goes_100 : decode cL_goes 100 = .ok (.iload 16, 2) := by decide +kernel
theorem dL_goes_102 : decode cL_goes 102 = .ok (.iconst (-1), 1) := by decide +kernel
theorem dL_goes_103 : decode cL_goes 103 = .ok (.invokestatic 120, 3) := by decide +kernel
theorem dL_goes_106 : decode cL_goes 106 = .ok (.sipush (-7200), 3) := by decide +kernel
theorem dL_goes_109 : decode cL_goes 109 = .ok (.if_icmp .ne 20, 3) := by decide +kernel
theorem dL_goes_112 : decode cL_goes 112 = .ok (.aload_n 0, 1) := by decide +kernel
theorem dL_goes_113 : decode cL_goes 113 = .ok (.iload 16, 2) := by decide +kernel
theorem dL_goes_115 : decode cL_goes 115 = .ok (.iload 17, 2) := by decide +kernel
theorem dL_goes_117 : decode cL_goes 117 = .ok (.invokestatic 120, 3) := by decide +kernel
theorem dL_goes_120 : decode cL_goes 120 = .ok (.iload 18, 2) := by decide +kernel
theorem dL_goes_122 : decode cL_goes 122 = .ok (.if_icmp .ne 7, 3) := by decide +kernel
theorem dL_goes_125 : decode cL_goes 125 = .ok (.iconst 1, 1) := by decide +kernel
theorem dL_goes_126 : decode cL_goes 126 = .ok (.goto 4, 3) := by decide +kernel
theorem dL_goes_129 : decode cL_goes 129 = .ok (.iconst 0, 1) := by decide +kernel
theorem dL_goes_130 : decode cL_goes 130 = .ok (.ireturn, 1) := by decide +kernel
theorem dL_goes_131 : decode cL_goes 131 = .ok (.iload_n 1, 1) := by decide +kernel
theorem dL_goes_132 : decode cL_goes 132 = .ok (.bipush 8, 2) := by decide +kernel
theorem dL_goes_134 : decode cL_goes 134 = .ok (.if_icmp .ge 53, 3) := by decide +kernel
theorem dL_goes_137 : decode cL_goes 137 = .ok (.aload 15, 2) := by decide +kernel
theorem dL_goes_139 : decode cL_goes 139 = .ok (.iconst 3, 1) := by decide +kernel
theorem dL_goes_140 : decode cL_goes 140 = .ok (.iaload, 1) := by decide +kernel
theorem dL_goes_141 : decode cL_goes 141 = .ok (.bipush 10, 2) := by decide +kernel
theorem dL_goes_143 : decode cL_goes 143 = .ok (.if_icmp .ne 19, 3) := by decide +kernel
theorem dL_goes_146 : decode cL_goes 146 = .ok (.aload_n 0, 1) := by decide +kernel
theorem dL_goes_147 : decode cL_goes 147 = .ok (.invokestatic 123, 3) := by decide +kernel
theorem dL_goes_150 : decode cL_goes 150 = .ok (.sipush (-7300), 3) := by decide +kernel
theorem dL_goes_153 : decode cL_goes 153 = .ok (.if_icmp .ne 7, 3) := by decide +kernel
theorem dL_goes_156 : decode cL_goes 156 = .ok (.iconst 1, 1) := by decide +kernel
theorem dL_goes_157 : decode cL_goes 157 = .ok (.goto 4, 3) := by decide +kernel
theorem dL_goes_160 : decode cL_goes 160 = .ok (.iconst 0, 1) := by decide +kernel
theorem dL_goes_161 : decode cL_goes 161 = .ok (.ireturn, 1) := by decide +kernel
theorem dL_goes_162 : decode cL_goes 162 = .ok (.aload 15, 2) := by decide +kernel
theorem dL_goes_164 : decode cL_goes 164 = .ok (.iconst 3, 1) := by decide +kernel
theorem dL_goes_165 : decode cL_goes 165 = .ok (.dup2, 1) := by decide +kernel
theorem dL_goes_166 : decode cL_goes 166 = .ok (.iaload, 1) := by decide +kernel
theorem dL_goes_167 : decode cL_goes 167 = .ok (.iconst 1, 1) := by decide +kernel
theorem dL_goes_168 : decode cL_goes 168 = .ok (.iadd, 1) := by decide +kernel
theorem dL_goes_169 : decode cL_goes 169 = .ok (.iastore, 1) := by decide +kernel
theorem dL_goes_170 : decode cL_goes 170 = .ok (.aload_n 0, 1) := by decide +kernel
theorem dL_goes_171 : decode cL_goes 171 = .ok (.invokestatic 123, 3) := by decide +kernel
theorem dL_goes_174 : decode cL_goes 174 = .ok (.aload 15, 2) := by decide +kernel
theorem dL_goes_176 : decode cL_goes 176 = .ok (.iconst 3, 1) := by decide +kernel
theorem dL_goes_177 : decode cL_goes 177 = .ok (.iaload, 1) := by decide +kernel
theorem dL_goes_178 : decode cL_goes 178 = .ok (.if_icmp .ne 7, 3) := by decide +kernel
theorem dL_goes_181 : decode cL_goes 181 = .ok (.iconst 1, 1) := by decide +kernel
theorem dL_goes_182 : decode cL_goes 182 = .ok (.goto 4, 3) := by decide +kernel
theorem dL_goes_185 : decode cL_goes 185 = .ok (.iconst 0, 1) := by decide +kernel
theorem dL_goes_186 : decode cL_goes 186 = .ok (.ireturn, 1) := by decide +kernel
theorem dL_goes_187 : decode cL_goes 187 = .ok (.iload_n 1, 1) := by decide +kernel
theorem dL_goes_188 : decode cL_goes 188 = .ok (.bipush 8, 2) := by decide +kernel
theorem dL_goes_190 : decode cL_goes 190 = .ok (.if_icmp .ne 155, 3) := by decide +kernel
theorem dL_goes_193 : decode cL_goes 193 = .ok (.iload_n 2, 1) := by decide +kernel
theorem dL_goes_194 : decode cL_goes 194 = .ok (.iconst 1, 1) := by decide +kernel
theorem dL_goes_195 : decode cL_goes 195 = .ok (.iand, 1) := by decide +kernel
theorem dL_goes_196 : decode cL_goes 196 = .ok (.istore 16, 2) := by decide +kernel
theorem dL_goes_198 : decode cL_goes 198 = .ok (.aload 5, 2) := by decide +kernel
theorem dL_goes_200 : decode cL_goes 200 = .ok (.bipush 11, 2) := by decide +kernel
theorem dL_goes_202 : decode cL_goes 202 = .ok (.iload 16, 2) := by decide +kernel
theorem dL_goes_204 : decode cL_goes 204 = .ok (.imul, 1) := by decide +kernel
theorem dL_goes_205 : decode cL_goes 205 = .ok (.bipush 9, 2) := by decide +kernel
theorem dL_goes_207 : decode cL_goes 207 = .ok (.iadd, 1) := by decide +kernel
theorem dL_goes_208 : decode cL_goes 208 = .ok (.iaload, 1) := by decide +kernel
theorem dL_goes_209 : decode cL_goes 209 = .ok (.iload_n 3, 1) := by decide +kernel
theorem dL_goes_210 : decode cL_goes 210 = .ok (.bipush 8, 2) := by decide +kernel
theorem dL_goes_212 : decode cL_goes 212 = .ok (.invokestatic 93, 3) := by decide +kernel
theorem dL_goes_215 : decode cL_goes 215 = .ok (.isub, 1) := by decide +kernel
theorem dL_goes_216 : decode cL_goes 216 = .ok (.iconst 1, 1) := by decide +kernel
theorem dL_goes_217 : decode cL_goes 217 = .ok (.iadd, 1) := by decide +kernel
theorem dL_goes_218 : decode cL_goes 218 = .ok (.istore 17, 2) := by decide +kernel
theorem dL_goes_220 : decode cL_goes 220 = .ok (.iload 16, 2) := by decide +kernel
theorem dL_goes_222 : decode cL_goes 222 = .ok (.aload 15, 2) := by decide +kernel
theorem dL_goes_224 : decode cL_goes 224 = .ok (.iconst 1, 1) := by decide +kernel
theorem dL_goes_225 : decode cL_goes 225 = .ok (.iaload, 1) := by decide +kernel
theorem dL_goes_226 : decode cL_goes 226 = .ok (.if_icmp .ge 14, 3) := by decide +kernel
theorem dL_goes_229 : decode cL_goes 229 = .ok (.aload 5, 2) := by decide +kernel
theorem dL_goes_231 : decode cL_goes 231 = .ok (.bipush 11, 2) := by decide +kernel
theorem dL_goes_233 : decode cL_goes 233 = .ok (.iload 16, 2) := by decide +kernel
theorem dL_goes_235 : decode cL_goes 235 = .ok (.imul, 1) := by decide +kernel
theorem dL_goes_236 : decode cL_goes 236 = .ok (.iaload, 1) := by decide +kernel
theorem dL_goes_237 : decode cL_goes 237 = .ok (.ifCond .ne 36, 3) := by decide +kernel
theorem dL_goes_240 : decode cL_goes 240 = .ok (.aload_n 0, 1) := by decide +kernel
theorem dL_goes_241 : decode cL_goes 241 = .ok (.iload 16, 2) := by decide +kernel
theorem dL_goes_243 : decode cL_goes 243 = .ok (.iload 17, 2) := by decide +kernel
theorem dL_goes_245 : decode cL_goes 245 = .ok (.invokestatic 126, 3) := by decide +kernel
theorem dL_goes_248 : decode cL_goes 248 = .ok (.sipush (-7100), 3) := by decide +kernel
theorem dL_goes_251 : decode cL_goes 251 = .ok (.if_icmp .ne 20, 3) := by decide +kernel
theorem dL_goes_254 : decode cL_goes 254 = .ok (.aload_n 0, 1) := by decide +kernel
theorem dL_goes_255 : decode cL_goes 255 = .ok (.iconst (-1), 1) := by decide +kernel
theorem dL_goes_256 : decode cL_goes 256 = .ok (.iload 17, 2) := by decide +kernel
theorem dL_goes_258 : decode cL_goes 258 = .ok (.invokestatic 126, 3) := by decide +kernel
theorem dL_goes_261 : decode cL_goes 261 = .ok (.sipush (-7100), 3) := by decide +kernel
theorem dL_goes_264 : decode cL_goes 264 = .ok (.if_icmp .ne 7, 3) := by decide +kernel
theorem dL_goes_267 : decode cL_goes 267 = .ok (.iconst 1, 1) := by decide +kernel
theorem dL_goes_268 : decode cL_goes 268 = .ok (.goto 4, 3) := by decide +kernel
theorem dL_goes_271 : decode cL_goes 271 = .ok (.iconst 0, 1) := by decide +kernel
theorem dL_goes_272 : decode cL_goes 272 = .ok (.ireturn, 1) := by decide +kernel
theorem dL_goes_273 : decode cL_goes 273 = .ok (.aload 13, 2) := by decide +kernel
theorem dL_goes_275 : decode cL_goes 275 = .ok (.iload 16, 2) := by decide +kernel
theorem dL_goes_277 : decode cL_goes 277 = .ok (.iload 17, 2) := by decide +kernel
theorem dL_goes_279 : decode cL_goes 279 = .ok (.invokestatic 128, 3) := by decide +kernel
theorem dL_goes_282 : decode cL_goes 282 = .ok (.istore 18, 2) := by decide +kernel
theorem dL_goes_284 : decode cL_goes 284 = .ok (.iload 18, 2) := by decide +kernel
theorem dL_goes_286 : decode cL_goes 286 = .ok (.ifCond .lt 7, 3) := by decide +kernel
theorem dL_goes_289 : decode cL_goes 289 = .ok (.iconst 1, 1) := by decide +kernel
theorem dL_goes_290 : decode cL_goes 290 = .ok (.goto 4, 3) := by decide +kernel
theorem dL_goes_293 : decode cL_goes 293 = .ok (.iconst 0, 1) := by decide +kernel
theorem dL_goes_294 : decode cL_goes 294 = .ok (.istore 19, 2) := by decide +kernel
theorem dL_goes_296 : decode cL_goes 296 = .ok (.iload 19, 2) := by decide +kernel
theorem dL_goes_298 : decode cL_goes 298 = .ok (.ifCond .eq 9, 3) := by decide +kernel
theorem dL_goes_301 : decode cL_goes 301 = .ok (.aload 13, 2) := by decide +kernel
theorem dL_goes_303 : decode cL_goes 303 = .ok (.iload 18, 2) := by decide +kernel
theorem dL_goes_305 : decode cL_goes 305 = .ok (.iconst 0, 1) := by decide +kernel
theorem dL_goes_306 : decode cL_goes 306 = .ok (.iastore, 1) := by decide +kernel
theorem dL_goes_307 : decode cL_goes 307 = .ok (.aload_n 0, 1) := by decide +kernel
theorem dL_goes_308 : decode cL_goes 308 = .ok (.iload 16, 2) := by decide +kernel
theorem dL_goes_310 : decode cL_goes 310 = .ok (.iload 17, 2) := by decide +kernel
theorem dL_goes_312 : decode cL_goes 312 = .ok (.invokestatic 126, 3) := by decide +kernel
theorem dL_goes_315 : decode cL_goes 315 = .ok (.iload 19, 2) := by decide +kernel
theorem dL_goes_317 : decode cL_goes 317 = .ok (.ifCond .eq 7, 3) := by decide +kernel
theorem dL_goes_320 : decode cL_goes 320 = .ok (.iconst 1, 1) := by decide +kernel
theorem dL_goes_321 : decode cL_goes 321 = .ok (.goto 4, 3) := by decide +kernel
theorem dL_goes_324 : decode cL_goes 324 = .ok (.iconst 0, 1) := by decide +kernel
theorem dL_goes_325 : decode cL_goes 325 = .ok (.if_icmp .ne 18, 3) := by decide +kernel
theorem dL_goes_328 : decode cL_goes 328 = .ok (.aload_n 0, 1) := by decide +kernel
theorem dL_goes_329 : decode cL_goes 329 = .ok (.iload 16, 2) := by decide +kernel
theorem dL_goes_331 : decode cL_goes 331 = .ok (.ldc 132, 2) := by decide +kernel
theorem dL_goes_333 : decode cL_goes 333 = .ok (.invokestatic 126, 3) := by decide +kernel
theorem dL_goes_336 : decode cL_goes 336 = .ok (.ifCond .ne 7, 3) := by decide +kernel
theorem dL_goes_339 : decode cL_goes 339 = .ok (.iconst 1, 1) := by decide +kernel
theorem dL_goes_340 : decode cL_goes 340 = .ok (.goto 4, 3) := by decide +kernel
theorem dL_goes_343 : decode cL_goes 343 = .ok (.iconst 0, 1) := by decide +kernel
theorem dL_goes_344 : decode cL_goes 344 = .ok (.ireturn, 1) := by decide +kernel
theorem dL_goes_345 : decode cL_goes 345 = .ok (.iconst 1, 1) := by decide +kernel
theorem dL_goes_346 : decode cL_goes 346 = .ok (.iload_n 3, 1) := by decide +kernel
theorem dL_goes_347 : decode cL_goes 347 = .ok (.iload_n 2, 1) := by decide +kernel
theorem dL_goes_348 : decode cL_goes 348 = .ok (.bipush 96, 2) := by decide +kernel
theorem dL_goes_350 : decode cL_goes 350 = .ok (.iand, 1) := by decide +kernel
theorem dL_goes_351 : decode cL_goes 351 = .ok (.ifCond .ne 8, 3) := by decide +kernel
theorem dL_goes_354 : decode cL_goes 354 = .ok (.bipush 50, 2) := by decide +kernel
theorem dL_goes_356 : decode cL_goes 356 = .ok (.goto 4, 3) := by decide +kernel
theorem dL_goes_359 : decode cL_goes 359 = .ok (.iconst 4, 1) := by decide +kernel
theorem dL_goes_360 : decode cL_goes 360 = .ok (.invokestatic 93, 3) := by decide +kernel
theorem dL_goes_363 : decode cL_goes 363 = .ok (.iadd, 1) := by decide +kernel
theorem dL_goes_364 : decode cL_goes 364 = .ok (.istore 16, 2) := by decide +kernel
theorem dL_goes_366 : decode cL_goes 366 = .ok (.aload_n 0, 1) := by decide +kernel
theorem dL_goes_367 : decode cL_goes 367 = .ok (.iconst 0, 1) := by decide +kernel
theorem dL_goes_368 : decode cL_goes 368 = .ok (.invokestatic 133, 3) := by decide +kernel
theorem dL_goes_371 : decode cL_goes 371 = .ok (.sipush (-7200), 3) := by decide +kernel
theorem dL_goes_374 : decode cL_goes 374 = .ok (.if_icmp .ne 26, 3) := by decide +kernel
theorem dL_goes_377 : decode cL_goes 377 = .ok (.aload_n 0, 1) := by decide +kernel
theorem dL_goes_378 : decode cL_goes 378 = .ok (.bipush 51, 2) := by decide +kernel
theorem dL_goes_380 : decode cL_goes 380 = .ok (.invokestatic 133, 3) := by decide +kernel
theorem dL_goes_383 : decode cL_goes 383 = .ok (.sipush (-7200), 3) := by decide +kernel
theorem dL_goes_386 : decode cL_goes 386 = .ok (.if_icmp .ne 14, 3) := by decide +kernel
theorem dL_goes_389 : decode cL_goes 389 = .ok (.aload_n 0, 1) := by decide +kernel
theorem dL_goes_390 : decode cL_goes 390 = .ok (.iconst (-1), 1) := by decide +kernel
theorem dL_goes_391 : decode cL_goes 391 = .ok (.invokestatic 133, 3) := by decide +kernel
theorem dL_goes_394 : decode cL_goes 394 = .ok (.sipush (-7200), 3) := by decide +kernel
theorem dL_goes_397 : decode cL_goes 397 = .ok (.if_icmp .eq 5, 3) := by decide +kernel
theorem dL_goes_400 : decode cL_goes 400 = .ok (.iconst 0, 1) := by decide +kernel
theorem dL_goes_401 : decode cL_goes 401 = .ok (.ireturn, 1) := by decide +kernel
theorem dL_goes_402 : decode cL_goes 402 = .ok (.aload 15, 2) := by decide +kernel
theorem dL_goes_404 : decode cL_goes 404 = .ok (.iconst 0, 1) := by decide +kernel
theorem dL_goes_405 : decode cL_goes 405 = .ok (.iaload, 1) := by decide +kernel
theorem dL_goes_406 : decode cL_goes 406 = .ok (.iload 16, 2) := by decide +kernel
theorem dL_goes_408 : decode cL_goes 408 = .ok (.iadd, 1) := by decide +kernel
theorem dL_goes_409 : decode cL_goes 409 = .ok (.sipush 5000, 3) := by decide +kernel
theorem dL_goes_412 : decode cL_goes 412 = .ok (.if_icmp .le 21, 3) := by decide +kernel
theorem dL_goes_415 : decode cL_goes 415 = .ok (.aload_n 0, 1) := by decide +kernel
theorem dL_goes_416 : decode cL_goes 416 = .ok (.iload 16, 2) := by decide +kernel
theorem dL_goes_418 : decode cL_goes 418 = .ok (.invokestatic 133, 3) := by decide +kernel
theorem dL_goes_421 : decode cL_goes 421 = .ok (.sipush (-7300), 3) := by decide +kernel
theorem dL_goes_424 : decode cL_goes 424 = .ok (.if_icmp .ne 7, 3) := by decide +kernel
theorem dL_goes_427 : decode cL_goes 427 = .ok (.iconst 1, 1) := by decide +kernel
theorem dL_goes_428 : decode cL_goes 428 = .ok (.goto 4, 3) := by decide +kernel
theorem dL_goes_431 : decode cL_goes 431 = .ok (.iconst 0, 1) := by decide +kernel
theorem dL_goes_432 : decode cL_goes 432 = .ok (.ireturn, 1) := by decide +kernel
theorem dL_goes_433 : decode cL_goes 433 = .ok (.iconst 0, 1) := by decide +kernel
theorem dL_goes_434 : decode cL_goes 434 = .ok (.istore 17, 2) := by decide +kernel
theorem dL_goes_436 : decode cL_goes 436 = .ok (.iconst 0, 1) := by decide +kernel
theorem dL_goes_437 : decode cL_goes 437 = .ok (.istore 18, 2) := by decide +kernel
theorem dL_goes_439 : decode cL_goes 439 = .ok (.iload 18, 2) := by decide +kernel
theorem dL_goes_441 : decode cL_goes 441 = .ok (.iload 16, 2) := by decide +kernel
theorem dL_goes_443 : decode cL_goes 443 = .ok (.if_icmp .ge 41, 3) := by decide +kernel
theorem dL_goes_446 : decode cL_goes 446 = .ok (.iload 17, 2) := by decide +kernel
theorem dL_goes_448 : decode cL_goes 448 = .ok (.aload 4, 2) := by decide +kernel
theorem dL_goes_450 : decode cL_goes 450 = .ok (.aload 5, 2) := by decide +kernel
theorem dL_goes_452 : decode cL_goes 452 = .ok (.aload 6, 2) := by decide +kernel
theorem dL_goes_454 : decode cL_goes 454 = .ok (.aload 7, 2) := by decide +kernel
theorem dL_goes_456 : decode cL_goes 456 = .ok (.aload 8, 2) := by decide +kernel
theorem dL_goes_458 : decode cL_goes 458 = .ok (.aload 9, 2) := by decide +kernel
theorem dL_goes_460 : decode cL_goes 460 = .ok (.aload 10, 2) := by decide +kernel
theorem dL_goes_462 : decode cL_goes 462 = .ok (.aload 11, 2) := by decide +kernel
theorem dL_goes_464 : decode cL_goes 464 = .ok (.aload 12, 2) := by decide +kernel
theorem dL_goes_466 : decode cL_goes 466 = .ok (.aload 13, 2) := by decide +kernel
theorem dL_goes_468 : decode cL_goes 468 = .ok (.aload 14, 2) := by decide +kernel
theorem dL_goes_470 : decode cL_goes 470 = .ok (.aload 15, 2) := by decide +kernel
theorem dL_goes_472 : decode cL_goes 472 = .ok (.invokestatic 135, 3) := by decide +kernel
theorem dL_goes_475 : decode cL_goes 475 = .ok (.iadd, 1) := by decide +kernel
theorem dL_goes_476 : decode cL_goes 476 = .ok (.istore 17, 2) := by decide +kernel
theorem dL_goes_478 : decode cL_goes 478 = .ok (.iinc 18 1, 3) := by decide +kernel
theorem dL_goes_481 : decode cL_goes 481 = .ok (.goto (-42), 3) := by decide +kernel
theorem dL_goes_484 : decode cL_goes 484 = .ok (.aload_n 0, 1) := by decide +kernel
theorem dL_goes_485 : decode cL_goes 485 = .ok (.iload 16, 2) := by decide +kernel
theorem dL_goes_487 : decode cL_goes 487 = .ok (.invokestatic 133, 3) := by decide +kernel
theorem dL_goes_490 : decode cL_goes 490 = .ok (.iload 17, 2) := by decide +kernel
theorem dL_goes_492 : decode cL_goes 492 = .ok (.if_icmp .ne 7, 3) := by decide +kernel
theorem dL_goes_495 : decode cL_goes 495 = .ok (.iconst 1, 1) := by decide +kernel
theorem dL_goes_496 : decode cL_goes 496 = .ok (.goto 4, 3) := by decide +kernel
theorem dL_goes_499 : decode cL_goes 499 = .ok (.iconst 0, 1) := by decide +kernel
theorem dL_goes_500 : decode cL_goes 500 = .ok (.ireturn, 1) := by decide +kernel
abbrev rmL_goes : Room := { frames := 9, cells := 4084, slots := 35724, locals := 197 }
theorem hdL_goes : yL_goes.cls ≠ "java/lang/invoke/MethodHandle" ∧ yL_goes.cls ≠ "java/lang/invoke/VarHandle" ∧ (parseMethodDescriptor yL_goes.desc).map (fun d => d.parameters.length) = some 16 := by decide +kernel
set_option maxHeartbeats 4000000 in
set_option maxRecDepth 20000 in
theorem mlL_goes_439 {G : xG} {X : xX} (hC : xC G X "PlantServerLaw" cL_goes 20 rmL_goes) (hr : xRt X (some .boolean)) (htab : xTab X []) (a1 : Nm) (a5 : Nm) (a6 : Nm) (a7 : Nm) (a8 : Nm) (a9 : Nm) (a10 : Nm) (a11 : Nm) (a12 : Nm) (a13 : Nm) (a14 : Nm) (a15 : Nm) (a16 : Nm) (r1 : Int32) {ρ : Nm → Nat} (k n : Nat) (hk1 : k ≤ 4084) (hk2 : n ≤ 35724) (K : Int32 → Int32 → PH → Prop) (Q : Int32 → PH → Prop) (Xp : String → PH → Prop) : ∀ (f439 : Nat) (x439_17 : Int32) (x439_18 : Int32) (τ439 : PH), lL_goes_439 a1 a5 a6 a7 a8 a9 a10 a11 a12 a13 a14 a15 a16 r1 K Q f439 x439_17 x439_18 τ439 → (∀ (x439_17 : Int32) (x439_18 : Int32) (τ439 : PH), K x439_17 x439_18 τ439 → xJ G X (xT X (eIA Q) Xp G rmL_goes) 20 ρ τ439 k n 484 [(0, .ref (ρ a1)), (4, .ref (ρ a5)), (5, .ref (ρ a6)), (6, .ref (ρ a7)), (7, .ref (ρ a8)), (8, .ref (ρ a9)), (9, .ref (ρ a10)), (10, .ref (ρ a11)), (11, .ref (ρ a12)), (12, .ref (ρ a13)), (13, .ref (ρ a14)), (14, .ref (ρ a15)), (15, .ref (ρ a16)), (16, .int (1 + r1)), (17, .int x439_17), (18, .int x439_18)] []) → xJ G X (xT X (eIA Q) Xp G rmL_goes) 20 ρ τ439 k n 439 [(0, .ref (ρ a1)), (4, .ref (ρ a5)), (5, .ref (ρ a6)), (6, .ref (ρ a7)), (7, .ref (ρ a8)), (8, .ref (ρ a9)), (9, .ref (ρ a10)), (10, .ref (ρ a11)), (11, .ref (ρ a12)), (12, .ref (ρ a13)), (13, .ref (ρ a14)), (14, .ref (ρ a15)), (15, .ref (ρ a16)), (16, .int (1 + r1)), (17, .int x439_17), (18, .int x439_18)] [] := by
  intro f439
  induction f439 with
  | zero => intro x439_17 x439_18 τ439 h hKK; unfold lL_goes_439 at h; exact h.elim
  | succ f439 ih =>
    intro x439_17 x439_18 τ439 h hKK
    unfold lL_goes_439 at h
    refine x_iload hC 15 rfl dL_goes_439 ?_
    refine x_iload hC 13 rfl dL_goes_441 ?_
    refine x_icmp_ge (tgt := 484) hC dL_goes_443 (by decide) (fun c9 => ?_) (fun c9 => ?_)
    · have h := h.1 c9
      exact hKK _ _ _ h
    · have h := h.2 c9
      refine x_iload hC 14 rfl dL_goes_446 ?_
      refine x_aload hC 1 rfl dL_goes_448 ?_
      refine x_aload hC 2 rfl dL_goes_450 ?_
      refine x_aload hC 3 rfl dL_goes_452 ?_
      refine x_aload hC 4 rfl dL_goes_454 ?_
      refine x_aload hC 5 rfl dL_goes_456 ?_
      refine x_aload hC 6 rfl dL_goes_458 ?_
      refine x_aload hC 7 rfl dL_goes_460 ?_
      refine x_aload hC 8 rfl dL_goes_462 ?_
      refine x_aload hC 9 rfl dL_goes_464 ?_
      refine x_aload hC 10 rfl dL_goes_466 ?_
      refine x_aload hC 11 rfl dL_goes_468 ?_
      refine x_aload hC 12 rfl dL_goes_470 ?_
      refine x_callS (as := [.ref (ρ a5), .ref (ρ a6), .ref (ρ a7), .ref (ρ a8), .ref (ρ a9), .ref (ρ a10), .ref (ρ a11), .ref (ρ a12), .ref (ρ a13), .ref (ρ a14), .ref (ρ a15), .ref (ρ a16)]) (rest := [.int x439_17]) hC (fun l hl => mL_tick l hl G ρ a5 a6 a7 a8 a9 a10 a11 a12 a13 a14 a15 a16 τ439 _ h) q602 q603 q0 q604 hdL_tick (by decide) ⟨(show _ + 0 ≤ 4084 by omega), (show _ + 0 ≤ 35724 by omega)⟩ (by first | exact Nat.le_of_ble_eq_true rfl | (simp [rv_cat]; done) | (simp (decide := true) [rv_cat, cat_ref, cat_int]; done)) rfl dL_goes_472 (fun E σ9 hx => False.elim hx) (fun v6 σ5 ρ5 hp5 hag5 => ?_)
      obtain ⟨e9, r5, e8, h⟩ := hp5
      rw [e8, e9]
      refine xJ.nrm (k' := k + 0) (n' := n + 0) (pc' := 475) (st' := [.int r5, .int x439_17]) rfl rfl rfl rfl ?_
      refine x_iadd hC dL_goes_475 ?_
      refine x_istore (L' := [(17, .int (x439_17 + r5)), (0, .ref (ρ a1)), (4, .ref (ρ a5)), (5, .ref (ρ a6)), (6, .ref (ρ a7)), (7, .ref (ρ a8)), (8, .ref (ρ a9)), (9, .ref (ρ a10)), (10, .ref (ρ a11)), (11, .ref (ρ a12)), (12, .ref (ρ a13)), (13, .ref (ρ a14)), (14, .ref (ρ a15)), (15, .ref (ρ a16)), (16, .int (1 + r1)), (18, .int x439_18)]) hC dL_goes_476 (by decide) (by first | rfl | simp (decide := true) [rv_cat, cat_ref, cat_int]) ?_
      refine x_iinc (v' := x439_18 + 1) (L' := [(18, .int (x439_18 + 1)), (17, .int (x439_17 + r5)), (0, .ref (ρ a1)), (4, .ref (ρ a5)), (5, .ref (ρ a6)), (6, .ref (ρ a7)), (7, .ref (ρ a8)), (8, .ref (ρ a9)), (9, .ref (ρ a10)), (10, .ref (ρ a11)), (11, .ref (ρ a12)), (12, .ref (ρ a13)), (13, .ref (ρ a14)), (14, .ref (ρ a15)), (15, .ref (ρ a16)), (16, .int (1 + r1))]) hC 15 rfl dL_goes_478 rfl (by decide) (by first | rfl | simp (decide := true) [rv_cat, cat_ref, cat_int]) ?_
      refine x_goto (tgt := 439) hC dL_goes_481 (by decide) ?_
      refine xJ.sub (L' := [(0, .ref (ρ a1)), (4, .ref (ρ a5)), (5, .ref (ρ a6)), (6, .ref (ρ a7)), (7, .ref (ρ a8)), (8, .ref (ρ a9)), (9, .ref (ρ a10)), (10, .ref (ρ a11)), (11, .ref (ρ a12)), (12, .ref (ρ a13)), (13, .ref (ρ a14)), (14, .ref (ρ a15)), (15, .ref (ρ a16)), (16, .int (1 + r1)), (17, .int (x439_17 + r5)), (18, .int (x439_18 + 1))]) [2, 3, 4, 5, 6, 7, 8, 9, 10, 11, 12, 13, 14, 15, 1, 0] rfl ?_
      exact ih _ _ _ h hKK
set_option maxHeartbeats 4000000 in
set_option maxRecDepth 20000 in
theorem mL_goes (l : Launch) (hl : l.stackTraces = false) (G : xG) (ρ : Nm → Nat) (a1 : Nm) (p2 : Int32) (p3 : Int32) (p4 : Int32) (a5 : Nm) (a6 : Nm) (a7 : Nm) (a8 : Nm) (a9 : Nm) (a10 : Nm) (a11 : Nm) (a12 : Nm) (a13 : Nm) (a14 : Nm) (a15 : Nm) (a16 : Nm) (σ : PH) (Q : Int32 → PH → Prop) (h : wL_goes a1 p2 p3 p4 a5 a6 a7 a8 a9 a10 a11 a12 a13 a14 a15 a16 σ Q) : xMet l yL_goes (.code yL_goes cL_goes 20 (some .boolean)) rmL_goes G ρ σ [.ref (ρ a1), .int p2, .int p3, .int p4, .ref (ρ a5), .ref (ρ a6), .ref (ρ a7), .ref (ρ a8), .ref (ρ a9), .ref (ρ a10), .ref (ρ a11), .ref (ρ a12), .ref (ρ a13), .ref (ρ a14), .ref (ρ a15), .ref (ρ a16)] (eIA Q) xNo := by
  refine xMet.of hl (by decide +kernel) (Nat.le_of_ble_eq_true rfl) (fun X hC hr hn htab h0 => ?_)
  have hC : xC G X "PlantServerLaw" cL_goes 20 rmL_goes := hC
  unfold wL_goes at h
  refine xJ.loc (L' := [(0, .ref (ρ a1)), (1, .int p2), (2, .int p3), (3, .int p4), (4, .ref (ρ a5)), (5, .ref (ρ a6)), (6, .ref (ρ a7)), (7, .ref (ρ a8)), (8, .ref (ρ a9)), (9, .ref (ρ a10)), (10, .ref (ρ a11)), (11, .ref (ρ a12)), (12, .ref (ρ a13)), (13, .ref (ρ a14)), (14, .ref (ρ a15)), (15, .ref (ρ a16))]) rfl ?_
  refine x_iload_n hC 1 rfl dL_goes_0 ?_
  refine x_iconst (v := 5) hC dL_goes_1 (by decide) ?_
  refine x_icmp_ge (tgt := 131) hC dL_goes_2 (by decide) (fun c1 => ?_) (fun c1 => ?_)
  · have h := h.1 c1
    refine x_iload_n hC 1 rfl dL_goes_131 ?_
    refine x_bipush (v := 8) hC dL_goes_132 (by decide) ?_
    refine x_icmp_ge (tgt := 187) hC dL_goes_134 (by decide) (fun c2 => ?_) (fun c2 => ?_)
    · have h := h.1 c2
      refine x_iload_n hC 1 rfl dL_goes_187 ?_
      refine x_bipush (v := 8) hC dL_goes_188 (by decide) ?_
      refine x_icmp_ne (tgt := 345) hC dL_goes_190 (by decide) (fun c3 => ?_) (fun c3 => ?_)
      · have h := h.1 c3
        refine x_iconst (v := 1) hC dL_goes_345 (by decide) ?_
        refine x_iload_n hC 3 rfl dL_goes_346 ?_
        refine x_iload_n hC 2 rfl dL_goes_347 ?_
        refine x_bipush (v := 96) hC dL_goes_348 (by decide) ?_
        refine x_iand hC dL_goes_350 ?_
        refine xJ.jV (pcJ := 360) (stJ := [.int p4, .int 1]) h (fun x1 h => ?_) (fun K1 hk1 h => ?_)
        · refine x_callS (as := [.int p4, .int x1]) (rest := [.int 1]) hC (fun l hl => mL_low l hl G ρ p4 x1 σ _ h) q81 q82 q0 q83 hdL_low (by decide) ⟨(by decide), (by decide)⟩ (by first | exact Nat.le_of_ble_eq_true rfl | (simp [rv_cat]; done) | (simp (decide := true) [rv_cat, cat_ref, cat_int]; done)) rfl dL_goes_360 (fun E σ9 hx => False.elim hx) (fun v1 σ1 ρ1 hp1 hag1 => ?_)
          obtain ⟨e9, r1, e8, h⟩ := hp1
          rw [e8, e9]
          refine xJ.nrm (k' := 0) (n' := 0) (pc' := 363) (st' := [.int r1, .int 1]) rfl rfl rfl rfl ?_
          refine x_iadd hC dL_goes_363 ?_
          refine x_istore (L' := [(16, .int (1 + r1)), (0, .ref (ρ a1)), (1, .int p2), (2, .int p3), (3, .int p4), (4, .ref (ρ a5)), (5, .ref (ρ a6)), (6, .ref (ρ a7)), (7, .ref (ρ a8)), (8, .ref (ρ a9)), (9, .ref (ρ a10)), (10, .ref (ρ a11)), (11, .ref (ρ a12)), (12, .ref (ρ a13)), (13, .ref (ρ a14)), (14, .ref (ρ a15)), (15, .ref (ρ a16))]) hC dL_goes_364 (by decide) (by first | rfl | simp (decide := true) [rv_cat, cat_ref, cat_int]) ?_
          refine x_aload_n hC 1 rfl dL_goes_366 ?_
          refine x_iconst (v := 0) hC dL_goes_367 (by decide) ?_
          obtain ⟨z1, h⟩ := h
          obtain ⟨z2, h⟩ := h
          obtain ⟨z3, h⟩ := h
          obtain ⟨z4, h⟩ := h
          obtain ⟨z5, h⟩ := h
          obtain ⟨z6, h⟩ := h
          obtain ⟨z7, h⟩ := h
          obtain ⟨z8, h⟩ := h
          obtain ⟨z9, h⟩ := h
          obtain ⟨z10, h⟩ := h
          obtain ⟨z11, h⟩ := h
          obtain ⟨z12, h⟩ := h
          obtain ⟨z13, h⟩ := h
          refine xJ.sub (L' := [(16, .int (1 + r1)), (0, .ref (ρ a1)), (4, .ref (ρ a5)), (5, .ref (ρ a6)), (6, .ref (ρ a7)), (7, .ref (ρ a8)), (8, .ref (ρ a9)), (9, .ref (ρ a10)), (10, .ref (ρ a11)), (11, .ref (ρ a12)), (12, .ref (ρ a13)), (13, .ref (ρ a14)), (14, .ref (ρ a15)), (15, .ref (ρ a16))]) [0, 1, 5, 6, 7, 8, 9, 10, 11, 12, 13, 14, 15, 16] rfl ?_
          refine x_callSW (as := [.ref (ρ a1), .int 0]) (rest := []) hC (fun l hl => mL_pass l hl G ρ a1 0 σ1 _ h) q499 q500 q0 q501 hdL_pass (by decide) ⟨(by decide), (by decide)⟩ (by first | exact Nat.le_of_ble_eq_true rfl | (simp [rv_cat]; done) | (simp (decide := true) [rv_cat, cat_ref, cat_int]; done)) rfl dL_goes_368 (fun E σ9 hx => False.elim hx) (fun v2 σ2 ρ2 hp2 hag2 => ?_)
          obtain ⟨r2, e8, h⟩ := hp2
          rw [e8]
          rw [← (hag2 a1 z1).2, ← (hag2 a5 z2).2, ← (hag2 a6 z3).2, ← (hag2 a7 z4).2, ← (hag2 a8 z5).2, ← (hag2 a9 z6).2, ← (hag2 a10 z7).2, ← (hag2 a11 z8).2, ← (hag2 a12 z9).2, ← (hag2 a13 z10).2, ← (hag2 a14 z11).2, ← (hag2 a15 z12).2, ← (hag2 a16 z13).2]
          refine xJ.nrm (k' := 1021) (n' := 8931) (pc' := 371) (st' := [.int r2]) rfl rfl rfl rfl ?_
          refine x_sipush (v := (-7200)) hC dL_goes_371 (by decide) ?_
          refine x_icmp_ne (tgt := 400) hC dL_goes_374 (by decide) (fun c5 => ?_) (fun c5 => ?_)
          · have h := h.1 c5
            refine x_iconst (v := 0) hC dL_goes_400 (by decide) ?_
            exact x_zret hC hr zb0 dL_goes_401 (by decide) (by decide) ⟨_, rfl, h⟩
          · have h := h.2 c5
            refine x_aload_n hC 1 rfl dL_goes_377 ?_
            refine x_bipush (v := 51) hC dL_goes_378 (by decide) ?_
            obtain ⟨z14, h⟩ := h
            obtain ⟨z15, h⟩ := h
            obtain ⟨z16, h⟩ := h
            obtain ⟨z17, h⟩ := h
            obtain ⟨z18, h⟩ := h
            obtain ⟨z19, h⟩ := h
            obtain ⟨z20, h⟩ := h
            obtain ⟨z21, h⟩ := h
            obtain ⟨z22, h⟩ := h
            obtain ⟨z23, h⟩ := h
            obtain ⟨z24, h⟩ := h
            obtain ⟨z25, h⟩ := h
            obtain ⟨z26, h⟩ := h
            refine x_callSW (as := [.ref (ρ2 a1), .int 51]) (rest := []) hC (fun l hl => mL_pass l hl G ρ2 a1 51 σ2 _ h) q499 q500 q0 q501 hdL_pass (by decide) ⟨(by decide), (by decide)⟩ (by first | exact Nat.le_of_ble_eq_true rfl | (simp [rv_cat]; done) | (simp (decide := true) [rv_cat, cat_ref, cat_int]; done)) rfl dL_goes_380 (fun E σ9 hx => False.elim hx) (fun v3 σ3 ρ3 hp3 hag3 => ?_)
            obtain ⟨r3, e8, h⟩ := hp3
            rw [e8]
            rw [← (hag3 a1 z14).2, ← (hag3 a5 z15).2, ← (hag3 a6 z16).2, ← (hag3 a7 z17).2, ← (hag3 a8 z18).2, ← (hag3 a9 z19).2, ← (hag3 a10 z20).2, ← (hag3 a11 z21).2, ← (hag3 a12 z22).2, ← (hag3 a13 z23).2, ← (hag3 a14 z24).2, ← (hag3 a15 z25).2, ← (hag3 a16 z26).2]
            refine xJ.nrm (k' := 2042) (n' := 17862) (pc' := 383) (st' := [.int r3]) rfl rfl rfl rfl ?_
            refine x_sipush (v := (-7200)) hC dL_goes_383 (by decide) ?_
            refine x_icmp_ne (tgt := 400) hC dL_goes_386 (by decide) (fun c6 => ?_) (fun c6 => ?_)
            · have h := h.1 c6
              refine x_iconst (v := 0) hC dL_goes_400 (by decide) ?_
              exact x_zret hC hr zb0 dL_goes_401 (by decide) (by decide) ⟨_, rfl, h⟩
            · have h := h.2 c6
              refine x_aload_n hC 1 rfl dL_goes_389 ?_
              refine x_iconst (v := (-1)) hC dL_goes_390 (by decide) ?_
              obtain ⟨z27, h⟩ := h
              obtain ⟨z28, h⟩ := h
              obtain ⟨z29, h⟩ := h
              obtain ⟨z30, h⟩ := h
              obtain ⟨z31, h⟩ := h
              obtain ⟨z32, h⟩ := h
              obtain ⟨z33, h⟩ := h
              obtain ⟨z34, h⟩ := h
              obtain ⟨z35, h⟩ := h
              obtain ⟨z36, h⟩ := h
              obtain ⟨z37, h⟩ := h
              obtain ⟨z38, h⟩ := h
              obtain ⟨z39, h⟩ := h
              refine x_callSW (as := [.ref (ρ3 a1), .int (-1)]) (rest := []) hC (fun l hl => mL_pass l hl G ρ3 a1 (-1) σ3 _ h) q499 q500 q0 q501 hdL_pass (by decide) ⟨(by decide), (by decide)⟩ (by first | exact Nat.le_of_ble_eq_true rfl | (simp [rv_cat]; done) | (simp (decide := true) [rv_cat, cat_ref, cat_int]; done)) rfl dL_goes_391 (fun E σ9 hx => False.elim hx) (fun v4 σ4 ρ4 hp4 hag4 => ?_)
              obtain ⟨r4, e8, h⟩ := hp4
              rw [e8]
              rw [← (hag4 a1 z27).2, ← (hag4 a5 z28).2, ← (hag4 a6 z29).2, ← (hag4 a7 z30).2, ← (hag4 a8 z31).2, ← (hag4 a9 z32).2, ← (hag4 a10 z33).2, ← (hag4 a11 z34).2, ← (hag4 a12 z35).2, ← (hag4 a13 z36).2, ← (hag4 a14 z37).2, ← (hag4 a15 z38).2, ← (hag4 a16 z39).2]
              refine xJ.nrm (k' := 3063) (n' := 26793) (pc' := 394) (st' := [.int r4]) rfl rfl rfl rfl ?_
              refine x_sipush (v := (-7200)) hC dL_goes_394 (by decide) ?_
              refine x_icmp_eq (tgt := 402) hC dL_goes_397 (by decide) (fun c7 => ?_) (fun c7 => ?_)
              · have h := h.1 c7
                refine x_aload hC 13 rfl dL_goes_402 ?_
                refine x_iconst (v := 0) hC dL_goes_404 (by decide) ?_
                obtain ⟨k1, h⟩ := h
                obtain ⟨v5, h⟩ := h
                refine x_iald (a := a16) hC k1 v5 dL_goes_405 ?_
                refine x_iload hC 0 rfl dL_goes_406 ?_
                refine x_iadd hC dL_goes_408 ?_
                refine x_sipush (v := 5000) hC dL_goes_409 (by decide) ?_
                refine x_icmp_le (tgt := 433) hC dL_goes_412 (by decide) (fun c8 => ?_) (fun c8 => ?_)
                · have h := h.1 c8
                  refine x_iconst (v := 0) hC dL_goes_433 (by decide) ?_
                  refine x_istore (L' := [(17, .int 0), (16, .int (1 + r1)), (0, .ref (ρ4 a1)), (4, .ref (ρ4 a5)), (5, .ref (ρ4 a6)), (6, .ref (ρ4 a7)), (7, .ref (ρ4 a8)), (8, .ref (ρ4 a9)), (9, .ref (ρ4 a10)), (10, .ref (ρ4 a11)), (11, .ref (ρ4 a12)), (12, .ref (ρ4 a13)), (13, .ref (ρ4 a14)), (14, .ref (ρ4 a15)), (15, .ref (ρ4 a16))]) hC dL_goes_434 (by decide) (by first | rfl | simp (decide := true) [rv_cat, cat_ref, cat_int]) ?_
                  refine x_iconst (v := 0) hC dL_goes_436 (by decide) ?_
                  refine x_istore (L' := [(18, .int 0), (17, .int 0), (16, .int (1 + r1)), (0, .ref (ρ4 a1)), (4, .ref (ρ4 a5)), (5, .ref (ρ4 a6)), (6, .ref (ρ4 a7)), (7, .ref (ρ4 a8)), (8, .ref (ρ4 a9)), (9, .ref (ρ4 a10)), (10, .ref (ρ4 a11)), (11, .ref (ρ4 a12)), (12, .ref (ρ4 a13)), (13, .ref (ρ4 a14)), (14, .ref (ρ4 a15)), (15, .ref (ρ4 a16))]) hC dL_goes_437 (by decide) (by first | rfl | simp (decide := true) [rv_cat, cat_ref, cat_int]) ?_
                  refine xJ.sub (L' := [(0, .ref (ρ4 a1)), (4, .ref (ρ4 a5)), (5, .ref (ρ4 a6)), (6, .ref (ρ4 a7)), (7, .ref (ρ4 a8)), (8, .ref (ρ4 a9)), (9, .ref (ρ4 a10)), (10, .ref (ρ4 a11)), (11, .ref (ρ4 a12)), (12, .ref (ρ4 a13)), (13, .ref (ρ4 a14)), (14, .ref (ρ4 a15)), (15, .ref (ρ4 a16)), (16, .int (1 + r1)), (17, .int 0), (18, .int 0)]) [3, 4, 5, 6, 7, 8, 9, 10, 11, 12, 13, 14, 15, 2, 1, 0] rfl ?_
                  obtain ⟨f439, h⟩ := h
                  refine mlL_goes_439 hC hr htab a1 a5 a6 a7 a8 a9 a10 a11 a12 a13 a14 a15 a16 r1 (3063) (26793) (by decide) (by decide) _ Q _ f439 _ _ _ h (fun y1 y2 τ1 h => ?_)
                  refine x_aload_n hC 0 rfl dL_goes_484 ?_
                  refine x_iload hC 13 rfl dL_goes_485 ?_
                  refine xJ.sub (L' := [(17, .int y1)]) [14] rfl ?_
                  refine x_callSW (as := [.ref (ρ4 a1), .int (1 + r1)]) (rest := []) hC (fun l hl => mL_pass l hl G ρ4 a1 (1 + r1) τ1 _ h) q499 q500 q0 q501 hdL_pass (by decide) ⟨(by decide), (by decide)⟩ (by first | exact Nat.le_of_ble_eq_true rfl | (simp [rv_cat]; done) | (simp (decide := true) [rv_cat, cat_ref, cat_int]; done)) rfl dL_goes_487 (fun E σ9 hx => False.elim hx) (fun v7 σ6 ρ6 hp6 hag6 => ?_)
                  obtain ⟨r6, e8, h⟩ := hp6
                  rw [e8]
                  refine xJ.nrm (k' := 4084) (n' := 35724) (pc' := 490) (st' := [.int r6]) rfl rfl rfl rfl ?_
                  refine x_iload hC 0 rfl dL_goes_490 ?_
                  refine x_icmp_ne (tgt := 499) hC dL_goes_492 (by decide) (fun c10 => ?_) (fun c10 => ?_)
                  · have h := h.1 c10
                    refine x_iconst (v := 0) hC dL_goes_499 (by decide) ?_
                    exact x_zret hC hr zb0 dL_goes_500 (by decide) (by decide) ⟨_, rfl, h⟩
                  · have h := h.2 c10
                    refine x_iconst (v := 1) hC dL_goes_495 (by decide) ?_
                    refine x_goto (tgt := 500) hC dL_goes_496 (by decide) ?_
                    exact x_zret hC hr zb1 dL_goes_500 (by decide) (by decide) ⟨_, rfl, h⟩
                · have h := h.2 c8
                  refine x_aload_n hC 1 rfl dL_goes_415 ?_
                  refine x_iload hC 0 rfl dL_goes_416 ?_
                  refine xJ.sub (L' := []) [] rfl ?_
                  refine x_callSW (as := [.ref (ρ4 a1), .int (1 + r1)]) (rest := []) hC (fun l hl => mL_pass l hl G ρ4 a1 (1 + r1) σ4 _ h) q499 q500 q0 q501 hdL_pass (by decide) ⟨(by decide), (by decide)⟩ (by first | exact Nat.le_of_ble_eq_true rfl | (simp [rv_cat]; done) | (simp (decide := true) [rv_cat, cat_ref, cat_int]; done)) rfl dL_goes_418 (fun E σ9 hx => False.elim hx) (fun v8 σ7 ρ7 hp7 hag7 => ?_)
                  obtain ⟨r7, e8, h⟩ := hp7
                  rw [e8]
                  refine xJ.nrm (k' := 4084) (n' := 35724) (pc' := 421) (st' := [.int r7]) rfl rfl rfl rfl ?_
                  refine x_sipush (v := (-7300)) hC dL_goes_421 (by decide) ?_
                  refine x_icmp_ne (tgt := 431) hC dL_goes_424 (by decide) (fun c11 => ?_) (fun c11 => ?_)
                  · have h := h.1 c11
                    refine x_iconst (v := 0) hC dL_goes_431 (by decide) ?_
                    exact x_zret hC hr zb0 dL_goes_432 (by decide) (by decide) ⟨_, rfl, h⟩
                  · have h := h.2 c11
                    refine x_iconst (v := 1) hC dL_goes_427 (by decide) ?_
                    refine x_goto (tgt := 432) hC dL_goes_428 (by decide) ?_
                    exact x_zret hC hr zb1 dL_goes_432 (by decide) (by decide) ⟨_, rfl, h⟩
              · have h := h.2 c7
                refine x_iconst (v := 0) hC dL_goes_400 (by decide) ?_
                exact x_zret hC hr zb0 dL_goes_401 (by decide) (by decide) ⟨_, rfl, h⟩
        · refine x_if_ne (tgt := 359) hC dL_goes_351 (by decide) (fun c4 => ?_) (fun c4 => ?_)
          · have h := h.1 c4
            refine x_iconst (v := 4) hC dL_goes_359 (by decide) ?_
            exact hk1 _ h
          · have h := h.2 c4
            refine x_bipush (v := 50) hC dL_goes_354 (by decide) ?_
            refine x_goto (tgt := 360) hC dL_goes_356 (by decide) ?_
            exact hk1 _ h
      · have h := h.2 c3
        refine x_iload_n hC 2 rfl dL_goes_193 ?_
        refine x_iconst (v := 1) hC dL_goes_194 (by decide) ?_
        refine x_iand hC dL_goes_195 ?_
        refine x_istore (L' := [(16, .int (p3 &&& 1)), (0, .ref (ρ a1)), (1, .int p2), (2, .int p3), (3, .int p4), (4, .ref (ρ a5)), (5, .ref (ρ a6)), (6, .ref (ρ a7)), (7, .ref (ρ a8)), (8, .ref (ρ a9)), (9, .ref (ρ a10)), (10, .ref (ρ a11)), (11, .ref (ρ a12)), (12, .ref (ρ a13)), (13, .ref (ρ a14)), (14, .ref (ρ a15)), (15, .ref (ρ a16))]) hC dL_goes_196 (by decide) (by first | rfl | simp (decide := true) [rv_cat, cat_ref, cat_int]) ?_
        refine x_aload hC 6 rfl dL_goes_198 ?_
        refine x_bipush (v := 11) hC dL_goes_200 (by decide) ?_
        refine x_iload hC 0 rfl dL_goes_202 ?_
        refine x_imul hC dL_goes_204 ?_
        refine x_bipush (v := 9) hC dL_goes_205 (by decide) ?_
        refine x_iadd hC dL_goes_207 ?_
        obtain ⟨k2, h⟩ := h
        obtain ⟨v9, h⟩ := h
        refine x_iald (a := a6) hC k2 v9 dL_goes_208 ?_
        refine x_iload_n hC 4 rfl dL_goes_209 ?_
        refine x_bipush (v := 8) hC dL_goes_210 (by decide) ?_
        refine x_callS (as := [.int p4, .int 8]) (rest := [.int (hI σ a6 (Int32.toNatClampNeg ((11 * (p3 &&& 1)) + 9)))]) hC (fun l hl => mL_low l hl G ρ p4 8 σ _ h) q81 q82 q0 q83 hdL_low (by decide) ⟨(by decide), (by decide)⟩ (by first | exact Nat.le_of_ble_eq_true rfl | (simp [rv_cat]; done) | (simp (decide := true) [rv_cat, cat_ref, cat_int]; done)) rfl dL_goes_212 (fun E σ9 hx => False.elim hx) (fun v10 σ8 ρ8 hp8 hag8 => ?_)
        obtain ⟨e9, r8, e8, h⟩ := hp8
        rw [e8, e9]
        refine xJ.nrm (k' := 0) (n' := 0) (pc' := 215) (st' := [.int r8, .int (hI σ a6 (Int32.toNatClampNeg ((11 * (p3 &&& 1)) + 9)))]) rfl rfl rfl rfl ?_
        refine x_isub hC dL_goes_215 ?_
        refine x_iconst (v := 1) hC dL_goes_216 (by decide) ?_
        refine x_iadd hC dL_goes_217 ?_
        refine xJ.nmT (fun x2 ex1 => ?_)
        have h := h x2 ex1
        refine x_istore (L' := [(17, .int x2), (16, .int (p3 &&& 1)), (0, .ref (ρ a1)), (1, .int p2), (2, .int p3), (3, .int p4), (4, .ref (ρ a5)), (5, .ref (ρ a6)), (6, .ref (ρ a7)), (7, .ref (ρ a8)), (8, .ref (ρ a9)), (9, .ref (ρ a10)), (10, .ref (ρ a11)), (11, .ref (ρ a12)), (12, .ref (ρ a13)), (13, .ref (ρ a14)), (14, .ref (ρ a15)), (15, .ref (ρ a16))]) hC dL_goes_218 (by decide) (by first | rfl | simp (decide := true) [rv_cat, cat_ref, cat_int]) ?_
        refine x_iload hC 1 rfl dL_goes_220 ?_
        refine x_aload hC 17 rfl dL_goes_222 ?_
        refine x_iconst (v := 1) hC dL_goes_224 (by decide) ?_
        obtain ⟨k3, h⟩ := h
        obtain ⟨v11, h⟩ := h
        refine x_iald (a := a16) hC k3 v11 dL_goes_225 ?_
        refine x_icmp_ge (tgt := 240) hC dL_goes_226 (by decide) (fun c12 => ?_) (fun c12 => ?_)
        · have h := h.1 c12
          refine x_aload_n hC 2 rfl dL_goes_240 ?_
          refine x_iload hC 1 rfl dL_goes_241 ?_
          refine x_iload hC 0 rfl dL_goes_243 ?_
          refine x_callSW (as := [.ref (ρ a1), .int (p3 &&& 1), .int x2]) (rest := []) hC (fun l hl => mL_acknowledge l hl G ρ a1 (p3 &&& 1) x2 σ8 _ h) q480 q481 q0 q482 hdL_acknowledge (by decide) ⟨(by decide), (by decide)⟩ (by first | exact Nat.le_of_ble_eq_true rfl | (simp [rv_cat]; done) | (simp (decide := true) [rv_cat, cat_ref, cat_int]; done)) rfl dL_goes_245 (fun E σ9 hx => False.elim hx) (fun v12 σ9 ρ9 hp9 hag9 => ?_)
          obtain ⟨e9, r9, e8, h⟩ := hp9
          rw [e8, e9]
          refine xJ.nrm (k' := 1) (n' := 6) (pc' := 248) (st' := [.int r9]) rfl rfl rfl rfl ?_
          refine x_sipush (v := (-7100)) hC dL_goes_248 (by decide) ?_
          refine x_icmp_ne (tgt := 271) hC dL_goes_251 (by decide) (fun c13 => ?_) (fun c13 => ?_)
          · have h := h.1 c13
            refine x_iconst (v := 0) hC dL_goes_271 (by decide) ?_
            exact x_zret hC hr zb0 dL_goes_272 (by decide) (by decide) ⟨_, rfl, h⟩
          · have h := h.2 c13
            refine x_aload_n hC 2 rfl dL_goes_254 ?_
            refine x_iconst (v := (-1)) hC dL_goes_255 (by decide) ?_
            refine x_iload hC 0 rfl dL_goes_256 ?_
            refine x_callSW (as := [.ref (ρ a1), .int (-1), .int x2]) (rest := []) hC (fun l hl => mL_acknowledge l hl G ρ a1 (-1) x2 σ9 _ h) q480 q481 q0 q482 hdL_acknowledge (by decide) ⟨(by decide), (by decide)⟩ (by first | exact Nat.le_of_ble_eq_true rfl | (simp [rv_cat]; done) | (simp (decide := true) [rv_cat, cat_ref, cat_int]; done)) rfl dL_goes_258 (fun E σ9 hx => False.elim hx) (fun v13 σ10 ρ10 hp10 hag10 => ?_)
            obtain ⟨e9, r10, e8, h⟩ := hp10
            rw [e8, e9]
            refine xJ.nrm (k' := 2) (n' := 12) (pc' := 261) (st' := [.int r10]) rfl rfl rfl rfl ?_
            refine x_sipush (v := (-7100)) hC dL_goes_261 (by decide) ?_
            refine x_icmp_ne (tgt := 271) hC dL_goes_264 (by decide) (fun c14 => ?_) (fun c14 => ?_)
            · have h := h.1 c14
              refine x_iconst (v := 0) hC dL_goes_271 (by decide) ?_
              exact x_zret hC hr zb0 dL_goes_272 (by decide) (by decide) ⟨_, rfl, h⟩
            · have h := h.2 c14
              refine x_iconst (v := 1) hC dL_goes_267 (by decide) ?_
              refine x_goto (tgt := 272) hC dL_goes_268 (by decide) ?_
              exact x_zret hC hr zb1 dL_goes_272 (by decide) (by decide) ⟨_, rfl, h⟩
        · have h := h.2 c12
          refine x_aload hC 7 rfl dL_goes_229 ?_
          refine x_bipush (v := 11) hC dL_goes_231 (by decide) ?_
          refine x_iload hC 1 rfl dL_goes_233 ?_
          refine x_imul hC dL_goes_235 ?_
          have k4 : hK σ8 a6 = 9 := (hag8 a6 (by rw [k2]; decide)).1.trans k2
          obtain ⟨v14, h⟩ := h
          refine x_iald (a := a6) hC k4 v14 dL_goes_236 ?_
          refine x_if_ne (tgt := 273) hC dL_goes_237 (by decide) (fun c15 => ?_) (fun c15 => ?_)
          · have h := h.1 c15
            refine x_aload hC 15 rfl dL_goes_273 ?_
            refine x_iload hC 1 rfl dL_goes_275 ?_
            refine x_iload hC 0 rfl dL_goes_277 ?_
            refine x_callS (as := [.ref (ρ a14), .int (p3 &&& 1), .int x2]) (rest := []) hC (fun l hl => mL_kept l hl G ρ a14 (p3 &&& 1) x2 σ8 _ h) q495 q496 q0 q497 hdL_kept (by decide) ⟨(by decide), (by decide)⟩ (by first | exact Nat.le_of_ble_eq_true rfl | (simp [rv_cat]; done) | (simp (decide := true) [rv_cat, cat_ref, cat_int]; done)) rfl dL_goes_279 (fun E σ9 hx => False.elim hx) (fun v15 σ11 ρ11 hp11 hag11 => ?_)
            obtain ⟨e9, r11, e8, h⟩ := hp11
            rw [e8, e9]
            refine xJ.nrm (k' := 0) (n' := 0) (pc' := 282) (st' := [.int r11]) rfl rfl rfl rfl ?_
            refine x_istore (L' := [(18, .int r11), (17, .int x2), (16, .int (p3 &&& 1)), (0, .ref (ρ a1)), (1, .int p2), (2, .int p3), (3, .int p4), (4, .ref (ρ a5)), (5, .ref (ρ a6)), (6, .ref (ρ a7)), (7, .ref (ρ a8)), (8, .ref (ρ a9)), (9, .ref (ρ a10)), (10, .ref (ρ a11)), (11, .ref (ρ a12)), (12, .ref (ρ a13)), (13, .ref (ρ a14)), (14, .ref (ρ a15)), (15, .ref (ρ a16))]) hC dL_goes_282 (by decide) (by first | rfl | simp (decide := true) [rv_cat, cat_ref, cat_int]) ?_
            refine x_iload hC 0 rfl dL_goes_284 ?_
            refine xJ.jV (pcJ := 294) (stJ := []) h (fun x3 h => ?_) (fun K2 hk2 h => ?_)
            · refine x_istore (L' := [(19, .int x3), (18, .int r11), (17, .int x2), (16, .int (p3 &&& 1)), (0, .ref (ρ a1)), (1, .int p2), (2, .int p3), (3, .int p4), (4, .ref (ρ a5)), (5, .ref (ρ a6)), (6, .ref (ρ a7)), (7, .ref (ρ a8)), (8, .ref (ρ a9)), (9, .ref (ρ a10)), (10, .ref (ρ a11)), (11, .ref (ρ a12)), (12, .ref (ρ a13)), (13, .ref (ρ a14)), (14, .ref (ρ a15)), (15, .ref (ρ a16))]) hC dL_goes_294 (by decide) (by first | rfl | simp (decide := true) [rv_cat, cat_ref, cat_int]) ?_
              refine x_iload hC 0 rfl dL_goes_296 ?_
              refine xJ.jS (pcJ := 307) (stJ := []) h (fun σ13 h => ?_) (fun K3 hk3 h => ?_)
              · refine x_aload_n hC 4 rfl dL_goes_307 ?_
                refine x_iload hC 3 rfl dL_goes_308 ?_
                refine x_iload hC 2 rfl dL_goes_310 ?_
                refine x_callSW (as := [.ref (ρ a1), .int (p3 &&& 1), .int x2]) (rest := []) hC (fun l hl => mL_acknowledge l hl G ρ a1 (p3 &&& 1) x2 σ13 _ h) q480 q481 q0 q482 hdL_acknowledge (by decide) ⟨(by decide), (by decide)⟩ (by first | exact Nat.le_of_ble_eq_true rfl | (simp [rv_cat]; done) | (simp (decide := true) [rv_cat, cat_ref, cat_int]; done)) rfl dL_goes_312 (fun E σ9 hx => False.elim hx) (fun v17 σ14 ρ12 hp12 hag12 => ?_)
                obtain ⟨e9, r13, e8, h⟩ := hp12
                rw [e8, e9]
                refine xJ.nrm (k' := 1) (n' := 6) (pc' := 315) (st' := [.int r13]) rfl rfl rfl rfl ?_
                refine x_iload hC 0 rfl dL_goes_315 ?_
                refine xJ.jV (pcJ := 325) (stJ := [.int r13]) h (fun x4 h => ?_) (fun K4 hk4 h => ?_)
                · refine x_icmp_ne (tgt := 343) hC dL_goes_325 (by decide) (fun c19 => ?_) (fun c19 => ?_)
                  · have h := h.1 c19
                    refine x_iconst (v := 0) hC dL_goes_343 (by decide) ?_
                    exact x_zret hC hr zb0 dL_goes_344 (by decide) (by decide) ⟨_, rfl, h⟩
                  · have h := h.2 c19
                    refine x_aload_n hC 4 rfl dL_goes_328 ?_
                    refine x_iload hC 3 rfl dL_goes_329 ?_
                    refine x_ldc (v := (-2147483648)) hC q498 dL_goes_331 ?_
                    refine x_callSW (as := [.ref (ρ a1), .int (p3 &&& 1), .int (-2147483648)]) (rest := []) hC (fun l hl => mL_acknowledge l hl G ρ a1 (p3 &&& 1) (-2147483648) σ14 _ h) q480 q481 q0 q482 hdL_acknowledge (by decide) ⟨(by decide), (by decide)⟩ (by first | exact Nat.le_of_ble_eq_true rfl | (simp [rv_cat]; done) | (simp (decide := true) [rv_cat, cat_ref, cat_int]; done)) rfl dL_goes_333 (fun E σ9 hx => False.elim hx) (fun v18 σ15 ρ13 hp13 hag13 => ?_)
                    obtain ⟨e9, r14, e8, h⟩ := hp13
                    rw [e8, e9]
                    refine xJ.nrm (k' := 2) (n' := 12) (pc' := 336) (st' := [.int r14]) rfl rfl rfl rfl ?_
                    refine x_if_ne (tgt := 343) hC dL_goes_336 (by decide) (fun c20 => ?_) (fun c20 => ?_)
                    · have h := h.1 c20
                      refine x_iconst (v := 0) hC dL_goes_343 (by decide) ?_
                      exact x_zret hC hr zb0 dL_goes_344 (by decide) (by decide) ⟨_, rfl, h⟩
                    · have h := h.2 c20
                      refine x_iconst (v := 1) hC dL_goes_339 (by decide) ?_
                      refine x_goto (tgt := 344) hC dL_goes_340 (by decide) ?_
                      exact x_zret hC hr zb1 dL_goes_344 (by decide) (by decide) ⟨_, rfl, h⟩
                · refine x_if_eq (tgt := 324) hC dL_goes_317 (by decide) (fun c18 => ?_) (fun c18 => ?_)
                  · have h := h.1 c18
                    refine x_iconst (v := 0) hC dL_goes_324 (by decide) ?_
                    exact hk4 _ h
                  · have h := h.2 c18
                    refine x_iconst (v := 1) hC dL_goes_320 (by decide) ?_
                    refine x_goto (tgt := 325) hC dL_goes_321 (by decide) ?_
                    exact hk4 _ h
              · refine x_if_eq (tgt := 307) hC dL_goes_298 (by decide) (fun c17 => ?_) (fun c17 => ?_)
                · have h := h.1 c17
                  exact hk3 _ h
                · have h := h.2 c17
                  refine x_aload hC 17 rfl dL_goes_301 ?_
                  refine x_iload hC 1 rfl dL_goes_303 ?_
                  refine x_iconst (v := 0) hC dL_goes_305 (by decide) ?_
                  obtain ⟨k5, h⟩ := h
                  obtain ⟨v16, h⟩ := h
                  refine x_iast (a := a14) hC k5 v16 dL_goes_306 ?_
                  refine xJ.nmH (fun σ12 e1 => ?_)
                  have h := h σ12 e1
                  have r12 : hR σ12 = hR σ11 ∧ hL σ12 = hL σ11 := by rw [e1]; exact ⟨rfl, rfl⟩
                  exact hk3 _ h
            · refine x_if_lt (tgt := 293) hC dL_goes_286 (by decide) (fun c16 => ?_) (fun c16 => ?_)
              · have h := h.1 c16
                refine x_iconst (v := 0) hC dL_goes_293 (by decide) ?_
                exact hk2 _ h
              · have h := h.2 c16
                refine x_iconst (v := 1) hC dL_goes_289 (by decide) ?_
                refine x_goto (tgt := 294) hC dL_goes_290 (by decide) ?_
                exact hk2 _ h
          · have h := h.2 c15
            refine x_aload_n hC 2 rfl dL_goes_240 ?_
            refine x_iload hC 1 rfl dL_goes_241 ?_
            refine x_iload hC 0 rfl dL_goes_243 ?_
            refine x_callSW (as := [.ref (ρ a1), .int (p3 &&& 1), .int x2]) (rest := []) hC (fun l hl => mL_acknowledge l hl G ρ a1 (p3 &&& 1) x2 σ8 _ h) q480 q481 q0 q482 hdL_acknowledge (by decide) ⟨(by decide), (by decide)⟩ (by first | exact Nat.le_of_ble_eq_true rfl | (simp [rv_cat]; done) | (simp (decide := true) [rv_cat, cat_ref, cat_int]; done)) rfl dL_goes_245 (fun E σ9 hx => False.elim hx) (fun v19 σ16 ρ14 hp14 hag14 => ?_)
            obtain ⟨e9, r15, e8, h⟩ := hp14
            rw [e8, e9]
            refine xJ.nrm (k' := 1) (n' := 6) (pc' := 248) (st' := [.int r15]) rfl rfl rfl rfl ?_
            refine x_sipush (v := (-7100)) hC dL_goes_248 (by decide) ?_
            refine x_icmp_ne (tgt := 271) hC dL_goes_251 (by decide) (fun c21 => ?_) (fun c21 => ?_)
            · have h := h.1 c21
              refine x_iconst (v := 0) hC dL_goes_271 (by decide) ?_
              exact x_zret hC hr zb0 dL_goes_272 (by decide) (by decide) ⟨_, rfl, h⟩
            · have h := h.2 c21
              refine x_aload_n hC 2 rfl dL_goes_254 ?_
              refine x_iconst (v := (-1)) hC dL_goes_255 (by decide) ?_
              refine x_iload hC 0 rfl dL_goes_256 ?_
              refine x_callSW (as := [.ref (ρ a1), .int (-1), .int x2]) (rest := []) hC (fun l hl => mL_acknowledge l hl G ρ a1 (-1) x2 σ16 _ h) q480 q481 q0 q482 hdL_acknowledge (by decide) ⟨(by decide), (by decide)⟩ (by first | exact Nat.le_of_ble_eq_true rfl | (simp [rv_cat]; done) | (simp (decide := true) [rv_cat, cat_ref, cat_int]; done)) rfl dL_goes_258 (fun E σ9 hx => False.elim hx) (fun v20 σ17 ρ15 hp15 hag15 => ?_)
              obtain ⟨e9, r16, e8, h⟩ := hp15
              rw [e8, e9]
              refine xJ.nrm (k' := 2) (n' := 12) (pc' := 261) (st' := [.int r16]) rfl rfl rfl rfl ?_
              refine x_sipush (v := (-7100)) hC dL_goes_261 (by decide) ?_
              refine x_icmp_ne (tgt := 271) hC dL_goes_264 (by decide) (fun c22 => ?_) (fun c22 => ?_)
              · have h := h.1 c22
                refine x_iconst (v := 0) hC dL_goes_271 (by decide) ?_
                exact x_zret hC hr zb0 dL_goes_272 (by decide) (by decide) ⟨_, rfl, h⟩
              · have h := h.2 c22
                refine x_iconst (v := 1) hC dL_goes_267 (by decide) ?_
                refine x_goto (tgt := 272) hC dL_goes_268 (by decide) ?_
                exact x_zret hC hr zb1 dL_goes_272 (by decide) (by decide) ⟨_, rfl, h⟩
    · have h := h.2 c2
      refine x_aload hC 15 rfl dL_goes_137 ?_
      refine x_iconst (v := 3) hC dL_goes_139 (by decide) ?_
      obtain ⟨k6, h⟩ := h
      obtain ⟨v21, h⟩ := h
      refine x_iald (a := a16) hC k6 v21 dL_goes_140 ?_
      refine x_bipush (v := 10) hC dL_goes_141 (by decide) ?_
      refine x_icmp_ne (tgt := 162) hC dL_goes_143 (by decide) (fun c23 => ?_) (fun c23 => ?_)
      · have h := h.1 c23
        refine x_aload hC 15 rfl dL_goes_162 ?_
        refine x_iconst (v := 3) hC dL_goes_164 (by decide) ?_
        refine x_dup2 hC (by first | rfl | exact rv_cat) (by first | rfl | exact rv_cat) dL_goes_165 ?_
        refine x_iald (a := a16) hC k6 v21 dL_goes_166 ?_
        refine x_iconst (v := 1) hC dL_goes_167 (by decide) ?_
        refine x_iadd hC dL_goes_168 ?_
        refine x_iast (a := a16) hC k6 v21 dL_goes_169 ?_
        refine xJ.nmH (fun σ18 e2 => ?_)
        have h := h σ18 e2
        have r17 : hR σ18 = hR σ ∧ hL σ18 = hL σ := by rw [e2]; exact ⟨rfl, rfl⟩
        refine x_aload_n hC 0 rfl dL_goes_170 ?_
        refine x_callSW (as := [.ref (ρ a1)]) (rest := []) hC (fun l hl => mL_request l hl G ρ a1 σ18 _ h) q472 q473 q0 q474 hdL_request (by decide) ⟨(by decide), (by decide)⟩ (by first | exact Nat.le_of_ble_eq_true rfl | (simp [rv_cat]; done) | (simp (decide := true) [rv_cat, cat_ref, cat_int]; done)) rfl dL_goes_171 (fun E σ9 hx => False.elim hx) (fun v22 σ19 ρ16 hp16 hag16 => ?_)
        obtain ⟨e9, r18, e8, h⟩ := hp16
        rw [e8, e9]
        refine xJ.nrm (k' := 1) (n' := 6) (pc' := 174) (st' := [.int r18]) rfl rfl rfl rfl ?_
        refine x_aload hC 15 rfl dL_goes_174 ?_
        refine x_iconst (v := 3) hC dL_goes_176 (by decide) ?_
        have k7 : hK σ18 a16 = 9 := by rw [e2]; exact k6
        have k8 : hK σ19 a16 = 9 := (hag16 a16 (by rw [k7]; decide)).1.trans k7
        obtain ⟨v23, h⟩ := h
        refine x_iald (a := a16) hC k8 v23 dL_goes_177 ?_
        refine x_icmp_ne (tgt := 185) hC dL_goes_178 (by decide) (fun c24 => ?_) (fun c24 => ?_)
        · have h := h.1 c24
          refine x_iconst (v := 0) hC dL_goes_185 (by decide) ?_
          exact x_zret hC hr zb0 dL_goes_186 (by decide) (by decide) ⟨_, rfl, h⟩
        · have h := h.2 c24
          refine x_iconst (v := 1) hC dL_goes_181 (by decide) ?_
          refine x_goto (tgt := 186) hC dL_goes_182 (by decide) ?_
          exact x_zret hC hr zb1 dL_goes_186 (by decide) (by decide) ⟨_, rfl, h⟩
      · have h := h.2 c23
        refine x_aload_n hC 0 rfl dL_goes_146 ?_
        refine x_callSW (as := [.ref (ρ a1)]) (rest := []) hC (fun l hl => mL_request l hl G ρ a1 σ _ h) q472 q473 q0 q474 hdL_request (by decide) ⟨(by decide), (by decide)⟩ (by first | exact Nat.le_of_ble_eq_true rfl | (simp [rv_cat]; done) | (simp (decide := true) [rv_cat, cat_ref, cat_int]; done)) rfl dL_goes_147 (fun E σ9 hx => False.elim hx) (fun v24 σ20 ρ17 hp17 hag17 => ?_)
        obtain ⟨e9, r19, e8, h⟩ := hp17
        rw [e8, e9]
        refine xJ.nrm (k' := 1) (n' := 6) (pc' := 150) (st' := [.int r19]) rfl rfl rfl rfl ?_
        refine x_sipush (v := (-7300)) hC dL_goes_150 (by decide) ?_
        refine x_icmp_ne (tgt := 160) hC dL_goes_153 (by decide) (fun c25 => ?_) (fun c25 => ?_)
        · have h := h.1 c25
          refine x_iconst (v := 0) hC dL_goes_160 (by decide) ?_
          exact x_zret hC hr zb0 dL_goes_161 (by decide) (by decide) ⟨_, rfl, h⟩
        · have h := h.2 c25
          refine x_iconst (v := 1) hC dL_goes_156 (by decide) ?_
          refine x_goto (tgt := 161) hC dL_goes_157 (by decide) ?_
          exact x_zret hC hr zb1 dL_goes_161 (by decide) (by decide) ⟨_, rfl, h⟩
  · have h := h.2 c1
    refine x_iload_n hC 2 rfl dL_goes_5 ?_
    refine x_iconst (v := 3) hC dL_goes_6 (by decide) ?_
    refine x_callS (as := [.int p3, .int 3]) (rest := []) hC (fun l hl => mL_low l hl G ρ p3 3 σ _ h) q81 q82 q0 q83 hdL_low (by decide) ⟨(by decide), (by decide)⟩ (by first | exact Nat.le_of_ble_eq_true rfl | (simp [rv_cat]; done) | (simp (decide := true) [rv_cat, cat_ref, cat_int]; done)) rfl dL_goes_7 (fun E σ9 hx => False.elim hx) (fun v25 σ21 ρ18 hp18 hag18 => ?_)
    obtain ⟨e9, r20, e8, h⟩ := hp18
    rw [e8, e9]
    refine xJ.nrm (k' := 0) (n' := 0) (pc' := 10) (st' := [.int r20]) rfl rfl rfl rfl ?_
    refine x_istore (L' := [(16, .int r20), (0, .ref (ρ a1)), (1, .int p2), (2, .int p3), (3, .int p4), (4, .ref (ρ a5)), (5, .ref (ρ a6)), (6, .ref (ρ a7)), (7, .ref (ρ a8)), (8, .ref (ρ a9)), (9, .ref (ρ a10)), (10, .ref (ρ a11)), (11, .ref (ρ a12)), (12, .ref (ρ a13)), (13, .ref (ρ a14)), (14, .ref (ρ a15)), (15, .ref (ρ a16))]) hC dL_goes_10 (by decide) (by first | rfl | simp (decide := true) [rv_cat, cat_ref, cat_int]) ?_
    refine x_iload_n hC 4 rfl dL_goes_12 ?_
    refine x_bipush (v := 96) hC dL_goes_13 (by decide) ?_
    refine x_iand hC dL_goes_15 ?_
    refine xJ.jW (pcJ := 41) (stJ := []) h (fun x5 σ24 h => ?_) (fun K5 hk5 h => ?_)
    · refine x_istore (L' := [(17, .int x5), (16, .int r20), (0, .ref (ρ a1)), (1, .int p2), (2, .int p3), (3, .int p4), (4, .ref (ρ a5)), (5, .ref (ρ a6)), (6, .ref (ρ a7)), (7, .ref (ρ a8)), (8, .ref (ρ a9)), (9, .ref (ρ a10)), (10, .ref (ρ a11)), (11, .ref (ρ a12)), (12, .ref (ρ a13)), (13, .ref (ρ a14)), (14, .ref (ρ a15)), (15, .ref (ρ a16))]) hC dL_goes_41 (by decide) (by first | rfl | simp (decide := true) [rv_cat, cat_ref, cat_int]) ?_
      refine x_aload hC 6 rfl dL_goes_43 ?_
      refine x_iload hC 1 rfl dL_goes_45 ?_
      obtain ⟨k9, h⟩ := h
      obtain ⟨v28, h⟩ := h
      refine x_iald (a := a5) hC k9 v28 dL_goes_47 ?_
      refine x_istore (L' := [(18, .int (hI σ24 a5 (Int32.toNatClampNeg r20))), (17, .int x5), (16, .int r20), (0, .ref (ρ a1)), (1, .int p2), (2, .int p3), (3, .int p4), (4, .ref (ρ a5)), (5, .ref (ρ a6)), (6, .ref (ρ a7)), (7, .ref (ρ a8)), (8, .ref (ρ a9)), (9, .ref (ρ a10)), (10, .ref (ρ a11)), (11, .ref (ρ a12)), (12, .ref (ρ a13)), (13, .ref (ρ a14)), (14, .ref (ρ a15)), (15, .ref (ρ a16))]) hC dL_goes_48 (by decide) (by first | rfl | simp (decide := true) [rv_cat, cat_ref, cat_int]) ?_
      refine x_aload hC 7 rfl dL_goes_50 ?_
      refine x_iload hC 2 rfl dL_goes_52 ?_
      refine x_iload hC 1 rfl dL_goes_54 ?_
      refine x_iast (a := a5) hC k9 v28 dL_goes_56 ?_
      refine xJ.nmH (fun σ25 e3 => ?_)
      have h := h σ25 e3
      have r23 : hR σ25 = hR σ24 ∧ hL σ25 = hL σ24 := by rw [e3]; exact ⟨rfl, rfl⟩
      refine x_aload_n hC 3 rfl dL_goes_57 ?_
      refine x_bipush (v := 10) hC dL_goes_58 (by decide) ?_
      refine x_iconst (v := 0) hC dL_goes_60 (by decide) ?_
      refine x_callSW (as := [.ref (ρ a1), .int 10, .int 0]) (rest := []) hC (fun l hl => mL_write l hl G ρ a1 10 0 σ25 _ h) q461 q462 q0 q463 hdL_write (by decide) ⟨(by decide), (by decide)⟩ (by first | exact Nat.le_of_ble_eq_true rfl | (simp [rv_cat]; done) | (simp (decide := true) [rv_cat, cat_ref, cat_int]; done)) rfl dL_goes_61 (fun E σ9 hx => False.elim hx) (fun v29 σ26 ρ21 hp21 hag21 => ?_)
      obtain ⟨e9, r24, e8, h⟩ := hp21
      rw [e8, e9]
      refine xJ.nrm (k' := 2) (n' := 12) (pc' := 64) (st' := [.int r24]) rfl rfl rfl rfl ?_
      refine x_sipush (v := (-7100)) hC dL_goes_64 (by decide) ?_
      refine x_icmp_ne (tgt := 129) hC dL_goes_67 (by decide) (fun c27 => ?_) (fun c27 => ?_)
      · have h := h.1 c27
        refine x_iconst (v := 0) hC dL_goes_129 (by decide) ?_
        exact x_zret hC hr zb0 dL_goes_130 (by decide) (by decide) ⟨_, rfl, h⟩
      · have h := h.2 c27
        refine x_aload_n hC 3 rfl dL_goes_70 ?_
        refine x_iconst (v := (-1)) hC dL_goes_71 (by decide) ?_
        refine x_sipush (v := 1001) hC dL_goes_72 (by decide) ?_
        refine x_callSW (as := [.ref (ρ a1), .int (-1), .int 1001]) (rest := []) hC (fun l hl => mL_write l hl G ρ a1 (-1) 1001 σ26 _ h) q461 q462 q0 q463 hdL_write (by decide) ⟨(by decide), (by decide)⟩ (by first | exact Nat.le_of_ble_eq_true rfl | (simp [rv_cat]; done) | (simp (decide := true) [rv_cat, cat_ref, cat_int]; done)) rfl dL_goes_75 (fun E σ9 hx => False.elim hx) (fun v30 σ27 ρ22 hp22 hag22 => ?_)
        obtain ⟨e9, r25, e8, h⟩ := hp22
        rw [e8, e9]
        refine xJ.nrm (k' := 4) (n' := 24) (pc' := 78) (st' := [.int r25]) rfl rfl rfl rfl ?_
        refine x_sipush (v := (-7100)) hC dL_goes_78 (by decide) ?_
        refine x_icmp_ne (tgt := 129) hC dL_goes_81 (by decide) (fun c28 => ?_) (fun c28 => ?_)
        · have h := h.1 c28
          refine x_iconst (v := 0) hC dL_goes_129 (by decide) ?_
          exact x_zret hC hr zb0 dL_goes_130 (by decide) (by decide) ⟨_, rfl, h⟩
        · have h := h.2 c28
          refine x_aload_n hC 3 rfl dL_goes_84 ?_
          refine x_iload hC 2 rfl dL_goes_85 ?_
          refine x_sipush (v := 1001) hC dL_goes_87 (by decide) ?_
          refine x_callSW (as := [.ref (ρ a1), .int r20, .int 1001]) (rest := []) hC (fun l hl => mL_write l hl G ρ a1 r20 1001 σ27 _ h) q461 q462 q0 q463 hdL_write (by decide) ⟨(by decide), (by decide)⟩ (by first | exact Nat.le_of_ble_eq_true rfl | (simp [rv_cat]; done) | (simp (decide := true) [rv_cat, cat_ref, cat_int]; done)) rfl dL_goes_90 (fun E σ9 hx => False.elim hx) (fun v31 σ28 ρ23 hp23 hag23 => ?_)
          obtain ⟨e9, r26, e8, h⟩ := hp23
          rw [e8, e9]
          refine xJ.nrm (k' := 6) (n' := 36) (pc' := 93) (st' := [.int r26]) rfl rfl rfl rfl ?_
          refine x_sipush (v := (-7200)) hC dL_goes_93 (by decide) ?_
          refine x_icmp_ne (tgt := 129) hC dL_goes_96 (by decide) (fun c29 => ?_) (fun c29 => ?_)
          · have h := h.1 c29
            refine x_iconst (v := 0) hC dL_goes_129 (by decide) ?_
            exact x_zret hC hr zb0 dL_goes_130 (by decide) (by decide) ⟨_, rfl, h⟩
          · have h := h.2 c29
            refine x_aload_n hC 3 rfl dL_goes_99 ?_
            refine x_iload hC 2 rfl dL_goes_100 ?_
            refine x_iconst (v := (-1)) hC dL_goes_102 (by decide) ?_
            refine x_callSW (as := [.ref (ρ a1), .int r20, .int (-1)]) (rest := []) hC (fun l hl => mL_write l hl G ρ a1 r20 (-1) σ28 _ h) q461 q462 q0 q463 hdL_write (by decide) ⟨(by decide), (by decide)⟩ (by first | exact Nat.le_of_ble_eq_true rfl | (simp [rv_cat]; done) | (simp (decide := true) [rv_cat, cat_ref, cat_int]; done)) rfl dL_goes_103 (fun E σ9 hx => False.elim hx) (fun v32 σ29 ρ24 hp24 hag24 => ?_)
            obtain ⟨e9, r27, e8, h⟩ := hp24
            rw [e8, e9]
            refine xJ.nrm (k' := 8) (n' := 48) (pc' := 106) (st' := [.int r27]) rfl rfl rfl rfl ?_
            refine x_sipush (v := (-7200)) hC dL_goes_106 (by decide) ?_
            refine x_icmp_ne (tgt := 129) hC dL_goes_109 (by decide) (fun c30 => ?_) (fun c30 => ?_)
            · have h := h.1 c30
              refine x_iconst (v := 0) hC dL_goes_129 (by decide) ?_
              exact x_zret hC hr zb0 dL_goes_130 (by decide) (by decide) ⟨_, rfl, h⟩
            · have h := h.2 c30
              refine x_aload_n hC 3 rfl dL_goes_112 ?_
              refine x_iload hC 2 rfl dL_goes_113 ?_
              refine x_iload hC 1 rfl dL_goes_115 ?_
              refine x_callSW (as := [.ref (ρ a1), .int r20, .int x5]) (rest := []) hC (fun l hl => mL_write l hl G ρ a1 r20 x5 σ29 _ h) q461 q462 q0 q463 hdL_write (by decide) ⟨(by decide), (by decide)⟩ (by first | exact Nat.le_of_ble_eq_true rfl | (simp [rv_cat]; done) | (simp (decide := true) [rv_cat, cat_ref, cat_int]; done)) rfl dL_goes_117 (fun E σ9 hx => False.elim hx) (fun v33 σ30 ρ25 hp25 hag25 => ?_)
              obtain ⟨e9, r28, e8, h⟩ := hp25
              rw [e8, e9]
              refine xJ.nrm (k' := 10) (n' := 60) (pc' := 120) (st' := [.int r28]) rfl rfl rfl rfl ?_
              refine x_iload hC 0 rfl dL_goes_120 ?_
              refine x_icmp_ne (tgt := 129) hC dL_goes_122 (by decide) (fun c31 => ?_) (fun c31 => ?_)
              · have h := h.1 c31
                refine x_iconst (v := 0) hC dL_goes_129 (by decide) ?_
                exact x_zret hC hr zb0 dL_goes_130 (by decide) (by decide) ⟨_, rfl, h⟩
              · have h := h.2 c31
                refine x_iconst (v := 1) hC dL_goes_125 (by decide) ?_
                refine x_goto (tgt := 130) hC dL_goes_126 (by decide) ?_
                exact x_zret hC hr zb1 dL_goes_130 (by decide) (by decide) ⟨_, rfl, h⟩
    · refine x_if_ne (tgt := 32) hC dL_goes_16 (by decide) (fun c26 => ?_) (fun c26 => ?_)
      · have h := h.1 c26
        refine x_iload_n hC 4 rfl dL_goes_32 ?_
        refine x_bipush (v := 7) hC dL_goes_33 (by decide) ?_
        refine x_ishr hC dL_goes_35 ?_
        refine x_bipush (v := 9) hC dL_goes_36 (by decide) ?_
        refine x_callS (as := [.int (p4 >>> (7 &&& 31)), .int 9]) (rest := []) hC (fun l hl => mL_low l hl G ρ (p4 >>> (7 &&& 31)) 9 σ21 _ h) q81 q82 q0 q83 hdL_low (by decide) ⟨(by decide), (by decide)⟩ (by first | exact Nat.le_of_ble_eq_true rfl | (simp [rv_cat]; done) | (simp (decide := true) [rv_cat, cat_ref, cat_int]; done)) rfl dL_goes_38 (fun E σ9 hx => False.elim hx) (fun v26 σ22 ρ19 hp19 hag19 => ?_)
        obtain ⟨e9, r21, e8, h⟩ := hp19
        rw [e8, e9]
        refine xJ.nrm (k' := 0) (n' := 0) (pc' := 41) (st' := [.int r21]) rfl rfl rfl rfl ?_
        exact hk5 _ _ h
      · have h := h.2 c26
        refine x_iload_n hC 4 rfl dL_goes_19 ?_
        refine x_bipush (v := 7) hC dL_goes_20 (by decide) ?_
        refine x_ishr hC dL_goes_22 ?_
        refine x_sipush (v := 1001) hC dL_goes_23 (by decide) ?_
        refine x_callS (as := [.int (p4 >>> (7 &&& 31)), .int 1001]) (rest := []) hC (fun l hl => mL_low l hl G ρ (p4 >>> (7 &&& 31)) 1001 σ21 _ h) q81 q82 q0 q83 hdL_low (by decide) ⟨(by decide), (by decide)⟩ (by first | exact Nat.le_of_ble_eq_true rfl | (simp [rv_cat]; done) | (simp (decide := true) [rv_cat, cat_ref, cat_int]; done)) rfl dL_goes_26 (fun E σ9 hx => False.elim hx) (fun v27 σ23 ρ20 hp20 hag20 => ?_)
        obtain ⟨e9, r22, e8, h⟩ := hp20
        rw [e8, e9]
        refine xJ.nrm (k' := 0) (n' := 0) (pc' := 29) (st' := [.int r22]) rfl rfl rfl rfl ?_
        refine x_goto (tgt := 41) hC dL_goes_29 (by decide) ?_
        exact hk5 _ _ h
