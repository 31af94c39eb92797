/-! PlantServerLaw.isTold -/
theorem dL_isTold_0 : decode cL_isTold 0 = .ok (.iconst 0, 1) := by decide +kernel
theorem dL_isTold_1 : decode cL_isTold 1 = .ok (.istore 9, 2) := by decide +kernel
theorem dL_isTold_3 : decode cL_isTold 3 = .ok (.iload 9, 2) := by decide +kernel
theorem dL_isTold_5 : decode cL_isTold 5 = .ok (.iconst 2, 1) := by decide +kernel
theorem dL_isTold_6 : decode cL_isTold 6 = .ok (.if_icmp .ge 395, 3) := by decide +kernel
theorem dL_isTold_9 : decode cL_isTold 9 = .ok (.bipush 11, 2) := by decide +kernel
theorem dL_isTold_11 : decode cL_isTold 11 = .ok (.iload 9, 2) := by decide +kernel
theorem dL_isTold_13 : decode cL_isTold 13 = .ok (.imul, 1) := by decide +kernel
theorem dL_isTold_14 : decode cL_isTold 14 = .ok (.istore 10, 2) := by decide +kernel
theorem dL_isTold_16 : decode cL_isTold 16 = .ok (.iload 9, 2) := by decide +kernel
theorem dL_isTold_18 : decode cL_isTold 18 = .ok (.aload 8, 2) := by decide +kernel
theorem dL_isTold_20 : decode cL_isTold 20 = .ok (.iconst 1, 1) := by decide +kernel
theorem dL_isTold_21 : decode cL_isTold 21 = .ok (.iaload, 1) := by decide +kernel
theorem dL_isTold_22 : decode cL_isTold 22 = .ok (.if_icmp .ge 15, 3) := by decide +kernel
theorem dL_isTold_25 : decode cL_isTold 25 = .ok (.aload_n 2, 1) := by decide +kernel
theorem dL_isTold_26 : decode cL_isTold 26 = .ok (.iload 10, 2) := by decide +kernel
theorem dL_isTold_28 : decode cL_isTold 28 = .ok (.iaload, 1) := by decide +kernel
theorem dL_isTold_29 : decode cL_isTold 29 = .ok (.iconst 1, 1) := by decide +kernel
theorem dL_isTold_30 : decode cL_isTold 30 = .ok (.if_icmp .ne 7, 3) := by decide +kernel
theorem dL_isTold_33 : decode cL_isTold 33 = .ok (.iconst 1, 1) := by decide +kernel
theorem dL_isTold_34 : decode cL_isTold 34 = .ok (.goto 4, 3) := by decide +kernel
theorem dL_isTold_37 : decode cL_isTold 37 = .ok (.iconst 0, 1) := by decide +kernel
theorem dL_isTold_38 : decode cL_isTold 38 = .ok (.istore 11, 2) := by decide +kernel
theorem dL_isTold_40 : decode cL_isTold 40 = .ok (.aload_n 0, 1) := by decide +kernel
theorem dL_isTold_41 : decode cL_isTold 41 = .ok (.iload 9, 2) := by decide +kernel
theorem dL_isTold_43 : decode cL_isTold 43 = .ok (.invokestatic 99, 3) := by decide +kernel
theorem dL_isTold_46 : decode cL_isTold 46 = .ok (.iload 11, 2) := by decide +kernel
theorem dL_isTold_48 : decode cL_isTold 48 = .ok (.ifCond .eq 7, 3) := by decide +kernel
theorem dL_isTold_51 : decode cL_isTold 51 = .ok (.iconst 1, 1) := by decide +kernel
theorem dL_isTold_52 : decode cL_isTold 52 = .ok (.goto 4, 3) := by decide +kernel
theorem dL_isTold_55 : decode cL_isTold 55 = .ok (.iconst 0, 1) := by decide +kernel
theorem dL_isTold_56 : decode cL_isTold 56 = .ok (.if_icmp .ne 57, 3) := by decide +kernel
theorem dL_isTold_59 : decode cL_isTold 59 = .ok (.aload_n 0, 1) := by decide +kernel
theorem dL_isTold_60 : decode cL_isTold 60 = .ok (.iload 9, 2) := by decide +kernel
theorem dL_isTold_62 : decode cL_isTold 62 = .ok (.invokestatic 139, 3) := by decide +kernel
theorem dL_isTold_65 : decode cL_isTold 65 = .ok (.iload 11, 2) := by decide +kernel
theorem dL_isTold_67 : decode cL_isTold 67 = .ok (.ifCond .eq 13, 3) := by decide +kernel
theorem dL_isTold_70 : decode cL_isTold 70 = .ok (.aload_n 2, 1) := by decide +kernel
theorem dL_isTold_71 : decode cL_isTold 71 = .ok (.iload 10, 2) := by decide +kernel
theorem dL_isTold_73 : decode cL_isTold 73 = .ok (.bipush 9, 2) := by decide +kernel
theorem dL_isTold_75 : decode cL_isTold 75 = .ok (.iadd, 1) := by decide +kernel
theorem dL_isTold_76 : decode cL_isTold 76 = .ok (.iaload, 1) := by decide +kernel
theorem dL_isTold_77 : decode cL_isTold 77 = .ok (.goto 6, 3) := by decide +kernel
theorem dL_isTold_80 : decode cL_isTold 80 = .ok (.sipush (-7100), 3) := by decide +kernel
theorem dL_isTold_83 : decode cL_isTold 83 = .ok (.if_icmp .ne 30, 3) := by decide +kernel
theorem dL_isTold_86 : decode cL_isTold 86 = .ok (.aload_n 0, 1) := by decide +kernel
theorem dL_isTold_87 : decode cL_isTold 87 = .ok (.iload 9, 2) := by decide +kernel
theorem dL_isTold_89 : decode cL_isTold 89 = .ok (.invokestatic 141, 3) := by decide +kernel
theorem dL_isTold_92 : decode cL_isTold 92 = .ok (.iload 11, 2) := by decide +kernel
theorem dL_isTold_94 : decode cL_isTold 94 = .ok (.ifCond .eq 13, 3) := by decide +kernel
theorem dL_isTold_97 : decode cL_isTold 97 = .ok (.aload_n 2, 1) := by decide +kernel
theorem dL_isTold_98 : decode cL_isTold 98 = .ok (.iload 10, 2) := by decide +kernel
theorem dL_isTold_100 : decode cL_isTold 100 = .ok (.bipush 10, 2) := by decide +kernel
theorem dL_isTold_102 : decode cL_isTold 102 = .ok (.iadd, 1) := by decide +kernel
theorem dL_isTold_103 : decode cL_isTold 103 = .ok (.iaload, 1) := by decide +kernel
theorem dL_isTold_104 : decode cL_isTold 104 = .ok (.goto 6, 3) := by decide +kernel
theorem dL_isTold_107 : decode cL_isTold 107 = .ok (.sipush (-7100), 3) := by decide +kernel
theorem dL_isTold_110 : decode cL_isTold 110 = .ok (.if_icmp .eq 5, 3) := by decide +kernel
theorem dL_isTold_113 : decode cL_isTold 113 = .ok (.iconst 0, 1) := by decide +kernel
theorem dL_isTold_114 : decode cL_isTold 114 = .ok (.ireturn, 1) := by decide +kernel
theorem dL_isTold_115 : decode cL_isTold 115 = .ok (.iload 11, 2) := by decide +kernel
theorem dL_isTold_117 : decode cL_isTold 117 = .ok (.ifCond .ne 60, 3) := by decide +kernel
theorem dL_isTold_120 : decode cL_isTold 120 = .ok (.aload_n 0, 1) := by decide +kernel
theorem dL_isTold_121 : decode cL_isTold 121 = .ok (.iload 9, 2) := by decide +kernel
theorem dL_isTold_123 : decode cL_isTold 123 = .ok (.iconst 1, 1) := by decide +kernel
theorem dL_isTold_124 : decode cL_isTold 124 = .ok (.invokestatic 143, 3) := by decide +kernel
theorem dL_isTold_127 : decode cL_isTold 127 = .ok (.sipush (-7100), 3) := by decide +kernel
theorem dL_isTold_130 : decode cL_isTold 130 = .ok (.if_icmp .ne 45, 3) := by decide +kernel
theorem dL_isTold_133 : decode cL_isTold 133 = .ok (.aload_n 0, 1) := by decide +kernel
theorem dL_isTold_134 : decode cL_isTold 134 = .ok (.iload 9, 2) := by decide +kernel
theorem dL_isTold_136 : decode cL_isTold 136 = .ok (.iconst 1, 1) := by decide +kernel
theorem dL_isTold_137 : decode cL_isTold 137 = .ok (.iconst 0, 1) := by decide +kernel
theorem dL_isTold_138 : decode cL_isTold 138 = .ok (.invokestatic 145, 3) := by decide +kernel
theorem dL_isTold_141 : decode cL_isTold 141 = .ok (.sipush (-7100), 3) := by decide +kernel
theorem dL_isTold_144 : decode cL_isTold 144 = .ok (.if_icmp .ne 31, 3) := by decide +kernel
theorem dL_isTold_147 : decode cL_isTold 147 = .ok (.aload_n 0, 1) := by decide +kernel
theorem dL_isTold_148 : decode cL_isTold 148 = .ok (.iload 9, 2) := by decide +kernel
theorem dL_isTold_150 : decode cL_isTold 150 = .ok (.iconst 1, 1) := by decide +kernel
theorem dL_isTold_151 : decode cL_isTold 151 = .ok (.iconst 0, 1) := by decide +kernel
theorem dL_isTold_152 : decode cL_isTold 152 = .ok (.invokestatic 148, 3) := by decide +kernel
theorem dL_isTold_155 : decode cL_isTold 155 = .ok (.sipush (-7100), 3) := by decide +kernel
theorem dL_isTold_158 : decode cL_isTold 158 = .ok (.if_icmp .ne 17, 3) := by decide +kernel
theorem dL_isTold_161 : decode cL_isTold 161 = .ok (.aload_n 0, 1) := by decide +kernel
theorem dL_isTold_162 : decode cL_isTold 162 = .ok (.iload 9, 2) := by decide +kernel
theorem dL_isTold_164 : decode cL_isTold 164 = .ok (.iconst 1, 1) := by decide +kernel
theorem dL_isTold_165 : decode cL_isTold 165 = .ok (.iconst 0, 1) := by decide +kernel
theorem dL_isTold_166 : decode cL_isTold 166 = .ok (.invokestatic 150, 3) := by decide +kernel
theorem dL_isTold_169 : decode cL_isTold 169 = .ok (.sipush (-7100), 3) := by decide +kernel
theorem dL_isTold_172 : decode cL_isTold 172 = .ok (.if_icmp .eq 223, 3) := by decide +kernel
theorem dL_isTold_175 : decode cL_isTold 175 = .ok (.iconst 0, 1) := by decide +kernel
theorem dL_isTold_176 : decode cL_isTold 176 = .ok (.ireturn, 1) := by decide +kernel
theorem dL_isTold_177 : decode cL_isTold 177 = .ok (.aload_n 2, 1) := by decide +kernel
theorem dL_isTold_178 : decode cL_isTold 178 = .ok (.iload 10, 2) := by decide +kernel
theorem dL_isTold_180 : decode cL_isTold 180 = .ok (.bipush 9, 2) := by decide +kernel
theorem dL_isTold_182 : decode cL_isTold 182 = .ok (.iadd, 1) := by decide +kernel
theorem dL_isTold_183 : decode cL_isTold 183 = .ok (.iaload, 1) := by decide +kernel
theorem dL_isTold_184 : decode cL_isTold 184 = .ok (.bipush 9, 2) := by decide +kernel
theorem dL_isTold_186 : decode cL_isTold 186 = .ok (.isub, 1) := by decide +kernel
theorem dL_isTold_187 : decode cL_isTold 187 = .ok (.istore 12, 2) := by decide +kernel
theorem dL_isTold_189 : decode cL_isTold 189 = .ok (.iload 12, 2) := by decide +kernel
theorem dL_isTold_191 : decode cL_isTold 191 = .ok (.aload_n 2, 1) := by decide +kernel
theorem dL_isTold_192 : decode cL_isTold 192 = .ok (.iload 10, 2) := by decide +kernel
theorem dL_isTold_194 : decode cL_isTold 194 = .ok (.bipush 9, 2) := by decide +kernel
theorem dL_isTold_196 : decode cL_isTold 196 = .ok (.iadd, 1) := by decide +kernel
theorem dL_isTold_197 : decode cL_isTold 197 = .ok (.iaload, 1) := by decide +kernel
theorem dL_isTold_198 : decode cL_isTold 198 = .ok (.iconst 2, 1) := by decide +kernel
theorem dL_isTold_199 : decode cL_isTold 199 = .ok (.iadd, 1) := by decide +kernel
theorem dL_isTold_200 : decode cL_isTold 200 = .ok (.if_icmp .ge 195, 3) := by decide +kernel
theorem dL_isTold_203 : decode cL_isTold 203 = .ok (.aload 6, 2) := by decide +kernel
theorem dL_isTold_205 : decode cL_isTold 205 = .ok (.iload 9, 2) := by decide +kernel
theorem dL_isTold_207 : decode cL_isTold 207 = .ok (.iload 12, 2) := by decide +kernel
theorem dL_isTold_209 : decode cL_isTold 209 = .ok (.invokestatic 128, 3) := by decide +kernel
theorem dL_isTold_212 : decode cL_isTold 212 = .ok (.istore 13, 2) := by decide +kernel
theorem dL_isTold_214 : decode cL_isTold 214 = .ok (.iload 13, 2) := by decide +kernel
theorem dL_isTold_216 : decode cL_isTold 216 = .ok (.ifCond .lt 14, 3) := by decide +kernel
theorem dL_isTold_219 : decode cL_isTold 219 = .ok (.aload 6, 2) := by decide +kernel
theorem dL_isTold_221 : decode cL_isTold 221 = .ok (.iload 13, 2) := by decide +kernel
theorem dL_isTold_223 : decode cL_isTold 223 = .ok (.iaload, 1) := by decide +kernel
theorem dL_isTold_224 : decode cL_isTold 224 = .ok (.bipush 13, 2) := by decide +kernel
theorem dL_isTold_226 : decode cL_isTold 226 = .ok (.ishr, 1) := by decide +kernel
theorem dL_isTold_227 : decode cL_isTold 227 = .ok (.goto 4, 3) := by decide +kernel
theorem dL_isTold_230 : decode cL_isTold 230 = .ok (.iconst 0, 1) := by decide +kernel
theorem dL_isTold_231 : decode cL_isTold 231 = .ok (.istore 14, 2) := by decide +kernel
theorem dL_isTold_233 : decode cL_isTold 233 = .ok (.aload_n 0, 1) := by decide +kernel
theorem dL_isTold_234 : decode cL_isTold 234 = .ok (.iload 9, 2) := by decide +kernel
theorem dL_isTold_236 : decode cL_isTold 236 = .ok (.iload 12, 2) := by decide +kernel
theorem dL_isTold_238 : decode cL_isTold 238 = .ok (.invokestatic 143, 3) := by decide +kernel
theorem dL_isTold_241 : decode cL_isTold 241 = .ok (.iload 13, 2) := by decide +kernel
theorem dL_isTold_243 : decode cL_isTold 243 = .ok (.ifCond .lt 8, 3) := by decide +kernel
theorem dL_isTold_246 : decode cL_isTold 246 = .ok (.iload 14, 2) := by decide +kernel
theorem dL_isTold_248 : decode cL_isTold 248 = .ok (.goto 4, 3) := by decide +kernel
theorem dL_isTold_251 : decode cL_isTold 251 = .ok (.iconst (-1), 1) := by decide +kernel
theorem dL_isTold_252 : decode cL_isTold 252 = .ok (.if_icmp .ne 50, 3) := by decide +kernel
theorem dL_isTold_255 : decode cL_isTold 255 = .ok (.aload_n 0, 1) := by decide +kernel
theorem dL_isTold_256 : decode cL_isTold 256 = .ok (.iload 9, 2) := by decide +kernel
theorem dL_isTold_258 : decode cL_isTold 258 = .ok (.iload 12, 2) := by decide +kernel
theorem dL_isTold_260 : decode cL_isTold 260 = .ok (.iload 14, 2) := by decide +kernel
theorem dL_isTold_262 : decode cL_isTold 262 = .ok (.invokestatic 145, 3) := by decide +kernel
theorem dL_isTold_265 : decode cL_isTold 265 = .ok (.sipush (-7300), 3) := by decide +kernel
theorem dL_isTold_268 : decode cL_isTold 268 = .ok (.if_icmp .ne 34, 3) := by decide +kernel
theorem dL_isTold_271 : decode cL_isTold 271 = .ok (.aload_n 0, 1) := by decide +kernel
theorem dL_isTold_272 : decode cL_isTold 272 = .ok (.iload 9, 2) := by decide +kernel
theorem dL_isTold_274 : decode cL_isTold 274 = .ok (.iload 12, 2) := by decide +kernel
theorem dL_isTold_276 : decode cL_isTold 276 = .ok (.iconst (-1), 1) := by decide +kernel
theorem dL_isTold_277 : decode cL_isTold 277 = .ok (.invokestatic 148, 3) := by decide +kernel
theorem dL_isTold_280 : decode cL_isTold 280 = .ok (.sipush (-7300), 3) := by decide +kernel
theorem dL_isTold_283 : decode cL_isTold 283 = .ok (.if_icmp .ne 19, 3) := by decide +kernel
theorem dL_isTold_286 : decode cL_isTold 286 = .ok (.aload_n 0, 1) := by decide +kernel
theorem dL_isTold_287 : decode cL_isTold 287 = .ok (.iload 9, 2) := by decide +kernel
theorem dL_isTold_289 : decode cL_isTold 289 = .ok (.iload 12, 2) := by decide +kernel
theorem dL_isTold_291 : decode cL_isTold 291 = .ok (.iload 14, 2) := by decide +kernel
theorem dL_isTold_293 : decode cL_isTold 293 = .ok (.invokestatic 150, 3) := by decide +kernel
theorem dL_isTold_296 : decode cL_isTold 296 = .ok (.sipush (-7300), 3) := by decide +kernel
theorem dL_isTold_299 : decode cL_isTold 299 = .ok (.if_icmp .eq 5, 3) := by decide +kernel
theorem dL_isTold_302 : decode cL_isTold 302 = .ok (.iconst 0, 1) := by decide +kernel
theorem dL_isTold_303 : decode cL_isTold 303 = .ok (.ireturn, 1) := by decide +kernel
theorem dL_isTold_304 : decode cL_isTold 304 = .ok (.iconst 0, 1) := by decide +kernel
theorem dL_isTold_305 : decode cL_isTold 305 = .ok (.istore 15, 2) := by decide +kernel
theorem dL_isTold_307 : decode cL_isTold 307 = .ok (.iload 15, 2) := by decide +kernel
theorem dL_isTold_309 : decode cL_isTold 309 = .ok (.iload 14, 2) := by decide +kernel
theorem dL_isTold_311 : decode cL_isTold 311 = .ok (.if_icmp .ge 78, 3) := by decide +kernel
theorem dL_isTold_314 : decode cL_isTold 314 = .ok (.aload 7, 2) := by decide +kernel
theorem dL_isTold_316 : decode cL_isTold 316 = .ok (.bipush 6, 2) := by decide +kernel
theorem dL_isTold_318 : decode cL_isTold 318 = .ok (.iload 13, 2) := by decide +kernel
theorem dL_isTold_320 : decode cL_isTold 320 = .ok (.imul, 1) := by decide +kernel
theorem dL_isTold_321 : decode cL_isTold 321 = .ok (.iload 15, 2) := by decide +kernel
theorem dL_isTold_323 : decode cL_isTold 323 = .ok (.iadd, 1) := by decide +kernel
theorem dL_isTold_324 : decode cL_isTold 324 = .ok (.iaload, 1) := by decide +kernel
theorem dL_isTold_325 : decode cL_isTold 325 = .ok (.istore 16, 2) := by decide +kernel
theorem dL_isTold_327 : decode cL_isTold 327 = .ok (.aload_n 0, 1) := by decide +kernel
theorem dL_isTold_328 : decode cL_isTold 328 = .ok (.iload 9, 2) := by decide +kernel
theorem dL_isTold_330 : decode cL_isTold 330 = .ok (.iload 12, 2) := by decide +kernel
theorem dL_isTold_332 : decode cL_isTold 332 = .ok (.iload 15, 2) := by decide +kernel
theorem dL_isTold_334 : decode cL_isTold 334 = .ok (.invokestatic 145, 3) := by decide +kernel
theorem dL_isTold_337 : decode cL_isTold 337 = .ok (.iload 16, 2) := by decide +kernel
theorem dL_isTold_339 : decode cL_isTold 339 = .ok (.iconst 5, 1) := by decide +kernel
theorem dL_isTold_340 : decode cL_isTold 340 = .ok (.ishr, 1) := by decide +kernel
theorem dL_isTold_341 : decode cL_isTold 341 = .ok (.if_icmp .ne 40, 3) := by decide +kernel
theorem dL_isTold_344 : decode cL_isTold 344 = .ok (.aload_n 0, 1) := by decide +kernel
theorem dL_isTold_345 : decode cL_isTold 345 = .ok (.iload 9, 2) := by decide +kernel
theorem dL_isTold_347 : decode cL_isTold 347 = .ok (.iload 12, 2) := by decide +kernel
theorem dL_isTold_349 : decode cL_isTold 349 = .ok (.iload 15, 2) := by decide +kernel
theorem dL_isTold_351 : decode cL_isTold 351 = .ok (.invokestatic 148, 3) := by decide +kernel
theorem dL_isTold_354 : decode cL_isTold 354 = .ok (.iload 16, 2) := by decide +kernel
theorem dL_isTold_356 : decode cL_isTold 356 = .ok (.bipush 15, 2) := by decide +kernel
theorem dL_isTold_358 : decode cL_isTold 358 = .ok (.iand, 1) := by decide +kernel
theorem dL_isTold_359 : decode cL_isTold 359 = .ok (.if_icmp .ne 22, 3) := by decide +kernel
theorem dL_isTold_362 : decode cL_isTold 362 = .ok (.aload_n 0, 1) := by decide +kernel
theorem dL_isTold_363 : decode cL_isTold 363 = .ok (.iload 9, 2) := by decide +kernel
theorem dL_isTold_365 : decode cL_isTold 365 = .ok (.iload 12, 2) := by decide +kernel
theorem dL_isTold_367 : decode cL_isTold 367 = .ok (.iload 15, 2) := by decide +kernel
theorem dL_isTold_369 : decode cL_isTold 369 = .ok (.invokestatic 150, 3) := by decide +kernel
theorem dL_isTold_372 : decode cL_isTold 372 = .ok (.iload 16, 2) := by decide +kernel
theorem dL_isTold_374 : decode cL_isTold 374 = .ok (.iconst 4, 1) := by decide +kernel
theorem dL_isTold_375 : decode cL_isTold 375 = .ok (.ishr, 1) := by decide +kernel
theorem dL_isTold_376 : decode cL_isTold 376 = .ok (.iconst 1, 1) := by decide +kernel
theorem dL_isTold_377 : decode cL_isTold 377 = .ok (.iand, 1) := by decide +kernel
theorem dL_isTold_378 : decode cL_isTold 378 = .ok (.if_icmp .eq 5, 3) := by decide +kernel
theorem dL_isTold_381 : decode cL_isTold 381 = .ok (.iconst 0, 1) := by decide +kernel
theorem dL_isTold_382 : decode cL_isTold 382 = .ok (.ireturn, 1) := by decide +kernel
theorem dL_isTold_383 : decode cL_isTold 383 = .ok (.iinc 15 1, 3) := by decide +kernel
theorem dL_isTold_386 : decode cL_isTold 386 = .ok (.goto (-79), 3) := by decide +kernel
theorem dL_isTold_389 : decode cL_isTold 389 = .ok (.iinc 12 1, 3) := by decide +kernel
theorem dL_isTold_392 : decode cL_isTold 392 = .ok (.goto (-203), 3) := by decide +kernel
theorem dL_isTold_395 : decode cL_isTold 395 = .ok (.iinc 9 1, 3) := by decide +kernel
theorem dL_isTold_398 : decode cL_isTold 398 = .ok (.goto (-395), 3) := by decide +kernel
theorem dL_isTold_401 : decode cL_isTold 401 = .ok (.iconst 0, 1) := by decide +kernel
theorem dL_isTold_402 : decode cL_isTold 402 = .ok (.istore 9, 2) := by decide +kernel
theorem dL_isTold_404 : decode cL_isTold 404 = .ok (.iload 9, 2) := by decide +kernel
theorem dL_isTold_406 : decode cL_isTold 406 = .ok (.aload 8, 2) := by decide +kernel
theorem dL_isTold_408 : decode cL_isTold 408 = .ok (.iconst 2, 1) := by decide +kernel
theorem dL_isTold_409 : decode cL_isTold 409 = .ok (.iaload, 1) := by decide +kernel
theorem dL_isTold_410 : decode cL_isTold 410 = .ok (.if_icmp .ge 91, 3) := by decide +kernel
theorem dL_isTold_413 : decode cL_isTold 413 = .ok (.aload_n 2, 1) := by decide +kernel
theorem dL_isTold_414 : decode cL_isTold 414 = .ok (.aload_n 3, 1) := by decide +kernel
theorem dL_isTold_415 : decode cL_isTold 415 = .ok (.aload 8, 2) := by decide +kernel
theorem dL_isTold_417 : decode cL_isTold 417 = .ok (.iload 9, 2) := by decide +kernel
theorem dL_isTold_419 : decode cL_isTold 419 = .ok (.invokestatic 110, 3) := by decide +kernel
theorem dL_isTold_422 : decode cL_isTold 422 = .ok (.istore 10, 2) := by decide +kernel
theorem dL_isTold_424 : decode cL_isTold 424 = .ok (.aload_n 0, 1) := by decide +kernel
theorem dL_isTold_425 : decode cL_isTold 425 = .ok (.iload 9, 2) := by decide +kernel
theorem dL_isTold_427 : decode cL_isTold 427 = .ok (.invokestatic 152, 3) := by decide +kernel
theorem dL_isTold_430 : decode cL_isTold 430 = .ok (.iload 10, 2) := by decide +kernel
theorem dL_isTold_432 : decode cL_isTold 432 = .ok (.ifCond .eq 11, 3) := by decide +kernel
theorem dL_isTold_435 : decode cL_isTold 435 = .ok (.aload 5, 2) := by decide +kernel
theorem dL_isTold_437 : decode cL_isTold 437 = .ok (.iload 9, 2) := by decide +kernel
theorem dL_isTold_439 : decode cL_isTold 439 = .ok (.iaload, 1) := by decide +kernel
theorem dL_isTold_440 : decode cL_isTold 440 = .ok (.goto 6, 3) := by decide +kernel
theorem dL_isTold_443 : decode cL_isTold 443 = .ok (.sipush (-7100), 3) := by decide +kernel
theorem dL_isTold_446 : decode cL_isTold 446 = .ok (.if_icmp .ne 47, 3) := by decide +kernel
theorem dL_isTold_449 : decode cL_isTold 449 = .ok (.aload_n 0, 1) := by decide +kernel
theorem dL_isTold_450 : decode cL_isTold 450 = .ok (.iload 9, 2) := by decide +kernel
theorem dL_isTold_452 : decode cL_isTold 452 = .ok (.invokestatic 107, 3) := by decide +kernel
theorem dL_isTold_455 : decode cL_isTold 455 = .ok (.iload 10, 2) := by decide +kernel
theorem dL_isTold_457 : decode cL_isTold 457 = .ok (.ifCond .eq 11, 3) := by decide +kernel
theorem dL_isTold_460 : decode cL_isTold 460 = .ok (.aload 4, 2) := by decide +kernel
theorem dL_isTold_462 : decode cL_isTold 462 = .ok (.iload 9, 2) := by decide +kernel
theorem dL_isTold_464 : decode cL_isTold 464 = .ok (.iaload, 1) := by decide +kernel
theorem dL_isTold_465 : decode cL_isTold 465 = .ok (.goto 6, 3) := by decide +kernel
theorem dL_isTold_468 : decode cL_isTold 468 = .ok (.sipush (-7100), 3) := by decide +kernel
theorem dL_isTold_471 : decode cL_isTold 471 = .ok (.if_icmp .ne 22, 3) := by decide +kernel
theorem dL_isTold_474 : decode cL_isTold 474 = .ok (.iload 10, 2) := by decide +kernel
theorem dL_isTold_476 : decode cL_isTold 476 = .ok (.ifCond .eq 19, 3) := by decide +kernel
theorem dL_isTold_479 : decode cL_isTold 479 = .ok (.aload_n 0, 1) := by decide +kernel
theorem dL_isTold_480 : decode cL_isTold 480 = .ok (.iload 9, 2) := by decide +kernel
theorem dL_isTold_482 : decode cL_isTold 482 = .ok (.invokevirtual 154, 3) := by decide +kernel
theorem dL_isTold_485 : decode cL_isTold 485 = .ok (.aload 4, 2) := by decide +kernel
theorem dL_isTold_487 : decode cL_isTold 487 = .ok (.iload 9, 2) := by decide +kernel
theorem dL_isTold_489 : decode cL_isTold 489 = .ok (.iaload, 1) := by decide +kernel
theorem dL_isTold_490 : decode cL_isTold 490 = .ok (.if_icmp .eq 5, 3) := by decide +kernel
theorem dL_isTold_493 : decode cL_isTold 493 = .ok (.iconst 0, 1) := by decide +kernel
theorem dL_isTold_494 : decode cL_isTold 494 = .ok (.ireturn, 1) := by decide +kernel
theorem dL_isTold_495 : decode cL_isTold 495 = .ok (.iinc 9 1, 3) := by decide +kernel
theorem dL_isTold_498 : decode cL_isTold 498 = .ok (.goto (-94), 3) := by decide +kernel
theorem dL_isTold_501 : decode cL_isTold 501 = .ok (.aload_n 0, 1) := by decide +kernel
theorem dL_isTold_502 : decode cL_isTold 502 = .ok (.invokevirtual 157, 3) := by decide +kernel
theorem dL_isTold_505 : decode cL_isTold 505 = .ok (.aload 8, 2) := by decide +kernel
theorem dL_isTold_507 : decode cL_isTold 507 = .ok (.iconst 0, 1) := by decide +kernel
theorem dL_isTold_508 : decode cL_isTold 508 = .ok (.iaload, 1) := by decide +kernel
theorem dL_isTold_509 : decode cL_isTold 509 = .ok (.if_icmp .ne 100, 3) := by decide +kernel
theorem dL_isTold_512 : decode cL_isTold 512 = .ok (.aload_n 0, 1) := by decide +kernel
theorem dL_isTold_513 : decode cL_isTold 513 = .ok (.invokevirtual 159, 3) := by decide +kernel
theorem dL_isTold_516 : decode cL_isTold 516 = .ok (.aload 8, 2) := by decide +kernel
theorem dL_isTold_518 : decode cL_isTold 518 = .ok (.iconst 3, 1) := by decide +kernel
theorem dL_isTold_519 : decode cL_isTold 519 = .ok (.iaload, 1) := by decide +kernel
theorem dL_isTold_520 : decode cL_isTold 520 = .ok (.if_icmp .ne 89, 3) := by decide +kernel
theorem dL_isTold_523 : decode cL_isTold 523 = .ok (.aload_n 0, 1) := by decide +kernel
theorem dL_isTold_524 : decode cL_isTold 524 = .ok (.aload 8, 2) := by decide +kernel
theorem dL_isTold_526 : decode cL_isTold 526 = .ok (.iconst 2, 1) := by decide +kernel
theorem dL_isTold_527 : decode cL_isTold 527 = .ok (.iaload, 1) := by decide +kernel
theorem dL_isTold_528 : decode cL_isTold 528 = .ok (.invokestatic 152, 3) := by decide +kernel
theorem dL_isTold_531 : decode cL_isTold 531 = .ok (.sipush (-7100), 3) := by decide +kernel
theorem dL_isTold_534 : decode cL_isTold 534 = .ok (.if_icmp .ne 75, 3) := by decide +kernel
theorem dL_isTold_537 : decode cL_isTold 537 = .ok (.aload_n 0, 1) := by decide +kernel
theorem dL_isTold_538 : decode cL_isTold 538 = .ok (.iconst (-1), 1) := by decide +kernel
theorem dL_isTold_539 : decode cL_isTold 539 = .ok (.invokestatic 107, 3) := by decide +kernel
theorem dL_isTold_542 : decode cL_isTold 542 = .ok (.sipush (-7100), 3) := by decide +kernel
theorem dL_isTold_545 : decode cL_isTold 545 = .ok (.if_icmp .ne 64, 3) := by decide +kernel
theorem dL_isTold_548 : decode cL_isTold 548 = .ok (.aload_n 0, 1) := by decide +kernel
theorem dL_isTold_549 : decode cL_isTold 549 = .ok (.ldc 162, 2) := by decide +kernel
theorem dL_isTold_551 : decode cL_isTold 551 = .ok (.invokestatic 152, 3) := by decide +kernel
theorem dL_isTold_554 : decode cL_isTold 554 = .ok (.sipush (-7100), 3) := by decide +kernel
theorem dL_isTold_557 : decode cL_isTold 557 = .ok (.if_icmp .ne 52, 3) := by decide +kernel
theorem dL_isTold_560 : decode cL_isTold 560 = .ok (.aload_n 0, 1) := by decide +kernel
theorem dL_isTold_561 : decode cL_isTold 561 = .ok (.iconst 4, 1) := by decide +kernel
theorem dL_isTold_562 : decode cL_isTold 562 = .ok (.invokestatic 99, 3) := by decide +kernel
theorem dL_isTold_565 : decode cL_isTold 565 = .ok (.sipush (-7200), 3) := by decide +kernel
theorem dL_isTold_568 : decode cL_isTold 568 = .ok (.if_icmp .ne 41, 3) := by decide +kernel
theorem dL_isTold_571 : decode cL_isTold 571 = .ok (.aload_n 0, 1) := by decide +kernel
theorem dL_isTold_572 : decode cL_isTold 572 = .ok (.iconst (-1), 1) := by decide +kernel
theorem dL_isTold_573 : decode cL_isTold 573 = .ok (.invokestatic 99, 3) := by decide +kernel
theorem dL_isTold_576 : decode cL_isTold 576 = .ok (.sipush (-7200), 3) := by decide +kernel
theorem dL_isTold_579 : decode cL_isTold 579 = .ok (.if_icmp .ne 30, 3) := by decide +kernel
theorem dL_isTold_582 : decode cL_isTold 582 = .ok (.aload_n 0, 1) := by decide +kernel
theorem dL_isTold_583 : decode cL_isTold 583 = .ok (.iconst 4, 1) := by decide +kernel
theorem dL_isTold_584 : decode cL_isTold 584 = .ok (.invokestatic 139, 3) := by decide +kernel
theorem dL_isTold_587 : decode cL_isTold 587 = .ok (.sipush (-7100), 3) := by decide +kernel
theorem dL_isTold_590 : decode cL_isTold 590 = .ok (.if_icmp .ne 19, 3) := by decide +kernel
theorem dL_isTold_593 : decode cL_isTold 593 = .ok (.aload_n 0, 1) := by decide +kernel
theorem dL_isTold_594 : decode cL_isTold 594 = .ok (.ldc 132, 2) := by decide +kernel
theorem dL_isTold_596 : decode cL_isTold 596 = .ok (.invokestatic 141, 3) := by decide +kernel
theorem dL_isTold_599 : decode cL_isTold 599 = .ok (.sipush (-7100), 3) := by decide +kernel
theorem dL_isTold_602 : decode cL_isTold 602 = .ok (.if_icmp .ne 7, 3) := by decide +kernel
theorem dL_isTold_605 : decode cL_isTold 605 = .ok (.iconst 1, 1) := by decide +kernel
theorem dL_isTold_606 : decode cL_isTold 606 = .ok (.goto 4, 3) := by decide +kernel
theorem dL_isTold_609 : decode cL_isTold 609 = .ok (.iconst 0, 1) := by decide +kernel
theorem dL_isTold_610 : decode cL_isTold 610 = .ok (.ireturn, 1) := by decide +kernel
abbrev rmL_isTold : Room := { frames := 10, cells := 989, slots := 5934, locals := 184 }
theorem hdL_isTold : yL_isTold.cls ≠ "java/lang/invoke/MethodHandle" ∧ yL_isTold.cls ≠ "java/lang/invoke/VarHandle" ∧ (parseMethodDescriptor yL_isTold.desc).map (fun d => d.parameters.length) = some 9 := by decide +kernel
set_option maxHeartbeats 4000000 in
set_option maxRecDepth 20000 in
theorem mlL_isTold_307 {G : xG} {X : xX} (hC : xC G X "PlantServerLaw" cL_isTold 17 rmL_isTold) (hr : xRt X (some .boolean)) (htab : xTab X []) (a1 : Nm) (a3 : Nm) (a4 : Nm) (a5 : Nm) (a6 : Nm) (a7 : Nm) (a8 : Nm) (a9 : Nm) (x3_9 : Int32) (x189_12 : Int32) (r4 : Int32) (x6 : Int32) {ρ : Nm → Nat} (h0 : xR0 X ρ) (kE nE : Nat) (hkE : kE + 0 ≤ 989) (hnE : nE + 0 ≤ 5934) (K : Int32 → PH → Prop) (Q : Int32 → PH → Prop) (Xp : String → PH → Prop) : ∀ (f307 : Nat) (k n : Nat), k + f307 * 6 ≤ kE + 6 → n + f307 * 36 ≤ nE + 36 → ∀ (x307_15 : Int32) (τ307 : PH), lL_isTold_307 a1 a3 a4 a5 a6 a7 a8 a9 x3_9 x189_12 r4 x6 K Q f307 x307_15 τ307 → (∀ (x307_15 : Int32) (τ307 : PH), K x307_15 τ307 → xJ G X (xT X (eI ρ Q) Xp G rmL_isTold) 17 ρ τ307 kE nE 389 [(0, .ref (ρ a1)), (2, .ref (ρ a3)), (3, .ref (ρ a4)), (4, .ref (ρ a5)), (5, .ref (ρ a6)), (6, .ref (ρ a7)), (7, .ref (ρ a8)), (8, .ref (ρ a9)), (9, .int x3_9), (10, .int (11 * x3_9)), (12, .int x189_12), (13, .int r4), (14, .int x6), (15, .int x307_15)] []) → xJ G X (xT X (eI ρ Q) Xp G rmL_isTold) 17 ρ τ307 k n 307 [(0, .ref (ρ a1)), (2, .ref (ρ a3)), (3, .ref (ρ a4)), (4, .ref (ρ a5)), (5, .ref (ρ a6)), (6, .ref (ρ a7)), (7, .ref (ρ a8)), (8, .ref (ρ a9)), (9, .int x3_9), (10, .int (11 * x3_9)), (12, .int x189_12), (13, .int r4), (14, .int x6), (15, .int x307_15)] [] := by
  intro f307
  induction f307 with
  | zero => intro k n hk1 hk2 x307_15 τ307 h hKK; unfold lL_isTold_307 at h; exact h.elim
  | succ f307 ih =>
    intro k n hk1 hk2 x307_15 τ307 h hKK
    unfold lL_isTold_307 at h
    refine x_iload hC 13 rfl dL_isTold_307 ?_
    refine x_iload hC 12 rfl dL_isTold_309 ?_
    refine x_icmp_ge (tgt := 389) hC dL_isTold_311 (by decide) (fun c18 => ?_) (fun c18 => ?_)
    · have h := h.1 c18
      refine xJ.wid (k' := kE) (n' := nE) (by omega) (by omega) ?_
      exact hKK _ _ h
    · have h := h.2 c18
      refine x_aload hC 6 rfl dL_isTold_314 ?_
      refine x_bipush (v := 6) hC dL_isTold_316 (by decide) ?_
      refine x_iload hC 11 rfl dL_isTold_318 ?_
      refine x_imul hC dL_isTold_320 ?_
      refine x_iload hC 13 rfl dL_isTold_321 ?_
      refine x_iadd hC dL_isTold_323 ?_
      obtain ⟨k8, h⟩ := h
      obtain ⟨v16, h⟩ := h
      refine x_iald (a := a8) hC k8 v16 dL_isTold_324 ?_
      refine xJ.nmT (fun x8 ex2 => ?_)
      have h := h x8 ex2
      refine x_istore (L' := [(16, .int x8), (0, .ref (ρ a1)), (2, .ref (ρ a3)), (3, .ref (ρ a4)), (4, .ref (ρ a5)), (5, .ref (ρ a6)), (6, .ref (ρ a7)), (7, .ref (ρ a8)), (8, .ref (ρ a9)), (9, .int x3_9), (10, .int (11 * x3_9)), (12, .int x189_12), (13, .int r4), (14, .int x6), (15, .int x307_15)]) hC dL_isTold_325 (by decide) (by first | rfl | simp (decide := true) [rv_cat, cat_ref, cat_int]) ?_
      refine x_aload_n hC 1 rfl dL_isTold_327 ?_
      refine x_iload hC 9 rfl dL_isTold_328 ?_
      refine x_iload hC 11 rfl dL_isTold_330 ?_
      refine x_iload hC 14 rfl dL_isTold_332 ?_
      obtain ⟨hz307, h⟩ := h
      refine x_callSW (as := [.ref (ρ a1), .int x3_9, .int x189_12, .int x307_15]) (rest := []) hC (fun l hl => mL_valueAt l hl G ρ a1 x3_9 x189_12 x307_15 τ307 _ h) q637 q638 q0 q639 hdL_valueAt (by decide) ⟨(show _ + 2 ≤ 989 by omega), (show _ + 12 ≤ 5934 by omega)⟩ (by first | exact Nat.le_of_ble_eq_true rfl | (simp [rv_cat]; done) | (simp (decide := true) [rv_cat, cat_ref, cat_int]; done)) rfl dL_isTold_334 (fun E σ9 hx => False.elim hx) (fun v17 σ9 ρ9 hp9 hag9 => ?_)
      obtain ⟨e9, r9, e8, h⟩ := hp9
      rw [e8, e9]
      refine xJ.nrm (k' := k + 2) (n' := n + 12) (pc' := 337) (st' := [.int r9]) rfl rfl rfl rfl ?_
      refine x_iload hC 0 rfl dL_isTold_337 ?_
      refine x_iconst (v := 5) hC dL_isTold_339 (by decide) ?_
      refine x_ishr hC dL_isTold_340 ?_
      refine x_icmp_ne (tgt := 381) hC dL_isTold_341 (by decide) (fun c19 => ?_) (fun c19 => ?_)
      · have h := h.1 c19
        refine x_iconst (v := 0) hC dL_isTold_381 (by decide) ?_
        exact x_zret hC hr zb0 dL_isTold_382 (show _ ≤ 989 by omega) (show _ ≤ 5934 by omega) ⟨rfl, _, rfl, h⟩
      · have h := h.2 c19
        refine x_aload_n hC 1 rfl dL_isTold_344 ?_
        refine x_iload hC 9 rfl dL_isTold_345 ?_
        refine x_iload hC 11 rfl dL_isTold_347 ?_
        refine x_iload hC 14 rfl dL_isTold_349 ?_
        refine x_callSW (as := [.ref (ρ a1), .int x3_9, .int x189_12, .int x307_15]) (rest := []) hC (fun l hl => mL_itemAt l hl G ρ a1 x3_9 x189_12 x307_15 σ9 _ h) q666 q667 q0 q668 hdL_itemAt (by decide) ⟨(show _ + 2 ≤ 989 by omega), (show _ + 12 ≤ 5934 by omega)⟩ (by first | exact Nat.le_of_ble_eq_true rfl | (simp [rv_cat]; done) | (simp (decide := true) [rv_cat, cat_ref, cat_int]; done)) rfl dL_isTold_351 (fun E σ9 hx => False.elim hx) (fun v18 σ10 ρ10 hp10 hag10 => ?_)
        obtain ⟨e9, r10, e8, h⟩ := hp10
        rw [e8, e9]
        refine xJ.nrm (k' := k + 4) (n' := n + 24) (pc' := 354) (st' := [.int r10]) rfl rfl rfl rfl ?_
        refine x_iload hC 0 rfl dL_isTold_354 ?_
        refine x_bipush (v := 15) hC dL_isTold_356 (by decide) ?_
        refine x_iand hC dL_isTold_358 ?_
        refine x_icmp_ne (tgt := 381) hC dL_isTold_359 (by decide) (fun c20 => ?_) (fun c20 => ?_)
        · have h := h.1 c20
          refine x_iconst (v := 0) hC dL_isTold_381 (by decide) ?_
          exact x_zret hC hr zb0 dL_isTold_382 (show _ ≤ 989 by omega) (show _ ≤ 5934 by omega) ⟨rfl, _, rfl, h⟩
        · have h := h.2 c20
          refine x_aload_n hC 1 rfl dL_isTold_362 ?_
          refine x_iload hC 9 rfl dL_isTold_363 ?_
          refine x_iload hC 11 rfl dL_isTold_365 ?_
          refine x_iload hC 14 rfl dL_isTold_367 ?_
          refine x_callSW (as := [.ref (ρ a1), .int x3_9, .int x189_12, .int x307_15]) (rest := []) hC (fun l hl => mL_isMarked l hl G ρ a1 x3_9 x189_12 x307_15 σ10 _ h) q673 q674 q0 q675 hdL_isMarked (by decide) ⟨(show _ + 2 ≤ 989 by omega), (show _ + 12 ≤ 5934 by omega)⟩ (by first | exact Nat.le_of_ble_eq_true rfl | (simp [rv_cat]; done) | (simp (decide := true) [rv_cat, cat_ref, cat_int]; done)) rfl dL_isTold_369 (fun E σ9 hx => False.elim hx) (fun v19 σ11 ρ11 hp11 hag11 => ?_)
          obtain ⟨e9, r11, e8, h⟩ := hp11
          rw [e8, e9]
          refine xJ.nrm (k' := k + 6) (n' := n + 36) (pc' := 372) (st' := [.int r11]) rfl rfl rfl rfl ?_
          refine x_iload hC 0 rfl dL_isTold_372 ?_
          refine x_iconst (v := 4) hC dL_isTold_374 (by decide) ?_
          refine x_ishr hC dL_isTold_375 ?_
          refine x_iconst (v := 1) hC dL_isTold_376 (by decide) ?_
          refine x_iand hC dL_isTold_377 ?_
          refine x_icmp_eq (tgt := 383) hC dL_isTold_378 (by decide) (fun c21 => ?_) (fun c21 => ?_)
          · have h := h.1 c21
            refine x_iinc (v' := x307_15 + 1) (L' := [(15, .int (x307_15 + 1)), (16, .int x8), (0, .ref (ρ a1)), (2, .ref (ρ a3)), (3, .ref (ρ a4)), (4, .ref (ρ a5)), (5, .ref (ρ a6)), (6, .ref (ρ a7)), (7, .ref (ρ a8)), (8, .ref (ρ a9)), (9, .int x3_9), (10, .int (11 * x3_9)), (12, .int x189_12), (13, .int r4), (14, .int x6)]) hC 14 rfl dL_isTold_383 rfl (by decide) (by first | rfl | simp (decide := true) [rv_cat, cat_ref, cat_int]) ?_
            refine x_goto (tgt := 307) hC dL_isTold_386 (by decide) ?_
            refine xJ.sub (L' := [(0, .ref (ρ a1)), (2, .ref (ρ a3)), (3, .ref (ρ a4)), (4, .ref (ρ a5)), (5, .ref (ρ a6)), (6, .ref (ρ a7)), (7, .ref (ρ a8)), (8, .ref (ρ a9)), (9, .int x3_9), (10, .int (11 * x3_9)), (12, .int x189_12), (13, .int r4), (14, .int x6), (15, .int (x307_15 + 1))]) [2, 3, 4, 5, 6, 7, 8, 9, 10, 11, 12, 13, 14, 0] rfl ?_
            exact ih _ _ (show _ + f307 * 6 ≤ kE + 6 by omega) (show _ + f307 * 36 ≤ nE + 36 by omega) _ _ h hKK
          · have h := h.2 c21
            refine x_iconst (v := 0) hC dL_isTold_381 (by decide) ?_
            exact x_zret hC hr zb0 dL_isTold_382 (show _ ≤ 989 by omega) (show _ ≤ 5934 by omega) ⟨rfl, _, rfl, h⟩
set_option maxHeartbeats 4000000 in
set_option maxRecDepth 20000 in
theorem mlL_isTold_189 {G : xG} {X : xX} (hC : xC G X "PlantServerLaw" cL_isTold 17 rmL_isTold) (hr : xRt X (some .boolean)) (htab : xTab X []) (a1 : Nm) (a3 : Nm) (a4 : Nm) (a5 : Nm) (a6 : Nm) (a7 : Nm) (a8 : Nm) (a9 : Nm) (x3_9 : Int32) (x5 : Int32) {ρ : Nm → Nat} (h0 : xR0 X ρ) (kE nE : Nat) (hkE : kE + 0 ≤ 989) (hnE : nE + 0 ≤ 5934) (K : Int32 → PH → Prop) (Q : Int32 → PH → Prop) (Xp : String → PH → Prop) : ∀ (f189 : Nat) (k n : Nat), k + f189 * 43 ≤ kE + 43 → n + f189 * 258 ≤ nE + 258 → ∀ (x189_12 : Int32) (τ189 : PH), lL_isTold_189 a1 a3 a4 a5 a6 a7 a8 a9 x3_9 x5 K Q f189 x189_12 τ189 → (∀ (x189_12 : Int32) (τ189 : PH), K x189_12 τ189 → xJ G X (xT X (eI ρ Q) Xp G rmL_isTold) 17 ρ τ189 kE nE 395 [(0, .ref (ρ a1)), (2, .ref (ρ a3)), (3, .ref (ρ a4)), (4, .ref (ρ a5)), (5, .ref (ρ a6)), (6, .ref (ρ a7)), (7, .ref (ρ a8)), (8, .ref (ρ a9)), (9, .int x3_9), (10, .int (11 * x3_9)), (12, .int x189_12)] []) → xJ G X (xT X (eI ρ Q) Xp G rmL_isTold) 17 ρ τ189 k n 189 [(0, .ref (ρ a1)), (2, .ref (ρ a3)), (3, .ref (ρ a4)), (4, .ref (ρ a5)), (5, .ref (ρ a6)), (6, .ref (ρ a7)), (7, .ref (ρ a8)), (8, .ref (ρ a9)), (9, .int x3_9), (10, .int (11 * x3_9)), (12, .int x189_12)] [] := by
  intro f189
  induction f189 with
  | zero => intro k n hk1 hk2 x189_12 τ189 h hKK; unfold lL_isTold_189 at h; exact h.elim
  | succ f189 ih =>
    intro k n hk1 hk2 x189_12 τ189 h hKK
    unfold lL_isTold_189 at h
    refine x_iload hC 10 rfl dL_isTold_189 ?_
    refine x_aload_n hC 1 rfl dL_isTold_191 ?_
    refine x_iload hC 9 rfl dL_isTold_192 ?_
    refine x_bipush (v := 9) hC dL_isTold_194 (by decide) ?_
    refine x_iadd hC dL_isTold_196 ?_
    obtain ⟨k6, h⟩ := h
    obtain ⟨v9, h⟩ := h
    refine x_iald (a := a3) hC k6 v9 dL_isTold_197 ?_
    refine x_iconst (v := 2) hC dL_isTold_198 (by decide) ?_
    refine x_iadd hC dL_isTold_199 ?_
    refine x_icmp_ge (tgt := 395) hC dL_isTold_200 (by decide) (fun c11 => ?_) (fun c11 => ?_)
    · have h := h.1 c11
      refine xJ.wid (k' := kE) (n' := nE) (by omega) (by omega) ?_
      exact hKK _ _ h
    · have h := h.2 c11
      refine x_aload hC 5 rfl dL_isTold_203 ?_
      refine x_iload hC 8 rfl dL_isTold_205 ?_
      refine x_iload hC 10 rfl dL_isTold_207 ?_
      refine x_callS (as := [.ref (ρ a7), .int x3_9, .int x189_12]) (rest := []) hC (fun l hl => mL_kept l hl G ρ a7 x3_9 x189_12 τ189 _ h) q495 q496 q0 q497 hdL_kept (by decide) ⟨(show _ + 0 ≤ 989 by omega), (show _ + 0 ≤ 5934 by omega)⟩ (by first | exact Nat.le_of_ble_eq_true rfl | (simp [rv_cat]; done) | (simp (decide := true) [rv_cat, cat_ref, cat_int]; done)) rfl dL_isTold_209 (fun E σ9 hx => False.elim hx) (fun v10 σ4 ρ4 hp4 hag4 => ?_)
      obtain ⟨e9, r4, e8, h⟩ := hp4
      rw [e8, e9]
      refine xJ.nrm (k' := k + 0) (n' := n + 0) (pc' := 212) (st' := [.int r4]) rfl rfl rfl rfl ?_
      refine x_istore (L' := [(13, .int r4), (0, .ref (ρ a1)), (2, .ref (ρ a3)), (3, .ref (ρ a4)), (4, .ref (ρ a5)), (5, .ref (ρ a6)), (6, .ref (ρ a7)), (7, .ref (ρ a8)), (8, .ref (ρ a9)), (9, .int x3_9), (10, .int (11 * x3_9)), (12, .int x189_12)]) hC dL_isTold_212 (by decide) (by first | rfl | simp (decide := true) [rv_cat, cat_ref, cat_int]) ?_
      refine x_iload hC 0 rfl dL_isTold_214 ?_
      refine xJ.jV (pcJ := 231) (stJ := []) h (fun x6 h => ?_) (fun K5 hk5 h => ?_)
      · refine x_istore (L' := [(14, .int x6), (13, .int r4), (0, .ref (ρ a1)), (2, .ref (ρ a3)), (3, .ref (ρ a4)), (4, .ref (ρ a5)), (5, .ref (ρ a6)), (6, .ref (ρ a7)), (7, .ref (ρ a8)), (8, .ref (ρ a9)), (9, .int x3_9), (10, .int (11 * x3_9)), (12, .int x189_12)]) hC dL_isTold_231 (by decide) (by first | rfl | simp (decide := true) [rv_cat, cat_ref, cat_int]) ?_
        refine x_aload_n hC 2 rfl dL_isTold_233 ?_
        refine x_iload hC 10 rfl dL_isTold_234 ?_
        refine x_iload hC 12 rfl dL_isTold_236 ?_
        obtain ⟨hz189, h⟩ := h
        refine x_callSW (as := [.ref (ρ a1), .int x3_9, .int x189_12]) (rest := []) hC (fun l hl => mL_size l hl G ρ a1 x3_9 x189_12 σ4 _ h) q625 q626 q0 q627 hdL_size (by decide) ⟨(show _ + 1 ≤ 989 by omega), (show _ + 6 ≤ 5934 by omega)⟩ (by first | exact Nat.le_of_ble_eq_true rfl | (simp [rv_cat]; done) | (simp (decide := true) [rv_cat, cat_ref, cat_int]; done)) rfl dL_isTold_238 (fun E σ9 hx => False.elim hx) (fun v12 σ5 ρ5 hp5 hag5 => ?_)
        obtain ⟨e9, r5, e8, h⟩ := hp5
        rw [e8, e9]
        refine xJ.nrm (k' := k + 1) (n' := n + 6) (pc' := 241) (st' := [.int r5]) rfl rfl rfl rfl ?_
        refine x_iload hC 1 rfl dL_isTold_241 ?_
        refine xJ.jV (pcJ := 252) (stJ := [.int r5]) h (fun x7 h => ?_) (fun K6 hk6 h => ?_)
        · refine x_icmp_ne (tgt := 302) hC dL_isTold_252 (by decide) (fun c14 => ?_) (fun c14 => ?_)
          · have h := h.1 c14
            refine x_iconst (v := 0) hC dL_isTold_302 (by decide) ?_
            exact x_zret hC hr zb0 dL_isTold_303 (show _ ≤ 989 by omega) (show _ ≤ 5934 by omega) ⟨rfl, _, rfl, h⟩
          · have h := h.2 c14
            refine x_aload_n hC 2 rfl dL_isTold_255 ?_
            refine x_iload hC 10 rfl dL_isTold_256 ?_
            refine x_iload hC 12 rfl dL_isTold_258 ?_
            refine x_iload hC 0 rfl dL_isTold_260 ?_
            refine x_callSW (as := [.ref (ρ a1), .int x3_9, .int x189_12, .int x6]) (rest := []) hC (fun l hl => mL_valueAt l hl G ρ a1 x3_9 x189_12 x6 σ5 _ h) q637 q638 q0 q639 hdL_valueAt (by decide) ⟨(show _ + 2 ≤ 989 by omega), (show _ + 12 ≤ 5934 by omega)⟩ (by first | exact Nat.le_of_ble_eq_true rfl | (simp [rv_cat]; done) | (simp (decide := true) [rv_cat, cat_ref, cat_int]; done)) rfl dL_isTold_262 (fun E σ9 hx => False.elim hx) (fun v13 σ6 ρ6 hp6 hag6 => ?_)
            obtain ⟨e9, r6, e8, h⟩ := hp6
            rw [e8, e9]
            refine xJ.nrm (k' := k + 3) (n' := n + 18) (pc' := 265) (st' := [.int r6]) rfl rfl rfl rfl ?_
            refine x_sipush (v := (-7300)) hC dL_isTold_265 (by decide) ?_
            refine x_icmp_ne (tgt := 302) hC dL_isTold_268 (by decide) (fun c15 => ?_) (fun c15 => ?_)
            · have h := h.1 c15
              refine x_iconst (v := 0) hC dL_isTold_302 (by decide) ?_
              exact x_zret hC hr zb0 dL_isTold_303 (show _ ≤ 989 by omega) (show _ ≤ 5934 by omega) ⟨rfl, _, rfl, h⟩
            · have h := h.2 c15
              refine x_aload_n hC 2 rfl dL_isTold_271 ?_
              refine x_iload hC 10 rfl dL_isTold_272 ?_
              refine x_iload hC 12 rfl dL_isTold_274 ?_
              refine x_iconst (v := (-1)) hC dL_isTold_276 (by decide) ?_
              refine x_callSW (as := [.ref (ρ a1), .int x3_9, .int x189_12, .int (-1)]) (rest := []) hC (fun l hl => mL_itemAt l hl G ρ a1 x3_9 x189_12 (-1) σ6 _ h) q666 q667 q0 q668 hdL_itemAt (by decide) ⟨(show _ + 2 ≤ 989 by omega), (show _ + 12 ≤ 5934 by omega)⟩ (by first | exact Nat.le_of_ble_eq_true rfl | (simp [rv_cat]; done) | (simp (decide := true) [rv_cat, cat_ref, cat_int]; done)) rfl dL_isTold_277 (fun E σ9 hx => False.elim hx) (fun v14 σ7 ρ7 hp7 hag7 => ?_)
              obtain ⟨e9, r7, e8, h⟩ := hp7
              rw [e8, e9]
              refine xJ.nrm (k' := k + 5) (n' := n + 30) (pc' := 280) (st' := [.int r7]) rfl rfl rfl rfl ?_
              refine x_sipush (v := (-7300)) hC dL_isTold_280 (by decide) ?_
              refine x_icmp_ne (tgt := 302) hC dL_isTold_283 (by decide) (fun c16 => ?_) (fun c16 => ?_)
              · have h := h.1 c16
                refine x_iconst (v := 0) hC dL_isTold_302 (by decide) ?_
                exact x_zret hC hr zb0 dL_isTold_303 (show _ ≤ 989 by omega) (show _ ≤ 5934 by omega) ⟨rfl, _, rfl, h⟩
              · have h := h.2 c16
                refine x_aload_n hC 2 rfl dL_isTold_286 ?_
                refine x_iload hC 10 rfl dL_isTold_287 ?_
                refine x_iload hC 12 rfl dL_isTold_289 ?_
                refine x_iload hC 0 rfl dL_isTold_291 ?_
                refine x_callSW (as := [.ref (ρ a1), .int x3_9, .int x189_12, .int x6]) (rest := []) hC (fun l hl => mL_isMarked l hl G ρ a1 x3_9 x189_12 x6 σ7 _ h) q673 q674 q0 q675 hdL_isMarked (by decide) ⟨(show _ + 2 ≤ 989 by omega), (show _ + 12 ≤ 5934 by omega)⟩ (by first | exact Nat.le_of_ble_eq_true rfl | (simp [rv_cat]; done) | (simp (decide := true) [rv_cat, cat_ref, cat_int]; done)) rfl dL_isTold_293 (fun E σ9 hx => False.elim hx) (fun v15 σ8 ρ8 hp8 hag8 => ?_)
                obtain ⟨e9, r8, e8, h⟩ := hp8
                rw [e8, e9]
                refine xJ.nrm (k' := k + 7) (n' := n + 42) (pc' := 296) (st' := [.int r8]) rfl rfl rfl rfl ?_
                refine x_sipush (v := (-7300)) hC dL_isTold_296 (by decide) ?_
                refine x_icmp_eq (tgt := 304) hC dL_isTold_299 (by decide) (fun c17 => ?_) (fun c17 => ?_)
                · have h := h.1 c17
                  refine x_iconst (v := 0) hC dL_isTold_304 (by decide) ?_
                  refine x_istore (L' := [(15, .int 0), (14, .int x6), (13, .int r4), (0, .ref (ρ a1)), (2, .ref (ρ a3)), (3, .ref (ρ a4)), (4, .ref (ρ a5)), (5, .ref (ρ a6)), (6, .ref (ρ a7)), (7, .ref (ρ a8)), (8, .ref (ρ a9)), (9, .int x3_9), (10, .int (11 * x3_9)), (12, .int x189_12)]) hC dL_isTold_305 (by decide) (by first | rfl | simp (decide := true) [rv_cat, cat_ref, cat_int]) ?_
                  refine xJ.sub (L' := [(0, .ref (ρ a1)), (2, .ref (ρ a3)), (3, .ref (ρ a4)), (4, .ref (ρ a5)), (5, .ref (ρ a6)), (6, .ref (ρ a7)), (7, .ref (ρ a8)), (8, .ref (ρ a9)), (9, .int x3_9), (10, .int (11 * x3_9)), (12, .int x189_12), (13, .int r4), (14, .int x6), (15, .int 0)]) [3, 4, 5, 6, 7, 8, 9, 10, 11, 12, 13, 2, 1, 0] rfl ?_
                  obtain ⟨f307, hf307, h⟩ := h
                  refine mlL_isTold_307 hC hr htab a1 a3 a4 a5 a6 a7 a8 a9 x3_9 x189_12 r4 x6 h0 (k + 43) (n + 258) (show _ + 0 ≤ 989 by omega) (show _ + 0 ≤ 5934 by omega) _ Q _ f307 _ _ (show _ + f307 * 6 ≤ _ + 6 by omega) (show _ + f307 * 36 ≤ _ + 36 by omega) _ _ h (fun y1 τ1 h => ?_)
                  refine x_iinc (v' := x189_12 + 1) (L' := [(12, .int (x189_12 + 1)), (0, .ref (ρ a1)), (2, .ref (ρ a3)), (3, .ref (ρ a4)), (4, .ref (ρ a5)), (5, .ref (ρ a6)), (6, .ref (ρ a7)), (7, .ref (ρ a8)), (8, .ref (ρ a9)), (9, .int x3_9), (10, .int (11 * x3_9)), (13, .int r4), (14, .int x6), (15, .int y1)]) hC 10 rfl dL_isTold_389 rfl (by decide) (by first | rfl | simp (decide := true) [rv_cat, cat_ref, cat_int]) ?_
                  refine x_goto (tgt := 189) hC dL_isTold_392 (by decide) ?_
                  refine xJ.sub (L' := [(0, .ref (ρ a1)), (2, .ref (ρ a3)), (3, .ref (ρ a4)), (4, .ref (ρ a5)), (5, .ref (ρ a6)), (6, .ref (ρ a7)), (7, .ref (ρ a8)), (8, .ref (ρ a9)), (9, .int x3_9), (10, .int (11 * x3_9)), (12, .int (x189_12 + 1))]) [1, 2, 3, 4, 5, 6, 7, 8, 9, 10, 0] rfl ?_
                  exact ih _ _ (show _ + f189 * 43 ≤ kE + 43 by omega) (show _ + f189 * 258 ≤ nE + 258 by omega) _ _ h hKK
                · have h := h.2 c17
                  refine x_iconst (v := 0) hC dL_isTold_302 (by decide) ?_
                  exact x_zret hC hr zb0 dL_isTold_303 (show _ ≤ 989 by omega) (show _ ≤ 5934 by omega) ⟨rfl, _, rfl, h⟩
        · refine x_if_lt (tgt := 251) hC dL_isTold_243 (by decide) (fun c13 => ?_) (fun c13 => ?_)
          · have h := h.1 c13
            refine x_iconst (v := (-1)) hC dL_isTold_251 (by decide) ?_
            exact hk6 _ h
          · have h := h.2 c13
            refine x_iload hC 0 rfl dL_isTold_246 ?_
            refine x_goto (tgt := 252) hC dL_isTold_248 (by decide) ?_
            exact hk6 _ h
      · refine x_if_lt (tgt := 230) hC dL_isTold_216 (by decide) (fun c12 => ?_) (fun c12 => ?_)
        · have h := h.1 c12
          refine x_iconst (v := 0) hC dL_isTold_230 (by decide) ?_
          exact hk5 _ h
        · have h := h.2 c12
          refine x_aload hC 6 rfl dL_isTold_219 ?_
          refine x_iload hC 0 rfl dL_isTold_221 ?_
          obtain ⟨k7, h⟩ := h
          obtain ⟨v11, h⟩ := h
          refine x_iald (a := a7) hC k7 v11 dL_isTold_223 ?_
          refine x_bipush (v := 13) hC dL_isTold_224 (by decide) ?_
          refine x_ishr hC dL_isTold_226 ?_
          refine x_goto (tgt := 231) hC dL_isTold_227 (by decide) ?_
          exact hk5 _ h
set_option maxHeartbeats 4000000 in
set_option maxRecDepth 20000 in
theorem mlL_isTold_3 {G : xG} {X : xX} (hC : xC G X "PlantServerLaw" cL_isTold 17 rmL_isTold) (hr : xRt X (some .boolean)) (htab : xTab X []) (a1 : Nm) (a3 : Nm) (a4 : Nm) (a5 : Nm) (a6 : Nm) (a7 : Nm) (a8 : Nm) (a9 : Nm) {ρ : Nm → Nat} (h0 : xR0 X ρ) (kE nE : Nat) (hkE : kE + 0 ≤ 989) (hnE : nE + 0 ≤ 5934) (K : Int32 → PH → Prop) (Q : Int32 → PH → Prop) (Xp : String → PH → Prop) : ∀ (f3 : Nat) (k n : Nat), k + f3 * 476 ≤ kE + 476 → n + f3 * 2856 ≤ nE + 2856 → ∀ (x3_9 : Int32) (τ3 : PH), lL_isTold_3 a1 a3 a4 a5 a6 a7 a8 a9 K Q f3 x3_9 τ3 → (∀ (x3_9 : Int32) (τ3 : PH), K x3_9 τ3 → xJ G X (xT X (eI ρ Q) Xp G rmL_isTold) 17 ρ τ3 kE nE 401 [(0, .ref (ρ a1)), (2, .ref (ρ a3)), (3, .ref (ρ a4)), (4, .ref (ρ a5)), (5, .ref (ρ a6)), (6, .ref (ρ a7)), (7, .ref (ρ a8)), (8, .ref (ρ a9)), (9, .int x3_9)] []) → xJ G X (xT X (eI ρ Q) Xp G rmL_isTold) 17 ρ τ3 k n 3 [(0, .ref (ρ a1)), (2, .ref (ρ a3)), (3, .ref (ρ a4)), (4, .ref (ρ a5)), (5, .ref (ρ a6)), (6, .ref (ρ a7)), (7, .ref (ρ a8)), (8, .ref (ρ a9)), (9, .int x3_9)] [] := by
  intro f3
  induction f3 with
  | zero => intro k n hk1 hk2 x3_9 τ3 h hKK; unfold lL_isTold_3 at h; exact h.elim
  | succ f3 ih =>
    intro k n hk1 hk2 x3_9 τ3 h hKK
    unfold lL_isTold_3 at h
    refine x_iload hC 8 rfl dL_isTold_3 ?_
    refine x_iconst (v := 2) hC dL_isTold_5 (by decide) ?_
    refine x_icmp_ge (tgt := 401) hC dL_isTold_6 (by decide) (fun c1 => ?_) (fun c1 => ?_)
    · have h := h.1 c1
      refine xJ.wid (k' := kE) (n' := nE) (by omega) (by omega) ?_
      exact hKK _ _ h
    · have h := h.2 c1
      refine x_bipush (v := 11) hC dL_isTold_9 (by decide) ?_
      refine x_iload hC 8 rfl dL_isTold_11 ?_
      refine x_imul hC dL_isTold_13 ?_
      refine x_istore (L' := [(10, .int (11 * x3_9)), (0, .ref (ρ a1)), (2, .ref (ρ a3)), (3, .ref (ρ a4)), (4, .ref (ρ a5)), (5, .ref (ρ a6)), (6, .ref (ρ a7)), (7, .ref (ρ a8)), (8, .ref (ρ a9)), (9, .int x3_9)]) hC dL_isTold_14 (by decide) (by first | rfl | simp (decide := true) [rv_cat, cat_ref, cat_int]) ?_
      refine x_iload hC 9 rfl dL_isTold_16 ?_
      refine x_aload hC 8 rfl dL_isTold_18 ?_
      refine x_iconst (v := 1) hC dL_isTold_20 (by decide) ?_
      obtain ⟨k1, h⟩ := h
      obtain ⟨v1, h⟩ := h
      refine x_iald (a := a9) hC k1 v1 dL_isTold_21 ?_
      refine xJ.jV (pcJ := 38) (stJ := []) h (fun x1 h => ?_) (fun K1 hk1 h => ?_)
      · refine x_istore (L' := [(11, .int x1), (10, .int (11 * x3_9)), (0, .ref (ρ a1)), (2, .ref (ρ a3)), (3, .ref (ρ a4)), (4, .ref (ρ a5)), (5, .ref (ρ a6)), (6, .ref (ρ a7)), (7, .ref (ρ a8)), (8, .ref (ρ a9)), (9, .int x3_9)]) hC dL_isTold_38 (by decide) (by first | rfl | simp (decide := true) [rv_cat, cat_ref, cat_int]) ?_
        refine x_aload_n hC 2 rfl dL_isTold_40 ?_
        refine x_iload hC 10 rfl dL_isTold_41 ?_
        obtain ⟨hz3, h⟩ := h
        refine x_callSW (as := [.ref (ρ a1), .int x3_9]) (rest := []) hC (fun l hl => mL_isOpen l hl G ρ a1 x3_9 τ3 _ h) q259 q260 q0 q261 hdL_isOpen (by decide) ⟨(show _ + 1 ≤ 989 by omega), (show _ + 6 ≤ 5934 by omega)⟩ (by first | exact Nat.le_of_ble_eq_true rfl | (simp [rv_cat]; done) | (simp (decide := true) [rv_cat, cat_ref, cat_int]; done)) rfl dL_isTold_43 (fun E σ9 hx => False.elim hx) (fun v3 σ1 ρ1 hp1 hag1 => ?_)
        obtain ⟨e9, r1, e8, h⟩ := hp1
        rw [e8, e9]
        refine xJ.nrm (k' := k + 1) (n' := n + 6) (pc' := 46) (st' := [.int r1]) rfl rfl rfl rfl ?_
        refine x_iload hC 0 rfl dL_isTold_46 ?_
        refine xJ.jV (pcJ := 56) (stJ := [.int r1]) h (fun x2 h => ?_) (fun K2 hk2 h => ?_)
        · refine x_icmp_ne (tgt := 113) hC dL_isTold_56 (by decide) (fun c5 => ?_) (fun c5 => ?_)
          · have h := h.1 c5
            refine x_iconst (v := 0) hC dL_isTold_113 (by decide) ?_
            exact x_zret hC hr zb0 dL_isTold_114 (show _ ≤ 989 by omega) (show _ ≤ 5934 by omega) ⟨rfl, _, rfl, h⟩
          · have h := h.2 c5
            refine x_aload_n hC 2 rfl dL_isTold_59 ?_
            refine x_iload hC 10 rfl dL_isTold_60 ?_
            refine x_callSW (as := [.ref (ρ a1), .int x3_9]) (rest := []) hC (fun l hl => mL_latest l hl G ρ a1 x3_9 σ1 _ h) q611 q612 q0 q613 hdL_latest (by decide) ⟨(show _ + 1 ≤ 989 by omega), (show _ + 6 ≤ 5934 by omega)⟩ (by first | exact Nat.le_of_ble_eq_true rfl | (simp [rv_cat]; done) | (simp (decide := true) [rv_cat, cat_ref, cat_int]; done)) rfl dL_isTold_62 (fun E σ9 hx => False.elim hx) (fun v4 σ2 ρ2 hp2 hag2 => ?_)
            obtain ⟨e9, r2, e8, h⟩ := hp2
            rw [e8, e9]
            refine xJ.nrm (k' := k + 2) (n' := n + 12) (pc' := 65) (st' := [.int r2]) rfl rfl rfl rfl ?_
            refine x_iload hC 0 rfl dL_isTold_65 ?_
            refine xJ.jV (pcJ := 83) (stJ := [.int r2]) h (fun x3 h => ?_) (fun K3 hk3 h => ?_)
            · refine x_icmp_ne (tgt := 113) hC dL_isTold_83 (by decide) (fun c7 => ?_) (fun c7 => ?_)
              · have h := h.1 c7
                refine x_iconst (v := 0) hC dL_isTold_113 (by decide) ?_
                exact x_zret hC hr zb0 dL_isTold_114 (show _ ≤ 989 by omega) (show _ ≤ 5934 by omega) ⟨rfl, _, rfl, h⟩
              · have h := h.2 c7
                refine x_aload_n hC 2 rfl dL_isTold_86 ?_
                refine x_iload hC 10 rfl dL_isTold_87 ?_
                refine x_callSW (as := [.ref (ρ a1), .int x3_9]) (rest := []) hC (fun l hl => mL_keepAlives l hl G ρ a1 x3_9 σ2 _ h) q618 q619 q0 q620 hdL_keepAlives (by decide) ⟨(show _ + 1 ≤ 989 by omega), (show _ + 6 ≤ 5934 by omega)⟩ (by first | exact Nat.le_of_ble_eq_true rfl | (simp [rv_cat]; done) | (simp (decide := true) [rv_cat, cat_ref, cat_int]; done)) rfl dL_isTold_89 (fun E σ9 hx => False.elim hx) (fun v6 σ3 ρ3 hp3 hag3 => ?_)
                obtain ⟨e9, r3, e8, h⟩ := hp3
                rw [e8, e9]
                refine xJ.nrm (k' := k + 3) (n' := n + 18) (pc' := 92) (st' := [.int r3]) rfl rfl rfl rfl ?_
                refine x_iload hC 0 rfl dL_isTold_92 ?_
                refine xJ.jV (pcJ := 110) (stJ := [.int r3]) h (fun x4 h => ?_) (fun K4 hk4 h => ?_)
                · refine x_icmp_eq (tgt := 115) hC dL_isTold_110 (by decide) (fun c9 => ?_) (fun c9 => ?_)
                  · have h := h.1 c9
                    refine x_iload hC 0 rfl dL_isTold_115 ?_
                    refine x_if_ne (tgt := 177) hC dL_isTold_117 (by decide) (fun c10 => ?_) (fun c10 => ?_)
                    · have h := h.1 c10
                      refine x_aload_n hC 3 rfl dL_isTold_177 ?_
                      refine x_iload hC 1 rfl dL_isTold_178 ?_
                      refine x_bipush (v := 9) hC dL_isTold_180 (by decide) ?_
                      refine x_iadd hC dL_isTold_182 ?_
                      obtain ⟨k5, h⟩ := h
                      obtain ⟨v8, h⟩ := h
                      refine x_iald (a := a3) hC k5 v8 dL_isTold_183 ?_
                      refine x_bipush (v := 9) hC dL_isTold_184 (by decide) ?_
                      refine x_isub hC dL_isTold_186 ?_
                      refine xJ.nmT (fun x5 ex1 => ?_)
                      have h := h x5 ex1
                      refine x_istore (L' := [(12, .int x5), (11, .int x1), (10, .int (11 * x3_9)), (0, .ref (ρ a1)), (2, .ref (ρ a3)), (3, .ref (ρ a4)), (4, .ref (ρ a5)), (5, .ref (ρ a6)), (6, .ref (ρ a7)), (7, .ref (ρ a8)), (8, .ref (ρ a9)), (9, .int x3_9)]) hC dL_isTold_187 (by decide) (by first | rfl | simp (decide := true) [rv_cat, cat_ref, cat_int]) ?_
                      refine xJ.sub (L' := [(0, .ref (ρ a1)), (2, .ref (ρ a3)), (3, .ref (ρ a4)), (4, .ref (ρ a5)), (5, .ref (ρ a6)), (6, .ref (ρ a7)), (7, .ref (ρ a8)), (8, .ref (ρ a9)), (9, .int x3_9), (10, .int (11 * x3_9)), (12, .int x5)]) [3, 4, 5, 6, 7, 8, 9, 10, 11, 2, 0] rfl ?_
                      obtain ⟨f189, hf189, h⟩ := h
                      refine mlL_isTold_189 hC hr htab a1 a3 a4 a5 a6 a7 a8 a9 x3_9 x5 h0 (k + 476) (n + 2856) (show _ + 0 ≤ 989 by omega) (show _ + 0 ≤ 5934 by omega) _ Q _ f189 _ _ (show _ + f189 * 43 ≤ _ + 43 by omega) (show _ + f189 * 258 ≤ _ + 258 by omega) _ _ h (fun y2 τ2 h => ?_)
                      refine x_iinc (v' := x3_9 + 1) (L' := [(9, .int (x3_9 + 1)), (0, .ref (ρ a1)), (2, .ref (ρ a3)), (3, .ref (ρ a4)), (4, .ref (ρ a5)), (5, .ref (ρ a6)), (6, .ref (ρ a7)), (7, .ref (ρ a8)), (8, .ref (ρ a9)), (10, .int (11 * x3_9)), (12, .int y2)]) hC 8 rfl dL_isTold_395 rfl (by decide) (by first | rfl | simp (decide := true) [rv_cat, cat_ref, cat_int]) ?_
                      refine x_goto (tgt := 3) hC dL_isTold_398 (by decide) ?_
                      refine xJ.sub (L' := [(0, .ref (ρ a1)), (2, .ref (ρ a3)), (3, .ref (ρ a4)), (4, .ref (ρ a5)), (5, .ref (ρ a6)), (6, .ref (ρ a7)), (7, .ref (ρ a8)), (8, .ref (ρ a9)), (9, .int (x3_9 + 1))]) [1, 2, 3, 4, 5, 6, 7, 8, 0] rfl ?_
                      exact ih _ _ (show _ + f3 * 476 ≤ kE + 476 by omega) (show _ + f3 * 2856 ≤ nE + 2856 by omega) _ _ h hKK
                    · have h := h.2 c10
                      refine x_aload_n hC 2 rfl dL_isTold_120 ?_
                      refine x_iload hC 10 rfl dL_isTold_121 ?_
                      refine x_iconst (v := 1) hC dL_isTold_123 (by decide) ?_
                      refine x_callSW (as := [.ref (ρ a1), .int x3_9, .int 1]) (rest := []) hC (fun l hl => mL_size l hl G ρ a1 x3_9 1 σ3 _ h) q625 q626 q0 q627 hdL_size (by decide) ⟨(show _ + 1 ≤ 989 by omega), (show _ + 6 ≤ 5934 by omega)⟩ (by first | exact Nat.le_of_ble_eq_true rfl | (simp [rv_cat]; done) | (simp (decide := true) [rv_cat, cat_ref, cat_int]; done)) rfl dL_isTold_124 (fun E σ9 hx => False.elim hx) (fun v20 σ12 ρ12 hp12 hag12 => ?_)
                      obtain ⟨e9, r12, e8, h⟩ := hp12
                      rw [e8, e9]
                      refine xJ.nrm (k' := k + 4) (n' := n + 24) (pc' := 127) (st' := [.int r12]) rfl rfl rfl rfl ?_
                      refine x_sipush (v := (-7100)) hC dL_isTold_127 (by decide) ?_
                      refine x_icmp_ne (tgt := 175) hC dL_isTold_130 (by decide) (fun c22 => ?_) (fun c22 => ?_)
                      · have h := h.1 c22
                        refine x_iconst (v := 0) hC dL_isTold_175 (by decide) ?_
                        exact x_zret hC hr zb0 dL_isTold_176 (show _ ≤ 989 by omega) (show _ ≤ 5934 by omega) ⟨rfl, _, rfl, h⟩
                      · have h := h.2 c22
                        refine x_aload_n hC 2 rfl dL_isTold_133 ?_
                        refine x_iload hC 10 rfl dL_isTold_134 ?_
                        refine x_iconst (v := 1) hC dL_isTold_136 (by decide) ?_
                        refine x_iconst (v := 0) hC dL_isTold_137 (by decide) ?_
                        refine x_callSW (as := [.ref (ρ a1), .int x3_9, .int 1, .int 0]) (rest := []) hC (fun l hl => mL_valueAt l hl G ρ a1 x3_9 1 0 σ12 _ h) q637 q638 q0 q639 hdL_valueAt (by decide) ⟨(show _ + 2 ≤ 989 by omega), (show _ + 12 ≤ 5934 by omega)⟩ (by first | exact Nat.le_of_ble_eq_true rfl | (simp [rv_cat]; done) | (simp (decide := true) [rv_cat, cat_ref, cat_int]; done)) rfl dL_isTold_138 (fun E σ9 hx => False.elim hx) (fun v21 σ13 ρ13 hp13 hag13 => ?_)
                        obtain ⟨e9, r13, e8, h⟩ := hp13
                        rw [e8, e9]
                        refine xJ.nrm (k' := k + 6) (n' := n + 36) (pc' := 141) (st' := [.int r13]) rfl rfl rfl rfl ?_
                        refine x_sipush (v := (-7100)) hC dL_isTold_141 (by decide) ?_
                        refine x_icmp_ne (tgt := 175) hC dL_isTold_144 (by decide) (fun c23 => ?_) (fun c23 => ?_)
                        · have h := h.1 c23
                          refine x_iconst (v := 0) hC dL_isTold_175 (by decide) ?_
                          exact x_zret hC hr zb0 dL_isTold_176 (show _ ≤ 989 by omega) (show _ ≤ 5934 by omega) ⟨rfl, _, rfl, h⟩
                        · have h := h.2 c23
                          refine x_aload_n hC 2 rfl dL_isTold_147 ?_
                          refine x_iload hC 10 rfl dL_isTold_148 ?_
                          refine x_iconst (v := 1) hC dL_isTold_150 (by decide) ?_
                          refine x_iconst (v := 0) hC dL_isTold_151 (by decide) ?_
                          refine x_callSW (as := [.ref (ρ a1), .int x3_9, .int 1, .int 0]) (rest := []) hC (fun l hl => mL_itemAt l hl G ρ a1 x3_9 1 0 σ13 _ h) q666 q667 q0 q668 hdL_itemAt (by decide) ⟨(show _ + 2 ≤ 989 by omega), (show _ + 12 ≤ 5934 by omega)⟩ (by first | exact Nat.le_of_ble_eq_true rfl | (simp [rv_cat]; done) | (simp (decide := true) [rv_cat, cat_ref, cat_int]; done)) rfl dL_isTold_152 (fun E σ9 hx => False.elim hx) (fun v22 σ14 ρ14 hp14 hag14 => ?_)
                          obtain ⟨e9, r14, e8, h⟩ := hp14
                          rw [e8, e9]
                          refine xJ.nrm (k' := k + 8) (n' := n + 48) (pc' := 155) (st' := [.int r14]) rfl rfl rfl rfl ?_
                          refine x_sipush (v := (-7100)) hC dL_isTold_155 (by decide) ?_
                          refine x_icmp_ne (tgt := 175) hC dL_isTold_158 (by decide) (fun c24 => ?_) (fun c24 => ?_)
                          · have h := h.1 c24
                            refine x_iconst (v := 0) hC dL_isTold_175 (by decide) ?_
                            exact x_zret hC hr zb0 dL_isTold_176 (show _ ≤ 989 by omega) (show _ ≤ 5934 by omega) ⟨rfl, _, rfl, h⟩
                          · have h := h.2 c24
                            refine x_aload_n hC 2 rfl dL_isTold_161 ?_
                            refine x_iload hC 10 rfl dL_isTold_162 ?_
                            refine x_iconst (v := 1) hC dL_isTold_164 (by decide) ?_
                            refine x_iconst (v := 0) hC dL_isTold_165 (by decide) ?_
                            refine x_callSW (as := [.ref (ρ a1), .int x3_9, .int 1, .int 0]) (rest := []) hC (fun l hl => mL_isMarked l hl G ρ a1 x3_9 1 0 σ14 _ h) q673 q674 q0 q675 hdL_isMarked (by decide) ⟨(show _ + 2 ≤ 989 by omega), (show _ + 12 ≤ 5934 by omega)⟩ (by first | exact Nat.le_of_ble_eq_true rfl | (simp [rv_cat]; done) | (simp (decide := true) [rv_cat, cat_ref, cat_int]; done)) rfl dL_isTold_166 (fun E σ9 hx => False.elim hx) (fun v23 σ15 ρ15 hp15 hag15 => ?_)
                            obtain ⟨e9, r15, e8, h⟩ := hp15
                            rw [e8, e9]
                            refine xJ.nrm (k' := k + 10) (n' := n + 60) (pc' := 169) (st' := [.int r15]) rfl rfl rfl rfl ?_
                            refine x_sipush (v := (-7100)) hC dL_isTold_169 (by decide) ?_
                            refine x_icmp_eq (tgt := 395) hC dL_isTold_172 (by decide) (fun c25 => ?_) (fun c25 => ?_)
                            · have h := h.1 c25
                              refine x_iinc (v' := x3_9 + 1) (L' := [(9, .int (x3_9 + 1)), (11, .int x1), (10, .int (11 * x3_9)), (0, .ref (ρ a1)), (2, .ref (ρ a3)), (3, .ref (ρ a4)), (4, .ref (ρ a5)), (5, .ref (ρ a6)), (6, .ref (ρ a7)), (7, .ref (ρ a8)), (8, .ref (ρ a9))]) hC 10 rfl dL_isTold_395 rfl (by decide) (by first | rfl | simp (decide := true) [rv_cat, cat_ref, cat_int]) ?_
                              refine x_goto (tgt := 3) hC dL_isTold_398 (by decide) ?_
                              refine xJ.sub (L' := [(0, .ref (ρ a1)), (2, .ref (ρ a3)), (3, .ref (ρ a4)), (4, .ref (ρ a5)), (5, .ref (ρ a6)), (6, .ref (ρ a7)), (7, .ref (ρ a8)), (8, .ref (ρ a9)), (9, .int (x3_9 + 1))]) [3, 4, 5, 6, 7, 8, 9, 10, 0] rfl ?_
                              exact ih _ _ (show _ + f3 * 476 ≤ kE + 476 by omega) (show _ + f3 * 2856 ≤ nE + 2856 by omega) _ _ h hKK
                            · have h := h.2 c25
                              refine x_iconst (v := 0) hC dL_isTold_175 (by decide) ?_
                              exact x_zret hC hr zb0 dL_isTold_176 (show _ ≤ 989 by omega) (show _ ≤ 5934 by omega) ⟨rfl, _, rfl, h⟩
                  · have h := h.2 c9
                    refine x_iconst (v := 0) hC dL_isTold_113 (by decide) ?_
                    exact x_zret hC hr zb0 dL_isTold_114 (show _ ≤ 989 by omega) (show _ ≤ 5934 by omega) ⟨rfl, _, rfl, h⟩
                · refine x_if_eq (tgt := 107) hC dL_isTold_94 (by decide) (fun c8 => ?_) (fun c8 => ?_)
                  · have h := h.1 c8
                    refine x_sipush (v := (-7100)) hC dL_isTold_107 (by decide) ?_
                    exact hk4 _ h
                  · have h := h.2 c8
                    refine x_aload_n hC 3 rfl dL_isTold_97 ?_
                    refine x_iload hC 1 rfl dL_isTold_98 ?_
                    refine x_bipush (v := 10) hC dL_isTold_100 (by decide) ?_
                    refine x_iadd hC dL_isTold_102 ?_
                    obtain ⟨k4, h⟩ := h
                    obtain ⟨v7, h⟩ := h
                    refine x_iald (a := a3) hC k4 v7 dL_isTold_103 ?_
                    refine x_goto (tgt := 110) hC dL_isTold_104 (by decide) ?_
                    exact hk4 _ h
            · refine x_if_eq (tgt := 80) hC dL_isTold_67 (by decide) (fun c6 => ?_) (fun c6 => ?_)
              · have h := h.1 c6
                refine x_sipush (v := (-7100)) hC dL_isTold_80 (by decide) ?_
                exact hk3 _ h
              · have h := h.2 c6
                refine x_aload_n hC 3 rfl dL_isTold_70 ?_
                refine x_iload hC 1 rfl dL_isTold_71 ?_
                refine x_bipush (v := 9) hC dL_isTold_73 (by decide) ?_
                refine x_iadd hC dL_isTold_75 ?_
                obtain ⟨k3, h⟩ := h
                obtain ⟨v5, h⟩ := h
                refine x_iald (a := a3) hC k3 v5 dL_isTold_76 ?_
                refine x_goto (tgt := 83) hC dL_isTold_77 (by decide) ?_
                exact hk3 _ h
        · refine x_if_eq (tgt := 55) hC dL_isTold_48 (by decide) (fun c4 => ?_) (fun c4 => ?_)
          · have h := h.1 c4
            refine x_iconst (v := 0) hC dL_isTold_55 (by decide) ?_
            exact hk2 _ h
          · have h := h.2 c4
            refine x_iconst (v := 1) hC dL_isTold_51 (by decide) ?_
            refine x_goto (tgt := 56) hC dL_isTold_52 (by decide) ?_
            exact hk2 _ h
      · refine x_icmp_ge (tgt := 37) hC dL_isTold_22 (by decide) (fun c2 => ?_) (fun c2 => ?_)
        · have h := h.1 c2
          refine x_iconst (v := 0) hC dL_isTold_37 (by decide) ?_
          exact hk1 _ h
        · have h := h.2 c2
          refine x_aload_n hC 2 rfl dL_isTold_25 ?_
          refine x_iload hC 0 rfl dL_isTold_26 ?_
          obtain ⟨k2, h⟩ := h
          obtain ⟨v2, h⟩ := h
          refine x_iald (a := a3) hC k2 v2 dL_isTold_28 ?_
          refine x_iconst (v := 1) hC dL_isTold_29 (by decide) ?_
          refine x_icmp_ne (tgt := 37) hC dL_isTold_30 (by decide) (fun c3 => ?_) (fun c3 => ?_)
          · have h := h.1 c3
            refine x_iconst (v := 0) hC dL_isTold_37 (by decide) ?_
            exact hk1 _ h
          · have h := h.2 c3
            refine x_iconst (v := 1) hC dL_isTold_33 (by decide) ?_
            refine x_goto (tgt := 38) hC dL_isTold_34 (by decide) ?_
            exact hk1 _ h
set_option maxHeartbeats 4000000 in
set_option maxRecDepth 20000 in
theorem mlL_isTold_404 {G : xG} {X : xX} (hC : xC G X "PlantServerLaw" cL_isTold 17 rmL_isTold) (hr : xRt X (some .boolean)) (htab : xTab X []) (a1 : Nm) (a3 : Nm) (a4 : Nm) (a5 : Nm) (a6 : Nm) (a9 : Nm) {ρ : Nm → Nat} (h0 : xR0 X ρ) (kE nE : Nat) (hkE : kE + 0 ≤ 989) (hnE : nE + 0 ≤ 5934) (K : Int32 → PH → Prop) (Q : Int32 → PH → Prop) (Xp : String → PH → Prop) : ∀ (f404 : Nat) (k n : Nat), k + f404 * 3 ≤ kE + 3 → n + f404 * 18 ≤ nE + 18 → ∀ (x404_9 : Int32) (τ404 : PH), lL_isTold_404 a1 a3 a4 a5 a6 a9 K Q Xp f404 x404_9 τ404 → (∀ (x404_9 : Int32) (τ404 : PH), K x404_9 τ404 → xJ G X (xT X (eI ρ Q) Xp G rmL_isTold) 17 ρ τ404 kE nE 501 [(0, .ref (ρ a1)), (2, .ref (ρ a3)), (3, .ref (ρ a4)), (4, .ref (ρ a5)), (5, .ref (ρ a6)), (8, .ref (ρ a9)), (9, .int x404_9)] []) → xJ G X (xT X (eI ρ Q) Xp G rmL_isTold) 17 ρ τ404 k n 404 [(0, .ref (ρ a1)), (2, .ref (ρ a3)), (3, .ref (ρ a4)), (4, .ref (ρ a5)), (5, .ref (ρ a6)), (8, .ref (ρ a9)), (9, .int x404_9)] [] := by
  intro f404
  induction f404 with
  | zero => intro k n hk1 hk2 x404_9 τ404 h hKK; unfold lL_isTold_404 at h; exact h.elim
  | succ f404 ih =>
    intro k n hk1 hk2 x404_9 τ404 h hKK
    unfold lL_isTold_404 at h
    refine x_iload hC 6 rfl dL_isTold_404 ?_
    refine x_aload hC 5 rfl dL_isTold_406 ?_
    refine x_iconst (v := 2) hC dL_isTold_408 (by decide) ?_
    obtain ⟨k9, h⟩ := h
    obtain ⟨v24, h⟩ := h
    refine x_iald (a := a9) hC k9 v24 dL_isTold_409 ?_
    refine x_icmp_ge (tgt := 501) hC dL_isTold_410 (by decide) (fun c26 => ?_) (fun c26 => ?_)
    · have h := h.1 c26
      refine xJ.wid (k' := kE) (n' := nE) (by omega) (by omega) ?_
      exact hKK _ _ h
    · have h := h.2 c26
      refine x_aload_n hC 1 rfl dL_isTold_413 ?_
      refine x_aload_n hC 2 rfl dL_isTold_414 ?_
      refine x_aload hC 5 rfl dL_isTold_415 ?_
      refine x_iload hC 6 rfl dL_isTold_417 ?_
      refine x_callS (as := [.ref (ρ a3), .ref (ρ a4), .ref (ρ a9), .int x404_9]) (rest := []) hC (fun l hl => mL_isThere l hl G ρ a3 a4 a9 x404_9 τ404 _ h) q435 q436 q0 q437 hdL_isThere (by decide) ⟨(show _ + 0 ≤ 989 by omega), (show _ + 0 ≤ 5934 by omega)⟩ (by first | exact Nat.le_of_ble_eq_true rfl | (simp [rv_cat]; done) | (simp (decide := true) [rv_cat, cat_ref, cat_int]; done)) rfl dL_isTold_419 (fun E σ9 hx => False.elim hx) (fun v25 σ16 ρ16 hp16 hag16 => ?_)
      obtain ⟨e9, r16, e8, h⟩ := hp16
      rw [e8, e9]
      refine xJ.nrm (k' := k + 0) (n' := n + 0) (pc' := 422) (st' := [.int r16]) rfl rfl rfl rfl ?_
      refine x_istore (L' := [(10, .int r16), (0, .ref (ρ a1)), (2, .ref (ρ a3)), (3, .ref (ρ a4)), (4, .ref (ρ a5)), (5, .ref (ρ a6)), (8, .ref (ρ a9)), (9, .int x404_9)]) hC dL_isTold_422 (by decide) (by first | rfl | simp (decide := true) [rv_cat, cat_ref, cat_int]) ?_
      refine x_aload_n hC 1 rfl dL_isTold_424 ?_
      refine x_iload hC 7 rfl dL_isTold_425 ?_
      obtain ⟨hz404, h⟩ := h
      refine x_callSW (as := [.ref (ρ a1), .int x404_9]) (rest := []) hC (fun l hl => mL_waiting l hl G ρ a1 x404_9 σ16 _ h) q680 q681 q0 q682 hdL_waiting (by decide) ⟨(show _ + 1 ≤ 989 by omega), (show _ + 6 ≤ 5934 by omega)⟩ (by first | exact Nat.le_of_ble_eq_true rfl | (simp [rv_cat]; done) | (simp (decide := true) [rv_cat, cat_ref, cat_int]; done)) rfl dL_isTold_427 (fun E σ9 hx => False.elim hx) (fun v26 σ17 ρ17 hp17 hag17 => ?_)
      obtain ⟨e9, r17, e8, h⟩ := hp17
      rw [e8, e9]
      refine xJ.nrm (k' := k + 1) (n' := n + 6) (pc' := 430) (st' := [.int r17]) rfl rfl rfl rfl ?_
      refine x_iload hC 0 rfl dL_isTold_430 ?_
      refine xJ.jV (pcJ := 446) (stJ := [.int r17]) h (fun x9 h => ?_) (fun K7 hk7 h => ?_)
      · refine x_icmp_ne (tgt := 493) hC dL_isTold_446 (by decide) (fun c28 => ?_) (fun c28 => ?_)
        · have h := h.1 c28
          refine x_iconst (v := 0) hC dL_isTold_493 (by decide) ?_
          exact x_zret hC hr zb0 dL_isTold_494 (show _ ≤ 989 by omega) (show _ ≤ 5934 by omega) ⟨rfl, _, rfl, h⟩
        · have h := h.2 c28
          refine x_aload_n hC 1 rfl dL_isTold_449 ?_
          refine x_iload hC 7 rfl dL_isTold_450 ?_
          refine x_callSW (as := [.ref (ρ a1), .int x404_9]) (rest := []) hC (fun l hl => mL_queued l hl G ρ a1 x404_9 σ17 _ h) q418 q419 q0 q420 hdL_queued (by decide) ⟨(show _ + 1 ≤ 989 by omega), (show _ + 6 ≤ 5934 by omega)⟩ (by first | exact Nat.le_of_ble_eq_true rfl | (simp [rv_cat]; done) | (simp (decide := true) [rv_cat, cat_ref, cat_int]; done)) rfl dL_isTold_452 (fun E σ9 hx => False.elim hx) (fun v28 σ18 ρ18 hp18 hag18 => ?_)
          obtain ⟨e9, r18, e8, h⟩ := hp18
          rw [e8, e9]
          refine xJ.nrm (k' := k + 2) (n' := n + 12) (pc' := 455) (st' := [.int r18]) rfl rfl rfl rfl ?_
          refine x_iload hC 0 rfl dL_isTold_455 ?_
          refine xJ.jV (pcJ := 471) (stJ := [.int r18]) h (fun x10 h => ?_) (fun K8 hk8 h => ?_)
          · refine x_icmp_ne (tgt := 493) hC dL_isTold_471 (by decide) (fun c30 => ?_) (fun c30 => ?_)
            · have h := h.1 c30
              refine x_iconst (v := 0) hC dL_isTold_493 (by decide) ?_
              exact x_zret hC hr zb0 dL_isTold_494 (show _ ≤ 989 by omega) (show _ ≤ 5934 by omega) ⟨rfl, _, rfl, h⟩
            · have h := h.2 c30
              refine x_iload hC 0 rfl dL_isTold_474 ?_
              refine x_if_eq (tgt := 495) hC dL_isTold_476 (by decide) (fun c31 => ?_) (fun c31 => ?_)
              · have h := h.1 c31
                refine x_iinc (v' := x404_9 + 1) (L' := [(9, .int (x404_9 + 1)), (10, .int r16), (0, .ref (ρ a1)), (2, .ref (ρ a3)), (3, .ref (ρ a4)), (4, .ref (ρ a5)), (5, .ref (ρ a6)), (8, .ref (ρ a9))]) hC 7 rfl dL_isTold_495 rfl (by decide) (by first | rfl | simp (decide := true) [rv_cat, cat_ref, cat_int]) ?_
                refine x_goto (tgt := 404) hC dL_isTold_498 (by decide) ?_
                refine xJ.sub (L' := [(0, .ref (ρ a1)), (2, .ref (ρ a3)), (3, .ref (ρ a4)), (4, .ref (ρ a5)), (5, .ref (ρ a6)), (8, .ref (ρ a9)), (9, .int (x404_9 + 1))]) [2, 3, 4, 5, 6, 7, 0] rfl ?_
                exact ih _ _ (show _ + f404 * 3 ≤ kE + 3 by omega) (show _ + f404 * 18 ≤ nE + 18 by omega) _ _ h hKK
              · have h := h.2 c31
                refine x_aload_n hC 1 rfl dL_isTold_479 ?_
                refine x_iload hC 7 rfl dL_isTold_480 ?_
                obtain ⟨k12, h⟩ := h
                refine x_callV (n0 := a1) (as := [.int x404_9]) (rest := []) hC (ci := 6) (r := (RX6, TX6, 9)) k12 rfl (fun l hl => m6_queuedByHistory l hl G ρ a1 x404_9 σ18 _ Xp h) q687 q688 q689 q1 q690 ⟨rfl, hd6_queuedByHistory⟩ (by decide) ⟨(show _ + 1 ≤ 989 by omega), (show _ + 6 ≤ 5934 by omega)⟩ (by first | exact Nat.le_of_ble_eq_true rfl | (simp [rv_cat]; done) | (simp (decide := true) [rv_cat, cat_ref, cat_int]; done)) rfl dL_isTold_482 (fun E σ9 hx => x_out hC h0 htab (show _ + 1 ≤ 989 by omega) (show _ + 6 ≤ 5934 by omega) hx) (fun v30 σ19 ρ19 hp19 hag19 => ?_)
                obtain ⟨e9, r19, e8, h⟩ := hp19
                rw [e8, e9]
                refine xJ.nrm (k' := k + 3) (n' := n + 18) (pc' := 485) (st' := [.int r19]) rfl rfl rfl rfl ?_
                refine x_aload hC 4 rfl dL_isTold_485 ?_
                refine x_iload hC 7 rfl dL_isTold_487 ?_
                obtain ⟨k13, h⟩ := h
                obtain ⟨v31, h⟩ := h
                refine x_iald (a := a5) hC k13 v31 dL_isTold_489 ?_
                refine x_icmp_eq (tgt := 495) hC dL_isTold_490 (by decide) (fun c32 => ?_) (fun c32 => ?_)
                · have h := h.1 c32
                  refine x_iinc (v' := x404_9 + 1) (L' := [(9, .int (x404_9 + 1)), (10, .int r16), (0, .ref (ρ a1)), (2, .ref (ρ a3)), (3, .ref (ρ a4)), (4, .ref (ρ a5)), (5, .ref (ρ a6)), (8, .ref (ρ a9))]) hC 7 rfl dL_isTold_495 rfl (by decide) (by first | rfl | simp (decide := true) [rv_cat, cat_ref, cat_int]) ?_
                  refine x_goto (tgt := 404) hC dL_isTold_498 (by decide) ?_
                  refine xJ.sub (L' := [(0, .ref (ρ a1)), (2, .ref (ρ a3)), (3, .ref (ρ a4)), (4, .ref (ρ a5)), (5, .ref (ρ a6)), (8, .ref (ρ a9)), (9, .int (x404_9 + 1))]) [2, 3, 4, 5, 6, 7, 0] rfl ?_
                  exact ih _ _ (show _ + f404 * 3 ≤ kE + 3 by omega) (show _ + f404 * 18 ≤ nE + 18 by omega) _ _ h hKK
                · have h := h.2 c32
                  refine x_iconst (v := 0) hC dL_isTold_493 (by decide) ?_
                  exact x_zret hC hr zb0 dL_isTold_494 (show _ ≤ 989 by omega) (show _ ≤ 5934 by omega) ⟨rfl, _, rfl, h⟩
          · refine x_if_eq (tgt := 468) hC dL_isTold_457 (by decide) (fun c29 => ?_) (fun c29 => ?_)
            · have h := h.1 c29
              refine x_sipush (v := (-7100)) hC dL_isTold_468 (by decide) ?_
              exact hk8 _ h
            · have h := h.2 c29
              refine x_aload hC 4 rfl dL_isTold_460 ?_
              refine x_iload hC 7 rfl dL_isTold_462 ?_
              obtain ⟨k11, h⟩ := h
              obtain ⟨v29, h⟩ := h
              refine x_iald (a := a5) hC k11 v29 dL_isTold_464 ?_
              refine x_goto (tgt := 471) hC dL_isTold_465 (by decide) ?_
              exact hk8 _ h
      · refine x_if_eq (tgt := 443) hC dL_isTold_432 (by decide) (fun c27 => ?_) (fun c27 => ?_)
        · have h := h.1 c27
          refine x_sipush (v := (-7100)) hC dL_isTold_443 (by decide) ?_
          exact hk7 _ h
        · have h := h.2 c27
          refine x_aload hC 5 rfl dL_isTold_435 ?_
          refine x_iload hC 7 rfl dL_isTold_437 ?_
          obtain ⟨k10, h⟩ := h
          obtain ⟨v27, h⟩ := h
          refine x_iald (a := a6) hC k10 v27 dL_isTold_439 ?_
          refine x_goto (tgt := 446) hC dL_isTold_440 (by decide) ?_
          exact hk7 _ h
set_option maxHeartbeats 4000000 in
set_option maxRecDepth 20000 in
theorem mL_isTold (l : Launch) (hl : l.stackTraces = false) (G : xG) (ρ : Nm → Nat) (a1 : Nm) (p2 : Int32) (a3 : Nm) (a4 : Nm) (a5 : Nm) (a6 : Nm) (a7 : Nm) (a8 : Nm) (a9 : Nm) (σ : PH) (Q : Int32 → PH → Prop) (Xp : String → PH → Prop) (h : wL_isTold a1 p2 a3 a4 a5 a6 a7 a8 a9 σ Q Xp) : xMet l yL_isTold (.code yL_isTold cL_isTold 17 (some .boolean)) rmL_isTold G ρ σ [.ref (ρ a1), .int p2, .ref (ρ a3), .ref (ρ a4), .ref (ρ a5), .ref (ρ a6), .ref (ρ a7), .ref (ρ a8), .ref (ρ a9)] (eI ρ Q) Xp := by
  refine xMet.of hl (by decide +kernel) (Nat.le_of_ble_eq_true rfl) (fun X hC hr hn htab h0 => ?_)
  have hC : xC G X "PlantServerLaw" cL_isTold 17 rmL_isTold := hC
  unfold wL_isTold at h
  refine xJ.loc (L' := [(0, .ref (ρ a1)), (1, .int p2), (2, .ref (ρ a3)), (3, .ref (ρ a4)), (4, .ref (ρ a5)), (5, .ref (ρ a6)), (6, .ref (ρ a7)), (7, .ref (ρ a8)), (8, .ref (ρ a9))]) rfl ?_
  refine x_iconst (v := 0) hC dL_isTold_0 (by decide) ?_
  refine x_istore (L' := [(9, .int 0), (0, .ref (ρ a1)), (1, .int p2), (2, .ref (ρ a3)), (3, .ref (ρ a4)), (4, .ref (ρ a5)), (5, .ref (ρ a6)), (6, .ref (ρ a7)), (7, .ref (ρ a8)), (8, .ref (ρ a9))]) hC dL_isTold_1 (by decide) (by first | rfl | simp (decide := true) [rv_cat, cat_ref, cat_int]) ?_
  refine xJ.sub (L' := [(0, .ref (ρ a1)), (2, .ref (ρ a3)), (3, .ref (ρ a4)), (4, .ref (ρ a5)), (5, .ref (ρ a6)), (6, .ref (ρ a7)), (7, .ref (ρ a8)), (8, .ref (ρ a9)), (9, .int 0)]) [1, 3, 4, 5, 6, 7, 8, 9, 0] rfl ?_
  obtain ⟨f3, hf3, h⟩ := h
  refine mlL_isTold_3 hC hr htab a1 a3 a4 a5 a6 a7 a8 a9 h0 (952) (5712) (by decide) (by decide) _ Q _ f3 _ _ (show _ + f3 * 476 ≤ _ + 476 by omega) (show _ + f3 * 2856 ≤ _ + 2856 by omega) _ _ h (fun y3 τ3 h => ?_)
  refine x_iconst (v := 0) hC dL_isTold_401 (by decide) ?_
  refine x_istore (L' := [(9, .int 0), (0, .ref (ρ a1)), (2, .ref (ρ a3)), (3, .ref (ρ a4)), (4, .ref (ρ a5)), (5, .ref (ρ a6)), (6, .ref (ρ a7)), (7, .ref (ρ a8)), (8, .ref (ρ a9))]) hC dL_isTold_402 (by decide) (by first | rfl | simp (decide := true) [rv_cat, cat_ref, cat_int]) ?_
  refine xJ.sub (L' := [(0, .ref (ρ a1)), (2, .ref (ρ a3)), (3, .ref (ρ a4)), (4, .ref (ρ a5)), (5, .ref (ρ a6)), (8, .ref (ρ a9)), (9, .int 0)]) [1, 2, 3, 4, 5, 8, 0] rfl ?_
  obtain ⟨f404, hf404, h⟩ := h
  refine mlL_isTold_404 hC hr htab a1 a3 a4 a5 a6 a9 h0 (982) (5892) (by decide) (by decide) _ Q _ f404 _ _ (show _ + f404 * 3 ≤ _ + 3 by omega) (show _ + f404 * 18 ≤ _ + 18 by omega) _ _ h (fun y4 τ4 h => ?_)
  refine x_aload_n hC 0 rfl dL_isTold_501 ?_
  obtain ⟨k14, h⟩ := h
  refine x_callV (n0 := a1) (as := []) (rest := []) hC (ci := 6) (r := (RX6, TX6, 9)) k14 rfl (fun l hl => m6_tick l hl G ρ a1 τ4 _ h) q704 q705 q706 q1 q707 ⟨rfl, hd6_tick⟩ (by decide) ⟨(by decide), (by decide)⟩ (by first | exact Nat.le_of_ble_eq_true rfl | (simp [rv_cat]; done) | (simp (decide := true) [rv_cat, cat_ref, cat_int]; done)) rfl dL_isTold_502 (fun E σ9 hx => False.elim hx) (fun v32 σ20 ρ20 hp20 hag20 => ?_)
  obtain ⟨e9, r20, e8, h⟩ := hp20
  rw [e8, e9]
  refine xJ.nrm (k' := 982) (n' := 5892) (pc' := 505) (st' := [.int r20]) rfl rfl rfl rfl ?_
  refine x_aload hC 5 rfl dL_isTold_505 ?_
  refine x_iconst (v := 0) hC dL_isTold_507 (by decide) ?_
  obtain ⟨k15, h⟩ := h
  obtain ⟨v33, h⟩ := h
  refine x_iald (a := a9) hC k15 v33 dL_isTold_508 ?_
  refine x_icmp_ne (tgt := 609) hC dL_isTold_509 (by decide) (fun c33 => ?_) (fun c33 => ?_)
  · have h := h.1 c33
    refine x_iconst (v := 0) hC dL_isTold_609 (by decide) ?_
    exact x_zret hC hr zb0 dL_isTold_610 (by decide) (by decide) ⟨rfl, _, rfl, h⟩
  · have h := h.2 c33
    refine x_aload_n hC 0 rfl dL_isTold_512 ?_
    have k16 : hK σ20 a1 = 7 := (hag20 a1 (by rw [k14]; decide)).1.trans k14
    refine x_callV (n0 := a1) (as := []) (rest := []) hC (ci := 6) (r := (RX6, TX6, 9)) k16 rfl (fun l hl => m6_requests l hl G ρ a1 σ20 _ h) q708 q709 q710 q1 q711 ⟨rfl, hd6_requests⟩ (by decide) ⟨(by decide), (by decide)⟩ (by first | exact Nat.le_of_ble_eq_true rfl | (simp [rv_cat]; done) | (simp (decide := true) [rv_cat, cat_ref, cat_int]; done)) rfl dL_isTold_513 (fun E σ9 hx => False.elim hx) (fun v34 σ21 ρ21 hp21 hag21 => ?_)
    obtain ⟨e9, r21, e8, h⟩ := hp21
    rw [e8, e9]
    refine xJ.nrm (k' := 982) (n' := 5892) (pc' := 516) (st' := [.int r21]) rfl rfl rfl rfl ?_
    refine x_aload hC 5 rfl dL_isTold_516 ?_
    refine x_iconst (v := 3) hC dL_isTold_518 (by decide) ?_
    have k17 : hK σ21 a9 = 9 := (hag21 a9 (by rw [k15]; decide)).1.trans k15
    obtain ⟨v35, h⟩ := h
    refine x_iald (a := a9) hC k17 v35 dL_isTold_519 ?_
    refine x_icmp_ne (tgt := 609) hC dL_isTold_520 (by decide) (fun c34 => ?_) (fun c34 => ?_)
    · have h := h.1 c34
      refine x_iconst (v := 0) hC dL_isTold_609 (by decide) ?_
      exact x_zret hC hr zb0 dL_isTold_610 (by decide) (by decide) ⟨rfl, _, rfl, h⟩
    · have h := h.2 c34
      refine x_aload_n hC 0 rfl dL_isTold_523 ?_
      refine x_aload hC 5 rfl dL_isTold_524 ?_
      refine x_iconst (v := 2) hC dL_isTold_526 (by decide) ?_
      obtain ⟨v36, h⟩ := h
      refine x_iald (a := a9) hC k17 v36 dL_isTold_527 ?_
      refine x_callSW (as := [.ref (ρ a1), .int (hI σ21 a9 (Int32.toNatClampNeg 2))]) (rest := []) hC (fun l hl => mL_waiting l hl G ρ a1 (hI σ21 a9 (Int32.toNatClampNeg 2)) σ21 _ h) q680 q681 q0 q682 hdL_waiting (by decide) ⟨(by decide), (by decide)⟩ (by first | exact Nat.le_of_ble_eq_true rfl | (simp [rv_cat]; done) | (simp (decide := true) [rv_cat, cat_ref, cat_int]; done)) rfl dL_isTold_528 (fun E σ9 hx => False.elim hx) (fun v37 σ22 ρ22 hp22 hag22 => ?_)
      obtain ⟨e9, r22, e8, h⟩ := hp22
      rw [e8, e9]
      refine xJ.nrm (k' := 983) (n' := 5898) (pc' := 531) (st' := [.int r22]) rfl rfl rfl rfl ?_
      refine x_sipush (v := (-7100)) hC dL_isTold_531 (by decide) ?_
      refine x_icmp_ne (tgt := 609) hC dL_isTold_534 (by decide) (fun c35 => ?_) (fun c35 => ?_)
      · have h := h.1 c35
        refine x_iconst (v := 0) hC dL_isTold_609 (by decide) ?_
        exact x_zret hC hr zb0 dL_isTold_610 (by decide) (by decide) ⟨rfl, _, rfl, h⟩
      · have h := h.2 c35
        refine x_aload_n hC 0 rfl dL_isTold_537 ?_
        refine x_iconst (v := (-1)) hC dL_isTold_538 (by decide) ?_
        refine x_callSW (as := [.ref (ρ a1), .int (-1)]) (rest := []) hC (fun l hl => mL_queued l hl G ρ a1 (-1) σ22 _ h) q418 q419 q0 q420 hdL_queued (by decide) ⟨(by decide), (by decide)⟩ (by first | exact Nat.le_of_ble_eq_true rfl | (simp [rv_cat]; done) | (simp (decide := true) [rv_cat, cat_ref, cat_int]; done)) rfl dL_isTold_539 (fun E σ9 hx => False.elim hx) (fun v38 σ23 ρ23 hp23 hag23 => ?_)
        obtain ⟨e9, r23, e8, h⟩ := hp23
        rw [e8, e9]
        refine xJ.nrm (k' := 984) (n' := 5904) (pc' := 542) (st' := [.int r23]) rfl rfl rfl rfl ?_
        refine x_sipush (v := (-7100)) hC dL_isTold_542 (by decide) ?_
        refine x_icmp_ne (tgt := 609) hC dL_isTold_545 (by decide) (fun c36 => ?_) (fun c36 => ?_)
        · have h := h.1 c36
          refine x_iconst (v := 0) hC dL_isTold_609 (by decide) ?_
          exact x_zret hC hr zb0 dL_isTold_610 (by decide) (by decide) ⟨rfl, _, rfl, h⟩
        · have h := h.2 c36
          refine x_aload_n hC 0 rfl dL_isTold_548 ?_
          refine x_ldc (v := 2147483647) hC q712 dL_isTold_549 ?_
          refine x_callSW (as := [.ref (ρ a1), .int 2147483647]) (rest := []) hC (fun l hl => mL_waiting l hl G ρ a1 2147483647 σ23 _ h) q680 q681 q0 q682 hdL_waiting (by decide) ⟨(by decide), (by decide)⟩ (by first | exact Nat.le_of_ble_eq_true rfl | (simp [rv_cat]; done) | (simp (decide := true) [rv_cat, cat_ref, cat_int]; done)) rfl dL_isTold_551 (fun E σ9 hx => False.elim hx) (fun v39 σ24 ρ24 hp24 hag24 => ?_)
          obtain ⟨e9, r24, e8, h⟩ := hp24
          rw [e8, e9]
          refine xJ.nrm (k' := 985) (n' := 5910) (pc' := 554) (st' := [.int r24]) rfl rfl rfl rfl ?_
          refine x_sipush (v := (-7100)) hC dL_isTold_554 (by decide) ?_
          refine x_icmp_ne (tgt := 609) hC dL_isTold_557 (by decide) (fun c37 => ?_) (fun c37 => ?_)
          · have h := h.1 c37
            refine x_iconst (v := 0) hC dL_isTold_609 (by decide) ?_
            exact x_zret hC hr zb0 dL_isTold_610 (by decide) (by decide) ⟨rfl, _, rfl, h⟩
          · have h := h.2 c37
            refine x_aload_n hC 0 rfl dL_isTold_560 ?_
            refine x_iconst (v := 4) hC dL_isTold_561 (by decide) ?_
            refine x_callSW (as := [.ref (ρ a1), .int 4]) (rest := []) hC (fun l hl => mL_isOpen l hl G ρ a1 4 σ24 _ h) q259 q260 q0 q261 hdL_isOpen (by decide) ⟨(by decide), (by decide)⟩ (by first | exact Nat.le_of_ble_eq_true rfl | (simp [rv_cat]; done) | (simp (decide := true) [rv_cat, cat_ref, cat_int]; done)) rfl dL_isTold_562 (fun E σ9 hx => False.elim hx) (fun v40 σ25 ρ25 hp25 hag25 => ?_)
            obtain ⟨e9, r25, e8, h⟩ := hp25
            rw [e8, e9]
            refine xJ.nrm (k' := 986) (n' := 5916) (pc' := 565) (st' := [.int r25]) rfl rfl rfl rfl ?_
            refine x_sipush (v := (-7200)) hC dL_isTold_565 (by decide) ?_
            refine x_icmp_ne (tgt := 609) hC dL_isTold_568 (by decide) (fun c38 => ?_) (fun c38 => ?_)
            · have h := h.1 c38
              refine x_iconst (v := 0) hC dL_isTold_609 (by decide) ?_
              exact x_zret hC hr zb0 dL_isTold_610 (by decide) (by decide) ⟨rfl, _, rfl, h⟩
            · have h := h.2 c38
              refine x_aload_n hC 0 rfl dL_isTold_571 ?_
              refine x_iconst (v := (-1)) hC dL_isTold_572 (by decide) ?_
              refine x_callSW (as := [.ref (ρ a1), .int (-1)]) (rest := []) hC (fun l hl => mL_isOpen l hl G ρ a1 (-1) σ25 _ h) q259 q260 q0 q261 hdL_isOpen (by decide) ⟨(by decide), (by decide)⟩ (by first | exact Nat.le_of_ble_eq_true rfl | (simp [rv_cat]; done) | (simp (decide := true) [rv_cat, cat_ref, cat_int]; done)) rfl dL_isTold_573 (fun E σ9 hx => False.elim hx) (fun v41 σ26 ρ26 hp26 hag26 => ?_)
              obtain ⟨e9, r26, e8, h⟩ := hp26
              rw [e8, e9]
              refine xJ.nrm (k' := 987) (n' := 5922) (pc' := 576) (st' := [.int r26]) rfl rfl rfl rfl ?_
              refine x_sipush (v := (-7200)) hC dL_isTold_576 (by decide) ?_
              refine x_icmp_ne (tgt := 609) hC dL_isTold_579 (by decide) (fun c39 => ?_) (fun c39 => ?_)
              · have h := h.1 c39
                refine x_iconst (v := 0) hC dL_isTold_609 (by decide) ?_
                exact x_zret hC hr zb0 dL_isTold_610 (by decide) (by decide) ⟨rfl, _, rfl, h⟩
              · have h := h.2 c39
                refine x_aload_n hC 0 rfl dL_isTold_582 ?_
                refine x_iconst (v := 4) hC dL_isTold_583 (by decide) ?_
                refine x_callSW (as := [.ref (ρ a1), .int 4]) (rest := []) hC (fun l hl => mL_latest l hl G ρ a1 4 σ26 _ h) q611 q612 q0 q613 hdL_latest (by decide) ⟨(by decide), (by decide)⟩ (by first | exact Nat.le_of_ble_eq_true rfl | (simp [rv_cat]; done) | (simp (decide := true) [rv_cat, cat_ref, cat_int]; done)) rfl dL_isTold_584 (fun E σ9 hx => False.elim hx) (fun v42 σ27 ρ27 hp27 hag27 => ?_)
                obtain ⟨e9, r27, e8, h⟩ := hp27
                rw [e8, e9]
                refine xJ.nrm (k' := 988) (n' := 5928) (pc' := 587) (st' := [.int r27]) rfl rfl rfl rfl ?_
                refine x_sipush (v := (-7100)) hC dL_isTold_587 (by decide) ?_
                refine x_icmp_ne (tgt := 609) hC dL_isTold_590 (by decide) (fun c40 => ?_) (fun c40 => ?_)
                · have h := h.1 c40
                  refine x_iconst (v := 0) hC dL_isTold_609 (by decide) ?_
                  exact x_zret hC hr zb0 dL_isTold_610 (by decide) (by decide) ⟨rfl, _, rfl, h⟩
                · have h := h.2 c40
                  refine x_aload_n hC 0 rfl dL_isTold_593 ?_
                  refine x_ldc (v := (-2147483648)) hC q498 dL_isTold_594 ?_
                  refine x_callSW (as := [.ref (ρ a1), .int (-2147483648)]) (rest := []) hC (fun l hl => mL_keepAlives l hl G ρ a1 (-2147483648) σ27 _ h) q618 q619 q0 q620 hdL_keepAlives (by decide) ⟨(by decide), (by decide)⟩ (by first | exact Nat.le_of_ble_eq_true rfl | (simp [rv_cat]; done) | (simp (decide := true) [rv_cat, cat_ref, cat_int]; done)) rfl dL_isTold_596 (fun E σ9 hx => False.elim hx) (fun v43 σ28 ρ28 hp28 hag28 => ?_)
                  obtain ⟨e9, r28, e8, h⟩ := hp28
                  rw [e8, e9]
                  refine xJ.nrm (k' := 989) (n' := 5934) (pc' := 599) (st' := [.int r28]) rfl rfl rfl rfl ?_
                  refine x_sipush (v := (-7100)) hC dL_isTold_599 (by decide) ?_
                  refine x_icmp_ne (tgt := 609) hC dL_isTold_602 (by decide) (fun c41 => ?_) (fun c41 => ?_)
                  · have h := h.1 c41
                    refine x_iconst (v := 0) hC dL_isTold_609 (by decide) ?_
                    exact x_zret hC hr zb0 dL_isTold_610 (by decide) (by decide) ⟨rfl, _, rfl, h⟩
                  · have h := h.2 c41
                    refine x_iconst (v := 1) hC dL_isTold_605 (by decide) ?_
                    refine x_goto (tgt := 610) hC dL_isTold_606 (by decide) ?_
                    exact x_zret hC hr zb1 dL_isTold_610 (by decide) (by decide) ⟨rfl, _, rfl, h⟩
