/-! PlantServerLaw.publish -/
theorem dL_publish_0 : decode cL_publish 0 = .ok (.iload_n 0, 1) := by decide +kernel
theorem dL_publish_1 : decode cL_publish 1 = .ok (.bipush 11, 2) := by decide +kernel
theorem dL_publish_3 : decode cL_publish 3 = .ok (.idiv, 1) := by decide +kernel
theorem dL_publish_4 : decode cL_publish 4 = .ok (.istore 9, 2) := by decide +kernel
theorem dL_publish_6 : decode cL_publish 6 = .ok (.iconst 0, 1) := by decide +kernel
theorem dL_publish_7 : decode cL_publish 7 = .ok (.istore 10, 2) := by decide +kernel
theorem dL_publish_9 : decode cL_publish 9 = .ok (.iconst 0, 1) := by decide +kernel
theorem dL_publish_10 : decode cL_publish 10 = .ok (.istore 11, 2) := by decide +kernel
theorem dL_publish_12 : decode cL_publish 12 = .ok (.iload 11, 2) := by decide +kernel
theorem dL_publish_14 : decode cL_publish 14 = .ok (.aload 8, 2) := by decide +kernel
theorem dL_publish_16 : decode cL_publish 16 = .ok (.iconst 2, 1) := by decide +kernel
theorem dL_publish_17 : decode cL_publish 17 = .ok (.iaload, 1) := by decide +kernel
theorem dL_publish_18 : decode cL_publish 18 = .ok (.if_icmp .ge 57, 3) := by decide +kernel
theorem dL_publish_21 : decode cL_publish 21 = .ok (.aload_n 2, 1) := by decide +kernel
theorem dL_publish_22 : decode cL_publish 22 = .ok (.iload 11, 2) := by decide +kernel
theorem dL_publish_24 : decode cL_publish 24 = .ok (.iaload, 1) := by decide +kernel
theorem dL_publish_25 : decode cL_publish 25 = .ok (.iconst 1, 1) := by decide +kernel
theorem dL_publish_26 : decode cL_publish 26 = .ok (.iand, 1) := by decide +kernel
theorem dL_publish_27 : decode cL_publish 27 = .ok (.iload 9, 2) := by decide +kernel
theorem dL_publish_29 : decode cL_publish 29 = .ok (.if_icmp .ne 40, 3) := by decide +kernel
theorem dL_publish_32 : decode cL_publish 32 = .ok (.aload_n 3, 1) := by decide +kernel
theorem dL_publish_33 : decode cL_publish 33 = .ok (.iload 11, 2) := by decide +kernel
theorem dL_publish_35 : decode cL_publish 35 = .ok (.iaload, 1) := by decide +kernel
theorem dL_publish_36 : decode cL_publish 36 = .ok (.ifCond .eq 33, 3) := by decide +kernel
theorem dL_publish_39 : decode cL_publish 39 = .ok (.aload_n 2, 1) := by decide +kernel
theorem dL_publish_40 : decode cL_publish 40 = .ok (.iload 11, 2) := by decide +kernel
theorem dL_publish_42 : decode cL_publish 42 = .ok (.iaload, 1) := by decide +kernel
theorem dL_publish_43 : decode cL_publish 43 = .ok (.bipush 14, 2) := by decide +kernel
theorem dL_publish_45 : decode cL_publish 45 = .ok (.ishr, 1) := by decide +kernel
theorem dL_publish_46 : decode cL_publish 46 = .ok (.iconst 1, 1) := by decide +kernel
theorem dL_publish_47 : decode cL_publish 47 = .ok (.iand, 1) := by decide +kernel
theorem dL_publish_48 : decode cL_publish 48 = .ok (.ifCond .ne 6, 3) := by decide +kernel
theorem dL_publish_51 : decode cL_publish 51 = .ok (.goto 18, 3) := by decide +kernel
theorem dL_publish_54 : decode cL_publish 54 = .ok (.iload 10, 2) := by decide +kernel
theorem dL_publish_56 : decode cL_publish 56 = .ok (.iconst 1, 1) := by decide +kernel
theorem dL_publish_57 : decode cL_publish 57 = .ok (.iload 11, 2) := by decide +kernel
theorem dL_publish_59 : decode cL_publish 59 = .ok (.ishl, 1) := by decide +kernel
theorem dL_publish_60 : decode cL_publish 60 = .ok (.aload 4, 2) := by decide +kernel
theorem dL_publish_62 : decode cL_publish 62 = .ok (.iload 11, 2) := by decide +kernel
theorem dL_publish_64 : decode cL_publish 64 = .ok (.iaload, 1) := by decide +kernel
theorem dL_publish_65 : decode cL_publish 65 = .ok (.ior, 1) := by decide +kernel
theorem dL_publish_66 : decode cL_publish 66 = .ok (.ior, 1) := by decide +kernel
theorem dL_publish_67 : decode cL_publish 67 = .ok (.istore 10, 2) := by decide +kernel
theorem dL_publish_69 : decode cL_publish 69 = .ok (.iinc 11 1, 3) := by decide +kernel
theorem dL_publish_72 : decode cL_publish 72 = .ok (.goto (-60), 3) := by decide +kernel
theorem dL_publish_75 : decode cL_publish 75 = .ok (.iconst 0, 1) := by decide +kernel
theorem dL_publish_76 : decode cL_publish 76 = .ok (.istore 11, 2) := by decide +kernel
theorem dL_publish_78 : decode cL_publish 78 = .ok (.iload 11, 2) := by decide +kernel
theorem dL_publish_80 : decode cL_publish 80 = .ok (.aload 8, 2) := by decide +kernel
theorem dL_publish_82 : decode cL_publish 82 = .ok (.iconst 2, 1) := by decide +kernel
theorem dL_publish_83 : decode cL_publish 83 = .ok (.iaload, 1) := by decide +kernel
theorem dL_publish_84 : decode cL_publish 84 = .ok (.if_icmp .ge 27, 3) := by decide +kernel
theorem dL_publish_87 : decode cL_publish 87 = .ok (.aload_n 3, 1) := by decide +kernel
theorem dL_publish_88 : decode cL_publish 88 = .ok (.iload 11, 2) := by decide +kernel
theorem dL_publish_90 : decode cL_publish 90 = .ok (.iaload, 1) := by decide +kernel
theorem dL_publish_91 : decode cL_publish 91 = .ok (.ifCond .ne 14, 3) := by decide +kernel
theorem dL_publish_94 : decode cL_publish 94 = .ok (.iload 10, 2) := by decide +kernel
theorem dL_publish_96 : decode cL_publish 96 = .ok (.iconst 1, 1) := by decide +kernel
theorem dL_publish_97 : decode cL_publish 97 = .ok (.iload 11, 2) := by decide +kernel
theorem dL_publish_99 : decode cL_publish 99 = .ok (.ishl, 1) := by decide +kernel
theorem dL_publish_100 : decode cL_publish 100 = .ok (.iconst (-1), 1) := by decide +kernel
theorem dL_publish_101 : decode cL_publish 101 = .ok (.ixor, 1) := by decide +kernel
theorem dL_publish_102 : decode cL_publish 102 = .ok (.iand, 1) := by decide +kernel
theorem dL_publish_103 : decode cL_publish 103 = .ok (.istore 10, 2) := by decide +kernel
theorem dL_publish_105 : decode cL_publish 105 = .ok (.iinc 11 1, 3) := by decide +kernel
theorem dL_publish_108 : decode cL_publish 108 = .ok (.goto (-30), 3) := by decide +kernel
theorem dL_publish_111 : decode cL_publish 111 = .ok (.iload 10, 2) := by decide +kernel
theorem dL_publish_113 : decode cL_publish 113 = .ok (.ifCond .ne 29, 3) := by decide +kernel
theorem dL_publish_116 : decode cL_publish 116 = .ok (.aload_n 1, 1) := by decide +kernel
theorem dL_publish_117 : decode cL_publish 117 = .ok (.iload_n 0, 1) := by decide +kernel
theorem dL_publish_118 : decode cL_publish 118 = .ok (.bipush 7, 2) := by decide +kernel
theorem dL_publish_120 : decode cL_publish 120 = .ok (.iadd, 1) := by decide +kernel
theorem dL_publish_121 : decode cL_publish 121 = .ok (.dup2, 1) := by decide +kernel
theorem dL_publish_122 : decode cL_publish 122 = .ok (.iaload, 1) := by decide +kernel
theorem dL_publish_123 : decode cL_publish 123 = .ok (.iconst 1, 1) := by decide +kernel
theorem dL_publish_124 : decode cL_publish 124 = .ok (.iadd, 1) := by decide +kernel
theorem dL_publish_125 : decode cL_publish 125 = .ok (.iastore, 1) := by decide +kernel
theorem dL_publish_126 : decode cL_publish 126 = .ok (.aload_n 1, 1) := by decide +kernel
theorem dL_publish_127 : decode cL_publish 127 = .ok (.iload_n 0, 1) := by decide +kernel
theorem dL_publish_128 : decode cL_publish 128 = .ok (.bipush 7, 2) := by decide +kernel
theorem dL_publish_130 : decode cL_publish 130 = .ok (.iadd, 1) := by decide +kernel
theorem dL_publish_131 : decode cL_publish 131 = .ok (.iaload, 1) := by decide +kernel
theorem dL_publish_132 : decode cL_publish 132 = .ok (.aload_n 1, 1) := by decide +kernel
theorem dL_publish_133 : decode cL_publish 133 = .ok (.iload_n 0, 1) := by decide +kernel
theorem dL_publish_134 : decode cL_publish 134 = .ok (.iconst 3, 1) := by decide +kernel
theorem dL_publish_135 : decode cL_publish 135 = .ok (.iadd, 1) := by decide +kernel
theorem dL_publish_136 : decode cL_publish 136 = .ok (.iaload, 1) := by decide +kernel
theorem dL_publish_137 : decode cL_publish 137 = .ok (.if_icmp .ge 12, 3) := by decide +kernel
theorem dL_publish_140 : decode cL_publish 140 = .ok (.iconst 0, 1) := by decide +kernel
theorem dL_publish_141 : decode cL_publish 141 = .ok (.ireturn, 1) := by decide +kernel
theorem dL_publish_142 : decode cL_publish 142 = .ok (.aload_n 1, 1) := by decide +kernel
theorem dL_publish_143 : decode cL_publish 143 = .ok (.iload_n 0, 1) := by decide +kernel
theorem dL_publish_144 : decode cL_publish 144 = .ok (.bipush 7, 2) := by decide +kernel
theorem dL_publish_146 : decode cL_publish 146 = .ok (.iadd, 1) := by decide +kernel
theorem dL_publish_147 : decode cL_publish 147 = .ok (.iconst 0, 1) := by decide +kernel
theorem dL_publish_148 : decode cL_publish 148 = .ok (.iastore, 1) := by decide +kernel
theorem dL_publish_149 : decode cL_publish 149 = .ok (.aload 8, 2) := by decide +kernel
theorem dL_publish_151 : decode cL_publish 151 = .ok (.iconst 3, 1) := by decide +kernel
theorem dL_publish_152 : decode cL_publish 152 = .ok (.iaload, 1) := by decide +kernel
theorem dL_publish_153 : decode cL_publish 153 = .ok (.ifCond .ne 33, 3) := by decide +kernel
theorem dL_publish_156 : decode cL_publish 156 = .ok (.aload_n 1, 1) := by decide +kernel
theorem dL_publish_157 : decode cL_publish 157 = .ok (.iload_n 0, 1) := by decide +kernel
theorem dL_publish_158 : decode cL_publish 158 = .ok (.bipush 8, 2) := by decide +kernel
theorem dL_publish_160 : decode cL_publish 160 = .ok (.iadd, 1) := by decide +kernel
theorem dL_publish_161 : decode cL_publish 161 = .ok (.dup2, 1) := by decide +kernel
theorem dL_publish_162 : decode cL_publish 162 = .ok (.iaload, 1) := by decide +kernel
theorem dL_publish_163 : decode cL_publish 163 = .ok (.iconst 1, 1) := by decide +kernel
theorem dL_publish_164 : decode cL_publish 164 = .ok (.iadd, 1) := by decide +kernel
theorem dL_publish_165 : decode cL_publish 165 = .ok (.iastore, 1) := by decide +kernel
theorem dL_publish_166 : decode cL_publish 166 = .ok (.aload_n 1, 1) := by decide +kernel
theorem dL_publish_167 : decode cL_publish 167 = .ok (.iload_n 0, 1) := by decide +kernel
theorem dL_publish_168 : decode cL_publish 168 = .ok (.bipush 8, 2) := by decide +kernel
theorem dL_publish_170 : decode cL_publish 170 = .ok (.iadd, 1) := by decide +kernel
theorem dL_publish_171 : decode cL_publish 171 = .ok (.iaload, 1) := by decide +kernel
theorem dL_publish_172 : decode cL_publish 172 = .ok (.aload_n 1, 1) := by decide +kernel
theorem dL_publish_173 : decode cL_publish 173 = .ok (.iload_n 0, 1) := by decide +kernel
theorem dL_publish_174 : decode cL_publish 174 = .ok (.iconst 4, 1) := by decide +kernel
theorem dL_publish_175 : decode cL_publish 175 = .ok (.iadd, 1) := by decide +kernel
theorem dL_publish_176 : decode cL_publish 176 = .ok (.iaload, 1) := by decide +kernel
theorem dL_publish_177 : decode cL_publish 177 = .ok (.if_icmp .ne 7, 3) := by decide +kernel
theorem dL_publish_180 : decode cL_publish 180 = .ok (.aload_n 1, 1) := by decide +kernel
theorem dL_publish_181 : decode cL_publish 181 = .ok (.iload_n 0, 1) := by decide +kernel
theorem dL_publish_182 : decode cL_publish 182 = .ok (.iconst 0, 1) := by decide +kernel
theorem dL_publish_183 : decode cL_publish 183 = .ok (.iastore, 1) := by decide +kernel
theorem dL_publish_184 : decode cL_publish 184 = .ok (.iconst 0, 1) := by decide +kernel
theorem dL_publish_185 : decode cL_publish 185 = .ok (.ireturn, 1) := by decide +kernel
theorem dL_publish_186 : decode cL_publish 186 = .ok (.aload 8, 2) := by decide +kernel
theorem dL_publish_188 : decode cL_publish 188 = .ok (.iconst 3, 1) := by decide +kernel
theorem dL_publish_189 : decode cL_publish 189 = .ok (.dup2, 1) := by decide +kernel
theorem dL_publish_190 : decode cL_publish 190 = .ok (.iaload, 1) := by decide +kernel
theorem dL_publish_191 : decode cL_publish 191 = .ok (.iconst 1, 1) := by decide +kernel
theorem dL_publish_192 : decode cL_publish 192 = .ok (.isub, 1) := by decide +kernel
theorem dL_publish_193 : decode cL_publish 193 = .ok (.iastore, 1) := by decide +kernel
theorem dL_publish_194 : decode cL_publish 194 = .ok (.aload_n 1, 1) := by decide +kernel
theorem dL_publish_195 : decode cL_publish 195 = .ok (.iload_n 0, 1) := by decide +kernel
theorem dL_publish_196 : decode cL_publish 196 = .ok (.bipush 7, 2) := by decide +kernel
theorem dL_publish_198 : decode cL_publish 198 = .ok (.iadd, 1) := by decide +kernel
theorem dL_publish_199 : decode cL_publish 199 = .ok (.iconst 0, 1) := by decide +kernel
theorem dL_publish_200 : decode cL_publish 200 = .ok (.iastore, 1) := by decide +kernel
theorem dL_publish_201 : decode cL_publish 201 = .ok (.aload_n 1, 1) := by decide +kernel
theorem dL_publish_202 : decode cL_publish 202 = .ok (.iload_n 0, 1) := by decide +kernel
theorem dL_publish_203 : decode cL_publish 203 = .ok (.bipush 8, 2) := by decide +kernel
theorem dL_publish_205 : decode cL_publish 205 = .ok (.iadd, 1) := by decide +kernel
theorem dL_publish_206 : decode cL_publish 206 = .ok (.iconst 0, 1) := by decide +kernel
theorem dL_publish_207 : decode cL_publish 207 = .ok (.iastore, 1) := by decide +kernel
theorem dL_publish_208 : decode cL_publish 208 = .ok (.iload 10, 2) := by decide +kernel
theorem dL_publish_210 : decode cL_publish 210 = .ok (.ifCond .ne 15, 3) := by decide +kernel
theorem dL_publish_213 : decode cL_publish 213 = .ok (.aload_n 1, 1) := by decide +kernel
theorem dL_publish_214 : decode cL_publish 214 = .ok (.iload_n 0, 1) := by decide +kernel
theorem dL_publish_215 : decode cL_publish 215 = .ok (.bipush 10, 2) := by decide +kernel
theorem dL_publish_217 : decode cL_publish 217 = .ok (.iadd, 1) := by decide +kernel
theorem dL_publish_218 : decode cL_publish 218 = .ok (.dup2, 1) := by decide +kernel
theorem dL_publish_219 : decode cL_publish 219 = .ok (.iaload, 1) := by decide +kernel
theorem dL_publish_220 : decode cL_publish 220 = .ok (.iconst 1, 1) := by decide +kernel
theorem dL_publish_221 : decode cL_publish 221 = .ok (.iadd, 1) := by decide +kernel
theorem dL_publish_222 : decode cL_publish 222 = .ok (.iastore, 1) := by decide +kernel
theorem dL_publish_223 : decode cL_publish 223 = .ok (.iconst 1, 1) := by decide +kernel
theorem dL_publish_224 : decode cL_publish 224 = .ok (.ireturn, 1) := by decide +kernel
theorem dL_publish_225 : decode cL_publish 225 = .ok (.aload_n 1, 1) := by decide +kernel
theorem dL_publish_226 : decode cL_publish 226 = .ok (.iload_n 0, 1) := by decide +kernel
theorem dL_publish_227 : decode cL_publish 227 = .ok (.bipush 9, 2) := by decide +kernel
theorem dL_publish_229 : decode cL_publish 229 = .ok (.iadd, 1) := by decide +kernel
theorem dL_publish_230 : decode cL_publish 230 = .ok (.dup2, 1) := by decide +kernel
theorem dL_publish_231 : decode cL_publish 231 = .ok (.iaload, 1) := by decide +kernel
theorem dL_publish_232 : decode cL_publish 232 = .ok (.iconst 1, 1) := by decide +kernel
theorem dL_publish_233 : decode cL_publish 233 = .ok (.iadd, 1) := by decide +kernel
theorem dL_publish_234 : decode cL_publish 234 = .ok (.iastore, 1) := by decide +kernel
theorem dL_publish_235 : decode cL_publish 235 = .ok (.iconst 5, 1) := by decide +kernel
theorem dL_publish_236 : decode cL_publish 236 = .ok (.iload 9, 2) := by decide +kernel
theorem dL_publish_238 : decode cL_publish 238 = .ok (.imul, 1) := by decide +kernel
theorem dL_publish_239 : decode cL_publish 239 = .ok (.istore 11, 2) := by decide +kernel
theorem dL_publish_241 : decode cL_publish 241 = .ok (.iconst 5, 1) := by decide +kernel
theorem dL_publish_242 : decode cL_publish 242 = .ok (.iload 9, 2) := by decide +kernel
theorem dL_publish_244 : decode cL_publish 244 = .ok (.imul, 1) := by decide +kernel
theorem dL_publish_245 : decode cL_publish 245 = .ok (.istore 12, 2) := by decide +kernel
theorem dL_publish_247 : decode cL_publish 247 = .ok (.iload 12, 2) := by decide +kernel
theorem dL_publish_249 : decode cL_publish 249 = .ok (.iconst 5, 1) := by decide +kernel
theorem dL_publish_250 : decode cL_publish 250 = .ok (.iload 9, 2) := by decide +kernel
theorem dL_publish_252 : decode cL_publish 252 = .ok (.imul, 1) := by decide +kernel
theorem dL_publish_253 : decode cL_publish 253 = .ok (.iconst 5, 1) := by decide +kernel
theorem dL_publish_254 : decode cL_publish 254 = .ok (.iadd, 1) := by decide +kernel
theorem dL_publish_255 : decode cL_publish 255 = .ok (.if_icmp .ge 34, 3) := by decide +kernel
theorem dL_publish_258 : decode cL_publish 258 = .ok (.aload 6, 2) := by decide +kernel
theorem dL_publish_260 : decode cL_publish 260 = .ok (.iload 12, 2) := by decide +kernel
theorem dL_publish_262 : decode cL_publish 262 = .ok (.iaload, 1) := by decide +kernel
theorem dL_publish_263 : decode cL_publish 263 = .ok (.sipush 8191, 3) := by decide +kernel
theorem dL_publish_266 : decode cL_publish 266 = .ok (.iand, 1) := by decide +kernel
theorem dL_publish_267 : decode cL_publish 267 = .ok (.aload 6, 2) := by decide +kernel
theorem dL_publish_269 : decode cL_publish 269 = .ok (.iload 11, 2) := by decide +kernel
theorem dL_publish_271 : decode cL_publish 271 = .ok (.iaload, 1) := by decide +kernel
theorem dL_publish_272 : decode cL_publish 272 = .ok (.sipush 8191, 3) := by decide +kernel
theorem dL_publish_275 : decode cL_publish 275 = .ok (.iand, 1) := by decide +kernel
theorem dL_publish_276 : decode cL_publish 276 = .ok (.if_icmp .ge 7, 3) := by decide +kernel
theorem dL_publish_279 : decode cL_publish 279 = .ok (.iload 12, 2) := by decide +kernel
theorem dL_publish_281 : decode cL_publish 281 = .ok (.istore 11, 2) := by decide +kernel
theorem dL_publish_283 : decode cL_publish 283 = .ok (.iinc 12 1, 3) := by decide +kernel
theorem dL_publish_286 : decode cL_publish 286 = .ok (.goto (-39), 3) := by decide +kernel
theorem dL_publish_289 : decode cL_publish 289 = .ok (.iconst 0, 1) := by decide +kernel
theorem dL_publish_290 : decode cL_publish 290 = .ok (.istore 12, 2) := by decide +kernel
theorem dL_publish_292 : decode cL_publish 292 = .ok (.iconst 0, 1) := by decide +kernel
theorem dL_publish_293 : decode cL_publish 293 = .ok (.istore 13, 2) := by decide +kernel
theorem dL_publish_295 : decode cL_publish 295 = .ok (.iload 13, 2) := by decide +kernel
theorem dL_publish_297 : decode cL_publish 297 = .ok (.aload 8, 2) := by decide +kernel
theorem dL_publish_299 : decode cL_publish 299 = .ok (.iconst 2, 1) := by decide +kernel
theorem dL_publish_300 : decode cL_publish 300 = .ok (.iaload, 1) := by decide +kernel
theorem dL_publish_301 : decode cL_publish 301 = .ok (.if_icmp .ge 160, 3) := by decide +kernel
theorem dL_publish_304 : decode cL_publish 304 = .ok (.iload 10, 2) := by decide +kernel
theorem dL_publish_306 : decode cL_publish 306 = .ok (.iload 13, 2) := by decide +kernel
theorem dL_publish_308 : decode cL_publish 308 = .ok (.ishr, 1) := by decide +kernel
theorem dL_publish_309 : decode cL_publish 309 = .ok (.iconst 1, 1) := by decide +kernel
theorem dL_publish_310 : decode cL_publish 310 = .ok (.iand, 1) := by decide +kernel
theorem dL_publish_311 : decode cL_publish 311 = .ok (.ifCond .ne 6, 3) := by decide +kernel
theorem dL_publish_314 : decode cL_publish 314 = .ok (.goto 141, 3) := by decide +kernel
theorem dL_publish_317 : decode cL_publish 317 = .ok (.aload_n 3, 1) := by decide +kernel
theorem dL_publish_318 : decode cL_publish 318 = .ok (.iload 13, 2) := by decide +kernel
theorem dL_publish_320 : decode cL_publish 320 = .ok (.iaload, 1) := by decide +kernel
theorem dL_publish_321 : decode cL_publish 321 = .ok (.aload_n 1, 1) := by decide +kernel
theorem dL_publish_322 : decode cL_publish 322 = .ok (.iload_n 0, 1) := by decide +kernel
theorem dL_publish_323 : decode cL_publish 323 = .ok (.bipush 6, 2) := by decide +kernel
theorem dL_publish_325 : decode cL_publish 325 = .ok (.iadd, 1) := by decide +kernel
theorem dL_publish_326 : decode cL_publish 326 = .ok (.iaload, 1) := by decide +kernel
theorem dL_publish_327 : decode cL_publish 327 = .ok (.iload 12, 2) := by decide +kernel
theorem dL_publish_329 : decode cL_publish 329 = .ok (.isub, 1) := by decide +kernel
theorem dL_publish_330 : decode cL_publish 330 = .ok (.if_icmp .ge 10, 3) := by decide +kernel
theorem dL_publish_333 : decode cL_publish 333 = .ok (.aload_n 3, 1) := by decide +kernel
theorem dL_publish_334 : decode cL_publish 334 = .ok (.iload 13, 2) := by decide +kernel
theorem dL_publish_336 : decode cL_publish 336 = .ok (.iaload, 1) := by decide +kernel
theorem dL_publish_337 : decode cL_publish 337 = .ok (.goto 12, 3) := by decide +kernel
theorem dL_publish_340 : decode cL_publish 340 = .ok (.aload_n 1, 1) := by decide +kernel
theorem dL_publish_341 : decode cL_publish 341 = .ok (.iload_n 0, 1) := by decide +kernel
theorem dL_publish_342 : decode cL_publish 342 = .ok (.bipush 6, 2) := by decide +kernel
theorem dL_publish_344 : decode cL_publish 344 = .ok (.iadd, 1) := by decide +kernel
theorem dL_publish_345 : decode cL_publish 345 = .ok (.iaload, 1) := by decide +kernel
theorem dL_publish_346 : decode cL_publish 346 = .ok (.iload 12, 2) := by decide +kernel
theorem dL_publish_348 : decode cL_publish 348 = .ok (.isub, 1) := by decide +kernel
theorem dL_publish_349 : decode cL_publish 349 = .ok (.istore 14, 2) := by decide +kernel
theorem dL_publish_351 : decode cL_publish 351 = .ok (.iconst 0, 1) := by decide +kernel
theorem dL_publish_352 : decode cL_publish 352 = .ok (.istore 15, 2) := by decide +kernel
theorem dL_publish_354 : decode cL_publish 354 = .ok (.iload 15, 2) := by decide +kernel
theorem dL_publish_356 : decode cL_publish 356 = .ok (.iload 14, 2) := by decide +kernel
theorem dL_publish_358 : decode cL_publish 358 = .ok (.if_icmp .ge 39, 3) := by decide +kernel
theorem dL_publish_361 : decode cL_publish 361 = .ok (.aload 7, 2) := by decide +kernel
theorem dL_publish_363 : decode cL_publish 363 = .ok (.bipush 6, 2) := by decide +kernel
theorem dL_publish_365 : decode cL_publish 365 = .ok (.iload 11, 2) := by decide +kernel
theorem dL_publish_367 : decode cL_publish 367 = .ok (.imul, 1) := by decide +kernel
theorem dL_publish_368 : decode cL_publish 368 = .ok (.iload 12, 2) := by decide +kernel
theorem dL_publish_370 : decode cL_publish 370 = .ok (.iadd, 1) := by decide +kernel
theorem dL_publish_371 : decode cL_publish 371 = .ok (.iload 15, 2) := by decide +kernel
theorem dL_publish_373 : decode cL_publish 373 = .ok (.iadd, 1) := by decide +kernel
theorem dL_publish_374 : decode cL_publish 374 = .ok (.iload 13, 2) := by decide +kernel
theorem dL_publish_376 : decode cL_publish 376 = .ok (.bipush 16, 2) := by decide +kernel
theorem dL_publish_378 : decode cL_publish 378 = .ok (.aload 5, 2) := by decide +kernel
theorem dL_publish_380 : decode cL_publish 380 = .ok (.iconst 4, 1) := by decide +kernel
theorem dL_publish_381 : decode cL_publish 381 = .ok (.iload 13, 2) := by decide +kernel
theorem dL_publish_383 : decode cL_publish 383 = .ok (.imul, 1) := by decide +kernel
theorem dL_publish_384 : decode cL_publish 384 = .ok (.iload 15, 2) := by decide +kernel
theorem dL_publish_386 : decode cL_publish 386 = .ok (.iadd, 1) := by decide +kernel
theorem dL_publish_387 : decode cL_publish 387 = .ok (.iaload, 1) := by decide +kernel
theorem dL_publish_388 : decode cL_publish 388 = .ok (.imul, 1) := by decide +kernel
theorem dL_publish_389 : decode cL_publish 389 = .ok (.iadd, 1) := by decide +kernel
theorem dL_publish_390 : decode cL_publish 390 = .ok (.iastore, 1) := by decide +kernel
theorem dL_publish_391 : decode cL_publish 391 = .ok (.iinc 15 1, 3) := by decide +kernel
theorem dL_publish_394 : decode cL_publish 394 = .ok (.goto (-40), 3) := by decide +kernel
theorem dL_publish_397 : decode cL_publish 397 = .ok (.iload 14, 2) := by decide +kernel
theorem dL_publish_399 : decode cL_publish 399 = .ok (.istore 15, 2) := by decide +kernel
theorem dL_publish_401 : decode cL_publish 401 = .ok (.iload 15, 2) := by decide +kernel
theorem dL_publish_403 : decode cL_publish 403 = .ok (.aload_n 3, 1) := by decide +kernel
theorem dL_publish_404 : decode cL_publish 404 = .ok (.iload 13, 2) := by decide +kernel
theorem dL_publish_406 : decode cL_publish 406 = .ok (.iaload, 1) := by decide +kernel
theorem dL_publish_407 : decode cL_publish 407 = .ok (.if_icmp .ge 32, 3) := by decide +kernel
theorem dL_publish_410 : decode cL_publish 410 = .ok (.aload 5, 2) := by decide +kernel
theorem dL_publish_412 : decode cL_publish 412 = .ok (.iconst 4, 1) := by decide +kernel
theorem dL_publish_413 : decode cL_publish 413 = .ok (.iload 13, 2) := by decide +kernel
theorem dL_publish_415 : decode cL_publish 415 = .ok (.imul, 1) := by decide +kernel
theorem dL_publish_416 : decode cL_publish 416 = .ok (.iload 15, 2) := by decide +kernel
theorem dL_publish_418 : decode cL_publish 418 = .ok (.iadd, 1) := by decide +kernel
theorem dL_publish_419 : decode cL_publish 419 = .ok (.iload 14, 2) := by decide +kernel
theorem dL_publish_421 : decode cL_publish 421 = .ok (.isub, 1) := by decide +kernel
theorem dL_publish_422 : decode cL_publish 422 = .ok (.aload 5, 2) := by decide +kernel
theorem dL_publish_424 : decode cL_publish 424 = .ok (.iconst 4, 1) := by decide +kernel
theorem dL_publish_425 : decode cL_publish 425 = .ok (.iload 13, 2) := by decide +kernel
theorem dL_publish_427 : decode cL_publish 427 = .ok (.imul, 1) := by decide +kernel
theorem dL_publish_428 : decode cL_publish 428 = .ok (.iload 15, 2) := by decide +kernel
theorem dL_publish_430 : decode cL_publish 430 = .ok (.iadd, 1) := by decide +kernel
theorem dL_publish_431 : decode cL_publish 431 = .ok (.iaload, 1) := by decide +kernel
theorem dL_publish_432 : decode cL_publish 432 = .ok (.iastore, 1) := by decide +kernel
theorem dL_publish_433 : decode cL_publish 433 = .ok (.iinc 15 1, 3) := by decide +kernel
theorem dL_publish_436 : decode cL_publish 436 = .ok (.goto (-35), 3) := by decide +kernel
theorem dL_publish_439 : decode cL_publish 439 = .ok (.aload_n 3, 1) := by decide +kernel
theorem dL_publish_440 : decode cL_publish 440 = .ok (.iload 13, 2) := by decide +kernel
theorem dL_publish_442 : decode cL_publish 442 = .ok (.dup2, 1) := by decide +kernel
theorem dL_publish_443 : decode cL_publish 443 = .ok (.iaload, 1) := by decide +kernel
theorem dL_publish_444 : decode cL_publish 444 = .ok (.iload 14, 2) := by decide +kernel
theorem dL_publish_446 : decode cL_publish 446 = .ok (.isub, 1) := by decide +kernel
theorem dL_publish_447 : decode cL_publish 447 = .ok (.iastore, 1) := by decide +kernel
theorem dL_publish_448 : decode cL_publish 448 = .ok (.iload 12, 2) := by decide +kernel
theorem dL_publish_450 : decode cL_publish 450 = .ok (.iload 14, 2) := by decide +kernel
theorem dL_publish_452 : decode cL_publish 452 = .ok (.iadd, 1) := by decide +kernel
theorem dL_publish_453 : decode cL_publish 453 = .ok (.istore 12, 2) := by decide +kernel
theorem dL_publish_455 : decode cL_publish 455 = .ok (.iinc 13 1, 3) := by decide +kernel
theorem dL_publish_458 : decode cL_publish 458 = .ok (.goto (-163), 3) := by decide +kernel
theorem dL_publish_461 : decode cL_publish 461 = .ok (.aload 6, 2) := by decide +kernel
theorem dL_publish_463 : decode cL_publish 463 = .ok (.iload 11, 2) := by decide +kernel
theorem dL_publish_465 : decode cL_publish 465 = .ok (.aload_n 1, 1) := by decide +kernel
theorem dL_publish_466 : decode cL_publish 466 = .ok (.iload_n 0, 1) := by decide +kernel
theorem dL_publish_467 : decode cL_publish 467 = .ok (.bipush 9, 2) := by decide +kernel
theorem dL_publish_469 : decode cL_publish 469 = .ok (.iadd, 1) := by decide +kernel
theorem dL_publish_470 : decode cL_publish 470 = .ok (.iaload, 1) := by decide +kernel
theorem dL_publish_471 : decode cL_publish 471 = .ok (.sipush 8192, 3) := by decide +kernel
theorem dL_publish_474 : decode cL_publish 474 = .ok (.iload 12, 2) := by decide +kernel
theorem dL_publish_476 : decode cL_publish 476 = .ok (.imul, 1) := by decide +kernel
theorem dL_publish_477 : decode cL_publish 477 = .ok (.iadd, 1) := by decide +kernel
theorem dL_publish_478 : decode cL_publish 478 = .ok (.iastore, 1) := by decide +kernel
theorem dL_publish_479 : decode cL_publish 479 = .ok (.iconst 1, 1) := by decide +kernel
theorem dL_publish_480 : decode cL_publish 480 = .ok (.ireturn, 1) := by decide +kernel
abbrev rmL_publish : Room := { frames := 0, cells := 0, slots := 0, locals := 0 }
theorem hdL_publish : yL_publish.cls ≠ "java/lang/invoke/MethodHandle" ∧ yL_publish.cls ≠ "java/lang/invoke/VarHandle" ∧ (parseMethodDescriptor yL_publish.desc).map (fun d => d.parameters.length) = some 9 := by decide +kernel
set_option maxHeartbeats 4000000 in
set_option maxRecDepth 20000 in
theorem mlL_publish_12 {G : xG} {X : xX} (hC : xC G X "PlantServerLaw" cL_publish 16 rmL_publish) (hr : xRt X (some .int)) (htab : xTab X []) (p1 : Int32) (a2 : Nm) (a3 : Nm) (a4 : Nm) (a5 : Nm) (a6 : Nm) (a7 : Nm) (a8 : Nm) (a9 : Nm) {ρ : Nm → Nat} (h0 : xR0 X ρ) (k n : Nat) (hk1 : k ≤ 0) (hk2 : n ≤ 0) (K : Int32 → Int32 → PH → Prop) (Q : Int32 → PH → Prop) (Xp : String → PH → Prop) : ∀ (f12 : Nat) (x12_10 : Int32) (x12_11 : Int32) (τ12 : PH), lL_publish_12 p1 a2 a3 a4 a5 a6 a7 a8 a9 K Q f12 x12_10 x12_11 τ12 → (∀ (x12_10 : Int32) (x12_11 : Int32) (τ12 : PH), K x12_10 x12_11 τ12 → xJ G X (xT X (eI ρ Q) Xp G rmL_publish) 16 ρ τ12 k n 75 [(0, .int p1), (1, .ref (ρ a2)), (2, .ref (ρ a3)), (3, .ref (ρ a4)), (4, .ref (ρ a5)), (5, .ref (ρ a6)), (6, .ref (ρ a7)), (7, .ref (ρ a8)), (8, .ref (ρ a9)), (9, .int (p1 / 11)), (10, .int x12_10), (11, .int x12_11)] []) → xJ G X (xT X (eI ρ Q) Xp G rmL_publish) 16 ρ τ12 k n 12 [(0, .int p1), (1, .ref (ρ a2)), (2, .ref (ρ a3)), (3, .ref (ρ a4)), (4, .ref (ρ a5)), (5, .ref (ρ a6)), (6, .ref (ρ a7)), (7, .ref (ρ a8)), (8, .ref (ρ a9)), (9, .int (p1 / 11)), (10, .int x12_10), (11, .int x12_11)] [] := by
  intro f12
  induction f12 with
  | zero => intro x12_10 x12_11 τ12 h hKK; unfold lL_publish_12 at h; exact h.elim
  | succ f12 ih =>
    intro x12_10 x12_11 τ12 h hKK
    unfold lL_publish_12 at h
    refine x_iload hC 11 rfl dL_publish_12 ?_
    refine x_aload hC 8 rfl dL_publish_14 ?_
    refine x_iconst (v := 2) hC dL_publish_16 (by decide) ?_
    obtain ⟨k1, h⟩ := h
    obtain ⟨v1, h⟩ := h
    refine x_iald (a := a9) hC k1 v1 dL_publish_17 ?_
    refine x_icmp_ge (tgt := 75) hC dL_publish_18 (by decide) (fun c1 => ?_) (fun c1 => ?_)
    · have h := h.1 c1
      exact hKK _ _ _ h
    · have h := h.2 c1
      refine x_aload_n hC 2 rfl dL_publish_21 ?_
      refine x_iload hC 11 rfl dL_publish_22 ?_
      obtain ⟨k2, h⟩ := h
      obtain ⟨v2, h⟩ := h
      refine x_iald (a := a3) hC k2 v2 dL_publish_24 ?_
      refine x_iconst (v := 1) hC dL_publish_25 (by decide) ?_
      refine x_iand hC dL_publish_26 ?_
      refine x_iload hC 9 rfl dL_publish_27 ?_
      refine x_icmp_ne (tgt := 69) hC dL_publish_29 (by decide) (fun c2 => ?_) (fun c2 => ?_)
      · have h := h.1 c2
        refine x_iinc (v' := x12_11 + 1) (L' := [(11, .int (x12_11 + 1)), (0, .int p1), (1, .ref (ρ a2)), (2, .ref (ρ a3)), (3, .ref (ρ a4)), (4, .ref (ρ a5)), (5, .ref (ρ a6)), (6, .ref (ρ a7)), (7, .ref (ρ a8)), (8, .ref (ρ a9)), (9, .int (p1 / 11)), (10, .int x12_10)]) hC 11 rfl dL_publish_69 rfl (by decide) (by first | rfl | simp (decide := true) [rv_cat, cat_ref, cat_int]) ?_
        refine x_goto (tgt := 12) hC dL_publish_72 (by decide) ?_
        refine xJ.sub (L' := [(0, .int p1), (1, .ref (ρ a2)), (2, .ref (ρ a3)), (3, .ref (ρ a4)), (4, .ref (ρ a5)), (5, .ref (ρ a6)), (6, .ref (ρ a7)), (7, .ref (ρ a8)), (8, .ref (ρ a9)), (9, .int (p1 / 11)), (10, .int x12_10), (11, .int (x12_11 + 1))]) [1, 2, 3, 4, 5, 6, 7, 8, 9, 10, 11, 0] rfl ?_
        exact ih _ _ _ h hKK
      · have h := h.2 c2
        refine x_aload_n hC 3 rfl dL_publish_32 ?_
        refine x_iload hC 11 rfl dL_publish_33 ?_
        obtain ⟨k3, h⟩ := h
        obtain ⟨v3, h⟩ := h
        refine x_iald (a := a4) hC k3 v3 dL_publish_35 ?_
        refine x_if_eq (tgt := 69) hC dL_publish_36 (by decide) (fun c3 => ?_) (fun c3 => ?_)
        · have h := h.1 c3
          refine x_iinc (v' := x12_11 + 1) (L' := [(11, .int (x12_11 + 1)), (0, .int p1), (1, .ref (ρ a2)), (2, .ref (ρ a3)), (3, .ref (ρ a4)), (4, .ref (ρ a5)), (5, .ref (ρ a6)), (6, .ref (ρ a7)), (7, .ref (ρ a8)), (8, .ref (ρ a9)), (9, .int (p1 / 11)), (10, .int x12_10)]) hC 11 rfl dL_publish_69 rfl (by decide) (by first | rfl | simp (decide := true) [rv_cat, cat_ref, cat_int]) ?_
          refine x_goto (tgt := 12) hC dL_publish_72 (by decide) ?_
          refine xJ.sub (L' := [(0, .int p1), (1, .ref (ρ a2)), (2, .ref (ρ a3)), (3, .ref (ρ a4)), (4, .ref (ρ a5)), (5, .ref (ρ a6)), (6, .ref (ρ a7)), (7, .ref (ρ a8)), (8, .ref (ρ a9)), (9, .int (p1 / 11)), (10, .int x12_10), (11, .int (x12_11 + 1))]) [1, 2, 3, 4, 5, 6, 7, 8, 9, 10, 11, 0] rfl ?_
          exact ih _ _ _ h hKK
        · have h := h.2 c3
          refine x_aload_n hC 2 rfl dL_publish_39 ?_
          refine x_iload hC 11 rfl dL_publish_40 ?_
          refine x_iald (a := a3) hC k2 v2 dL_publish_42 ?_
          refine x_bipush (v := 14) hC dL_publish_43 (by decide) ?_
          refine x_ishr hC dL_publish_45 ?_
          refine x_iconst (v := 1) hC dL_publish_46 (by decide) ?_
          refine x_iand hC dL_publish_47 ?_
          refine x_if_ne (tgt := 54) hC dL_publish_48 (by decide) (fun c4 => ?_) (fun c4 => ?_)
          · have h := h.1 c4
            refine x_iload hC 10 rfl dL_publish_54 ?_
            refine x_iconst (v := 1) hC dL_publish_56 (by decide) ?_
            refine x_iload hC 11 rfl dL_publish_57 ?_
            refine x_ishl hC dL_publish_59 ?_
            refine x_aload hC 4 rfl dL_publish_60 ?_
            refine x_iload hC 11 rfl dL_publish_62 ?_
            obtain ⟨k4, h⟩ := h
            obtain ⟨v4, h⟩ := h
            refine x_iald (a := a5) hC k4 v4 dL_publish_64 ?_
            refine x_ior hC dL_publish_65 ?_
            refine x_ior hC dL_publish_66 ?_
            refine xJ.nmT (fun x1 ex1 => ?_)
            have h := h x1 ex1
            refine x_istore (L' := [(10, .int x1), (0, .int p1), (1, .ref (ρ a2)), (2, .ref (ρ a3)), (3, .ref (ρ a4)), (4, .ref (ρ a5)), (5, .ref (ρ a6)), (6, .ref (ρ a7)), (7, .ref (ρ a8)), (8, .ref (ρ a9)), (9, .int (p1 / 11)), (11, .int x12_11)]) hC dL_publish_67 (by decide) (by first | rfl | simp (decide := true) [rv_cat, cat_ref, cat_int]) ?_
            refine x_iinc (v' := x12_11 + 1) (L' := [(11, .int (x12_11 + 1)), (10, .int x1), (0, .int p1), (1, .ref (ρ a2)), (2, .ref (ρ a3)), (3, .ref (ρ a4)), (4, .ref (ρ a5)), (5, .ref (ρ a6)), (6, .ref (ρ a7)), (7, .ref (ρ a8)), (8, .ref (ρ a9)), (9, .int (p1 / 11))]) hC 11 rfl dL_publish_69 rfl (by decide) (by first | rfl | simp (decide := true) [rv_cat, cat_ref, cat_int]) ?_
            refine x_goto (tgt := 12) hC dL_publish_72 (by decide) ?_
            refine xJ.sub (L' := [(0, .int p1), (1, .ref (ρ a2)), (2, .ref (ρ a3)), (3, .ref (ρ a4)), (4, .ref (ρ a5)), (5, .ref (ρ a6)), (6, .ref (ρ a7)), (7, .ref (ρ a8)), (8, .ref (ρ a9)), (9, .int (p1 / 11)), (10, .int x1), (11, .int (x12_11 + 1))]) [2, 3, 4, 5, 6, 7, 8, 9, 10, 11, 1, 0] rfl ?_
            exact ih _ _ _ h hKK
          · have h := h.2 c4
            refine x_goto (tgt := 69) hC dL_publish_51 (by decide) ?_
            refine x_iinc (v' := x12_11 + 1) (L' := [(11, .int (x12_11 + 1)), (0, .int p1), (1, .ref (ρ a2)), (2, .ref (ρ a3)), (3, .ref (ρ a4)), (4, .ref (ρ a5)), (5, .ref (ρ a6)), (6, .ref (ρ a7)), (7, .ref (ρ a8)), (8, .ref (ρ a9)), (9, .int (p1 / 11)), (10, .int x12_10)]) hC 11 rfl dL_publish_69 rfl (by decide) (by first | rfl | simp (decide := true) [rv_cat, cat_ref, cat_int]) ?_
            refine x_goto (tgt := 12) hC dL_publish_72 (by decide) ?_
            refine xJ.sub (L' := [(0, .int p1), (1, .ref (ρ a2)), (2, .ref (ρ a3)), (3, .ref (ρ a4)), (4, .ref (ρ a5)), (5, .ref (ρ a6)), (6, .ref (ρ a7)), (7, .ref (ρ a8)), (8, .ref (ρ a9)), (9, .int (p1 / 11)), (10, .int x12_10), (11, .int (x12_11 + 1))]) [1, 2, 3, 4, 5, 6, 7, 8, 9, 10, 11, 0] rfl ?_
            exact ih _ _ _ h hKK
set_option maxHeartbeats 4000000 in
set_option maxRecDepth 20000 in
theorem mlL_publish_78 {G : xG} {X : xX} (hC : xC G X "PlantServerLaw" cL_publish 16 rmL_publish) (hr : xRt X (some .int)) (htab : xTab X []) (p1 : Int32) (a2 : Nm) (a4 : Nm) (a6 : Nm) (a7 : Nm) (a8 : Nm) (a9 : Nm) (y1 : Int32) {ρ : Nm → Nat} (h0 : xR0 X ρ) (k n : Nat) (hk1 : k ≤ 0) (hk2 : n ≤ 0) (K : Int32 → Int32 → PH → Prop) (Q : Int32 → PH → Prop) (Xp : String → PH → Prop) : ∀ (f78 : Nat) (x78_10 : Int32) (x78_11 : Int32) (τ78 : PH), lL_publish_78 p1 a2 a4 a6 a7 a8 a9 y1 K Q f78 x78_10 x78_11 τ78 → (∀ (x78_10 : Int32) (x78_11 : Int32) (τ78 : PH), K x78_10 x78_11 τ78 → xJ G X (xT X (eI ρ Q) Xp G rmL_publish) 16 ρ τ78 k n 111 [(0, .int p1), (1, .ref (ρ a2)), (3, .ref (ρ a4)), (5, .ref (ρ a6)), (6, .ref (ρ a7)), (7, .ref (ρ a8)), (8, .ref (ρ a9)), (9, .int (p1 / 11)), (10, .int x78_10), (11, .int x78_11)] []) → xJ G X (xT X (eI ρ Q) Xp G rmL_publish) 16 ρ τ78 k n 78 [(0, .int p1), (1, .ref (ρ a2)), (3, .ref (ρ a4)), (5, .ref (ρ a6)), (6, .ref (ρ a7)), (7, .ref (ρ a8)), (8, .ref (ρ a9)), (9, .int (p1 / 11)), (10, .int x78_10), (11, .int x78_11)] [] := by
  intro f78
  induction f78 with
  | zero => intro x78_10 x78_11 τ78 h hKK; unfold lL_publish_78 at h; exact h.elim
  | succ f78 ih =>
    intro x78_10 x78_11 τ78 h hKK
    unfold lL_publish_78 at h
    refine x_iload hC 9 rfl dL_publish_78 ?_
    refine x_aload hC 6 rfl dL_publish_80 ?_
    refine x_iconst (v := 2) hC dL_publish_82 (by decide) ?_
    obtain ⟨k5, h⟩ := h
    obtain ⟨v5, h⟩ := h
    refine x_iald (a := a9) hC k5 v5 dL_publish_83 ?_
    refine x_icmp_ge (tgt := 111) hC dL_publish_84 (by decide) (fun c5 => ?_) (fun c5 => ?_)
    · have h := h.1 c5
      exact hKK _ _ _ h
    · have h := h.2 c5
      refine x_aload_n hC 2 rfl dL_publish_87 ?_
      refine x_iload hC 9 rfl dL_publish_88 ?_
      obtain ⟨k6, h⟩ := h
      obtain ⟨v6, h⟩ := h
      refine x_iald (a := a4) hC k6 v6 dL_publish_90 ?_
      refine x_if_ne (tgt := 105) hC dL_publish_91 (by decide) (fun c6 => ?_) (fun c6 => ?_)
      · have h := h.1 c6
        refine x_iinc (v' := x78_11 + 1) (L' := [(11, .int (x78_11 + 1)), (0, .int p1), (1, .ref (ρ a2)), (3, .ref (ρ a4)), (5, .ref (ρ a6)), (6, .ref (ρ a7)), (7, .ref (ρ a8)), (8, .ref (ρ a9)), (9, .int (p1 / 11)), (10, .int x78_10)]) hC 9 rfl dL_publish_105 rfl (by decide) (by first | rfl | simp (decide := true) [rv_cat, cat_ref, cat_int]) ?_
        refine x_goto (tgt := 78) hC dL_publish_108 (by decide) ?_
        refine xJ.sub (L' := [(0, .int p1), (1, .ref (ρ a2)), (3, .ref (ρ a4)), (5, .ref (ρ a6)), (6, .ref (ρ a7)), (7, .ref (ρ a8)), (8, .ref (ρ a9)), (9, .int (p1 / 11)), (10, .int x78_10), (11, .int (x78_11 + 1))]) [1, 2, 3, 4, 5, 6, 7, 8, 9, 0] rfl ?_
        exact ih _ _ _ h hKK
      · have h := h.2 c6
        refine x_iload hC 8 rfl dL_publish_94 ?_
        refine x_iconst (v := 1) hC dL_publish_96 (by decide) ?_
        refine x_iload hC 9 rfl dL_publish_97 ?_
        refine x_ishl hC dL_publish_99 ?_
        refine x_iconst (v := (-1)) hC dL_publish_100 (by decide) ?_
        refine x_ixor hC dL_publish_101 ?_
        refine x_iand hC dL_publish_102 ?_
        refine xJ.nmT (fun x2 ex2 => ?_)
        have h := h x2 ex2
        refine x_istore (L' := [(10, .int x2), (0, .int p1), (1, .ref (ρ a2)), (3, .ref (ρ a4)), (5, .ref (ρ a6)), (6, .ref (ρ a7)), (7, .ref (ρ a8)), (8, .ref (ρ a9)), (9, .int (p1 / 11)), (11, .int x78_11)]) hC dL_publish_103 (by decide) (by first | rfl | simp (decide := true) [rv_cat, cat_ref, cat_int]) ?_
        refine x_iinc (v' := x78_11 + 1) (L' := [(11, .int (x78_11 + 1)), (10, .int x2), (0, .int p1), (1, .ref (ρ a2)), (3, .ref (ρ a4)), (5, .ref (ρ a6)), (6, .ref (ρ a7)), (7, .ref (ρ a8)), (8, .ref (ρ a9)), (9, .int (p1 / 11))]) hC 9 rfl dL_publish_105 rfl (by decide) (by first | rfl | simp (decide := true) [rv_cat, cat_ref, cat_int]) ?_
        refine x_goto (tgt := 78) hC dL_publish_108 (by decide) ?_
        refine xJ.sub (L' := [(0, .int p1), (1, .ref (ρ a2)), (3, .ref (ρ a4)), (5, .ref (ρ a6)), (6, .ref (ρ a7)), (7, .ref (ρ a8)), (8, .ref (ρ a9)), (9, .int (p1 / 11)), (10, .int x2), (11, .int (x78_11 + 1))]) [2, 3, 4, 5, 6, 7, 8, 9, 1, 0] rfl ?_
        exact ih _ _ _ h hKK
set_option maxHeartbeats 4000000 in
set_option maxRecDepth 20000 in
theorem mlL_publish_247 {G : xG} {X : xX} (hC : xC G X "PlantServerLaw" cL_publish 16 rmL_publish) (hr : xRt X (some .int)) (htab : xTab X []) (p1 : Int32) (a2 : Nm) (a4 : Nm) (a6 : Nm) (a7 : Nm) (a8 : Nm) (a9 : Nm) (y3 : Int32) {ρ : Nm → Nat} (h0 : xR0 X ρ) (k n : Nat) (hk1 : k ≤ 0) (hk2 : n ≤ 0) (K : Int32 → Int32 → PH → Prop) (Q : Int32 → PH → Prop) (Xp : String → PH → Prop) : ∀ (f247 : Nat) (x247_11 : Int32) (x247_12 : Int32) (τ247 : PH), lL_publish_247 p1 a2 a4 a6 a7 a8 a9 y3 K Q f247 x247_11 x247_12 τ247 → (∀ (x247_11 : Int32) (x247_12 : Int32) (τ247 : PH), K x247_11 x247_12 τ247 → xJ G X (xT X (eI ρ Q) Xp G rmL_publish) 16 ρ τ247 k n 289 [(0, .int p1), (1, .ref (ρ a2)), (3, .ref (ρ a4)), (5, .ref (ρ a6)), (6, .ref (ρ a7)), (7, .ref (ρ a8)), (8, .ref (ρ a9)), (9, .int (p1 / 11)), (10, .int y3), (11, .int x247_11), (12, .int x247_12)] []) → xJ G X (xT X (eI ρ Q) Xp G rmL_publish) 16 ρ τ247 k n 247 [(0, .int p1), (1, .ref (ρ a2)), (3, .ref (ρ a4)), (5, .ref (ρ a6)), (6, .ref (ρ a7)), (7, .ref (ρ a8)), (8, .ref (ρ a9)), (9, .int (p1 / 11)), (10, .int y3), (11, .int x247_11), (12, .int x247_12)] [] := by
  intro f247
  induction f247 with
  | zero => intro x247_11 x247_12 τ247 h hKK; unfold lL_publish_247 at h; exact h.elim
  | succ f247 ih =>
    intro x247_11 x247_12 τ247 h hKK
    unfold lL_publish_247 at h
    refine x_iload hC 10 rfl dL_publish_247 ?_
    refine x_iconst (v := 5) hC dL_publish_249 (by decide) ?_
    refine x_iload hC 7 rfl dL_publish_250 ?_
    refine x_imul hC dL_publish_252 ?_
    refine x_iconst (v := 5) hC dL_publish_253 (by decide) ?_
    refine x_iadd hC dL_publish_254 ?_
    refine x_icmp_ge (tgt := 289) hC dL_publish_255 (by decide) (fun c11 => ?_) (fun c11 => ?_)
    · have h := h.1 c11
      exact hKK _ _ _ h
    · have h := h.2 c11
      refine x_aload hC 4 rfl dL_publish_258 ?_
      refine x_iload hC 10 rfl dL_publish_260 ?_
      obtain ⟨k14, h⟩ := h
      obtain ⟨v14, h⟩ := h
      refine x_iald (a := a7) hC k14 v14 dL_publish_262 ?_
      refine x_sipush (v := 8191) hC dL_publish_263 (by decide) ?_
      refine x_iand hC dL_publish_266 ?_
      refine x_aload hC 4 rfl dL_publish_267 ?_
      refine x_iload hC 9 rfl dL_publish_269 ?_
      obtain ⟨v15, h⟩ := h
      refine x_iald (a := a7) hC k14 v15 dL_publish_271 ?_
      refine x_sipush (v := 8191) hC dL_publish_272 (by decide) ?_
      refine x_iand hC dL_publish_275 ?_
      refine x_icmp_ge (tgt := 283) hC dL_publish_276 (by decide) (fun c12 => ?_) (fun c12 => ?_)
      · have h := h.1 c12
        refine x_iinc (v' := x247_12 + 1) (L' := [(12, .int (x247_12 + 1)), (0, .int p1), (1, .ref (ρ a2)), (3, .ref (ρ a4)), (5, .ref (ρ a6)), (6, .ref (ρ a7)), (7, .ref (ρ a8)), (8, .ref (ρ a9)), (9, .int (p1 / 11)), (10, .int y3), (11, .int x247_11)]) hC 10 rfl dL_publish_283 rfl (by decide) (by first | rfl | simp (decide := true) [rv_cat, cat_ref, cat_int]) ?_
        refine x_goto (tgt := 247) hC dL_publish_286 (by decide) ?_
        refine xJ.sub (L' := [(0, .int p1), (1, .ref (ρ a2)), (3, .ref (ρ a4)), (5, .ref (ρ a6)), (6, .ref (ρ a7)), (7, .ref (ρ a8)), (8, .ref (ρ a9)), (9, .int (p1 / 11)), (10, .int y3), (11, .int x247_11), (12, .int (x247_12 + 1))]) [1, 2, 3, 4, 5, 6, 7, 8, 9, 10, 0] rfl ?_
        exact ih _ _ _ h hKK
      · have h := h.2 c12
        refine x_iload hC 10 rfl dL_publish_279 ?_
        refine x_istore (L' := [(11, .int x247_12), (0, .int p1), (1, .ref (ρ a2)), (3, .ref (ρ a4)), (5, .ref (ρ a6)), (6, .ref (ρ a7)), (7, .ref (ρ a8)), (8, .ref (ρ a9)), (9, .int (p1 / 11)), (10, .int y3), (12, .int x247_12)]) hC dL_publish_281 (by decide) (by first | rfl | simp (decide := true) [rv_cat, cat_ref, cat_int]) ?_
        refine x_iinc (v' := x247_12 + 1) (L' := [(12, .int (x247_12 + 1)), (11, .int x247_12), (0, .int p1), (1, .ref (ρ a2)), (3, .ref (ρ a4)), (5, .ref (ρ a6)), (6, .ref (ρ a7)), (7, .ref (ρ a8)), (8, .ref (ρ a9)), (9, .int (p1 / 11)), (10, .int y3)]) hC 10 rfl dL_publish_283 rfl (by decide) (by first | rfl | simp (decide := true) [rv_cat, cat_ref, cat_int]) ?_
        refine x_goto (tgt := 247) hC dL_publish_286 (by decide) ?_
        refine xJ.sub (L' := [(0, .int p1), (1, .ref (ρ a2)), (3, .ref (ρ a4)), (5, .ref (ρ a6)), (6, .ref (ρ a7)), (7, .ref (ρ a8)), (8, .ref (ρ a9)), (9, .int (p1 / 11)), (10, .int y3), (11, .int x247_12), (12, .int (x247_12 + 1))]) [2, 3, 4, 5, 6, 7, 8, 9, 10, 1, 0] rfl ?_
        exact ih _ _ _ h hKK
set_option maxHeartbeats 4000000 in
set_option maxRecDepth 20000 in
theorem mlL_publish_354 {G : xG} {X : xX} (hC : xC G X "PlantServerLaw" cL_publish 16 rmL_publish) (hr : xRt X (some .int)) (htab : xTab X []) (p1 : Int32) (a2 : Nm) (a4 : Nm) (a6 : Nm) (a7 : Nm) (a8 : Nm) (a9 : Nm) (y3 : Int32) (y5 : Int32) (x295_12 : Int32) (x295_13 : Int32) (x3 : Int32) {ρ : Nm → Nat} (h0 : xR0 X ρ) (k n : Nat) (hk1 : k ≤ 0) (hk2 : n ≤ 0) (K : Int32 → PH → Prop) (Q : Int32 → PH → Prop) (Xp : String → PH → Prop) : ∀ (f354 : Nat) (x354_15 : Int32) (τ354 : PH), lL_publish_354 p1 a2 a4 a6 a7 a8 a9 y3 y5 x295_12 x295_13 x3 K Q f354 x354_15 τ354 → (∀ (x354_15 : Int32) (τ354 : PH), K x354_15 τ354 → xJ G X (xT X (eI ρ Q) Xp G rmL_publish) 16 ρ τ354 k n 397 [(0, .int p1), (1, .ref (ρ a2)), (3, .ref (ρ a4)), (5, .ref (ρ a6)), (6, .ref (ρ a7)), (7, .ref (ρ a8)), (8, .ref (ρ a9)), (10, .int y3), (11, .int y5), (12, .int x295_12), (13, .int x295_13), (14, .int x3), (15, .int x354_15)] []) → xJ G X (xT X (eI ρ Q) Xp G rmL_publish) 16 ρ τ354 k n 354 [(0, .int p1), (1, .ref (ρ a2)), (3, .ref (ρ a4)), (5, .ref (ρ a6)), (6, .ref (ρ a7)), (7, .ref (ρ a8)), (8, .ref (ρ a9)), (10, .int y3), (11, .int y5), (12, .int x295_12), (13, .int x295_13), (14, .int x3), (15, .int x354_15)] [] := by
  intro f354
  induction f354 with
  | zero => intro x354_15 τ354 h hKK; unfold lL_publish_354 at h; exact h.elim
  | succ f354 ih =>
    intro x354_15 τ354 h hKK
    unfold lL_publish_354 at h
    refine x_iload hC 12 rfl dL_publish_354 ?_
    refine x_iload hC 11 rfl dL_publish_356 ?_
    refine x_icmp_ge (tgt := 397) hC dL_publish_358 (by decide) (fun c16 => ?_) (fun c16 => ?_)
    · have h := h.1 c16
      exact hKK _ _ h
    · have h := h.2 c16
      refine x_aload hC 5 rfl dL_publish_361 ?_
      refine x_bipush (v := 6) hC dL_publish_363 (by decide) ?_
      refine x_iload hC 8 rfl dL_publish_365 ?_
      refine x_imul hC dL_publish_367 ?_
      refine x_iload hC 9 rfl dL_publish_368 ?_
      refine x_iadd hC dL_publish_370 ?_
      refine x_iload hC 12 rfl dL_publish_371 ?_
      refine x_iadd hC dL_publish_373 ?_
      refine x_iload hC 10 rfl dL_publish_374 ?_
      refine x_bipush (v := 16) hC dL_publish_376 (by decide) ?_
      refine x_aload hC 3 rfl dL_publish_378 ?_
      refine x_iconst (v := 4) hC dL_publish_380 (by decide) ?_
      refine x_iload hC 10 rfl dL_publish_381 ?_
      refine x_imul hC dL_publish_383 ?_
      refine x_iload hC 12 rfl dL_publish_384 ?_
      refine x_iadd hC dL_publish_386 ?_
      obtain ⟨k18, h⟩ := h
      obtain ⟨v19, h⟩ := h
      refine x_iald (a := a6) hC k18 v19 dL_publish_387 ?_
      refine x_imul hC dL_publish_388 ?_
      refine x_iadd hC dL_publish_389 ?_
      obtain ⟨k19, h⟩ := h
      obtain ⟨v20, h⟩ := h
      refine x_iast (a := a8) hC k19 v20 dL_publish_390 ?_
      refine xJ.nmH (fun σ8 e7 => ?_)
      have h := h σ8 e7
      have r7 : hR σ8 = hR τ354 ∧ hL σ8 = hL τ354 := by rw [e7]; exact ⟨rfl, rfl⟩
      refine x_iinc (v' := x354_15 + 1) (L' := [(15, .int (x354_15 + 1)), (0, .int p1), (1, .ref (ρ a2)), (3, .ref (ρ a4)), (5, .ref (ρ a6)), (6, .ref (ρ a7)), (7, .ref (ρ a8)), (8, .ref (ρ a9)), (10, .int y3), (11, .int y5), (12, .int x295_12), (13, .int x295_13), (14, .int x3)]) hC 12 rfl dL_publish_391 rfl (by decide) (by first | rfl | simp (decide := true) [rv_cat, cat_ref, cat_int]) ?_
      refine x_goto (tgt := 354) hC dL_publish_394 (by decide) ?_
      refine xJ.sub (L' := [(0, .int p1), (1, .ref (ρ a2)), (3, .ref (ρ a4)), (5, .ref (ρ a6)), (6, .ref (ρ a7)), (7, .ref (ρ a8)), (8, .ref (ρ a9)), (10, .int y3), (11, .int y5), (12, .int x295_12), (13, .int x295_13), (14, .int x3), (15, .int (x354_15 + 1))]) [1, 2, 3, 4, 5, 6, 7, 8, 9, 10, 11, 12, 0] rfl ?_
      exact ih _ _ h hKK
set_option maxHeartbeats 4000000 in
set_option maxRecDepth 20000 in
theorem mlL_publish_401 {G : xG} {X : xX} (hC : xC G X "PlantServerLaw" cL_publish 16 rmL_publish) (hr : xRt X (some .int)) (htab : xTab X []) (p1 : Int32) (a2 : Nm) (a4 : Nm) (a6 : Nm) (a7 : Nm) (a8 : Nm) (a9 : Nm) (y3 : Int32) (y5 : Int32) (x295_12 : Int32) (x295_13 : Int32) (x3 : Int32) {ρ : Nm → Nat} (h0 : xR0 X ρ) (k n : Nat) (hk1 : k ≤ 0) (hk2 : n ≤ 0) (K : Int32 → PH → Prop) (Q : Int32 → PH → Prop) (Xp : String → PH → Prop) : ∀ (f401 : Nat) (x401_15 : Int32) (τ401 : PH), lL_publish_401 p1 a2 a4 a6 a7 a8 a9 y3 y5 x295_12 x295_13 x3 K Q f401 x401_15 τ401 → (∀ (x401_15 : Int32) (τ401 : PH), K x401_15 τ401 → xJ G X (xT X (eI ρ Q) Xp G rmL_publish) 16 ρ τ401 k n 439 [(0, .int p1), (1, .ref (ρ a2)), (3, .ref (ρ a4)), (5, .ref (ρ a6)), (6, .ref (ρ a7)), (7, .ref (ρ a8)), (8, .ref (ρ a9)), (10, .int y3), (11, .int y5), (12, .int x295_12), (13, .int x295_13), (14, .int x3), (15, .int x401_15)] []) → xJ G X (xT X (eI ρ Q) Xp G rmL_publish) 16 ρ τ401 k n 401 [(0, .int p1), (1, .ref (ρ a2)), (3, .ref (ρ a4)), (5, .ref (ρ a6)), (6, .ref (ρ a7)), (7, .ref (ρ a8)), (8, .ref (ρ a9)), (10, .int y3), (11, .int y5), (12, .int x295_12), (13, .int x295_13), (14, .int x3), (15, .int x401_15)] [] := by
  intro f401
  induction f401 with
  | zero => intro x401_15 τ401 h hKK; unfold lL_publish_401 at h; exact h.elim
  | succ f401 ih =>
    intro x401_15 τ401 h hKK
    unfold lL_publish_401 at h
    refine x_iload hC 12 rfl dL_publish_401 ?_
    refine x_aload_n hC 2 rfl dL_publish_403 ?_
    refine x_iload hC 10 rfl dL_publish_404 ?_
    obtain ⟨k20, h⟩ := h
    obtain ⟨v21, h⟩ := h
    refine x_iald (a := a4) hC k20 v21 dL_publish_406 ?_
    refine x_icmp_ge (tgt := 439) hC dL_publish_407 (by decide) (fun c17 => ?_) (fun c17 => ?_)
    · have h := h.1 c17
      exact hKK _ _ h
    · have h := h.2 c17
      refine x_aload hC 3 rfl dL_publish_410 ?_
      refine x_iconst (v := 4) hC dL_publish_412 (by decide) ?_
      refine x_iload hC 10 rfl dL_publish_413 ?_
      refine x_imul hC dL_publish_415 ?_
      refine x_iload hC 12 rfl dL_publish_416 ?_
      refine x_iadd hC dL_publish_418 ?_
      refine x_iload hC 11 rfl dL_publish_419 ?_
      refine x_isub hC dL_publish_421 ?_
      refine x_aload hC 3 rfl dL_publish_422 ?_
      refine x_iconst (v := 4) hC dL_publish_424 (by decide) ?_
      refine x_iload hC 10 rfl dL_publish_425 ?_
      refine x_imul hC dL_publish_427 ?_
      refine x_iload hC 12 rfl dL_publish_428 ?_
      refine x_iadd hC dL_publish_430 ?_
      obtain ⟨k21, h⟩ := h
      obtain ⟨v22, h⟩ := h
      refine x_iald (a := a6) hC k21 v22 dL_publish_431 ?_
      obtain ⟨v23, h⟩ := h
      refine x_iast (a := a6) hC k21 v23 dL_publish_432 ?_
      refine xJ.nmH (fun σ9 e8 => ?_)
      have h := h σ9 e8
      have r8 : hR σ9 = hR τ401 ∧ hL σ9 = hL τ401 := by rw [e8]; exact ⟨rfl, rfl⟩
      refine x_iinc (v' := x401_15 + 1) (L' := [(15, .int (x401_15 + 1)), (0, .int p1), (1, .ref (ρ a2)), (3, .ref (ρ a4)), (5, .ref (ρ a6)), (6, .ref (ρ a7)), (7, .ref (ρ a8)), (8, .ref (ρ a9)), (10, .int y3), (11, .int y5), (12, .int x295_12), (13, .int x295_13), (14, .int x3)]) hC 12 rfl dL_publish_433 rfl (by decide) (by first | rfl | simp (decide := true) [rv_cat, cat_ref, cat_int]) ?_
      refine x_goto (tgt := 401) hC dL_publish_436 (by decide) ?_
      refine xJ.sub (L' := [(0, .int p1), (1, .ref (ρ a2)), (3, .ref (ρ a4)), (5, .ref (ρ a6)), (6, .ref (ρ a7)), (7, .ref (ρ a8)), (8, .ref (ρ a9)), (10, .int y3), (11, .int y5), (12, .int x295_12), (13, .int x295_13), (14, .int x3), (15, .int (x401_15 + 1))]) [1, 2, 3, 4, 5, 6, 7, 8, 9, 10, 11, 12, 0] rfl ?_
      exact ih _ _ h hKK
set_option maxHeartbeats 4000000 in
set_option maxRecDepth 20000 in
theorem mlL_publish_295 {G : xG} {X : xX} (hC : xC G X "PlantServerLaw" cL_publish 16 rmL_publish) (hr : xRt X (some .int)) (htab : xTab X []) (p1 : Int32) (a2 : Nm) (a4 : Nm) (a6 : Nm) (a7 : Nm) (a8 : Nm) (a9 : Nm) (y3 : Int32) (y5 : Int32) {ρ : Nm → Nat} (h0 : xR0 X ρ) (k n : Nat) (hk1 : k ≤ 0) (hk2 : n ≤ 0) (K : Int32 → Int32 → PH → Prop) (Q : Int32 → PH → Prop) (Xp : String → PH → Prop) : ∀ (f295 : Nat) (x295_12 : Int32) (x295_13 : Int32) (τ295 : PH), lL_publish_295 p1 a2 a4 a6 a7 a8 a9 y3 y5 K Q f295 x295_12 x295_13 τ295 → (∀ (x295_12 : Int32) (x295_13 : Int32) (τ295 : PH), K x295_12 x295_13 τ295 → xJ G X (xT X (eI ρ Q) Xp G rmL_publish) 16 ρ τ295 k n 461 [(0, .int p1), (1, .ref (ρ a2)), (3, .ref (ρ a4)), (5, .ref (ρ a6)), (6, .ref (ρ a7)), (7, .ref (ρ a8)), (8, .ref (ρ a9)), (10, .int y3), (11, .int y5), (12, .int x295_12), (13, .int x295_13)] []) → xJ G X (xT X (eI ρ Q) Xp G rmL_publish) 16 ρ τ295 k n 295 [(0, .int p1), (1, .ref (ρ a2)), (3, .ref (ρ a4)), (5, .ref (ρ a6)), (6, .ref (ρ a7)), (7, .ref (ρ a8)), (8, .ref (ρ a9)), (10, .int y3), (11, .int y5), (12, .int x295_12), (13, .int x295_13)] [] := by
  intro f295
  induction f295 with
  | zero => intro x295_12 x295_13 τ295 h hKK; unfold lL_publish_295 at h; exact h.elim
  | succ f295 ih =>
    intro x295_12 x295_13 τ295 h hKK
    unfold lL_publish_295 at h
    refine x_iload hC 10 rfl dL_publish_295 ?_
    refine x_aload hC 6 rfl dL_publish_297 ?_
    refine x_iconst (v := 2) hC dL_publish_299 (by decide) ?_
    obtain ⟨k15, h⟩ := h
    obtain ⟨v16, h⟩ := h
    refine x_iald (a := a9) hC k15 v16 dL_publish_300 ?_
    refine x_icmp_ge (tgt := 461) hC dL_publish_301 (by decide) (fun c13 => ?_) (fun c13 => ?_)
    · have h := h.1 c13
      exact hKK _ _ _ h
    · have h := h.2 c13
      refine x_iload hC 7 rfl dL_publish_304 ?_
      refine x_iload hC 10 rfl dL_publish_306 ?_
      refine x_ishr hC dL_publish_308 ?_
      refine x_iconst (v := 1) hC dL_publish_309 (by decide) ?_
      refine x_iand hC dL_publish_310 ?_
      refine x_if_ne (tgt := 317) hC dL_publish_311 (by decide) (fun c14 => ?_) (fun c14 => ?_)
      · have h := h.1 c14
        refine x_aload_n hC 2 rfl dL_publish_317 ?_
        refine x_iload hC 10 rfl dL_publish_318 ?_
        obtain ⟨k16, h⟩ := h
        obtain ⟨v17, h⟩ := h
        refine x_iald (a := a4) hC k16 v17 dL_publish_320 ?_
        refine x_aload_n hC 1 rfl dL_publish_321 ?_
        refine x_iload_n hC 0 rfl dL_publish_322 ?_
        refine x_bipush (v := 6) hC dL_publish_323 (by decide) ?_
        refine x_iadd hC dL_publish_325 ?_
        obtain ⟨k17, h⟩ := h
        obtain ⟨v18, h⟩ := h
        refine x_iald (a := a2) hC k17 v18 dL_publish_326 ?_
        refine x_iload hC 9 rfl dL_publish_327 ?_
        refine x_isub hC dL_publish_329 ?_
        refine xJ.jV (pcJ := 349) (stJ := []) h (fun x3 h => ?_) (fun K2 hk2 h => ?_)
        · refine x_istore (L' := [(14, .int x3), (0, .int p1), (1, .ref (ρ a2)), (3, .ref (ρ a4)), (5, .ref (ρ a6)), (6, .ref (ρ a7)), (7, .ref (ρ a8)), (8, .ref (ρ a9)), (10, .int y3), (11, .int y5), (12, .int x295_12), (13, .int x295_13)]) hC dL_publish_349 (by decide) (by first | rfl | simp (decide := true) [rv_cat, cat_ref, cat_int]) ?_
          refine x_iconst (v := 0) hC dL_publish_351 (by decide) ?_
          refine x_istore (L' := [(15, .int 0), (14, .int x3), (0, .int p1), (1, .ref (ρ a2)), (3, .ref (ρ a4)), (5, .ref (ρ a6)), (6, .ref (ρ a7)), (7, .ref (ρ a8)), (8, .ref (ρ a9)), (10, .int y3), (11, .int y5), (12, .int x295_12), (13, .int x295_13)]) hC dL_publish_352 (by decide) (by first | rfl | simp (decide := true) [rv_cat, cat_ref, cat_int]) ?_
          refine xJ.sub (L' := [(0, .int p1), (1, .ref (ρ a2)), (3, .ref (ρ a4)), (5, .ref (ρ a6)), (6, .ref (ρ a7)), (7, .ref (ρ a8)), (8, .ref (ρ a9)), (10, .int y3), (11, .int y5), (12, .int x295_12), (13, .int x295_13), (14, .int x3), (15, .int 0)]) [2, 3, 4, 5, 6, 7, 8, 9, 10, 11, 12, 1, 0] rfl ?_
          obtain ⟨f354, h⟩ := h
          refine mlL_publish_354 hC hr htab p1 a2 a4 a6 a7 a8 a9 y3 y5 x295_12 x295_13 x3 h0 (k + 0) (n + 0) (show _ ≤ 0 by omega) (show _ ≤ 0 by omega) _ Q _ f354 _ _ h (fun y7 τ4 h => ?_)
          refine x_iload hC 11 rfl dL_publish_397 ?_
          refine x_istore (L' := [(15, .int x3), (0, .int p1), (1, .ref (ρ a2)), (3, .ref (ρ a4)), (5, .ref (ρ a6)), (6, .ref (ρ a7)), (7, .ref (ρ a8)), (8, .ref (ρ a9)), (10, .int y3), (11, .int y5), (12, .int x295_12), (13, .int x295_13), (14, .int x3)]) hC dL_publish_399 (by decide) (by first | rfl | simp (decide := true) [rv_cat, cat_ref, cat_int]) ?_
          refine xJ.sub (L' := [(0, .int p1), (1, .ref (ρ a2)), (3, .ref (ρ a4)), (5, .ref (ρ a6)), (6, .ref (ρ a7)), (7, .ref (ρ a8)), (8, .ref (ρ a9)), (10, .int y3), (11, .int y5), (12, .int x295_12), (13, .int x295_13), (14, .int x3), (15, .int x3)]) [1, 2, 3, 4, 5, 6, 7, 8, 9, 10, 11, 12, 0] rfl ?_
          obtain ⟨f401, h⟩ := h
          refine mlL_publish_401 hC hr htab p1 a2 a4 a6 a7 a8 a9 y3 y5 x295_12 x295_13 x3 h0 (k + 0) (n + 0) (show _ ≤ 0 by omega) (show _ ≤ 0 by omega) _ Q _ f401 _ _ h (fun y8 τ5 h => ?_)
          refine x_aload_n hC 2 rfl dL_publish_439 ?_
          refine x_iload hC 10 rfl dL_publish_440 ?_
          refine x_dup2 hC (by first | rfl | exact rv_cat) (by first | rfl | exact rv_cat) dL_publish_442 ?_
          obtain ⟨k22, h⟩ := h
          obtain ⟨v24, h⟩ := h
          refine x_iald (a := a4) hC k22 v24 dL_publish_443 ?_
          refine x_iload hC 11 rfl dL_publish_444 ?_
          refine x_isub hC dL_publish_446 ?_
          refine x_iast (a := a4) hC k22 v24 dL_publish_447 ?_
          refine xJ.nmH (fun σ10 e9 => ?_)
          have h := h σ10 e9
          have r9 : hR σ10 = hR τ5 ∧ hL σ10 = hL τ5 := by rw [e9]; exact ⟨rfl, rfl⟩
          refine x_iload hC 9 rfl dL_publish_448 ?_
          refine x_iload hC 11 rfl dL_publish_450 ?_
          refine x_iadd hC dL_publish_452 ?_
          refine x_istore (L' := [(12, .int (x295_12 + x3)), (0, .int p1), (1, .ref (ρ a2)), (3, .ref (ρ a4)), (5, .ref (ρ a6)), (6, .ref (ρ a7)), (7, .ref (ρ a8)), (8, .ref (ρ a9)), (10, .int y3), (11, .int y5), (13, .int x295_13), (14, .int x3), (15, .int y8)]) hC dL_publish_453 (by decide) (by first | rfl | simp (decide := true) [rv_cat, cat_ref, cat_int]) ?_
          refine x_iinc (v' := x295_13 + 1) (L' := [(13, .int (x295_13 + 1)), (12, .int (x295_12 + x3)), (0, .int p1), (1, .ref (ρ a2)), (3, .ref (ρ a4)), (5, .ref (ρ a6)), (6, .ref (ρ a7)), (7, .ref (ρ a8)), (8, .ref (ρ a9)), (10, .int y3), (11, .int y5), (14, .int x3), (15, .int y8)]) hC 10 rfl dL_publish_455 rfl (by decide) (by first | rfl | simp (decide := true) [rv_cat, cat_ref, cat_int]) ?_
          refine x_goto (tgt := 295) hC dL_publish_458 (by decide) ?_
          refine xJ.sub (L' := [(0, .int p1), (1, .ref (ρ a2)), (3, .ref (ρ a4)), (5, .ref (ρ a6)), (6, .ref (ρ a7)), (7, .ref (ρ a8)), (8, .ref (ρ a9)), (10, .int y3), (11, .int y5), (12, .int (x295_12 + x3)), (13, .int (x295_13 + 1))]) [2, 3, 4, 5, 6, 7, 8, 9, 10, 1, 0] rfl ?_
          exact ih _ _ _ h hKK
        · refine x_icmp_ge (tgt := 340) hC dL_publish_330 (by decide) (fun c15 => ?_) (fun c15 => ?_)
          · have h := h.1 c15
            refine x_aload_n hC 1 rfl dL_publish_340 ?_
            refine x_iload_n hC 0 rfl dL_publish_341 ?_
            refine x_bipush (v := 6) hC dL_publish_342 (by decide) ?_
            refine x_iadd hC dL_publish_344 ?_
            refine x_iald (a := a2) hC k17 v18 dL_publish_345 ?_
            refine x_iload hC 9 rfl dL_publish_346 ?_
            refine x_isub hC dL_publish_348 ?_
            exact hk2 _ h
          · have h := h.2 c15
            refine x_aload_n hC 2 rfl dL_publish_333 ?_
            refine x_iload hC 10 rfl dL_publish_334 ?_
            refine x_iald (a := a4) hC k16 v17 dL_publish_336 ?_
            refine x_goto (tgt := 349) hC dL_publish_337 (by decide) ?_
            exact hk2 _ h
      · have h := h.2 c14
        refine x_goto (tgt := 455) hC dL_publish_314 (by decide) ?_
        refine x_iinc (v' := x295_13 + 1) (L' := [(13, .int (x295_13 + 1)), (0, .int p1), (1, .ref (ρ a2)), (3, .ref (ρ a4)), (5, .ref (ρ a6)), (6, .ref (ρ a7)), (7, .ref (ρ a8)), (8, .ref (ρ a9)), (10, .int y3), (11, .int y5), (12, .int x295_12)]) hC 10 rfl dL_publish_455 rfl (by decide) (by first | rfl | simp (decide := true) [rv_cat, cat_ref, cat_int]) ?_
        refine x_goto (tgt := 295) hC dL_publish_458 (by decide) ?_
        refine xJ.sub (L' := [(0, .int p1), (1, .ref (ρ a2)), (3, .ref (ρ a4)), (5, .ref (ρ a6)), (6, .ref (ρ a7)), (7, .ref (ρ a8)), (8, .ref (ρ a9)), (10, .int y3), (11, .int y5), (12, .int x295_12), (13, .int (x295_13 + 1))]) [1, 2, 3, 4, 5, 6, 7, 8, 9, 10, 0] rfl ?_
        exact ih _ _ _ h hKK
set_option maxHeartbeats 4000000 in
set_option maxRecDepth 20000 in
theorem mL_publish (l : Launch) (hl : l.stackTraces = false) (G : xG) (ρ : Nm → Nat) (p1 : Int32) (a2 : Nm) (a3 : Nm) (a4 : Nm) (a5 : Nm) (a6 : Nm) (a7 : Nm) (a8 : Nm) (a9 : Nm) (σ : PH) (Q : Int32 → PH → Prop) (h : wL_publish p1 a2 a3 a4 a5 a6 a7 a8 a9 σ Q) : xMet l yL_publish (.code yL_publish cL_publish 16 (some .int)) rmL_publish G ρ σ [.int p1, .ref (ρ a2), .ref (ρ a3), .ref (ρ a4), .ref (ρ a5), .ref (ρ a6), .ref (ρ a7), .ref (ρ a8), .ref (ρ a9)] (eI ρ Q) xNo := by
  refine xMet.of hl (by decide +kernel) (Nat.le_of_ble_eq_true rfl) (fun X hC hr hn htab h0 => ?_)
  have hC : xC G X "PlantServerLaw" cL_publish 16 rmL_publish := hC
  unfold wL_publish at h
  refine xJ.loc (L' := [(0, .int p1), (1, .ref (ρ a2)), (2, .ref (ρ a3)), (3, .ref (ρ a4)), (4, .ref (ρ a5)), (5, .ref (ρ a6)), (6, .ref (ρ a7)), (7, .ref (ρ a8)), (8, .ref (ρ a9))]) rfl ?_
  refine x_iload_n hC 0 rfl dL_publish_0 ?_
  refine x_bipush (v := 11) hC dL_publish_1 (by decide) ?_
  obtain ⟨nz1, h⟩ := h
  refine x_idiv hC nz1 dL_publish_3 ?_
  refine x_istore (L' := [(9, .int (p1 / 11)), (0, .int p1), (1, .ref (ρ a2)), (2, .ref (ρ a3)), (3, .ref (ρ a4)), (4, .ref (ρ a5)), (5, .ref (ρ a6)), (6, .ref (ρ a7)), (7, .ref (ρ a8)), (8, .ref (ρ a9))]) hC dL_publish_4 (by decide) (by first | rfl | simp (decide := true) [rv_cat, cat_ref, cat_int]) ?_
  refine x_iconst (v := 0) hC dL_publish_6 (by decide) ?_
  refine x_istore (L' := [(10, .int 0), (9, .int (p1 / 11)), (0, .int p1), (1, .ref (ρ a2)), (2, .ref (ρ a3)), (3, .ref (ρ a4)), (4, .ref (ρ a5)), (5, .ref (ρ a6)), (6, .ref (ρ a7)), (7, .ref (ρ a8)), (8, .ref (ρ a9))]) hC dL_publish_7 (by decide) (by first | rfl | simp (decide := true) [rv_cat, cat_ref, cat_int]) ?_
  refine x_iconst (v := 0) hC dL_publish_9 (by decide) ?_
  refine x_istore (L' := [(11, .int 0), (10, .int 0), (9, .int (p1 / 11)), (0, .int p1), (1, .ref (ρ a2)), (2, .ref (ρ a3)), (3, .ref (ρ a4)), (4, .ref (ρ a5)), (5, .ref (ρ a6)), (6, .ref (ρ a7)), (7, .ref (ρ a8)), (8, .ref (ρ a9))]) hC dL_publish_10 (by decide) (by first | rfl | simp (decide := true) [rv_cat, cat_ref, cat_int]) ?_
  refine xJ.sub (L' := [(0, .int p1), (1, .ref (ρ a2)), (2, .ref (ρ a3)), (3, .ref (ρ a4)), (4, .ref (ρ a5)), (5, .ref (ρ a6)), (6, .ref (ρ a7)), (7, .ref (ρ a8)), (8, .ref (ρ a9)), (9, .int (p1 / 11)), (10, .int 0), (11, .int 0)]) [3, 4, 5, 6, 7, 8, 9, 10, 11, 2, 1, 0] rfl ?_
  obtain ⟨f12, h⟩ := h
  refine mlL_publish_12 hC hr htab p1 a2 a3 a4 a5 a6 a7 a8 a9 h0 (0) (0) (by decide) (by decide) _ Q _ f12 _ _ _ h (fun y1 y2 τ1 h => ?_)
  refine x_iconst (v := 0) hC dL_publish_75 (by decide) ?_
  refine x_istore (L' := [(11, .int 0), (0, .int p1), (1, .ref (ρ a2)), (2, .ref (ρ a3)), (3, .ref (ρ a4)), (4, .ref (ρ a5)), (5, .ref (ρ a6)), (6, .ref (ρ a7)), (7, .ref (ρ a8)), (8, .ref (ρ a9)), (9, .int (p1 / 11)), (10, .int y1)]) hC dL_publish_76 (by decide) (by first | rfl | simp (decide := true) [rv_cat, cat_ref, cat_int]) ?_
  refine xJ.sub (L' := [(0, .int p1), (1, .ref (ρ a2)), (3, .ref (ρ a4)), (5, .ref (ρ a6)), (6, .ref (ρ a7)), (7, .ref (ρ a8)), (8, .ref (ρ a9)), (9, .int (p1 / 11)), (10, .int y1), (11, .int 0)]) [1, 2, 4, 6, 7, 8, 9, 10, 11, 0] rfl ?_
  obtain ⟨f78, h⟩ := h
  refine mlL_publish_78 hC hr htab p1 a2 a4 a6 a7 a8 a9 y1 h0 (0) (0) (by decide) (by decide) _ Q _ f78 _ _ _ h (fun y3 y4 τ2 h => ?_)
  refine x_iload hC 8 rfl dL_publish_111 ?_
  refine xJ.jS (pcJ := 149) (stJ := []) h (fun σ3 h => ?_) (fun K1 hk1 h => ?_)
  · refine x_aload hC 6 rfl dL_publish_149 ?_
    refine x_iconst (v := 3) hC dL_publish_151 (by decide) ?_
    obtain ⟨k10, h⟩ := h
    obtain ⟨v10, h⟩ := h
    refine x_iald (a := a9) hC k10 v10 dL_publish_152 ?_
    refine x_if_ne (tgt := 186) hC dL_publish_153 (by decide) (fun c9 => ?_) (fun c9 => ?_)
    · have h := h.1 c9
      refine x_aload hC 6 rfl dL_publish_186 ?_
      refine x_iconst (v := 3) hC dL_publish_188 (by decide) ?_
      refine x_dup2 hC (by first | rfl | exact rv_cat) (by first | rfl | exact rv_cat) dL_publish_189 ?_
      refine x_iald (a := a9) hC k10 v10 dL_publish_190 ?_
      refine x_iconst (v := 1) hC dL_publish_191 (by decide) ?_
      refine x_isub hC dL_publish_192 ?_
      refine x_iast (a := a9) hC k10 v10 dL_publish_193 ?_
      refine xJ.nmH (fun σ4 e3 => ?_)
      have h := h σ4 e3
      have r3 : hR σ4 = hR σ3 ∧ hL σ4 = hL σ3 := by rw [e3]; exact ⟨rfl, rfl⟩
      refine x_aload_n hC 1 rfl dL_publish_194 ?_
      refine x_iload_n hC 0 rfl dL_publish_195 ?_
      refine x_bipush (v := 7) hC dL_publish_196 (by decide) ?_
      refine x_iadd hC dL_publish_198 ?_
      refine x_iconst (v := 0) hC dL_publish_199 (by decide) ?_
      obtain ⟨k11, h⟩ := h
      obtain ⟨v11, h⟩ := h
      refine x_iast (a := a2) hC k11 (by rw [r3.2]; exact v11) dL_publish_200 ?_
      refine xJ.nmH (fun σ5 e4 => ?_)
      have h := h σ5 e4
      have r4 : hR σ5 = hR σ3 ∧ hL σ5 = hL σ3 := by rw [e4]; exact ⟨r3.1, r3.2⟩
      refine x_aload_n hC 1 rfl dL_publish_201 ?_
      refine x_iload_n hC 0 rfl dL_publish_202 ?_
      refine x_bipush (v := 8) hC dL_publish_203 (by decide) ?_
      refine x_iadd hC dL_publish_205 ?_
      refine x_iconst (v := 0) hC dL_publish_206 (by decide) ?_
      have k12 : hK σ5 a2 = 9 := by rw [e4]; exact k11
      obtain ⟨v12, h⟩ := h
      refine x_iast (a := a2) hC k12 (by rw [r4.2]; exact v12) dL_publish_207 ?_
      refine xJ.nmH (fun σ6 e5 => ?_)
      have h := h σ6 e5
      have r5 : hR σ6 = hR σ3 ∧ hL σ6 = hL σ3 := by rw [e5]; exact ⟨r4.1, r4.2⟩
      refine x_iload hC 8 rfl dL_publish_208 ?_
      refine x_if_ne (tgt := 225) hC dL_publish_210 (by decide) (fun c10 => ?_) (fun c10 => ?_)
      · have h := h.1 c10
        refine x_aload_n hC 1 rfl dL_publish_225 ?_
        refine x_iload_n hC 0 rfl dL_publish_226 ?_
        refine x_bipush (v := 9) hC dL_publish_227 (by decide) ?_
        refine x_iadd hC dL_publish_229 ?_
        refine x_dup2 hC (by first | rfl | exact rv_cat) (by first | rfl | exact rv_cat) dL_publish_230 ?_
        have k13 : hK σ6 a2 = 9 := by rw [e5]; exact k12
        obtain ⟨v13, h⟩ := h
        refine x_iald (a := a2) hC k13 (by rw [r5.2]; exact v13) dL_publish_231 ?_
        refine x_iconst (v := 1) hC dL_publish_232 (by decide) ?_
        refine x_iadd hC dL_publish_233 ?_
        refine x_iast (a := a2) hC k13 (by rw [r5.2]; exact v13) dL_publish_234 ?_
        refine xJ.nmH (fun σ7 e6 => ?_)
        have h := h σ7 e6
        have r6 : hR σ7 = hR σ3 ∧ hL σ7 = hL σ3 := by rw [e6]; exact ⟨r5.1, r5.2⟩
        refine x_iconst (v := 5) hC dL_publish_235 (by decide) ?_
        refine x_iload hC 7 rfl dL_publish_236 ?_
        refine x_imul hC dL_publish_238 ?_
        refine x_istore (L' := [(11, .int (5 * (p1 / 11))), (0, .int p1), (1, .ref (ρ a2)), (3, .ref (ρ a4)), (5, .ref (ρ a6)), (6, .ref (ρ a7)), (7, .ref (ρ a8)), (8, .ref (ρ a9)), (9, .int (p1 / 11)), (10, .int y3)]) hC dL_publish_239 (by decide) (by first | rfl | simp (decide := true) [rv_cat, cat_ref, cat_int]) ?_
        refine x_iconst (v := 5) hC dL_publish_241 (by decide) ?_
        refine x_iload hC 8 rfl dL_publish_242 ?_
        refine x_imul hC dL_publish_244 ?_
        refine x_istore (L' := [(12, .int (5 * (p1 / 11))), (11, .int (5 * (p1 / 11))), (0, .int p1), (1, .ref (ρ a2)), (3, .ref (ρ a4)), (5, .ref (ρ a6)), (6, .ref (ρ a7)), (7, .ref (ρ a8)), (8, .ref (ρ a9)), (9, .int (p1 / 11)), (10, .int y3)]) hC dL_publish_245 (by decide) (by first | rfl | simp (decide := true) [rv_cat, cat_ref, cat_int]) ?_
        refine xJ.sub (L' := [(0, .int p1), (1, .ref (ρ a2)), (3, .ref (ρ a4)), (5, .ref (ρ a6)), (6, .ref (ρ a7)), (7, .ref (ρ a8)), (8, .ref (ρ a9)), (9, .int (p1 / 11)), (10, .int y3), (11, .int (5 * (p1 / 11))), (12, .int (5 * (p1 / 11)))]) [2, 3, 4, 5, 6, 7, 8, 9, 10, 1, 0] rfl ?_
        obtain ⟨f247, h⟩ := h
        refine mlL_publish_247 hC hr htab p1 a2 a4 a6 a7 a8 a9 y3 h0 (0) (0) (by decide) (by decide) _ Q _ f247 _ _ _ h (fun y5 y6 τ3 h => ?_)
        refine x_iconst (v := 0) hC dL_publish_289 (by decide) ?_
        refine x_istore (L' := [(12, .int 0), (0, .int p1), (1, .ref (ρ a2)), (3, .ref (ρ a4)), (5, .ref (ρ a6)), (6, .ref (ρ a7)), (7, .ref (ρ a8)), (8, .ref (ρ a9)), (9, .int (p1 / 11)), (10, .int y3), (11, .int y5)]) hC dL_publish_290 (by decide) (by first | rfl | simp (decide := true) [rv_cat, cat_ref, cat_int]) ?_
        refine x_iconst (v := 0) hC dL_publish_292 (by decide) ?_
        refine x_istore (L' := [(13, .int 0), (12, .int 0), (0, .int p1), (1, .ref (ρ a2)), (3, .ref (ρ a4)), (5, .ref (ρ a6)), (6, .ref (ρ a7)), (7, .ref (ρ a8)), (8, .ref (ρ a9)), (9, .int (p1 / 11)), (10, .int y3), (11, .int y5)]) hC dL_publish_293 (by decide) (by first | rfl | simp (decide := true) [rv_cat, cat_ref, cat_int]) ?_
        refine xJ.sub (L' := [(0, .int p1), (1, .ref (ρ a2)), (3, .ref (ρ a4)), (5, .ref (ρ a6)), (6, .ref (ρ a7)), (7, .ref (ρ a8)), (8, .ref (ρ a9)), (10, .int y3), (11, .int y5), (12, .int 0), (13, .int 0)]) [2, 3, 4, 5, 6, 7, 8, 10, 11, 1, 0] rfl ?_
        obtain ⟨f295, h⟩ := h
        refine mlL_publish_295 hC hr htab p1 a2 a4 a6 a7 a8 a9 y3 y5 h0 (0) (0) (by decide) (by decide) _ Q _ f295 _ _ _ h (fun y9 y10 τ6 h => ?_)
        refine x_aload hC 4 rfl dL_publish_461 ?_
        refine x_iload hC 8 rfl dL_publish_463 ?_
        refine x_aload_n hC 1 rfl dL_publish_465 ?_
        refine x_iload_n hC 0 rfl dL_publish_466 ?_
        refine x_bipush (v := 9) hC dL_publish_467 (by decide) ?_
        refine x_iadd hC dL_publish_469 ?_
        obtain ⟨k23, h⟩ := h
        obtain ⟨v25, h⟩ := h
        refine x_iald (a := a2) hC k23 v25 dL_publish_470 ?_
        refine x_sipush (v := 8192) hC dL_publish_471 (by decide) ?_
        refine x_iload hC 9 rfl dL_publish_474 ?_
        refine x_imul hC dL_publish_476 ?_
        refine x_iadd hC dL_publish_477 ?_
        obtain ⟨k24, h⟩ := h
        obtain ⟨v26, h⟩ := h
        refine x_iast (a := a7) hC k24 v26 dL_publish_478 ?_
        refine xJ.nmH (fun σ11 e10 => ?_)
        have h := h σ11 e10
        have r10 : hR σ11 = hR τ6 ∧ hL σ11 = hL τ6 := by rw [e10]; exact ⟨rfl, rfl⟩
        refine x_iconst (v := 1) hC dL_publish_479 (by decide) ?_
        exact x_iret hC hr dL_publish_480 (by decide) (by decide) ⟨rfl, _, rfl, h⟩
      · have h := h.2 c10
        refine x_aload_n hC 1 rfl dL_publish_213 ?_
        refine x_iload_n hC 0 rfl dL_publish_214 ?_
        refine x_bipush (v := 10) hC dL_publish_215 (by decide) ?_
        refine x_iadd hC dL_publish_217 ?_
        refine x_dup2 hC (by first | rfl | exact rv_cat) (by first | rfl | exact rv_cat) dL_publish_218 ?_
        have k25 : hK σ6 a2 = 9 := by rw [e5]; exact k12
        obtain ⟨v27, h⟩ := h
        refine x_iald (a := a2) hC k25 (by rw [r5.2]; exact v27) dL_publish_219 ?_
        refine x_iconst (v := 1) hC dL_publish_220 (by decide) ?_
        refine x_iadd hC dL_publish_221 ?_
        refine x_iast (a := a2) hC k25 (by rw [r5.2]; exact v27) dL_publish_222 ?_
        refine xJ.nmH (fun σ12 e11 => ?_)
        have h := h σ12 e11
        have r11 : hR σ12 = hR σ3 ∧ hL σ12 = hL σ3 := by rw [e11]; exact ⟨r5.1, r5.2⟩
        refine x_iconst (v := 1) hC dL_publish_223 (by decide) ?_
        exact x_iret hC hr dL_publish_224 (by decide) (by decide) ⟨rfl, _, rfl, h⟩
    · have h := h.2 c9
      refine x_aload_n hC 1 rfl dL_publish_156 ?_
      refine x_iload_n hC 0 rfl dL_publish_157 ?_
      refine x_bipush (v := 8) hC dL_publish_158 (by decide) ?_
      refine x_iadd hC dL_publish_160 ?_
      refine x_dup2 hC (by first | rfl | exact rv_cat) (by first | rfl | exact rv_cat) dL_publish_161 ?_
      obtain ⟨k26, h⟩ := h
      obtain ⟨v28, h⟩ := h
      refine x_iald (a := a2) hC k26 v28 dL_publish_162 ?_
      refine x_iconst (v := 1) hC dL_publish_163 (by decide) ?_
      refine x_iadd hC dL_publish_164 ?_
      refine x_iast (a := a2) hC k26 v28 dL_publish_165 ?_
      refine xJ.nmH (fun σ13 e12 => ?_)
      have h := h σ13 e12
      have r12 : hR σ13 = hR σ3 ∧ hL σ13 = hL σ3 := by rw [e12]; exact ⟨rfl, rfl⟩
      refine x_aload_n hC 1 rfl dL_publish_166 ?_
      refine x_iload_n hC 0 rfl dL_publish_167 ?_
      refine x_bipush (v := 8) hC dL_publish_168 (by decide) ?_
      refine x_iadd hC dL_publish_170 ?_
      have k27 : hK σ13 a2 = 9 := by rw [e12]; exact k26
      refine x_iald (a := a2) hC k27 (by rw [r12.2]; exact v28) dL_publish_171 ?_
      refine x_aload_n hC 1 rfl dL_publish_172 ?_
      refine x_iload_n hC 0 rfl dL_publish_173 ?_
      refine x_iconst (v := 4) hC dL_publish_174 (by decide) ?_
      refine x_iadd hC dL_publish_175 ?_
      obtain ⟨v29, h⟩ := h
      refine x_iald (a := a2) hC k27 (by rw [r12.2]; exact v29) dL_publish_176 ?_
      refine x_icmp_ne (tgt := 184) hC dL_publish_177 (by decide) (fun c18 => ?_) (fun c18 => ?_)
      · have h := h.1 c18
        refine x_iconst (v := 0) hC dL_publish_184 (by decide) ?_
        exact x_iret hC hr dL_publish_185 (by decide) (by decide) ⟨rfl, _, rfl, h⟩
      · have h := h.2 c18
        refine x_aload_n hC 1 rfl dL_publish_180 ?_
        refine x_iload_n hC 0 rfl dL_publish_181 ?_
        refine x_iconst (v := 0) hC dL_publish_182 (by decide) ?_
        obtain ⟨v30, h⟩ := h
        refine x_iast (a := a2) hC k27 (by rw [r12.2]; exact v30) dL_publish_183 ?_
        refine xJ.nmH (fun σ14 e13 => ?_)
        have h := h σ14 e13
        have r13 : hR σ14 = hR σ3 ∧ hL σ14 = hL σ3 := by rw [e13]; exact ⟨r12.1, r12.2⟩
        refine x_iconst (v := 0) hC dL_publish_184 (by decide) ?_
        exact x_iret hC hr dL_publish_185 (by decide) (by decide) ⟨rfl, _, rfl, h⟩
  · refine x_if_ne (tgt := 142) hC dL_publish_113 (by decide) (fun c7 => ?_) (fun c7 => ?_)
    · have h := h.1 c7
      refine x_aload_n hC 1 rfl dL_publish_142 ?_
      refine x_iload_n hC 0 rfl dL_publish_143 ?_
      refine x_bipush (v := 7) hC dL_publish_144 (by decide) ?_
      refine x_iadd hC dL_publish_146 ?_
      refine x_iconst (v := 0) hC dL_publish_147 (by decide) ?_
      obtain ⟨k7, h⟩ := h
      obtain ⟨v7, h⟩ := h
      refine x_iast (a := a2) hC k7 v7 dL_publish_148 ?_
      refine xJ.nmH (fun σ1 e1 => ?_)
      have h := h σ1 e1
      have r1 : hR σ1 = hR τ2 ∧ hL σ1 = hL τ2 := by rw [e1]; exact ⟨rfl, rfl⟩
      exact hk1 _ h
    · have h := h.2 c7
      refine x_aload_n hC 1 rfl dL_publish_116 ?_
      refine x_iload_n hC 0 rfl dL_publish_117 ?_
      refine x_bipush (v := 7) hC dL_publish_118 (by decide) ?_
      refine x_iadd hC dL_publish_120 ?_
      refine x_dup2 hC (by first | rfl | exact rv_cat) (by first | rfl | exact rv_cat) dL_publish_121 ?_
      obtain ⟨k8, h⟩ := h
      obtain ⟨v8, h⟩ := h
      refine x_iald (a := a2) hC k8 v8 dL_publish_122 ?_
      refine x_iconst (v := 1) hC dL_publish_123 (by decide) ?_
      refine x_iadd hC dL_publish_124 ?_
      refine x_iast (a := a2) hC k8 v8 dL_publish_125 ?_
      refine xJ.nmH (fun σ2 e2 => ?_)
      have h := h σ2 e2
      have r2 : hR σ2 = hR τ2 ∧ hL σ2 = hL τ2 := by rw [e2]; exact ⟨rfl, rfl⟩
      refine x_aload_n hC 1 rfl dL_publish_126 ?_
      refine x_iload_n hC 0 rfl dL_publish_127 ?_
      refine x_bipush (v := 7) hC dL_publish_128 (by decide) ?_
      refine x_iadd hC dL_publish_130 ?_
      have k9 : hK σ2 a2 = 9 := by rw [e2]; exact k8
      refine x_iald (a := a2) hC k9 (by rw [r2.2]; exact v8) dL_publish_131 ?_
      refine x_aload_n hC 1 rfl dL_publish_132 ?_
      refine x_iload_n hC 0 rfl dL_publish_133 ?_
      refine x_iconst (v := 3) hC dL_publish_134 (by decide) ?_
      refine x_iadd hC dL_publish_135 ?_
      obtain ⟨v9, h⟩ := h
      refine x_iald (a := a2) hC k9 (by rw [r2.2]; exact v9) dL_publish_136 ?_
      refine x_icmp_ge (tgt := 149) hC dL_publish_137 (by decide) (fun c8 => ?_) (fun c8 => ?_)
      · have h := h.1 c8
        exact hk1 _ h
      · have h := h.2 c8
        refine x_iconst (v := 0) hC dL_publish_140 (by decide) ?_
        exact x_iret hC hr dL_publish_141 (by decide) (by decide) ⟨rfl, _, rfl, h⟩
