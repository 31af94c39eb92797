theorem dL_law_0 : decode cL_law 0 = .ok (.new 9, 3) := by decide +kernel
theorem dL_law_3 : decode cL_law 3 = .ok (.dup, 1) := by decide +kernel
theorem dL_law_4 : decode cL_law 4 = .ok (.invokespecial 163, 3) := by decide +kernel
theorem dL_law_7 : decode cL_law 7 = .ok (.astore_n 1, 1) := by decide +kernel
theorem dL_law_8 : decode cL_law 8 = .ok (.iconst 3, 1) := by decide +kernel
theorem dL_law_9 : decode cL_law 9 = .ok (.newarray .int, 2) := by decide +kernel
theorem dL_law_11 : decode cL_law 11 = .ok (.astore_n 2, 1) := by decide +kernel
theorem dL_law_12 : decode cL_law 12 = .ok (.bipush 22, 2) := by decide +kernel
theorem dL_law_14 : decode cL_law 14 = .ok (.newarray .int, 2) := by decide +kernel
theorem dL_law_16 : decode cL_law 16 = .ok (.astore_n 3, 1) := by decide +kernel
theorem dL_law_17 : decode cL_law 17 = .ok (.bipush 10, 2) := by decide +kernel
theorem dL_law_19 : decode cL_law 19 = .ok (.newarray .int, 2) := by decide +kernel
theorem dL_law_21 : decode cL_law 21 = .ok (.astore 4, 2) := by decide +kernel
theorem dL_law_23 : decode cL_law 23 = .ok (.bipush 10, 2) := by decide +kernel
theorem dL_law_25 : decode cL_law 25 = .ok (.newarray .int, 2) := by decide +kernel
theorem dL_law_27 : decode cL_law 27 = .ok (.astore 5, 2) := by decide +kernel
theorem dL_law_29 : decode cL_law 29 = .ok (.bipush 10, 2) := by decide +kernel
theorem dL_law_31 : decode cL_law 31 = .ok (.newarray .int, 2) := by decide +kernel
theorem dL_law_33 : decode cL_law 33 = .ok (.astore 6, 2) := by decide +kernel
theorem dL_law_35 : decode cL_law 35 = .ok (.bipush 10, 2) := by decide +kernel
theorem dL_law_37 : decode cL_law 37 = .ok (.newarray .int, 2) := by decide +kernel
theorem dL_law_39 : decode cL_law 39 = .ok (.astore 7, 2) := by decide +kernel
theorem dL_law_41 : decode cL_law 41 = .ok (.bipush 10, 2) := by decide +kernel
theorem dL_law_43 : decode cL_law 43 = .ok (.newarray .int, 2) := by decide +kernel
theorem dL_law_45 : decode cL_law 45 = .ok (.astore 8, 2) := by decide +kernel
theorem dL_law_47 : decode cL_law 47 = .ok (.bipush 10, 2) := by decide +kernel
theorem dL_law_49 : decode cL_law 49 = .ok (.newarray .int, 2) := by decide +kernel
theorem dL_law_51 : decode cL_law 51 = .ok (.astore 9, 2) := by decide +kernel
theorem dL_law_53 : decode cL_law 53 = .ok (.bipush 40, 2) := by decide +kernel
theorem dL_law_55 : decode cL_law 55 = .ok (.newarray .int, 2) := by decide +kernel
theorem dL_law_57 : decode cL_law 57 = .ok (.astore 10, 2) := by decide +kernel
theorem dL_law_59 : decode cL_law 59 = .ok (.bipush 10, 2) := by decide +kernel
theorem dL_law_61 : decode cL_law 61 = .ok (.newarray .int, 2) := by decide +kernel
theorem dL_law_63 : decode cL_law 63 = .ok (.astore 11, 2) := by decide +kernel
theorem dL_law_65 : decode cL_law 65 = .ok (.bipush 60, 2) := by decide +kernel
theorem dL_law_67 : decode cL_law 67 = .ok (.newarray .int, 2) := by decide +kernel
theorem dL_law_69 : decode cL_law 69 = .ok (.astore 12, 2) := by decide +kernel
theorem dL_law_71 : decode cL_law 71 = .ok (.iconst 4, 1) := by decide +kernel
theorem dL_law_72 : decode cL_law 72 = .ok (.newarray .int, 2) := by decide +kernel
theorem dL_law_74 : decode cL_law 74 = .ok (.astore 13, 2) := by decide +kernel
theorem dL_law_76 : decode cL_law 76 = .ok (.aload_n 1, 1) := by decide +kernel
theorem dL_law_77 : decode cL_law 77 = .ok (.iconst 0, 1) := by decide +kernel
theorem dL_law_78 : decode cL_law 78 = .ok (.aload_n 3, 1) := by decide +kernel
theorem dL_law_79 : decode cL_law 79 = .ok (.aload 4, 2) := by decide +kernel
theorem dL_law_81 : decode cL_law 81 = .ok (.aload 7, 2) := by decide +kernel
theorem dL_law_83 : decode cL_law 83 = .ok (.aload 8, 2) := by decide +kernel
theorem dL_law_85 : decode cL_law 85 = .ok (.aload 11, 2) := by decide +kernel
theorem dL_law_87 : decode cL_law 87 = .ok (.aload 12, 2) := by decide +kernel
theorem dL_law_89 : decode cL_law 89 = .ok (.aload 13, 2) := by decide +kernel
theorem dL_law_91 : decode cL_law 91 = .ok (.invokestatic 164, 3) := by decide +kernel
theorem dL_law_94 : decode cL_law 94 = .ok (.ifCond .ne 5, 3) := by decide +kernel
theorem dL_law_97 : decode cL_law 97 = .ok (.iconst 0, 1) := by decide +kernel
theorem dL_law_98 : decode cL_law 98 = .ok (.ireturn, 1) := by decide +kernel
theorem dL_law_99 : decode cL_law 99 = .ok (.iconst 0, 1) := by decide +kernel
theorem dL_law_100 : decode cL_law 100 = .ok (.istore 14, 2) := by decide +kernel
theorem dL_law_102 : decode cL_law 102 = .ok (.iload 14, 2) := by decide +kernel
theorem dL_law_104 : decode cL_law 104 = .ok (.sipush 140, 3) := by decide +kernel
theorem dL_law_107 : decode cL_law 107 = .ok (.if_icmp .ge 177, 3) := by decide +kernel
theorem dL_law_110 : decode cL_law 110 = .ok (.aload_n 0, 1) := by decide +kernel
theorem dL_law_111 : decode cL_law 111 = .ok (.iconst 3, 1) := by decide +kernel
theorem dL_law_112 : decode cL_law 112 = .ok (.iload 14, 2) := by decide +kernel
theorem dL_law_114 : decode cL_law 114 = .ok (.imul, 1) := by decide +kernel
theorem dL_law_115 : decode cL_law 115 = .ok (.invokestatic 168, 3) := by decide +kernel
theorem dL_law_118 : decode cL_law 118 = .ok (.istore 15, 2) := by decide +kernel
theorem dL_law_120 : decode cL_law 120 = .ok (.aload_n 0, 1) := by decide +kernel
theorem dL_law_121 : decode cL_law 121 = .ok (.iconst 3, 1) := by decide +kernel
theorem dL_law_122 : decode cL_law 122 = .ok (.iload 14, 2) := by decide +kernel
theorem dL_law_124 : decode cL_law 124 = .ok (.imul, 1) := by decide +kernel
theorem dL_law_125 : decode cL_law 125 = .ok (.iconst 1, 1) := by decide +kernel
theorem dL_law_126 : decode cL_law 126 = .ok (.iadd, 1) := by decide +kernel
theorem dL_law_127 : decode cL_law 127 = .ok (.invokestatic 168, 3) := by decide +kernel
theorem dL_law_130 : decode cL_law 130 = .ok (.istore 16, 2) := by decide +kernel
theorem dL_law_132 : decode cL_law 132 = .ok (.aload_n 0, 1) := by decide +kernel
theorem dL_law_133 : decode cL_law 133 = .ok (.iconst 3, 1) := by decide +kernel
theorem dL_law_134 : decode cL_law 134 = .ok (.iload 14, 2) := by decide +kernel
theorem dL_law_136 : decode cL_law 136 = .ok (.imul, 1) := by decide +kernel
theorem dL_law_137 : decode cL_law 137 = .ok (.iconst 2, 1) := by decide +kernel
theorem dL_law_138 : decode cL_law 138 = .ok (.iadd, 1) := by decide +kernel
theorem dL_law_139 : decode cL_law 139 = .ok (.invokestatic 168, 3) := by decide +kernel
theorem dL_law_142 : decode cL_law 142 = .ok (.istore 17, 2) := by decide +kernel
theorem dL_law_144 : decode cL_law 144 = .ok (.iload 14, 2) := by decide +kernel
theorem dL_law_146 : decode cL_law 146 = .ok (.iconst 2, 1) := by decide +kernel
theorem dL_law_147 : decode cL_law 147 = .ok (.if_icmp .ge 7, 3) := by decide +kernel
theorem dL_law_150 : decode cL_law 150 = .ok (.iconst 0, 1) := by decide +kernel
theorem dL_law_151 : decode cL_law 151 = .ok (.goto 21, 3) := by decide +kernel
theorem dL_law_154 : decode cL_law 154 = .ok (.iload 14, 2) := by decide +kernel
theorem dL_law_156 : decode cL_law 156 = .ok (.bipush 6, 2) := by decide +kernel
theorem dL_law_158 : decode cL_law 158 = .ok (.if_icmp .ge 7, 3) := by decide +kernel
theorem dL_law_161 : decode cL_law 161 = .ok (.iconst 2, 1) := by decide +kernel
theorem dL_law_162 : decode cL_law 162 = .ok (.goto 10, 3) := by decide +kernel
theorem dL_law_165 : decode cL_law 165 = .ok (.iload 15, 2) := by decide +kernel
theorem dL_law_167 : decode cL_law 167 = .ok (.bipush 30, 2) := by decide +kernel
theorem dL_law_169 : decode cL_law 169 = .ok (.invokestatic 93, 3) := by decide +kernel
theorem dL_law_172 : decode cL_law 172 = .ok (.istore 18, 2) := by decide +kernel
theorem dL_law_174 : decode cL_law 174 = .ok (.iload 18, 2) := by decide +kernel
theorem dL_law_176 : decode cL_law 176 = .ok (.bipush 10, 2) := by decide +kernel
theorem dL_law_178 : decode cL_law 178 = .ok (.if_icmp .ge 34, 3) := by decide +kernel
theorem dL_law_181 : decode cL_law 181 = .ok (.aload_n 1, 1) := by decide +kernel
theorem dL_law_182 : decode cL_law 182 = .ok (.iload 18, 2) := by decide +kernel
theorem dL_law_184 : decode cL_law 184 = .ok (.iload 16, 2) := by decide +kernel
theorem dL_law_186 : decode cL_law 186 = .ok (.iload 17, 2) := by decide +kernel
theorem dL_law_188 : decode cL_law 188 = .ok (.aload_n 2, 1) := by decide +kernel
theorem dL_law_189 : decode cL_law 189 = .ok (.aload_n 3, 1) := by decide +kernel
theorem dL_law_190 : decode cL_law 190 = .ok (.aload 4, 2) := by decide +kernel
theorem dL_law_192 : decode cL_law 192 = .ok (.aload 5, 2) := by decide +kernel
theorem dL_law_194 : decode cL_law 194 = .ok (.aload 6, 2) := by decide +kernel
theorem dL_law_196 : decode cL_law 196 = .ok (.aload 7, 2) := by decide +kernel
theorem dL_law_198 : decode cL_law 198 = .ok (.aload 8, 2) := by decide +kernel
theorem dL_law_200 : decode cL_law 200 = .ok (.aload 9, 2) := by decide +kernel
theorem dL_law_202 : decode cL_law 202 = .ok (.aload 10, 2) := by decide +kernel
theorem dL_law_204 : decode cL_law 204 = .ok (.aload 13, 2) := by decide +kernel
theorem dL_law_206 : decode cL_law 206 = .ok (.invokestatic 172, 3) := by decide +kernel
theorem dL_law_209 : decode cL_law 209 = .ok (.goto 38, 3) := by decide +kernel
theorem dL_law_212 : decode cL_law 212 = .ok (.aload_n 1, 1) := by decide +kernel
theorem dL_law_213 : decode cL_law 213 = .ok (.iload 18, 2) := by decide +kernel
theorem dL_law_215 : decode cL_law 215 = .ok (.bipush 10, 2) := by decide +kernel
theorem dL_law_217 : decode cL_law 217 = .ok (.isub, 1) := by decide +kernel
theorem dL_law_218 : decode cL_law 218 = .ok (.iload 16, 2) := by decide +kernel
theorem dL_law_220 : decode cL_law 220 = .ok (.iload 17, 2) := by decide +kernel
theorem dL_law_222 : decode cL_law 222 = .ok (.aload_n 2, 1) := by decide +kernel
theorem dL_law_223 : decode cL_law 223 = .ok (.aload_n 3, 1) := by decide +kernel
theorem dL_law_224 : decode cL_law 224 = .ok (.aload 4, 2) := by decide +kernel
theorem dL_law_226 : decode cL_law 226 = .ok (.aload 5, 2) := by decide +kernel
theorem dL_law_228 : decode cL_law 228 = .ok (.aload 6, 2) := by decide +kernel
theorem dL_law_230 : decode cL_law 230 = .ok (.aload 7, 2) := by decide +kernel
theorem dL_law_232 : decode cL_law 232 = .ok (.aload 8, 2) := by decide +kernel
theorem dL_law_234 : decode cL_law 234 = .ok (.aload 9, 2) := by decide +kernel
theorem dL_law_236 : decode cL_law 236 = .ok (.aload 10, 2) := by decide +kernel
theorem dL_law_238 : decode cL_law 238 = .ok (.aload 11, 2) := by decide +kernel
theorem dL_law_240 : decode cL_law 240 = .ok (.aload 12, 2) := by decide +kernel
theorem dL_law_242 : decode cL_law 242 = .ok (.aload 13, 2) := by decide +kernel
theorem dL_law_244 : decode cL_law 244 = .ok (.invokestatic 176, 3) := by decide +kernel
theorem dL_law_247 : decode cL_law 247 = .ok (.istore 19, 2) := by decide +kernel
theorem dL_law_249 : decode cL_law 249 = .ok (.iload 19, 2) := by decide +kernel
theorem dL_law_251 : decode cL_law 251 = .ok (.ifCond .eq 25, 3) := by decide +kernel
theorem dL_law_254 : decode cL_law 254 = .ok (.aload_n 1, 1) := by decide +kernel
theorem dL_law_255 : decode cL_law 255 = .ok (.iload 16, 2) := by decide +kernel
theorem dL_law_257 : decode cL_law 257 = .ok (.aload_n 3, 1) := by decide +kernel
theorem dL_law_258 : decode cL_law 258 = .ok (.aload 4, 2) := by decide +kernel
theorem dL_law_260 : decode cL_law 260 = .ok (.aload 7, 2) := by decide +kernel
theorem dL_law_262 : decode cL_law 262 = .ok (.aload 8, 2) := by decide +kernel
theorem dL_law_264 : decode cL_law 264 = .ok (.aload 11, 2) := by decide +kernel
theorem dL_law_266 : decode cL_law 266 = .ok (.aload 12, 2) := by decide +kernel
theorem dL_law_268 : decode cL_law 268 = .ok (.aload 13, 2) := by decide +kernel
theorem dL_law_270 : decode cL_law 270 = .ok (.invokestatic 164, 3) := by decide +kernel
theorem dL_law_273 : decode cL_law 273 = .ok (.ifCond .ne 5, 3) := by decide +kernel
theorem dL_law_276 : decode cL_law 276 = .ok (.iconst 0, 1) := by decide +kernel
theorem dL_law_277 : decode cL_law 277 = .ok (.ireturn, 1) := by decide +kernel
theorem dL_law_278 : decode cL_law 278 = .ok (.iinc 14 1, 3) := by decide +kernel
theorem dL_law_281 : decode cL_law 281 = .ok (.goto (-179), 3) := by decide +kernel
