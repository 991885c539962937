theorem dL_isTold_0 : decode cL_isTold 0 = .ok (.iconst 5, 1) := by decide +kernel
theorem dL_isTold_1 : decode cL_isTold 1 = .ok (.newarray .int, 2) := by decide +kernel
theorem dL_isTold_3 : decode cL_isTold 3 = .ok (.astore 7, 2) := by decide +kernel
theorem dL_isTold_5 : decode cL_isTold 5 = .ok (.iconst 0, 1) := by decide +kernel
theorem dL_isTold_6 : decode cL_isTold 6 = .ok (.istore 8, 2) := by decide +kernel
theorem dL_isTold_8 : decode cL_isTold 8 = .ok (.iconst 0, 1) := by decide +kernel
theorem dL_isTold_9 : decode cL_isTold 9 = .ok (.istore 9, 2) := by decide +kernel
theorem dL_isTold_11 : decode cL_isTold 11 = .ok (.iconst 0, 1) := by decide +kernel
theorem dL_isTold_12 : decode cL_isTold 12 = .ok (.istore 10, 2) := by decide +kernel
theorem dL_isTold_14 : decode cL_isTold 14 = .ok (.iload 10, 2) := by decide +kernel
theorem dL_isTold_16 : decode cL_isTold 16 = .ok (.aload_n 2, 1) := by decide +kernel
theorem dL_isTold_17 : decode cL_isTold 17 = .ok (.iconst 4, 1) := by decide +kernel
theorem dL_isTold_18 : decode cL_isTold 18 = .ok (.iaload, 1) := by decide +kernel
theorem dL_isTold_19 : decode cL_isTold 19 = .ok (.if_icmp .ge 163, 3) := by decide +kernel
theorem dL_isTold_22 : decode cL_isTold 22 = .ok (.aload 5, 2) := by decide +kernel
theorem dL_isTold_24 : decode cL_isTold 24 = .ok (.iload 10, 2) := by decide +kernel
theorem dL_isTold_26 : decode cL_isTold 26 = .ok (.iaload, 1) := by decide +kernel
theorem dL_isTold_27 : decode cL_isTold 27 = .ok (.iconst 3, 1) := by decide +kernel
theorem dL_isTold_28 : decode cL_isTold 28 = .ok (.ishr, 1) := by decide +kernel
theorem dL_isTold_29 : decode cL_isTold 29 = .ok (.bipush 7, 2) := by decide +kernel
theorem dL_isTold_31 : decode cL_isTold 31 = .ok (.iand, 1) := by decide +kernel
theorem dL_isTold_32 : decode cL_isTold 32 = .ok (.istore 11, 2) := by decide +kernel
theorem dL_isTold_34 : decode cL_isTold 34 = .ok (.aload_n 0, 1) := by decide +kernel
theorem dL_isTold_35 : decode cL_isTold 35 = .ok (.iload 10, 2) := by decide +kernel
theorem dL_isTold_37 : decode cL_isTold 37 = .ok (.iconst 0, 1) := by decide +kernel
theorem dL_isTold_38 : decode cL_isTold 38 = .ok (.invokestatic 103, 3) := by decide +kernel
theorem dL_isTold_41 : decode cL_isTold 41 = .ok (.aload 5, 2) := by decide +kernel
theorem dL_isTold_43 : decode cL_isTold 43 = .ok (.iload 10, 2) := by decide +kernel
theorem dL_isTold_45 : decode cL_isTold 45 = .ok (.iaload, 1) := by decide +kernel
theorem dL_isTold_46 : decode cL_isTold 46 = .ok (.invokestatic 90, 3) := by decide +kernel
theorem dL_isTold_49 : decode cL_isTold 49 = .ok (.if_icmp .ne 80, 3) := by decide +kernel
theorem dL_isTold_52 : decode cL_isTold 52 = .ok (.aload_n 0, 1) := by decide +kernel
theorem dL_isTold_53 : decode cL_isTold 53 = .ok (.iload 10, 2) := by decide +kernel
theorem dL_isTold_55 : decode cL_isTold 55 = .ok (.iconst 1, 1) := by decide +kernel
theorem dL_isTold_56 : decode cL_isTold 56 = .ok (.invokestatic 103, 3) := by decide +kernel
theorem dL_isTold_59 : decode cL_isTold 59 = .ok (.aload 6, 2) := by decide +kernel
theorem dL_isTold_61 : decode cL_isTold 61 = .ok (.iload 10, 2) := by decide +kernel
theorem dL_isTold_63 : decode cL_isTold 63 = .ok (.iaload, 1) := by decide +kernel
theorem dL_isTold_64 : decode cL_isTold 64 = .ok (.if_icmp .ne 65, 3) := by decide +kernel
theorem dL_isTold_67 : decode cL_isTold 67 = .ok (.aload_n 0, 1) := by decide +kernel
theorem dL_isTold_68 : decode cL_isTold 68 = .ok (.iload 10, 2) := by decide +kernel
theorem dL_isTold_70 : decode cL_isTold 70 = .ok (.iconst 2, 1) := by decide +kernel
theorem dL_isTold_71 : decode cL_isTold 71 = .ok (.invokestatic 103, 3) := by decide +kernel
theorem dL_isTold_74 : decode cL_isTold 74 = .ok (.aload 5, 2) := by decide +kernel
theorem dL_isTold_76 : decode cL_isTold 76 = .ok (.iload 10, 2) := by decide +kernel
theorem dL_isTold_78 : decode cL_isTold 78 = .ok (.iaload, 1) := by decide +kernel
theorem dL_isTold_79 : decode cL_isTold 79 = .ok (.invokestatic 93, 3) := by decide +kernel
theorem dL_isTold_82 : decode cL_isTold 82 = .ok (.if_icmp .ne 47, 3) := by decide +kernel
theorem dL_isTold_85 : decode cL_isTold 85 = .ok (.aload_n 0, 1) := by decide +kernel
theorem dL_isTold_86 : decode cL_isTold 86 = .ok (.iload 10, 2) := by decide +kernel
theorem dL_isTold_88 : decode cL_isTold 88 = .ok (.iconst 3, 1) := by decide +kernel
theorem dL_isTold_89 : decode cL_isTold 89 = .ok (.invokestatic 103, 3) := by decide +kernel
theorem dL_isTold_92 : decode cL_isTold 92 = .ok (.iload 11, 2) := by decide +kernel
theorem dL_isTold_94 : decode cL_isTold 94 = .ok (.iconst 1, 1) := by decide +kernel
theorem dL_isTold_95 : decode cL_isTold 95 = .ok (.iand, 1) := by decide +kernel
theorem dL_isTold_96 : decode cL_isTold 96 = .ok (.iload 11, 2) := by decide +kernel
theorem dL_isTold_98 : decode cL_isTold 98 = .ok (.iconst 1, 1) := by decide +kernel
theorem dL_isTold_99 : decode cL_isTold 99 = .ok (.ishr, 1) := by decide +kernel
theorem dL_isTold_100 : decode cL_isTold 100 = .ok (.iconst 1, 1) := by decide +kernel
theorem dL_isTold_101 : decode cL_isTold 101 = .ok (.iand, 1) := by decide +kernel
theorem dL_isTold_102 : decode cL_isTold 102 = .ok (.iadd, 1) := by decide +kernel
theorem dL_isTold_103 : decode cL_isTold 103 = .ok (.iload 11, 2) := by decide +kernel
theorem dL_isTold_105 : decode cL_isTold 105 = .ok (.iconst 2, 1) := by decide +kernel
theorem dL_isTold_106 : decode cL_isTold 106 = .ok (.ishr, 1) := by decide +kernel
theorem dL_isTold_107 : decode cL_isTold 107 = .ok (.iadd, 1) := by decide +kernel
theorem dL_isTold_108 : decode cL_isTold 108 = .ok (.if_icmp .ne 21, 3) := by decide +kernel
theorem dL_isTold_111 : decode cL_isTold 111 = .ok (.aload_n 0, 1) := by decide +kernel
theorem dL_isTold_112 : decode cL_isTold 112 = .ok (.iload 10, 2) := by decide +kernel
theorem dL_isTold_114 : decode cL_isTold 114 = .ok (.iconst 4, 1) := by decide +kernel
theorem dL_isTold_115 : decode cL_isTold 115 = .ok (.invokestatic 103, 3) := by decide +kernel
theorem dL_isTold_118 : decode cL_isTold 118 = .ok (.aload 5, 2) := by decide +kernel
theorem dL_isTold_120 : decode cL_isTold 120 = .ok (.iload 10, 2) := by decide +kernel
theorem dL_isTold_122 : decode cL_isTold 122 = .ok (.iaload, 1) := by decide +kernel
theorem dL_isTold_123 : decode cL_isTold 123 = .ok (.invokestatic 75, 3) := by decide +kernel
theorem dL_isTold_126 : decode cL_isTold 126 = .ok (.if_icmp .eq 5, 3) := by decide +kernel
theorem dL_isTold_129 : decode cL_isTold 129 = .ok (.iconst 0, 1) := by decide +kernel
theorem dL_isTold_130 : decode cL_isTold 130 = .ok (.ireturn, 1) := by decide +kernel
theorem dL_isTold_131 : decode cL_isTold 131 = .ok (.aload 7, 2) := by decide +kernel
theorem dL_isTold_133 : decode cL_isTold 133 = .ok (.aload 5, 2) := by decide +kernel
theorem dL_isTold_135 : decode cL_isTold 135 = .ok (.iload 10, 2) := by decide +kernel
theorem dL_isTold_137 : decode cL_isTold 137 = .ok (.iaload, 1) := by decide +kernel
theorem dL_isTold_138 : decode cL_isTold 138 = .ok (.invokestatic 90, 3) := by decide +kernel
theorem dL_isTold_141 : decode cL_isTold 141 = .ok (.dup2, 1) := by decide +kernel
theorem dL_isTold_142 : decode cL_isTold 142 = .ok (.iaload, 1) := by decide +kernel
theorem dL_isTold_143 : decode cL_isTold 143 = .ok (.iconst 1, 1) := by decide +kernel
theorem dL_isTold_144 : decode cL_isTold 144 = .ok (.iadd, 1) := by decide +kernel
theorem dL_isTold_145 : decode cL_isTold 145 = .ok (.iastore, 1) := by decide +kernel
theorem dL_isTold_146 : decode cL_isTold 146 = .ok (.aload 5, 2) := by decide +kernel
theorem dL_isTold_148 : decode cL_isTold 148 = .ok (.iload 10, 2) := by decide +kernel
theorem dL_isTold_150 : decode cL_isTold 150 = .ok (.iaload, 1) := by decide +kernel
theorem dL_isTold_151 : decode cL_isTold 151 = .ok (.invokestatic 90, 3) := by decide +kernel
theorem dL_isTold_154 : decode cL_isTold 154 = .ok (.iconst 3, 1) := by decide +kernel
theorem dL_isTold_155 : decode cL_isTold 155 = .ok (.if_icmp .ne 21, 3) := by decide +kernel
theorem dL_isTold_158 : decode cL_isTold 158 = .ok (.iload 8, 2) := by decide +kernel
theorem dL_isTold_160 : decode cL_isTold 160 = .ok (.aload_n 3, 1) := by decide +kernel
theorem dL_isTold_161 : decode cL_isTold 161 = .ok (.aload 5, 2) := by decide +kernel
theorem dL_isTold_163 : decode cL_isTold 163 = .ok (.iload 10, 2) := by decide +kernel
theorem dL_isTold_165 : decode cL_isTold 165 = .ok (.iaload, 1) := by decide +kernel
theorem dL_isTold_166 : decode cL_isTold 166 = .ok (.invokestatic 75, 3) := by decide +kernel
theorem dL_isTold_169 : decode cL_isTold 169 = .ok (.iaload, 1) := by decide +kernel
theorem dL_isTold_170 : decode cL_isTold 170 = .ok (.invokestatic 96, 3) := by decide +kernel
theorem dL_isTold_173 : decode cL_isTold 173 = .ok (.iadd, 1) := by decide +kernel
theorem dL_isTold_174 : decode cL_isTold 174 = .ok (.istore 8, 2) := by decide +kernel
theorem dL_isTold_176 : decode cL_isTold 176 = .ok (.iinc 10 1, 3) := by decide +kernel
theorem dL_isTold_179 : decode cL_isTold 179 = .ok (.goto (-165), 3) := by decide +kernel
theorem dL_isTold_182 : decode cL_isTold 182 = .ok (.iconst 0, 1) := by decide +kernel
theorem dL_isTold_183 : decode cL_isTold 183 = .ok (.istore 10, 2) := by decide +kernel
theorem dL_isTold_185 : decode cL_isTold 185 = .ok (.iload 10, 2) := by decide +kernel
theorem dL_isTold_187 : decode cL_isTold 187 = .ok (.iconst 5, 1) := by decide +kernel
theorem dL_isTold_188 : decode cL_isTold 188 = .ok (.if_icmp .ge 25, 3) := by decide +kernel
theorem dL_isTold_191 : decode cL_isTold 191 = .ok (.aload_n 0, 1) := by decide +kernel
theorem dL_isTold_192 : decode cL_isTold 192 = .ok (.iload 10, 2) := by decide +kernel
theorem dL_isTold_194 : decode cL_isTold 194 = .ok (.invokestatic 106, 3) := by decide +kernel
theorem dL_isTold_197 : decode cL_isTold 197 = .ok (.aload 7, 2) := by decide +kernel
theorem dL_isTold_199 : decode cL_isTold 199 = .ok (.iload 10, 2) := by decide +kernel
theorem dL_isTold_201 : decode cL_isTold 201 = .ok (.iaload, 1) := by decide +kernel
theorem dL_isTold_202 : decode cL_isTold 202 = .ok (.if_icmp .eq 5, 3) := by decide +kernel
theorem dL_isTold_205 : decode cL_isTold 205 = .ok (.iconst 0, 1) := by decide +kernel
theorem dL_isTold_206 : decode cL_isTold 206 = .ok (.ireturn, 1) := by decide +kernel
theorem dL_isTold_207 : decode cL_isTold 207 = .ok (.iinc 10 1, 3) := by decide +kernel
theorem dL_isTold_210 : decode cL_isTold 210 = .ok (.goto (-25), 3) := by decide +kernel
theorem dL_isTold_213 : decode cL_isTold 213 = .ok (.iconst 0, 1) := by decide +kernel
theorem dL_isTold_214 : decode cL_isTold 214 = .ok (.istore 10, 2) := by decide +kernel
theorem dL_isTold_216 : decode cL_isTold 216 = .ok (.iload 10, 2) := by decide +kernel
theorem dL_isTold_218 : decode cL_isTold 218 = .ok (.iconst 4, 1) := by decide +kernel
theorem dL_isTold_219 : decode cL_isTold 219 = .ok (.if_icmp .ge 282, 3) := by decide +kernel
theorem dL_isTold_222 : decode cL_isTold 222 = .ok (.aload_n 2, 1) := by decide +kernel
theorem dL_isTold_223 : decode cL_isTold 223 = .ok (.iconst 0, 1) := by decide +kernel
theorem dL_isTold_224 : decode cL_isTold 224 = .ok (.iaload, 1) := by decide +kernel
theorem dL_isTold_225 : decode cL_isTold 225 = .ok (.istore 11, 2) := by decide +kernel
theorem dL_isTold_227 : decode cL_isTold 227 = .ok (.iconst 0, 1) := by decide +kernel
theorem dL_isTold_228 : decode cL_isTold 228 = .ok (.istore 12, 2) := by decide +kernel
theorem dL_isTold_230 : decode cL_isTold 230 = .ok (.iconst 0, 1) := by decide +kernel
theorem dL_isTold_231 : decode cL_isTold 231 = .ok (.istore 13, 2) := by decide +kernel
theorem dL_isTold_233 : decode cL_isTold 233 = .ok (.iconst 0, 1) := by decide +kernel
theorem dL_isTold_234 : decode cL_isTold 234 = .ok (.istore 14, 2) := by decide +kernel
theorem dL_isTold_236 : decode cL_isTold 236 = .ok (.iconst 0, 1) := by decide +kernel
theorem dL_isTold_237 : decode cL_isTold 237 = .ok (.istore 15, 2) := by decide +kernel
theorem dL_isTold_239 : decode cL_isTold 239 = .ok (.iconst 0, 1) := by decide +kernel
theorem dL_isTold_240 : decode cL_isTold 240 = .ok (.istore 16, 2) := by decide +kernel
theorem dL_isTold_242 : decode cL_isTold 242 = .ok (.iload 16, 2) := by decide +kernel
theorem dL_isTold_244 : decode cL_isTold 244 = .ok (.aload_n 2, 1) := by decide +kernel
theorem dL_isTold_245 : decode cL_isTold 245 = .ok (.iconst 4, 1) := by decide +kernel
theorem dL_isTold_246 : decode cL_isTold 246 = .ok (.iaload, 1) := by decide +kernel
theorem dL_isTold_247 : decode cL_isTold 247 = .ok (.if_icmp .ge 169, 3) := by decide +kernel
theorem dL_isTold_250 : decode cL_isTold 250 = .ok (.aload 5, 2) := by decide +kernel
theorem dL_isTold_252 : decode cL_isTold 252 = .ok (.iload 16, 2) := by decide +kernel
theorem dL_isTold_254 : decode cL_isTold 254 = .ok (.iaload, 1) := by decide +kernel
theorem dL_isTold_255 : decode cL_isTold 255 = .ok (.invokestatic 93, 3) := by decide +kernel
theorem dL_isTold_258 : decode cL_isTold 258 = .ok (.iload 10, 2) := by decide +kernel
theorem dL_isTold_260 : decode cL_isTold 260 = .ok (.if_icmp .ne 150, 3) := by decide +kernel
theorem dL_isTold_263 : decode cL_isTold 263 = .ok (.aload 5, 2) := by decide +kernel
theorem dL_isTold_265 : decode cL_isTold 265 = .ok (.iload 16, 2) := by decide +kernel
theorem dL_isTold_267 : decode cL_isTold 267 = .ok (.iaload, 1) := by decide +kernel
theorem dL_isTold_268 : decode cL_isTold 268 = .ok (.invokestatic 90, 3) := by decide +kernel
theorem dL_isTold_271 : decode cL_isTold 271 = .ok (.iconst 2, 1) := by decide +kernel
theorem dL_isTold_272 : decode cL_isTold 272 = .ok (.if_icmp .ge 6, 3) := by decide +kernel
theorem dL_isTold_275 : decode cL_isTold 275 = .ok (.goto 135, 3) := by decide +kernel
theorem dL_isTold_278 : decode cL_isTold 278 = .ok (.aload_n 3, 1) := by decide +kernel
theorem dL_isTold_279 : decode cL_isTold 279 = .ok (.aload 5, 2) := by decide +kernel
theorem dL_isTold_281 : decode cL_isTold 281 = .ok (.iload 16, 2) := by decide +kernel
theorem dL_isTold_283 : decode cL_isTold 283 = .ok (.iaload, 1) := by decide +kernel
theorem dL_isTold_284 : decode cL_isTold 284 = .ok (.invokestatic 75, 3) := by decide +kernel
theorem dL_isTold_287 : decode cL_isTold 287 = .ok (.iaload, 1) := by decide +kernel
theorem dL_isTold_288 : decode cL_isTold 288 = .ok (.invokestatic 80, 3) := by decide +kernel
theorem dL_isTold_291 : decode cL_isTold 291 = .ok (.istore 17, 2) := by decide +kernel
theorem dL_isTold_293 : decode cL_isTold 293 = .ok (.aload 6, 2) := by decide +kernel
theorem dL_isTold_295 : decode cL_isTold 295 = .ok (.iload 16, 2) := by decide +kernel
theorem dL_isTold_297 : decode cL_isTold 297 = .ok (.iaload, 1) := by decide +kernel
theorem dL_isTold_298 : decode cL_isTold 298 = .ok (.iload 17, 2) := by decide +kernel
theorem dL_isTold_300 : decode cL_isTold 300 = .ok (.bipush 60, 2) := by decide +kernel
theorem dL_isTold_302 : decode cL_isTold 302 = .ok (.if_icmp .ge 11, 3) := by decide +kernel
theorem dL_isTold_305 : decode cL_isTold 305 = .ok (.iload 17, 2) := by decide +kernel
theorem dL_isTold_307 : decode cL_isTold 307 = .ok (.bipush 60, 2) := by decide +kernel
theorem dL_isTold_309 : decode cL_isTold 309 = .ok (.iadd, 1) := by decide +kernel
theorem dL_isTold_310 : decode cL_isTold 310 = .ok (.goto 7, 3) := by decide +kernel
theorem dL_isTold_313 : decode cL_isTold 313 = .ok (.iconst 2, 1) := by decide +kernel
theorem dL_isTold_314 : decode cL_isTold 314 = .ok (.iload 17, 2) := by decide +kernel
theorem dL_isTold_316 : decode cL_isTold 316 = .ok (.imul, 1) := by decide +kernel
theorem dL_isTold_317 : decode cL_isTold 317 = .ok (.iadd, 1) := by decide +kernel
theorem dL_isTold_318 : decode cL_isTold 318 = .ok (.istore 18, 2) := by decide +kernel
theorem dL_isTold_320 : decode cL_isTold 320 = .ok (.iload 18, 2) := by decide +kernel
theorem dL_isTold_322 : decode cL_isTold 322 = .ok (.iload 11, 2) := by decide +kernel
theorem dL_isTold_324 : decode cL_isTold 324 = .ok (.if_icmp .le 8, 3) := by decide +kernel
theorem dL_isTold_327 : decode cL_isTold 327 = .ok (.iload 18, 2) := by decide +kernel
theorem dL_isTold_329 : decode cL_isTold 329 = .ok (.goto 5, 3) := by decide +kernel
theorem dL_isTold_332 : decode cL_isTold 332 = .ok (.iload 11, 2) := by decide +kernel
theorem dL_isTold_334 : decode cL_isTold 334 = .ok (.istore 11, 2) := by decide +kernel
theorem dL_isTold_336 : decode cL_isTold 336 = .ok (.aload 5, 2) := by decide +kernel
theorem dL_isTold_338 : decode cL_isTold 338 = .ok (.iload 16, 2) := by decide +kernel
theorem dL_isTold_340 : decode cL_isTold 340 = .ok (.iaload, 1) := by decide +kernel
theorem dL_isTold_341 : decode cL_isTold 341 = .ok (.invokestatic 90, 3) := by decide +kernel
theorem dL_isTold_344 : decode cL_isTold 344 = .ok (.iconst 3, 1) := by decide +kernel
theorem dL_isTold_345 : decode cL_isTold 345 = .ok (.if_icmp .ne 6, 3) := by decide +kernel
theorem dL_isTold_348 : decode cL_isTold 348 = .ok (.iconst 1, 1) := by decide +kernel
theorem dL_isTold_349 : decode cL_isTold 349 = .ok (.istore 15, 2) := by decide +kernel
theorem dL_isTold_351 : decode cL_isTold 351 = .ok (.aload 5, 2) := by decide +kernel
theorem dL_isTold_353 : decode cL_isTold 353 = .ok (.iload 16, 2) := by decide +kernel
theorem dL_isTold_355 : decode cL_isTold 355 = .ok (.iaload, 1) := by decide +kernel
theorem dL_isTold_356 : decode cL_isTold 356 = .ok (.invokestatic 90, 3) := by decide +kernel
theorem dL_isTold_359 : decode cL_isTold 359 = .ok (.iconst 4, 1) := by decide +kernel
theorem dL_isTold_360 : decode cL_isTold 360 = .ok (.if_icmp .eq 6, 3) := by decide +kernel
theorem dL_isTold_363 : decode cL_isTold 363 = .ok (.goto 47, 3) := by decide +kernel
theorem dL_isTold_366 : decode cL_isTold 366 = .ok (.iinc 12 1, 3) := by decide +kernel
theorem dL_isTold_369 : decode cL_isTold 369 = .ok (.iload 13, 2) := by decide +kernel
theorem dL_isTold_371 : decode cL_isTold 371 = .ok (.iload 17, 2) := by decide +kernel
theorem dL_isTold_373 : decode cL_isTold 373 = .ok (.iadd, 1) := by decide +kernel
theorem dL_isTold_374 : decode cL_isTold 374 = .ok (.istore 13, 2) := by decide +kernel
theorem dL_isTold_376 : decode cL_isTold 376 = .ok (.iload 14, 2) := by decide +kernel
theorem dL_isTold_378 : decode cL_isTold 378 = .ok (.iload 17, 2) := by decide +kernel
theorem dL_isTold_380 : decode cL_isTold 380 = .ok (.aload 4, 2) := by decide +kernel
theorem dL_isTold_382 : decode cL_isTold 382 = .ok (.iload 10, 2) := by decide +kernel
theorem dL_isTold_384 : decode cL_isTold 384 = .ok (.iaload, 1) := by decide +kernel
theorem dL_isTold_385 : decode cL_isTold 385 = .ok (.imul, 1) := by decide +kernel
theorem dL_isTold_386 : decode cL_isTold 386 = .ok (.iadd, 1) := by decide +kernel
theorem dL_isTold_387 : decode cL_isTold 387 = .ok (.istore 14, 2) := by decide +kernel
theorem dL_isTold_389 : decode cL_isTold 389 = .ok (.iload 9, 2) := by decide +kernel
theorem dL_isTold_391 : decode cL_isTold 391 = .ok (.bipush 100, 2) := by decide +kernel
theorem dL_isTold_393 : decode cL_isTold 393 = .ok (.aload_n 3, 1) := by decide +kernel
theorem dL_isTold_394 : decode cL_isTold 394 = .ok (.aload 5, 2) := by decide +kernel
theorem dL_isTold_396 : decode cL_isTold 396 = .ok (.iload 16, 2) := by decide +kernel
theorem dL_isTold_398 : decode cL_isTold 398 = .ok (.iaload, 1) := by decide +kernel
theorem dL_isTold_399 : decode cL_isTold 399 = .ok (.invokestatic 75, 3) := by decide +kernel
theorem dL_isTold_402 : decode cL_isTold 402 = .ok (.iaload, 1) := by decide +kernel
theorem dL_isTold_403 : decode cL_isTold 403 = .ok (.invokestatic 96, 3) := by decide +kernel
theorem dL_isTold_406 : decode cL_isTold 406 = .ok (.imul, 1) := by decide +kernel
theorem dL_isTold_407 : decode cL_isTold 407 = .ok (.iadd, 1) := by decide +kernel
theorem dL_isTold_408 : decode cL_isTold 408 = .ok (.istore 9, 2) := by decide +kernel
theorem dL_isTold_410 : decode cL_isTold 410 = .ok (.iinc 16 1, 3) := by decide +kernel
theorem dL_isTold_413 : decode cL_isTold 413 = .ok (.goto (-171), 3) := by decide +kernel
theorem dL_isTold_416 : decode cL_isTold 416 = .ok (.iload 9, 2) := by decide +kernel
theorem dL_isTold_418 : decode cL_isTold 418 = .ok (.iload 14, 2) := by decide +kernel
theorem dL_isTold_420 : decode cL_isTold 420 = .ok (.iadd, 1) := by decide +kernel
theorem dL_isTold_421 : decode cL_isTold 421 = .ok (.istore 9, 2) := by decide +kernel
theorem dL_isTold_423 : decode cL_isTold 423 = .ok (.aload_n 0, 1) := by decide +kernel
theorem dL_isTold_424 : decode cL_isTold 424 = .ok (.iload 10, 2) := by decide +kernel
theorem dL_isTold_426 : decode cL_isTold 426 = .ok (.invokestatic 109, 3) := by decide +kernel
theorem dL_isTold_429 : decode cL_isTold 429 = .ok (.iload 11, 2) := by decide +kernel
theorem dL_isTold_431 : decode cL_isTold 431 = .ok (.if_icmp .ne 62, 3) := by decide +kernel
theorem dL_isTold_434 : decode cL_isTold 434 = .ok (.aload_n 0, 1) := by decide +kernel
theorem dL_isTold_435 : decode cL_isTold 435 = .ok (.iload 10, 2) := by decide +kernel
theorem dL_isTold_437 : decode cL_isTold 437 = .ok (.invokestatic 111, 3) := by decide +kernel
theorem dL_isTold_440 : decode cL_isTold 440 = .ok (.iload 11, 2) := by decide +kernel
theorem dL_isTold_442 : decode cL_isTold 442 = .ok (.if_icmp .ne 51, 3) := by decide +kernel
theorem dL_isTold_445 : decode cL_isTold 445 = .ok (.aload_n 0, 1) := by decide +kernel
theorem dL_isTold_446 : decode cL_isTold 446 = .ok (.iload 10, 2) := by decide +kernel
theorem dL_isTold_448 : decode cL_isTold 448 = .ok (.iconst 0, 1) := by decide +kernel
theorem dL_isTold_449 : decode cL_isTold 449 = .ok (.invokestatic 113, 3) := by decide +kernel
theorem dL_isTold_452 : decode cL_isTold 452 = .ok (.iload 12, 2) := by decide +kernel
theorem dL_isTold_454 : decode cL_isTold 454 = .ok (.if_icmp .ne 39, 3) := by decide +kernel
theorem dL_isTold_457 : decode cL_isTold 457 = .ok (.aload_n 0, 1) := by decide +kernel
theorem dL_isTold_458 : decode cL_isTold 458 = .ok (.iload 10, 2) := by decide +kernel
theorem dL_isTold_460 : decode cL_isTold 460 = .ok (.iconst 1, 1) := by decide +kernel
theorem dL_isTold_461 : decode cL_isTold 461 = .ok (.invokestatic 113, 3) := by decide +kernel
theorem dL_isTold_464 : decode cL_isTold 464 = .ok (.iload 13, 2) := by decide +kernel
theorem dL_isTold_466 : decode cL_isTold 466 = .ok (.if_icmp .ne 27, 3) := by decide +kernel
theorem dL_isTold_469 : decode cL_isTold 469 = .ok (.aload_n 0, 1) := by decide +kernel
theorem dL_isTold_470 : decode cL_isTold 470 = .ok (.iload 10, 2) := by decide +kernel
theorem dL_isTold_472 : decode cL_isTold 472 = .ok (.iconst 2, 1) := by decide +kernel
theorem dL_isTold_473 : decode cL_isTold 473 = .ok (.invokestatic 113, 3) := by decide +kernel
theorem dL_isTold_476 : decode cL_isTold 476 = .ok (.iload 15, 2) := by decide +kernel
theorem dL_isTold_478 : decode cL_isTold 478 = .ok (.if_icmp .ne 15, 3) := by decide +kernel
theorem dL_isTold_481 : decode cL_isTold 481 = .ok (.aload_n 0, 1) := by decide +kernel
theorem dL_isTold_482 : decode cL_isTold 482 = .ok (.iload 10, 2) := by decide +kernel
theorem dL_isTold_484 : decode cL_isTold 484 = .ok (.iconst 3, 1) := by decide +kernel
theorem dL_isTold_485 : decode cL_isTold 485 = .ok (.invokestatic 113, 3) := by decide +kernel
theorem dL_isTold_488 : decode cL_isTold 488 = .ok (.iload 14, 2) := by decide +kernel
theorem dL_isTold_490 : decode cL_isTold 490 = .ok (.if_icmp .eq 5, 3) := by decide +kernel
theorem dL_isTold_493 : decode cL_isTold 493 = .ok (.iconst 0, 1) := by decide +kernel
theorem dL_isTold_494 : decode cL_isTold 494 = .ok (.ireturn, 1) := by decide +kernel
theorem dL_isTold_495 : decode cL_isTold 495 = .ok (.iinc 10 1, 3) := by decide +kernel
theorem dL_isTold_498 : decode cL_isTold 498 = .ok (.goto (-282), 3) := by decide +kernel
theorem dL_isTold_501 : decode cL_isTold 501 = .ok (.iconst 0, 1) := by decide +kernel
theorem dL_isTold_502 : decode cL_isTold 502 = .ok (.istore 10, 2) := by decide +kernel
theorem dL_isTold_504 : decode cL_isTold 504 = .ok (.iload 10, 2) := by decide +kernel
theorem dL_isTold_506 : decode cL_isTold 506 = .ok (.bipush 6, 2) := by decide +kernel
theorem dL_isTold_508 : decode cL_isTold 508 = .ok (.if_icmp .ge 20, 3) := by decide +kernel
theorem dL_isTold_511 : decode cL_isTold 511 = .ok (.iload 9, 2) := by decide +kernel
theorem dL_isTold_513 : decode cL_isTold 513 = .ok (.aload_n 0, 1) := by decide +kernel
theorem dL_isTold_514 : decode cL_isTold 514 = .ok (.iload 10, 2) := by decide +kernel
theorem dL_isTold_516 : decode cL_isTold 516 = .ok (.invokestatic 115, 3) := by decide +kernel
theorem dL_isTold_519 : decode cL_isTold 519 = .ok (.isub, 1) := by decide +kernel
theorem dL_isTold_520 : decode cL_isTold 520 = .ok (.istore 9, 2) := by decide +kernel
theorem dL_isTold_522 : decode cL_isTold 522 = .ok (.iinc 10 1, 3) := by decide +kernel
theorem dL_isTold_525 : decode cL_isTold 525 = .ok (.goto (-21), 3) := by decide +kernel
theorem dL_isTold_528 : decode cL_isTold 528 = .ok (.aload_n 2, 1) := by decide +kernel
theorem dL_isTold_529 : decode cL_isTold 529 = .ok (.iconst 4, 1) := by decide +kernel
theorem dL_isTold_530 : decode cL_isTold 530 = .ok (.iaload, 1) := by decide +kernel
theorem dL_isTold_531 : decode cL_isTold 531 = .ok (.ifCond .le 71, 3) := by decide +kernel
theorem dL_isTold_534 : decode cL_isTold 534 = .ok (.iload_n 1, 1) := by decide +kernel
theorem dL_isTold_535 : decode cL_isTold 535 = .ok (.aload_n 2, 1) := by decide +kernel
theorem dL_isTold_536 : decode cL_isTold 536 = .ok (.iconst 4, 1) := by decide +kernel
theorem dL_isTold_537 : decode cL_isTold 537 = .ok (.iaload, 1) := by decide +kernel
theorem dL_isTold_538 : decode cL_isTold 538 = .ok (.invokestatic 117, 3) := by decide +kernel
theorem dL_isTold_541 : decode cL_isTold 541 = .ok (.istore 10, 2) := by decide +kernel
theorem dL_isTold_543 : decode cL_isTold 543 = .ok (.aload_n 2, 1) := by decide +kernel
theorem dL_isTold_544 : decode cL_isTold 544 = .ok (.iconst 0, 1) := by decide +kernel
theorem dL_isTold_545 : decode cL_isTold 545 = .ok (.iaload, 1) := by decide +kernel
theorem dL_isTold_546 : decode cL_isTold 546 = .ok (.iload_n 1, 1) := by decide +kernel
theorem dL_isTold_547 : decode cL_isTold 547 = .ok (.iconst 4, 1) := by decide +kernel
theorem dL_isTold_548 : decode cL_isTold 548 = .ok (.ishr, 1) := by decide +kernel
theorem dL_isTold_549 : decode cL_isTold 549 = .ok (.sipush 600, 3) := by decide +kernel
theorem dL_isTold_552 : decode cL_isTold 552 = .ok (.invokestatic 117, 3) := by decide +kernel
theorem dL_isTold_555 : decode cL_isTold 555 = .ok (.iadd, 1) := by decide +kernel
theorem dL_isTold_556 : decode cL_isTold 556 = .ok (.istore 11, 2) := by decide +kernel
theorem dL_isTold_558 : decode cL_isTold 558 = .ok (.aload_n 0, 1) := by decide +kernel
theorem dL_isTold_559 : decode cL_isTold 559 = .ok (.iload 10, 2) := by decide +kernel
theorem dL_isTold_561 : decode cL_isTold 561 = .ok (.iload 11, 2) := by decide +kernel
theorem dL_isTold_563 : decode cL_isTold 563 = .ok (.invokestatic 120, 3) := by decide +kernel
theorem dL_isTold_566 : decode cL_isTold 566 = .ok (.aload 5, 2) := by decide +kernel
theorem dL_isTold_568 : decode cL_isTold 568 = .ok (.iload 10, 2) := by decide +kernel
theorem dL_isTold_570 : decode cL_isTold 570 = .ok (.iaload, 1) := by decide +kernel
theorem dL_isTold_571 : decode cL_isTold 571 = .ok (.invokestatic 93, 3) := by decide +kernel
theorem dL_isTold_574 : decode cL_isTold 574 = .ok (.iconst (-1), 1) := by decide +kernel
theorem dL_isTold_575 : decode cL_isTold 575 = .ok (.if_icmp .ne 9, 3) := by decide +kernel
theorem dL_isTold_578 : decode cL_isTold 578 = .ok (.sipush (-7300), 3) := by decide +kernel
theorem dL_isTold_581 : decode cL_isTold 581 = .ok (.goto 16, 3) := by decide +kernel
theorem dL_isTold_584 : decode cL_isTold 584 = .ok (.iload 10, 2) := by decide +kernel
theorem dL_isTold_586 : decode cL_isTold 586 = .ok (.iload 11, 2) := by decide +kernel
theorem dL_isTold_588 : decode cL_isTold 588 = .ok (.aload_n 2, 1) := by decide +kernel
theorem dL_isTold_589 : decode cL_isTold 589 = .ok (.aload_n 3, 1) := by decide +kernel
theorem dL_isTold_590 : decode cL_isTold 590 = .ok (.aload 5, 2) := by decide +kernel
theorem dL_isTold_592 : decode cL_isTold 592 = .ok (.aload 6, 2) := by decide +kernel
theorem dL_isTold_594 : decode cL_isTold 594 = .ok (.invokestatic 99, 3) := by decide +kernel
theorem dL_isTold_597 : decode cL_isTold 597 = .ok (.if_icmp .eq 5, 3) := by decide +kernel
theorem dL_isTold_600 : decode cL_isTold 600 = .ok (.iconst 0, 1) := by decide +kernel
theorem dL_isTold_601 : decode cL_isTold 601 = .ok (.ireturn, 1) := by decide +kernel
theorem dL_isTold_602 : decode cL_isTold 602 = .ok (.iload_n 1, 1) := by decide +kernel
theorem dL_isTold_603 : decode cL_isTold 603 = .ok (.iconst 3, 1) := by decide +kernel
theorem dL_isTold_604 : decode cL_isTold 604 = .ok (.ishr, 1) := by decide +kernel
theorem dL_isTold_605 : decode cL_isTold 605 = .ok (.sipush 21000, 3) := by decide +kernel
theorem dL_isTold_608 : decode cL_isTold 608 = .ok (.invokestatic 117, 3) := by decide +kernel
theorem dL_isTold_611 : decode cL_isTold 611 = .ok (.istore 10, 2) := by decide +kernel
theorem dL_isTold_613 : decode cL_isTold 613 = .ok (.iload 9, 2) := by decide +kernel
theorem dL_isTold_615 : decode cL_isTold 615 = .ok (.ifCond .ne 68, 3) := by decide +kernel
theorem dL_isTold_618 : decode cL_isTold 618 = .ok (.aload_n 0, 1) := by decide +kernel
theorem dL_isTold_619 : decode cL_isTold 619 = .ok (.iconst 5, 1) := by decide +kernel
theorem dL_isTold_620 : decode cL_isTold 620 = .ok (.invokestatic 106, 3) := by decide +kernel
theorem dL_isTold_623 : decode cL_isTold 623 = .ok (.iload 8, 2) := by decide +kernel
theorem dL_isTold_625 : decode cL_isTold 625 = .ok (.if_icmp .ne 58, 3) := by decide +kernel
theorem dL_isTold_628 : decode cL_isTold 628 = .ok (.aload_n 0, 1) := by decide +kernel
theorem dL_isTold_629 : decode cL_isTold 629 = .ok (.bipush 7, 2) := by decide +kernel
theorem dL_isTold_631 : decode cL_isTold 631 = .ok (.invokestatic 106, 3) := by decide +kernel
theorem dL_isTold_634 : decode cL_isTold 634 = .ok (.aload_n 2, 1) := by decide +kernel
theorem dL_isTold_635 : decode cL_isTold 635 = .ok (.iconst 5, 1) := by decide +kernel
theorem dL_isTold_636 : decode cL_isTold 636 = .ok (.iaload, 1) := by decide +kernel
theorem dL_isTold_637 : decode cL_isTold 637 = .ok (.if_icmp .ne 46, 3) := by decide +kernel
theorem dL_isTold_640 : decode cL_isTold 640 = .ok (.aload_n 0, 1) := by decide +kernel
theorem dL_isTold_641 : decode cL_isTold 641 = .ok (.invokevirtual 122, 3) := by decide +kernel
theorem dL_isTold_644 : decode cL_isTold 644 = .ok (.aload_n 2, 1) := by decide +kernel
theorem dL_isTold_645 : decode cL_isTold 645 = .ok (.iconst 0, 1) := by decide +kernel
theorem dL_isTold_646 : decode cL_isTold 646 = .ok (.iaload, 1) := by decide +kernel
theorem dL_isTold_647 : decode cL_isTold 647 = .ok (.if_icmp .ne 36, 3) := by decide +kernel
theorem dL_isTold_650 : decode cL_isTold 650 = .ok (.aload_n 0, 1) := by decide +kernel
theorem dL_isTold_651 : decode cL_isTold 651 = .ok (.iload 10, 2) := by decide +kernel
theorem dL_isTold_653 : decode cL_isTold 653 = .ok (.invokestatic 126, 3) := by decide +kernel
theorem dL_isTold_656 : decode cL_isTold 656 = .ok (.iload 10, 2) := by decide +kernel
theorem dL_isTold_658 : decode cL_isTold 658 = .ok (.aload_n 2, 1) := by decide +kernel
theorem dL_isTold_659 : decode cL_isTold 659 = .ok (.invokestatic 83, 3) := by decide +kernel
theorem dL_isTold_662 : decode cL_isTold 662 = .ok (.if_icmp .ne 21, 3) := by decide +kernel
theorem dL_isTold_665 : decode cL_isTold 665 = .ok (.aload_n 0, 1) := by decide +kernel
theorem dL_isTold_666 : decode cL_isTold 666 = .ok (.aload_n 2, 1) := by decide +kernel
theorem dL_isTold_667 : decode cL_isTold 667 = .ok (.iconst 4, 1) := by decide +kernel
theorem dL_isTold_668 : decode cL_isTold 668 = .ok (.iaload, 1) := by decide +kernel
theorem dL_isTold_669 : decode cL_isTold 669 = .ok (.iconst 0, 1) := by decide +kernel
theorem dL_isTold_670 : decode cL_isTold 670 = .ok (.invokestatic 103, 3) := by decide +kernel
theorem dL_isTold_673 : decode cL_isTold 673 = .ok (.sipush (-7100), 3) := by decide +kernel
theorem dL_isTold_676 : decode cL_isTold 676 = .ok (.if_icmp .ne 7, 3) := by decide +kernel
theorem dL_isTold_679 : decode cL_isTold 679 = .ok (.iconst 1, 1) := by decide +kernel
theorem dL_isTold_680 : decode cL_isTold 680 = .ok (.goto 4, 3) := by decide +kernel
theorem dL_isTold_683 : decode cL_isTold 683 = .ok (.iconst 0, 1) := by decide +kernel
theorem dL_isTold_684 : decode cL_isTold 684 = .ok (.ireturn, 1) := by decide +kernel
theorem dL_reason_0 : decode cL_reason 0 = .ok (.aload_n 3, 1) := by decide +kernel
theorem dL_reason_1 : decode cL_reason 1 = .ok (.aload 4, 2) := by decide +kernel
theorem dL_reason_3 : decode cL_reason 3 = .ok (.iload_n 0, 1) := by decide +kernel
theorem dL_reason_4 : decode cL_reason 4 = .ok (.iaload, 1) := by decide +kernel
theorem dL_reason_5 : decode cL_reason 5 = .ok (.invokestatic 75, 3) := by decide +kernel
theorem dL_reason_8 : decode cL_reason 8 = .ok (.iaload, 1) := by decide +kernel
theorem dL_reason_9 : decode cL_reason 9 = .ok (.istore 6, 2) := by decide +kernel
theorem dL_reason_11 : decode cL_reason 11 = .ok (.iload 6, 2) := by decide +kernel
theorem dL_reason_13 : decode cL_reason 13 = .ok (.invokestatic 80, 3) := by decide +kernel
theorem dL_reason_16 : decode cL_reason 16 = .ok (.istore 7, 2) := by decide +kernel
theorem dL_reason_18 : decode cL_reason 18 = .ok (.iload_n 1, 1) := by decide +kernel
theorem dL_reason_19 : decode cL_reason 19 = .ok (.istore 8, 2) := by decide +kernel
theorem dL_reason_21 : decode cL_reason 21 = .ok (.iload 8, 2) := by decide +kernel
theorem dL_reason_23 : decode cL_reason 23 = .ok (.iload_n 1, 1) := by decide +kernel
theorem dL_reason_24 : decode cL_reason 24 = .ok (.iload 7, 2) := by decide +kernel
theorem dL_reason_26 : decode cL_reason 26 = .ok (.iadd, 1) := by decide +kernel
theorem dL_reason_27 : decode cL_reason 27 = .ok (.if_icmp .ge 32, 3) := by decide +kernel
theorem dL_reason_30 : decode cL_reason 30 = .ok (.aload_n 2, 1) := by decide +kernel
theorem dL_reason_31 : decode cL_reason 31 = .ok (.iconst 1, 1) := by decide +kernel
theorem dL_reason_32 : decode cL_reason 32 = .ok (.iaload, 1) := by decide +kernel
theorem dL_reason_33 : decode cL_reason 33 = .ok (.iload 8, 2) := by decide +kernel
theorem dL_reason_35 : decode cL_reason 35 = .ok (.aload_n 2, 1) := by decide +kernel
theorem dL_reason_36 : decode cL_reason 36 = .ok (.invokestatic 83, 3) := by decide +kernel
theorem dL_reason_39 : decode cL_reason 39 = .ok (.iadd, 1) := by decide +kernel
theorem dL_reason_40 : decode cL_reason 40 = .ok (.bipush 10, 2) := by decide +kernel
theorem dL_reason_42 : decode cL_reason 42 = .ok (.isub, 1) := by decide +kernel
theorem dL_reason_43 : decode cL_reason 43 = .ok (.iload 6, 2) := by decide +kernel
theorem dL_reason_45 : decode cL_reason 45 = .ok (.invokestatic 87, 3) := by decide +kernel
theorem dL_reason_48 : decode cL_reason 48 = .ok (.if_icmp .ge 5, 3) := by decide +kernel
theorem dL_reason_51 : decode cL_reason 51 = .ok (.iconst 1, 1) := by decide +kernel
theorem dL_reason_52 : decode cL_reason 52 = .ok (.ireturn, 1) := by decide +kernel
theorem dL_reason_53 : decode cL_reason 53 = .ok (.iinc 8 1, 3) := by decide +kernel
theorem dL_reason_56 : decode cL_reason 56 = .ok (.goto (-35), 3) := by decide +kernel
theorem dL_reason_59 : decode cL_reason 59 = .ok (.iconst 0, 1) := by decide +kernel
theorem dL_reason_60 : decode cL_reason 60 = .ok (.istore 8, 2) := by decide +kernel
theorem dL_reason_62 : decode cL_reason 62 = .ok (.iload 8, 2) := by decide +kernel
theorem dL_reason_64 : decode cL_reason 64 = .ok (.aload_n 2, 1) := by decide +kernel
theorem dL_reason_65 : decode cL_reason 65 = .ok (.iconst 4, 1) := by decide +kernel
theorem dL_reason_66 : decode cL_reason 66 = .ok (.iaload, 1) := by decide +kernel
theorem dL_reason_67 : decode cL_reason 67 = .ok (.if_icmp .ge 155, 3) := by decide +kernel
theorem dL_reason_70 : decode cL_reason 70 = .ok (.iload 8, 2) := by decide +kernel
theorem dL_reason_72 : decode cL_reason 72 = .ok (.iload_n 0, 1) := by decide +kernel
theorem dL_reason_73 : decode cL_reason 73 = .ok (.if_icmp .eq 143, 3) := by decide +kernel
theorem dL_reason_76 : decode cL_reason 76 = .ok (.aload 4, 2) := by decide +kernel
theorem dL_reason_78 : decode cL_reason 78 = .ok (.iload 8, 2) := by decide +kernel
theorem dL_reason_80 : decode cL_reason 80 = .ok (.iaload, 1) := by decide +kernel
theorem dL_reason_81 : decode cL_reason 81 = .ok (.invokestatic 90, 3) := by decide +kernel
theorem dL_reason_84 : decode cL_reason 84 = .ok (.iconst 2, 1) := by decide +kernel
theorem dL_reason_85 : decode cL_reason 85 = .ok (.if_icmp .lt 131, 3) := by decide +kernel
theorem dL_reason_88 : decode cL_reason 88 = .ok (.aload 4, 2) := by decide +kernel
theorem dL_reason_90 : decode cL_reason 90 = .ok (.iload 8, 2) := by decide +kernel
theorem dL_reason_92 : decode cL_reason 92 = .ok (.iaload, 1) := by decide +kernel
theorem dL_reason_93 : decode cL_reason 93 = .ok (.invokestatic 93, 3) := by decide +kernel
theorem dL_reason_96 : decode cL_reason 96 = .ok (.aload 4, 2) := by decide +kernel
theorem dL_reason_98 : decode cL_reason 98 = .ok (.iload_n 0, 1) := by decide +kernel
theorem dL_reason_99 : decode cL_reason 99 = .ok (.iaload, 1) := by decide +kernel
theorem dL_reason_100 : decode cL_reason 100 = .ok (.invokestatic 93, 3) := by decide +kernel
theorem dL_reason_103 : decode cL_reason 103 = .ok (.if_icmp .eq 6, 3) := by decide +kernel
theorem dL_reason_106 : decode cL_reason 106 = .ok (.goto 110, 3) := by decide +kernel
theorem dL_reason_109 : decode cL_reason 109 = .ok (.aload_n 3, 1) := by decide +kernel
theorem dL_reason_110 : decode cL_reason 110 = .ok (.aload 4, 2) := by decide +kernel
theorem dL_reason_112 : decode cL_reason 112 = .ok (.iload 8, 2) := by decide +kernel
theorem dL_reason_114 : decode cL_reason 114 = .ok (.iaload, 1) := by decide +kernel
theorem dL_reason_115 : decode cL_reason 115 = .ok (.invokestatic 75, 3) := by decide +kernel
theorem dL_reason_118 : decode cL_reason 118 = .ok (.iaload, 1) := by decide +kernel
theorem dL_reason_119 : decode cL_reason 119 = .ok (.invokestatic 80, 3) := by decide +kernel
theorem dL_reason_122 : decode cL_reason 122 = .ok (.istore 9, 2) := by decide +kernel
theorem dL_reason_124 : decode cL_reason 124 = .ok (.aload 5, 2) := by decide +kernel
theorem dL_reason_126 : decode cL_reason 126 = .ok (.iload 8, 2) := by decide +kernel
theorem dL_reason_128 : decode cL_reason 128 = .ok (.iaload, 1) := by decide +kernel
theorem dL_reason_129 : decode cL_reason 129 = .ok (.iload_n 1, 1) := by decide +kernel
theorem dL_reason_130 : decode cL_reason 130 = .ok (.if_icmp .ge 7, 3) := by decide +kernel
theorem dL_reason_133 : decode cL_reason 133 = .ok (.iconst 1, 1) := by decide +kernel
theorem dL_reason_134 : decode cL_reason 134 = .ok (.goto 4, 3) := by decide +kernel
theorem dL_reason_137 : decode cL_reason 137 = .ok (.iconst 0, 1) := by decide +kernel
theorem dL_reason_138 : decode cL_reason 138 = .ok (.istore 10, 2) := by decide +kernel
theorem dL_reason_140 : decode cL_reason 140 = .ok (.iload 10, 2) := by decide +kernel
theorem dL_reason_142 : decode cL_reason 142 = .ok (.ifCond .eq 14, 3) := by decide +kernel
theorem dL_reason_145 : decode cL_reason 145 = .ok (.aload 5, 2) := by decide +kernel
theorem dL_reason_147 : decode cL_reason 147 = .ok (.iload 8, 2) := by decide +kernel
theorem dL_reason_149 : decode cL_reason 149 = .ok (.iaload, 1) := by decide +kernel
theorem dL_reason_150 : decode cL_reason 150 = .ok (.iload 9, 2) := by decide +kernel
theorem dL_reason_152 : decode cL_reason 152 = .ok (.iadd, 1) := by decide +kernel
theorem dL_reason_153 : decode cL_reason 153 = .ok (.goto 7, 3) := by decide +kernel
theorem dL_reason_156 : decode cL_reason 156 = .ok (.iload_n 1, 1) := by decide +kernel
theorem dL_reason_157 : decode cL_reason 157 = .ok (.iload 7, 2) := by decide +kernel
theorem dL_reason_159 : decode cL_reason 159 = .ok (.iadd, 1) := by decide +kernel
theorem dL_reason_160 : decode cL_reason 160 = .ok (.istore 11, 2) := by decide +kernel
theorem dL_reason_162 : decode cL_reason 162 = .ok (.iload 10, 2) := by decide +kernel
theorem dL_reason_164 : decode cL_reason 164 = .ok (.ifCond .eq 8, 3) := by decide +kernel
theorem dL_reason_167 : decode cL_reason 167 = .ok (.iload 9, 2) := by decide +kernel
theorem dL_reason_169 : decode cL_reason 169 = .ok (.goto 5, 3) := by decide +kernel
theorem dL_reason_172 : decode cL_reason 172 = .ok (.iload 7, 2) := by decide +kernel
theorem dL_reason_174 : decode cL_reason 174 = .ok (.istore 12, 2) := by decide +kernel
theorem dL_reason_176 : decode cL_reason 176 = .ok (.iload 11, 2) := by decide +kernel
theorem dL_reason_178 : decode cL_reason 178 = .ok (.iload 12, 2) := by decide +kernel
theorem dL_reason_180 : decode cL_reason 180 = .ok (.bipush 60, 2) := by decide +kernel
theorem dL_reason_182 : decode cL_reason 182 = .ok (.if_icmp .ge 8, 3) := by decide +kernel
theorem dL_reason_185 : decode cL_reason 185 = .ok (.bipush 60, 2) := by decide +kernel
theorem dL_reason_187 : decode cL_reason 187 = .ok (.goto 5, 3) := by decide +kernel
theorem dL_reason_190 : decode cL_reason 190 = .ok (.iload 12, 2) := by decide +kernel
theorem dL_reason_192 : decode cL_reason 192 = .ok (.iadd, 1) := by decide +kernel
theorem dL_reason_193 : decode cL_reason 193 = .ok (.istore 11, 2) := by decide +kernel
theorem dL_reason_195 : decode cL_reason 195 = .ok (.iload 11, 2) := by decide +kernel
theorem dL_reason_197 : decode cL_reason 197 = .ok (.iload 10, 2) := by decide +kernel
theorem dL_reason_199 : decode cL_reason 199 = .ok (.ifCond .eq 7, 3) := by decide +kernel
theorem dL_reason_202 : decode cL_reason 202 = .ok (.iload_n 1, 1) := by decide +kernel
theorem dL_reason_203 : decode cL_reason 203 = .ok (.goto 8, 3) := by decide +kernel
theorem dL_reason_206 : decode cL_reason 206 = .ok (.aload 5, 2) := by decide +kernel
theorem dL_reason_208 : decode cL_reason 208 = .ok (.iload 8, 2) := by decide +kernel
theorem dL_reason_210 : decode cL_reason 210 = .ok (.iaload, 1) := by decide +kernel
theorem dL_reason_211 : decode cL_reason 211 = .ok (.if_icmp .le 5, 3) := by decide +kernel
theorem dL_reason_214 : decode cL_reason 214 = .ok (.iconst 2, 1) := by decide +kernel
theorem dL_reason_215 : decode cL_reason 215 = .ok (.ireturn, 1) := by decide +kernel
theorem dL_reason_216 : decode cL_reason 216 = .ok (.iinc 8 1, 3) := by decide +kernel
theorem dL_reason_219 : decode cL_reason 219 = .ok (.goto (-157), 3) := by decide +kernel
theorem dL_reason_222 : decode cL_reason 222 = .ok (.iload_n 1, 1) := by decide +kernel
theorem dL_reason_223 : decode cL_reason 223 = .ok (.istore 8, 2) := by decide +kernel
theorem dL_reason_225 : decode cL_reason 225 = .ok (.iload 8, 2) := by decide +kernel
theorem dL_reason_227 : decode cL_reason 227 = .ok (.iload_n 1, 1) := by decide +kernel
theorem dL_reason_228 : decode cL_reason 228 = .ok (.iload 7, 2) := by decide +kernel
theorem dL_reason_230 : decode cL_reason 230 = .ok (.iadd, 1) := by decide +kernel
theorem dL_reason_231 : decode cL_reason 231 = .ok (.if_icmp .ge 113, 3) := by decide +kernel
theorem dL_reason_234 : decode cL_reason 234 = .ok (.iload 6, 2) := by decide +kernel
theorem dL_reason_236 : decode cL_reason 236 = .ok (.invokestatic 96, 3) := by decide +kernel
theorem dL_reason_239 : decode cL_reason 239 = .ok (.istore 9, 2) := by decide +kernel
theorem dL_reason_241 : decode cL_reason 241 = .ok (.iconst 0, 1) := by decide +kernel
theorem dL_reason_242 : decode cL_reason 242 = .ok (.istore 10, 2) := by decide +kernel
theorem dL_reason_244 : decode cL_reason 244 = .ok (.iload 10, 2) := by decide +kernel
theorem dL_reason_246 : decode cL_reason 246 = .ok (.aload_n 2, 1) := by decide +kernel
theorem dL_reason_247 : decode cL_reason 247 = .ok (.iconst 4, 1) := by decide +kernel
theorem dL_reason_248 : decode cL_reason 248 = .ok (.iaload, 1) := by decide +kernel
theorem dL_reason_249 : decode cL_reason 249 = .ok (.if_icmp .ge 79, 3) := by decide +kernel
theorem dL_reason_252 : decode cL_reason 252 = .ok (.iload 10, 2) := by decide +kernel
theorem dL_reason_254 : decode cL_reason 254 = .ok (.iload_n 0, 1) := by decide +kernel
theorem dL_reason_255 : decode cL_reason 255 = .ok (.if_icmp .eq 67, 3) := by decide +kernel
theorem dL_reason_258 : decode cL_reason 258 = .ok (.aload 4, 2) := by decide +kernel
theorem dL_reason_260 : decode cL_reason 260 = .ok (.iload 10, 2) := by decide +kernel
theorem dL_reason_262 : decode cL_reason 262 = .ok (.iaload, 1) := by decide +kernel
theorem dL_reason_263 : decode cL_reason 263 = .ok (.invokestatic 90, 3) := by decide +kernel
theorem dL_reason_266 : decode cL_reason 266 = .ok (.iconst 2, 1) := by decide +kernel
theorem dL_reason_267 : decode cL_reason 267 = .ok (.if_icmp .lt 55, 3) := by decide +kernel
theorem dL_reason_270 : decode cL_reason 270 = .ok (.aload 5, 2) := by decide +kernel
theorem dL_reason_272 : decode cL_reason 272 = .ok (.iload 10, 2) := by decide +kernel
theorem dL_reason_274 : decode cL_reason 274 = .ok (.iaload, 1) := by decide +kernel
theorem dL_reason_275 : decode cL_reason 275 = .ok (.iload 8, 2) := by decide +kernel
theorem dL_reason_277 : decode cL_reason 277 = .ok (.if_icmp .gt 45, 3) := by decide +kernel
theorem dL_reason_280 : decode cL_reason 280 = .ok (.iload 8, 2) := by decide +kernel
theorem dL_reason_282 : decode cL_reason 282 = .ok (.aload 5, 2) := by decide +kernel
theorem dL_reason_284 : decode cL_reason 284 = .ok (.iload 10, 2) := by decide +kernel
theorem dL_reason_286 : decode cL_reason 286 = .ok (.iaload, 1) := by decide +kernel
theorem dL_reason_287 : decode cL_reason 287 = .ok (.aload_n 3, 1) := by decide +kernel
theorem dL_reason_288 : decode cL_reason 288 = .ok (.aload 4, 2) := by decide +kernel
theorem dL_reason_290 : decode cL_reason 290 = .ok (.iload 10, 2) := by decide +kernel
theorem dL_reason_292 : decode cL_reason 292 = .ok (.iaload, 1) := by decide +kernel
theorem dL_reason_293 : decode cL_reason 293 = .ok (.invokestatic 75, 3) := by decide +kernel
theorem dL_reason_296 : decode cL_reason 296 = .ok (.iaload, 1) := by decide +kernel
theorem dL_reason_297 : decode cL_reason 297 = .ok (.invokestatic 80, 3) := by decide +kernel
theorem dL_reason_300 : decode cL_reason 300 = .ok (.iadd, 1) := by decide +kernel
theorem dL_reason_301 : decode cL_reason 301 = .ok (.if_icmp .ge 21, 3) := by decide +kernel
theorem dL_reason_304 : decode cL_reason 304 = .ok (.iload 9, 2) := by decide +kernel
theorem dL_reason_306 : decode cL_reason 306 = .ok (.aload_n 3, 1) := by decide +kernel
theorem dL_reason_307 : decode cL_reason 307 = .ok (.aload 4, 2) := by decide +kernel
theorem dL_reason_309 : decode cL_reason 309 = .ok (.iload 10, 2) := by decide +kernel
theorem dL_reason_311 : decode cL_reason 311 = .ok (.iaload, 1) := by decide +kernel
theorem dL_reason_312 : decode cL_reason 312 = .ok (.invokestatic 75, 3) := by decide +kernel
theorem dL_reason_315 : decode cL_reason 315 = .ok (.iaload, 1) := by decide +kernel
theorem dL_reason_316 : decode cL_reason 316 = .ok (.invokestatic 96, 3) := by decide +kernel
theorem dL_reason_319 : decode cL_reason 319 = .ok (.iadd, 1) := by decide +kernel
theorem dL_reason_320 : decode cL_reason 320 = .ok (.istore 9, 2) := by decide +kernel
theorem dL_reason_322 : decode cL_reason 322 = .ok (.iinc 10 1, 3) := by decide +kernel
theorem dL_reason_325 : decode cL_reason 325 = .ok (.goto (-81), 3) := by decide +kernel
theorem dL_reason_328 : decode cL_reason 328 = .ok (.iload 9, 2) := by decide +kernel
theorem dL_reason_330 : decode cL_reason 330 = .ok (.aload_n 2, 1) := by decide +kernel
theorem dL_reason_331 : decode cL_reason 331 = .ok (.iconst 3, 1) := by decide +kernel
theorem dL_reason_332 : decode cL_reason 332 = .ok (.iaload, 1) := by decide +kernel
theorem dL_reason_333 : decode cL_reason 333 = .ok (.if_icmp .le 5, 3) := by decide +kernel
theorem dL_reason_336 : decode cL_reason 336 = .ok (.iconst 3, 1) := by decide +kernel
theorem dL_reason_337 : decode cL_reason 337 = .ok (.ireturn, 1) := by decide +kernel
theorem dL_reason_338 : decode cL_reason 338 = .ok (.iinc 8 1, 3) := by decide +kernel
theorem dL_reason_341 : decode cL_reason 341 = .ok (.goto (-116), 3) := by decide +kernel
theorem dL_reason_344 : decode cL_reason 344 = .ok (.iconst 0, 1) := by decide +kernel
theorem dL_reason_345 : decode cL_reason 345 = .ok (.istore 8, 2) := by decide +kernel
theorem dL_reason_347 : decode cL_reason 347 = .ok (.iload 8, 2) := by decide +kernel
theorem dL_reason_349 : decode cL_reason 349 = .ok (.aload_n 2, 1) := by decide +kernel
theorem dL_reason_350 : decode cL_reason 350 = .ok (.iconst 4, 1) := by decide +kernel
theorem dL_reason_351 : decode cL_reason 351 = .ok (.iaload, 1) := by decide +kernel
theorem dL_reason_352 : decode cL_reason 352 = .ok (.if_icmp .ge 53, 3) := by decide +kernel
theorem dL_reason_355 : decode cL_reason 355 = .ok (.iload 8, 2) := by decide +kernel
theorem dL_reason_357 : decode cL_reason 357 = .ok (.iload_n 0, 1) := by decide +kernel
theorem dL_reason_358 : decode cL_reason 358 = .ok (.if_icmp .eq 41, 3) := by decide +kernel
theorem dL_reason_361 : decode cL_reason 361 = .ok (.aload 4, 2) := by decide +kernel
theorem dL_reason_363 : decode cL_reason 363 = .ok (.iload 8, 2) := by decide +kernel
theorem dL_reason_365 : decode cL_reason 365 = .ok (.iaload, 1) := by decide +kernel
theorem dL_reason_366 : decode cL_reason 366 = .ok (.invokestatic 90, 3) := by decide +kernel
theorem dL_reason_369 : decode cL_reason 369 = .ok (.iconst 2, 1) := by decide +kernel
theorem dL_reason_370 : decode cL_reason 370 = .ok (.if_icmp .lt 29, 3) := by decide +kernel
theorem dL_reason_373 : decode cL_reason 373 = .ok (.aload 5, 2) := by decide +kernel
theorem dL_reason_375 : decode cL_reason 375 = .ok (.iload 8, 2) := by decide +kernel
theorem dL_reason_377 : decode cL_reason 377 = .ok (.iaload, 1) := by decide +kernel
theorem dL_reason_378 : decode cL_reason 378 = .ok (.iload_n 1, 1) := by decide +kernel
theorem dL_reason_379 : decode cL_reason 379 = .ok (.isub, 1) := by decide +kernel
theorem dL_reason_380 : decode cL_reason 380 = .ok (.bipush 15, 2) := by decide +kernel
theorem dL_reason_382 : decode cL_reason 382 = .ok (.if_icmp .ge 17, 3) := by decide +kernel
theorem dL_reason_385 : decode cL_reason 385 = .ok (.iload_n 1, 1) := by decide +kernel
theorem dL_reason_386 : decode cL_reason 386 = .ok (.aload 5, 2) := by decide +kernel
theorem dL_reason_388 : decode cL_reason 388 = .ok (.iload 8, 2) := by decide +kernel
theorem dL_reason_390 : decode cL_reason 390 = .ok (.iaload, 1) := by decide +kernel
theorem dL_reason_391 : decode cL_reason 391 = .ok (.isub, 1) := by decide +kernel
theorem dL_reason_392 : decode cL_reason 392 = .ok (.bipush 15, 2) := by decide +kernel
theorem dL_reason_394 : decode cL_reason 394 = .ok (.if_icmp .ge 5, 3) := by decide +kernel
theorem dL_reason_397 : decode cL_reason 397 = .ok (.iconst 4, 1) := by decide +kernel
theorem dL_reason_398 : decode cL_reason 398 = .ok (.ireturn, 1) := by decide +kernel
theorem dL_reason_399 : decode cL_reason 399 = .ok (.iinc 8 1, 3) := by decide +kernel
theorem dL_reason_402 : decode cL_reason 402 = .ok (.goto (-55), 3) := by decide +kernel
theorem dL_reason_405 : decode cL_reason 405 = .ok (.iconst 0, 1) := by decide +kernel
theorem dL_reason_406 : decode cL_reason 406 = .ok (.ireturn, 1) := by decide +kernel
theorem dL_looks_0 : decode cL_looks 0 = .ok (.aload 4, 2) := by decide +kernel
theorem dL_looks_2 : decode cL_looks 2 = .ok (.iload_n 0, 1) := by decide +kernel
theorem dL_looks_3 : decode cL_looks 3 = .ok (.iaload, 1) := by decide +kernel
theorem dL_looks_4 : decode cL_looks 4 = .ok (.aload_n 1, 1) := by decide +kernel
theorem dL_looks_5 : decode cL_looks 5 = .ok (.iconst 0, 1) := by decide +kernel
theorem dL_looks_6 : decode cL_looks 6 = .ok (.iaload, 1) := by decide +kernel
theorem dL_looks_7 : decode cL_looks 7 = .ok (.if_icmp .ge 9, 3) := by decide +kernel
theorem dL_looks_10 : decode cL_looks 10 = .ok (.aload_n 1, 1) := by decide +kernel
theorem dL_looks_11 : decode cL_looks 11 = .ok (.iconst 0, 1) := by decide +kernel
theorem dL_looks_12 : decode cL_looks 12 = .ok (.iaload, 1) := by decide +kernel
theorem dL_looks_13 : decode cL_looks 13 = .ok (.goto 7, 3) := by decide +kernel
theorem dL_looks_16 : decode cL_looks 16 = .ok (.aload 4, 2) := by decide +kernel
theorem dL_looks_18 : decode cL_looks 18 = .ok (.iload_n 0, 1) := by decide +kernel
theorem dL_looks_19 : decode cL_looks 19 = .ok (.iaload, 1) := by decide +kernel
theorem dL_looks_20 : decode cL_looks 20 = .ok (.istore 6, 2) := by decide +kernel
theorem dL_looks_22 : decode cL_looks 22 = .ok (.aload 5, 2) := by decide +kernel
theorem dL_looks_24 : decode cL_looks 24 = .ok (.iload_n 0, 1) := by decide +kernel
theorem dL_looks_25 : decode cL_looks 25 = .ok (.iconst (-1), 1) := by decide +kernel
theorem dL_looks_26 : decode cL_looks 26 = .ok (.iastore, 1) := by decide +kernel
theorem dL_looks_27 : decode cL_looks 27 = .ok (.aload_n 3, 1) := by decide +kernel
theorem dL_looks_28 : decode cL_looks 28 = .ok (.iload_n 0, 1) := by decide +kernel
theorem dL_looks_29 : decode cL_looks 29 = .ok (.aload_n 3, 1) := by decide +kernel
theorem dL_looks_30 : decode cL_looks 30 = .ok (.iload_n 0, 1) := by decide +kernel
theorem dL_looks_31 : decode cL_looks 31 = .ok (.iaload, 1) := by decide +kernel
theorem dL_looks_32 : decode cL_looks 32 = .ok (.sipush 1023, 3) := by decide +kernel
theorem dL_looks_35 : decode cL_looks 35 = .ok (.iand, 1) := by decide +kernel
theorem dL_looks_36 : decode cL_looks 36 = .ok (.sipush 1024, 3) := by decide +kernel
theorem dL_looks_39 : decode cL_looks 39 = .ok (.ior, 1) := by decide +kernel
theorem dL_looks_40 : decode cL_looks 40 = .ok (.iastore, 1) := by decide +kernel
theorem dL_looks_41 : decode cL_looks 41 = .ok (.iload 6, 2) := by decide +kernel
theorem dL_looks_43 : decode cL_looks 43 = .ok (.istore 7, 2) := by decide +kernel
theorem dL_looks_45 : decode cL_looks 45 = .ok (.iload 7, 2) := by decide +kernel
theorem dL_looks_47 : decode cL_looks 47 = .ok (.iload 6, 2) := by decide +kernel
theorem dL_looks_49 : decode cL_looks 49 = .ok (.sipush 1441, 3) := by decide +kernel
theorem dL_looks_52 : decode cL_looks 52 = .ok (.iadd, 1) := by decide +kernel
theorem dL_looks_53 : decode cL_looks 53 = .ok (.if_icmp .ge 60, 3) := by decide +kernel
theorem dL_looks_56 : decode cL_looks 56 = .ok (.iload_n 0, 1) := by decide +kernel
theorem dL_looks_57 : decode cL_looks 57 = .ok (.iload 7, 2) := by decide +kernel
theorem dL_looks_59 : decode cL_looks 59 = .ok (.aload_n 1, 1) := by decide +kernel
theorem dL_looks_60 : decode cL_looks 60 = .ok (.aload_n 2, 1) := by decide +kernel
theorem dL_looks_61 : decode cL_looks 61 = .ok (.aload_n 3, 1) := by decide +kernel
theorem dL_looks_62 : decode cL_looks 62 = .ok (.aload 5, 2) := by decide +kernel
theorem dL_looks_64 : decode cL_looks 64 = .ok (.invokestatic 99, 3) := by decide +kernel
theorem dL_looks_67 : decode cL_looks 67 = .ok (.ifCond .eq 6, 3) := by decide +kernel
theorem dL_looks_70 : decode cL_looks 70 = .ok (.goto 37, 3) := by decide +kernel
theorem dL_looks_73 : decode cL_looks 73 = .ok (.aload 5, 2) := by decide +kernel
theorem dL_looks_75 : decode cL_looks 75 = .ok (.iload_n 0, 1) := by decide +kernel
theorem dL_looks_76 : decode cL_looks 76 = .ok (.iload 7, 2) := by decide +kernel
theorem dL_looks_78 : decode cL_looks 78 = .ok (.iastore, 1) := by decide +kernel
theorem dL_looks_79 : decode cL_looks 79 = .ok (.aload_n 3, 1) := by decide +kernel
theorem dL_looks_80 : decode cL_looks 80 = .ok (.iload_n 0, 1) := by decide +kernel
theorem dL_looks_81 : decode cL_looks 81 = .ok (.aload_n 3, 1) := by decide +kernel
theorem dL_looks_82 : decode cL_looks 82 = .ok (.iload_n 0, 1) := by decide +kernel
theorem dL_looks_83 : decode cL_looks 83 = .ok (.iaload, 1) := by decide +kernel
theorem dL_looks_84 : decode cL_looks 84 = .ok (.sipush 1023, 3) := by decide +kernel
theorem dL_looks_87 : decode cL_looks 87 = .ok (.iand, 1) := by decide +kernel
theorem dL_looks_88 : decode cL_looks 88 = .ok (.iload 7, 2) := by decide +kernel
theorem dL_looks_90 : decode cL_looks 90 = .ok (.aload_n 1, 1) := by decide +kernel
theorem dL_looks_91 : decode cL_looks 91 = .ok (.iconst 0, 1) := by decide +kernel
theorem dL_looks_92 : decode cL_looks 92 = .ok (.iaload, 1) := by decide +kernel
theorem dL_looks_93 : decode cL_looks 93 = .ok (.if_icmp .ne 7, 3) := by decide +kernel
theorem dL_looks_96 : decode cL_looks 96 = .ok (.iconst 3, 1) := by decide +kernel
theorem dL_looks_97 : decode cL_looks 97 = .ok (.goto 4, 3) := by decide +kernel
theorem dL_looks_100 : decode cL_looks 100 = .ok (.iconst 2, 1) := by decide +kernel
theorem dL_looks_101 : decode cL_looks 101 = .ok (.bipush 10, 2) := by decide +kernel
theorem dL_looks_103 : decode cL_looks 103 = .ok (.ishl, 1) := by decide +kernel
theorem dL_looks_104 : decode cL_looks 104 = .ok (.ior, 1) := by decide +kernel
theorem dL_looks_105 : decode cL_looks 105 = .ok (.iastore, 1) := by decide +kernel
theorem dL_looks_106 : decode cL_looks 106 = .ok (.return_, 1) := by decide +kernel
theorem dL_looks_107 : decode cL_looks 107 = .ok (.iinc 7 1, 3) := by decide +kernel
theorem dL_looks_110 : decode cL_looks 110 = .ok (.goto (-65), 3) := by decide +kernel
theorem dL_looks_113 : decode cL_looks 113 = .ok (.return_, 1) := by decide +kernel
