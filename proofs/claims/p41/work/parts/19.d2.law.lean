theorem dL_shaken_0 : decode cL_shaken 0 = .ok (.iconst 0, 1) := by decide +kernel
theorem dL_shaken_1 : decode cL_shaken 1 = .ok (.istore_n 1, 1) := by decide +kernel
theorem dL_shaken_2 : decode cL_shaken 2 = .ok (.iconst (-1), 1) := by decide +kernel
theorem dL_shaken_3 : decode cL_shaken 3 = .ok (.istore_n 2, 1) := by decide +kernel
theorem dL_shaken_4 : decode cL_shaken 4 = .ok (.bipush (-13), 2) := by decide +kernel
theorem dL_shaken_6 : decode cL_shaken 6 = .ok (.istore_n 3, 1) := by decide +kernel
theorem dL_shaken_7 : decode cL_shaken 7 = .ok (.iconst 1, 1) := by decide +kernel
theorem dL_shaken_8 : decode cL_shaken 8 = .ok (.istore 4, 2) := by decide +kernel
theorem dL_shaken_10 : decode cL_shaken 10 = .ok (.iload 4, 2) := by decide +kernel
theorem dL_shaken_12 : decode cL_shaken 12 = .ok (.bipush 10, 2) := by decide +kernel
theorem dL_shaken_14 : decode cL_shaken 14 = .ok (.if_icmp .ge 165, 3) := by decide +kernel
theorem dL_shaken_17 : decode cL_shaken 17 = .ok (.aload_n 0, 1) := by decide +kernel
theorem dL_shaken_18 : decode cL_shaken 18 = .ok (.invokestatic 197, 3) := by decide +kernel
theorem dL_shaken_21 : decode cL_shaken 21 = .ok (.astore 5, 2) := by decide +kernel
theorem dL_shaken_23 : decode cL_shaken 23 = .ok (.iconst 0, 1) := by decide +kernel
theorem dL_shaken_24 : decode cL_shaken 24 = .ok (.istore 6, 2) := by decide +kernel
theorem dL_shaken_26 : decode cL_shaken 26 = .ok (.iload 6, 2) := by decide +kernel
theorem dL_shaken_28 : decode cL_shaken 28 = .ok (.iconst 5, 1) := by decide +kernel
theorem dL_shaken_29 : decode cL_shaken 29 = .ok (.if_icmp .ge 50, 3) := by decide +kernel
theorem dL_shaken_32 : decode cL_shaken 32 = .ok (.aload 5, 2) := by decide +kernel
theorem dL_shaken_34 : decode cL_shaken 34 = .ok (.iload 4, 2) := by decide +kernel
theorem dL_shaken_36 : decode cL_shaken 36 = .ok (.iload 6, 2) := by decide +kernel
theorem dL_shaken_38 : decode cL_shaken 38 = .ok (.invokestatic 162, 3) := by decide +kernel
theorem dL_shaken_41 : decode cL_shaken 41 = .ok (.istore 7, 2) := by decide +kernel
theorem dL_shaken_43 : decode cL_shaken 43 = .ok (.aload_n 0, 1) := by decide +kernel
theorem dL_shaken_44 : decode cL_shaken 44 = .ok (.iload 4, 2) := by decide +kernel
theorem dL_shaken_46 : decode cL_shaken 46 = .ok (.iload 6, 2) := by decide +kernel
theorem dL_shaken_48 : decode cL_shaken 48 = .ok (.iconst 0, 1) := by decide +kernel
theorem dL_shaken_49 : decode cL_shaken 49 = .ok (.invokestatic 201, 3) := by decide +kernel
theorem dL_shaken_52 : decode cL_shaken 52 = .ok (.iload 7, 2) := by decide +kernel
theorem dL_shaken_54 : decode cL_shaken 54 = .ok (.if_icmp .ne 17, 3) := by decide +kernel
theorem dL_shaken_57 : decode cL_shaken 57 = .ok (.aload_n 0, 1) := by decide +kernel
theorem dL_shaken_58 : decode cL_shaken 58 = .ok (.iload 4, 2) := by decide +kernel
theorem dL_shaken_60 : decode cL_shaken 60 = .ok (.iload 6, 2) := by decide +kernel
theorem dL_shaken_62 : decode cL_shaken 62 = .ok (.iconst 1, 1) := by decide +kernel
theorem dL_shaken_63 : decode cL_shaken 63 = .ok (.invokestatic 201, 3) := by decide +kernel
theorem dL_shaken_66 : decode cL_shaken 66 = .ok (.iload 7, 2) := by decide +kernel
theorem dL_shaken_68 : decode cL_shaken 68 = .ok (.if_icmp .eq 5, 3) := by decide +kernel
theorem dL_shaken_71 : decode cL_shaken 71 = .ok (.iconst 0, 1) := by decide +kernel
theorem dL_shaken_72 : decode cL_shaken 72 = .ok (.ireturn, 1) := by decide +kernel
theorem dL_shaken_73 : decode cL_shaken 73 = .ok (.iinc 6 1, 3) := by decide +kernel
theorem dL_shaken_76 : decode cL_shaken 76 = .ok (.goto (-50), 3) := by decide +kernel
theorem dL_shaken_79 : decode cL_shaken 79 = .ok (.aload 5, 2) := by decide +kernel
theorem dL_shaken_81 : decode cL_shaken 81 = .ok (.iload 4, 2) := by decide +kernel
theorem dL_shaken_83 : decode cL_shaken 83 = .ok (.invokestatic 175, 3) := by decide +kernel
theorem dL_shaken_86 : decode cL_shaken 86 = .ok (.astore 6, 2) := by decide +kernel
theorem dL_shaken_88 : decode cL_shaken 88 = .ok (.aload 6, 2) := by decide +kernel
theorem dL_shaken_90 : decode cL_shaken 90 = .ok (.iconst 0, 1) := by decide +kernel
theorem dL_shaken_91 : decode cL_shaken 91 = .ok (.iaload, 1) := by decide +kernel
theorem dL_shaken_92 : decode cL_shaken 92 = .ok (.iload_n 2, 1) := by decide +kernel
theorem dL_shaken_93 : decode cL_shaken 93 = .ok (.if_icmp .le 8, 3) := by decide +kernel
theorem dL_shaken_96 : decode cL_shaken 96 = .ok (.iload 4, 2) := by decide +kernel
theorem dL_shaken_98 : decode cL_shaken 98 = .ok (.goto 4, 3) := by decide +kernel
theorem dL_shaken_101 : decode cL_shaken 101 = .ok (.iload_n 1, 1) := by decide +kernel
theorem dL_shaken_102 : decode cL_shaken 102 = .ok (.istore_n 1, 1) := by decide +kernel
theorem dL_shaken_103 : decode cL_shaken 103 = .ok (.iload_n 2, 1) := by decide +kernel
theorem dL_shaken_104 : decode cL_shaken 104 = .ok (.aload 6, 2) := by decide +kernel
theorem dL_shaken_106 : decode cL_shaken 106 = .ok (.iconst 0, 1) := by decide +kernel
theorem dL_shaken_107 : decode cL_shaken 107 = .ok (.iaload, 1) := by decide +kernel
theorem dL_shaken_108 : decode cL_shaken 108 = .ok (.invokestatic 157, 3) := by decide +kernel
theorem dL_shaken_111 : decode cL_shaken 111 = .ok (.istore_n 2, 1) := by decide +kernel
theorem dL_shaken_112 : decode cL_shaken 112 = .ok (.iload_n 3, 1) := by decide +kernel
theorem dL_shaken_113 : decode cL_shaken 113 = .ok (.ifCond .ge 15, 3) := by decide +kernel
theorem dL_shaken_116 : decode cL_shaken 116 = .ok (.aload 6, 2) := by decide +kernel
theorem dL_shaken_118 : decode cL_shaken 118 = .ok (.iconst 1, 1) := by decide +kernel
theorem dL_shaken_119 : decode cL_shaken 119 = .ok (.iaload, 1) := by decide +kernel
theorem dL_shaken_120 : decode cL_shaken 120 = .ok (.ifCond .le 8, 3) := by decide +kernel
theorem dL_shaken_123 : decode cL_shaken 123 = .ok (.iload 4, 2) := by decide +kernel
theorem dL_shaken_125 : decode cL_shaken 125 = .ok (.goto 4, 3) := by decide +kernel
theorem dL_shaken_128 : decode cL_shaken 128 = .ok (.iload_n 3, 1) := by decide +kernel
theorem dL_shaken_129 : decode cL_shaken 129 = .ok (.istore_n 3, 1) := by decide +kernel
theorem dL_shaken_130 : decode cL_shaken 130 = .ok (.aload_n 0, 1) := by decide +kernel
theorem dL_shaken_131 : decode cL_shaken 131 = .ok (.iload 4, 2) := by decide +kernel
theorem dL_shaken_133 : decode cL_shaken 133 = .ok (.invokestatic 204, 3) := by decide +kernel
theorem dL_shaken_136 : decode cL_shaken 136 = .ok (.aload 6, 2) := by decide +kernel
theorem dL_shaken_138 : decode cL_shaken 138 = .ok (.iconst 0, 1) := by decide +kernel
theorem dL_shaken_139 : decode cL_shaken 139 = .ok (.iaload, 1) := by decide +kernel
theorem dL_shaken_140 : decode cL_shaken 140 = .ok (.if_icmp .ne 31, 3) := by decide +kernel
theorem dL_shaken_143 : decode cL_shaken 143 = .ok (.aload_n 0, 1) := by decide +kernel
theorem dL_shaken_144 : decode cL_shaken 144 = .ok (.iload 4, 2) := by decide +kernel
theorem dL_shaken_146 : decode cL_shaken 146 = .ok (.iconst 0, 1) := by decide +kernel
theorem dL_shaken_147 : decode cL_shaken 147 = .ok (.invokestatic 206, 3) := by decide +kernel
theorem dL_shaken_150 : decode cL_shaken 150 = .ok (.aload 6, 2) := by decide +kernel
theorem dL_shaken_152 : decode cL_shaken 152 = .ok (.iconst 1, 1) := by decide +kernel
theorem dL_shaken_153 : decode cL_shaken 153 = .ok (.iaload, 1) := by decide +kernel
theorem dL_shaken_154 : decode cL_shaken 154 = .ok (.if_icmp .ne 17, 3) := by decide +kernel
theorem dL_shaken_157 : decode cL_shaken 157 = .ok (.aload_n 0, 1) := by decide +kernel
theorem dL_shaken_158 : decode cL_shaken 158 = .ok (.iload 4, 2) := by decide +kernel
theorem dL_shaken_160 : decode cL_shaken 160 = .ok (.iconst 1, 1) := by decide +kernel
theorem dL_shaken_161 : decode cL_shaken 161 = .ok (.invokestatic 206, 3) := by decide +kernel
theorem dL_shaken_164 : decode cL_shaken 164 = .ok (.aload 6, 2) := by decide +kernel
theorem dL_shaken_166 : decode cL_shaken 166 = .ok (.iconst 1, 1) := by decide +kernel
theorem dL_shaken_167 : decode cL_shaken 167 = .ok (.iaload, 1) := by decide +kernel
theorem dL_shaken_168 : decode cL_shaken 168 = .ok (.if_icmp .eq 5, 3) := by decide +kernel
theorem dL_shaken_171 : decode cL_shaken 171 = .ok (.iconst 0, 1) := by decide +kernel
theorem dL_shaken_172 : decode cL_shaken 172 = .ok (.ireturn, 1) := by decide +kernel
theorem dL_shaken_173 : decode cL_shaken 173 = .ok (.iinc 4 1, 3) := by decide +kernel
theorem dL_shaken_176 : decode cL_shaken 176 = .ok (.goto (-166), 3) := by decide +kernel
theorem dL_shaken_179 : decode cL_shaken 179 = .ok (.aload_n 0, 1) := by decide +kernel
theorem dL_shaken_180 : decode cL_shaken 180 = .ok (.iconst 0, 1) := by decide +kernel
theorem dL_shaken_181 : decode cL_shaken 181 = .ok (.invokevirtual 136, 3) := by decide +kernel
theorem dL_shaken_184 : decode cL_shaken 184 = .ok (.istore 4, 2) := by decide +kernel
theorem dL_shaken_186 : decode cL_shaken 186 = .ok (.iload 4, 2) := by decide +kernel
theorem dL_shaken_188 : decode cL_shaken 188 = .ok (.newarray .int, 2) := by decide +kernel
theorem dL_shaken_190 : decode cL_shaken 190 = .ok (.astore 5, 2) := by decide +kernel
theorem dL_shaken_192 : decode cL_shaken 192 = .ok (.aload_n 0, 1) := by decide +kernel
theorem dL_shaken_193 : decode cL_shaken 193 = .ok (.invokestatic 197, 3) := by decide +kernel
theorem dL_shaken_196 : decode cL_shaken 196 = .ok (.astore 6, 2) := by decide +kernel
theorem dL_shaken_198 : decode cL_shaken 198 = .ok (.iconst 1, 1) := by decide +kernel
theorem dL_shaken_199 : decode cL_shaken 199 = .ok (.istore 7, 2) := by decide +kernel
theorem dL_shaken_201 : decode cL_shaken 201 = .ok (.iload 7, 2) := by decide +kernel
theorem dL_shaken_203 : decode cL_shaken 203 = .ok (.bipush 30, 2) := by decide +kernel
theorem dL_shaken_205 : decode cL_shaken 205 = .ok (.if_icmp .gt 71, 3) := by decide +kernel
theorem dL_shaken_208 : decode cL_shaken 208 = .ok (.aload 6, 2) := by decide +kernel
theorem dL_shaken_210 : decode cL_shaken 210 = .ok (.aload_n 0, 1) := by decide +kernel
theorem dL_shaken_211 : decode cL_shaken 211 = .ok (.iconst 5, 1) := by decide +kernel
theorem dL_shaken_212 : decode cL_shaken 212 = .ok (.invokevirtual 136, 3) := by decide +kernel
theorem dL_shaken_215 : decode cL_shaken 215 = .ok (.invokestatic 175, 3) := by decide +kernel
theorem dL_shaken_218 : decode cL_shaken 218 = .ok (.astore 8, 2) := by decide +kernel
theorem dL_shaken_220 : decode cL_shaken 220 = .ok (.iconst 0, 1) := by decide +kernel
theorem dL_shaken_221 : decode cL_shaken 221 = .ok (.istore 9, 2) := by decide +kernel
theorem dL_shaken_223 : decode cL_shaken 223 = .ok (.iload 9, 2) := by decide +kernel
theorem dL_shaken_225 : decode cL_shaken 225 = .ok (.iload 4, 2) := by decide +kernel
theorem dL_shaken_227 : decode cL_shaken 227 = .ok (.if_icmp .ge 43, 3) := by decide +kernel
theorem dL_shaken_230 : decode cL_shaken 230 = .ok (.aload 5, 2) := by decide +kernel
theorem dL_shaken_232 : decode cL_shaken 232 = .ok (.iload 9, 2) := by decide +kernel
theorem dL_shaken_234 : decode cL_shaken 234 = .ok (.aload 5, 2) := by decide +kernel
theorem dL_shaken_236 : decode cL_shaken 236 = .ok (.iload 9, 2) := by decide +kernel
theorem dL_shaken_238 : decode cL_shaken 238 = .ok (.iaload, 1) := by decide +kernel
theorem dL_shaken_239 : decode cL_shaken 239 = .ok (.ifCond .ne 19, 3) := by decide +kernel
theorem dL_shaken_242 : decode cL_shaken 242 = .ok (.aload 6, 2) := by decide +kernel
theorem dL_shaken_244 : decode cL_shaken 244 = .ok (.iload 9, 2) := by decide +kernel
theorem dL_shaken_246 : decode cL_shaken 246 = .ok (.aaload, 1) := by decide +kernel
theorem dL_shaken_247 : decode cL_shaken 247 = .ok (.iconst 4, 1) := by decide +kernel
theorem dL_shaken_248 : decode cL_shaken 248 = .ok (.iaload, 1) := by decide +kernel
theorem dL_shaken_249 : decode cL_shaken 249 = .ok (.iconst 1, 1) := by decide +kernel
theorem dL_shaken_250 : decode cL_shaken 250 = .ok (.if_icmp .ne 8, 3) := by decide +kernel
theorem dL_shaken_253 : decode cL_shaken 253 = .ok (.iload 7, 2) := by decide +kernel
theorem dL_shaken_255 : decode cL_shaken 255 = .ok (.goto 8, 3) := by decide +kernel
theorem dL_shaken_258 : decode cL_shaken 258 = .ok (.aload 5, 2) := by decide +kernel
theorem dL_shaken_260 : decode cL_shaken 260 = .ok (.iload 9, 2) := by decide +kernel
theorem dL_shaken_262 : decode cL_shaken 262 = .ok (.iaload, 1) := by decide +kernel
theorem dL_shaken_263 : decode cL_shaken 263 = .ok (.iastore, 1) := by decide +kernel
theorem dL_shaken_264 : decode cL_shaken 264 = .ok (.iinc 9 1, 3) := by decide +kernel
theorem dL_shaken_267 : decode cL_shaken 267 = .ok (.goto (-44), 3) := by decide +kernel
theorem dL_shaken_270 : decode cL_shaken 270 = .ok (.iinc 7 1, 3) := by decide +kernel
theorem dL_shaken_273 : decode cL_shaken 273 = .ok (.goto (-72), 3) := by decide +kernel
theorem dL_shaken_276 : decode cL_shaken 276 = .ok (.iconst 0, 1) := by decide +kernel
theorem dL_shaken_277 : decode cL_shaken 277 = .ok (.istore 7, 2) := by decide +kernel
theorem dL_shaken_279 : decode cL_shaken 279 = .ok (.iload 7, 2) := by decide +kernel
theorem dL_shaken_281 : decode cL_shaken 281 = .ok (.iload 4, 2) := by decide +kernel
theorem dL_shaken_283 : decode cL_shaken 283 = .ok (.if_icmp .ge 40, 3) := by decide +kernel
theorem dL_shaken_286 : decode cL_shaken 286 = .ok (.aload_n 0, 1) := by decide +kernel
theorem dL_shaken_287 : decode cL_shaken 287 = .ok (.iload 7, 2) := by decide +kernel
theorem dL_shaken_289 : decode cL_shaken 289 = .ok (.invokestatic 209, 3) := by decide +kernel
theorem dL_shaken_292 : decode cL_shaken 292 = .ok (.aload_n 0, 1) := by decide +kernel
theorem dL_shaken_293 : decode cL_shaken 293 = .ok (.iload 7, 2) := by decide +kernel
theorem dL_shaken_295 : decode cL_shaken 295 = .ok (.iconst 4, 1) := by decide +kernel
theorem dL_shaken_296 : decode cL_shaken 296 = .ok (.invokestatic 154, 3) := by decide +kernel
theorem dL_shaken_299 : decode cL_shaken 299 = .ok (.iconst 1, 1) := by decide +kernel
theorem dL_shaken_300 : decode cL_shaken 300 = .ok (.if_icmp .ne 7, 3) := by decide +kernel
theorem dL_shaken_303 : decode cL_shaken 303 = .ok (.iconst 0, 1) := by decide +kernel
theorem dL_shaken_304 : decode cL_shaken 304 = .ok (.goto 8, 3) := by decide +kernel
theorem dL_shaken_307 : decode cL_shaken 307 = .ok (.aload 5, 2) := by decide +kernel
theorem dL_shaken_309 : decode cL_shaken 309 = .ok (.iload 7, 2) := by decide +kernel
theorem dL_shaken_311 : decode cL_shaken 311 = .ok (.iaload, 1) := by decide +kernel
theorem dL_shaken_312 : decode cL_shaken 312 = .ok (.if_icmp .eq 5, 3) := by decide +kernel
theorem dL_shaken_315 : decode cL_shaken 315 = .ok (.iconst 0, 1) := by decide +kernel
theorem dL_shaken_316 : decode cL_shaken 316 = .ok (.ireturn, 1) := by decide +kernel
theorem dL_shaken_317 : decode cL_shaken 317 = .ok (.iinc 7 1, 3) := by decide +kernel
theorem dL_shaken_320 : decode cL_shaken 320 = .ok (.goto (-41), 3) := by decide +kernel
theorem dL_shaken_323 : decode cL_shaken 323 = .ok (.aload_n 0, 1) := by decide +kernel
theorem dL_shaken_324 : decode cL_shaken 324 = .ok (.invokevirtual 211, 3) := by decide +kernel
theorem dL_shaken_327 : decode cL_shaken 327 = .ok (.iload_n 1, 1) := by decide +kernel
theorem dL_shaken_328 : decode cL_shaken 328 = .ok (.if_icmp .ne 96, 3) := by decide +kernel
theorem dL_shaken_331 : decode cL_shaken 331 = .ok (.aload_n 0, 1) := by decide +kernel
theorem dL_shaken_332 : decode cL_shaken 332 = .ok (.invokestatic 214, 3) := by decide +kernel
theorem dL_shaken_335 : decode cL_shaken 335 = .ok (.iload_n 3, 1) := by decide +kernel
theorem dL_shaken_336 : decode cL_shaken 336 = .ok (.if_icmp .ne 88, 3) := by decide +kernel
theorem dL_shaken_339 : decode cL_shaken 339 = .ok (.aload_n 0, 1) := by decide +kernel
theorem dL_shaken_340 : decode cL_shaken 340 = .ok (.invokevirtual 216, 3) := by decide +kernel
theorem dL_shaken_343 : decode cL_shaken 343 = .ok (.aload_n 0, 1) := by decide +kernel
theorem dL_shaken_344 : decode cL_shaken 344 = .ok (.aload_n 0, 1) := by decide +kernel
theorem dL_shaken_345 : decode cL_shaken 345 = .ok (.invokestatic 197, 3) := by decide +kernel
theorem dL_shaken_348 : decode cL_shaken 348 = .ok (.invokestatic 219, 3) := by decide +kernel
theorem dL_shaken_351 : decode cL_shaken 351 = .ok (.iconst 2, 1) := by decide +kernel
theorem dL_shaken_352 : decode cL_shaken 352 = .ok (.iaload, 1) := by decide +kernel
theorem dL_shaken_353 : decode cL_shaken 353 = .ok (.if_icmp .ne 71, 3) := by decide +kernel
theorem dL_shaken_356 : decode cL_shaken 356 = .ok (.aload_n 0, 1) := by decide +kernel
theorem dL_shaken_357 : decode cL_shaken 357 = .ok (.iconst 0, 1) := by decide +kernel
theorem dL_shaken_358 : decode cL_shaken 358 = .ok (.iconst 0, 1) := by decide +kernel
theorem dL_shaken_359 : decode cL_shaken 359 = .ok (.iconst 1, 1) := by decide +kernel
theorem dL_shaken_360 : decode cL_shaken 360 = .ok (.invokestatic 201, 3) := by decide +kernel
theorem dL_shaken_363 : decode cL_shaken 363 = .ok (.bipush (-12), 2) := by decide +kernel
theorem dL_shaken_365 : decode cL_shaken 365 = .ok (.if_icmp .ne 59, 3) := by decide +kernel
theorem dL_shaken_368 : decode cL_shaken 368 = .ok (.aload_n 0, 1) := by decide +kernel
theorem dL_shaken_369 : decode cL_shaken 369 = .ok (.iconst 1, 1) := by decide +kernel
theorem dL_shaken_370 : decode cL_shaken 370 = .ok (.iconst 5, 1) := by decide +kernel
theorem dL_shaken_371 : decode cL_shaken 371 = .ok (.iconst 0, 1) := by decide +kernel
theorem dL_shaken_372 : decode cL_shaken 372 = .ok (.invokestatic 201, 3) := by decide +kernel
theorem dL_shaken_375 : decode cL_shaken 375 = .ok (.bipush (-12), 2) := by decide +kernel
theorem dL_shaken_377 : decode cL_shaken 377 = .ok (.if_icmp .ne 47, 3) := by decide +kernel
theorem dL_shaken_380 : decode cL_shaken 380 = .ok (.aload_n 0, 1) := by decide +kernel
theorem dL_shaken_381 : decode cL_shaken 381 = .ok (.bipush 10, 2) := by decide +kernel
theorem dL_shaken_383 : decode cL_shaken 383 = .ok (.invokestatic 204, 3) := by decide +kernel
theorem dL_shaken_386 : decode cL_shaken 386 = .ok (.bipush (-12), 2) := by decide +kernel
theorem dL_shaken_388 : decode cL_shaken 388 = .ok (.if_icmp .ne 36, 3) := by decide +kernel
theorem dL_shaken_391 : decode cL_shaken 391 = .ok (.aload_n 0, 1) := by decide +kernel
theorem dL_shaken_392 : decode cL_shaken 392 = .ok (.iconst 0, 1) := by decide +kernel
theorem dL_shaken_393 : decode cL_shaken 393 = .ok (.iconst 1, 1) := by decide +kernel
theorem dL_shaken_394 : decode cL_shaken 394 = .ok (.invokestatic 206, 3) := by decide +kernel
theorem dL_shaken_397 : decode cL_shaken 397 = .ok (.bipush (-12), 2) := by decide +kernel
theorem dL_shaken_399 : decode cL_shaken 399 = .ok (.if_icmp .ne 25, 3) := by decide +kernel
theorem dL_shaken_402 : decode cL_shaken 402 = .ok (.aload_n 0, 1) := by decide +kernel
theorem dL_shaken_403 : decode cL_shaken 403 = .ok (.iload 4, 2) := by decide +kernel
theorem dL_shaken_405 : decode cL_shaken 405 = .ok (.invokestatic 209, 3) := by decide +kernel
theorem dL_shaken_408 : decode cL_shaken 408 = .ok (.bipush (-11), 2) := by decide +kernel
theorem dL_shaken_410 : decode cL_shaken 410 = .ok (.if_icmp .ne 14, 3) := by decide +kernel
theorem dL_shaken_413 : decode cL_shaken 413 = .ok (.aload_n 0, 1) := by decide +kernel
theorem dL_shaken_414 : decode cL_shaken 414 = .ok (.invokevirtual 223, 3) := by decide +kernel
theorem dL_shaken_417 : decode cL_shaken 417 = .ok (.ifCond .eq 7, 3) := by decide +kernel
theorem dL_shaken_420 : decode cL_shaken 420 = .ok (.iconst 1, 1) := by decide +kernel
theorem dL_shaken_421 : decode cL_shaken 421 = .ok (.goto 4, 3) := by decide +kernel
theorem dL_shaken_424 : decode cL_shaken 424 = .ok (.iconst 0, 1) := by decide +kernel
theorem dL_shaken_425 : decode cL_shaken 425 = .ok (.ireturn, 1) := by decide +kernel
