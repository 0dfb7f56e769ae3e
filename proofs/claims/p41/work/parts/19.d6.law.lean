theorem dL_undone_0 : decode cL_undone 0 = .ok (.bipush 9, 2) := by decide +kernel
theorem dL_undone_2 : decode cL_undone 2 = .ok (.newarray .long, 2) := by decide +kernel
theorem dL_undone_4 : decode cL_undone 4 = .ok (.astore_n 2, 1) := by decide +kernel
theorem dL_undone_5 : decode cL_undone 5 = .ok (.iconst 0, 1) := by decide +kernel
theorem dL_undone_6 : decode cL_undone 6 = .ok (.istore_n 3, 1) := by decide +kernel
theorem dL_undone_7 : decode cL_undone 7 = .ok (.iconst 0, 1) := by decide +kernel
theorem dL_undone_8 : decode cL_undone 8 = .ok (.istore 4, 2) := by decide +kernel
theorem dL_undone_10 : decode cL_undone 10 = .ok (.iload 4, 2) := by decide +kernel
theorem dL_undone_12 : decode cL_undone 12 = .ok (.bipush 7, 2) := by decide +kernel
theorem dL_undone_14 : decode cL_undone 14 = .ok (.if_icmp .ge 355, 3) := by decide +kernel
theorem dL_undone_17 : decode cL_undone 17 = .ok (.aload_n 0, 1) := by decide +kernel
theorem dL_undone_18 : decode cL_undone 18 = .ok (.bipush 16, 2) := by decide +kernel
theorem dL_undone_20 : decode cL_undone 20 = .ok (.iload 4, 2) := by decide +kernel
theorem dL_undone_22 : decode cL_undone 22 = .ok (.iadd, 1) := by decide +kernel
theorem dL_undone_23 : decode cL_undone 23 = .ok (.invokestatic 125, 3) := by decide +kernel
theorem dL_undone_26 : decode cL_undone 26 = .ok (.iconst 1, 1) := by decide +kernel
theorem dL_undone_27 : decode cL_undone 27 = .ok (.iushr, 1) := by decide +kernel
theorem dL_undone_28 : decode cL_undone 28 = .ok (.istore 5, 2) := by decide +kernel
theorem dL_undone_30 : decode cL_undone 30 = .ok (.iload 5, 2) := by decide +kernel
theorem dL_undone_32 : decode cL_undone 32 = .ok (.iconst 4, 1) := by decide +kernel
theorem dL_undone_33 : decode cL_undone 33 = .ok (.iushr, 1) := by decide +kernel
theorem dL_undone_34 : decode cL_undone 34 = .ok (.istore 6, 2) := by decide +kernel
theorem dL_undone_36 : decode cL_undone 36 = .ok (.iload 6, 2) := by decide +kernel
theorem dL_undone_38 : decode cL_undone 38 = .ok (.bipush 6, 2) := by decide +kernel
theorem dL_undone_40 : decode cL_undone 40 = .ok (.irem, 1) := by decide +kernel
theorem dL_undone_41 : decode cL_undone 41 = .ok (.istore 7, 2) := by decide +kernel
theorem dL_undone_43 : decode cL_undone 43 = .ok (.iload 6, 2) := by decide +kernel
theorem dL_undone_45 : decode cL_undone 45 = .ok (.iconst 3, 1) := by decide +kernel
theorem dL_undone_46 : decode cL_undone 46 = .ok (.iushr, 1) := by decide +kernel
theorem dL_undone_47 : decode cL_undone 47 = .ok (.bipush 11, 2) := by decide +kernel
theorem dL_undone_49 : decode cL_undone 49 = .ok (.irem, 1) := by decide +kernel
theorem dL_undone_50 : decode cL_undone 50 = .ok (.istore 8, 2) := by decide +kernel
theorem dL_undone_52 : decode cL_undone 52 = .ok (.aload_n 2, 1) := by decide +kernel
theorem dL_undone_53 : decode cL_undone 53 = .ok (.iload_n 3, 1) := by decide +kernel
theorem dL_undone_54 : decode cL_undone 54 = .ok (.aload_n 1, 1) := by decide +kernel
theorem dL_undone_55 : decode cL_undone 55 = .ok (.invokestatic 292, 3) := by decide +kernel
theorem dL_undone_58 : decode cL_undone 58 = .ok (.lastore, 1) := by decide +kernel
theorem dL_undone_59 : decode cL_undone 59 = .ok (.iload 5, 2) := by decide +kernel
theorem dL_undone_61 : decode cL_undone 61 = .ok (.bipush 11, 2) := by decide +kernel
theorem dL_undone_63 : decode cL_undone 63 = .ok (.irem, 1) := by decide +kernel
theorem dL_undone_64 : decode cL_undone 64 = .ok (.tableswitch 174 0 9 #[56, 69, 82, 95, 106, 125, 136, 145, 156, 165], 56) := by decide +kernel
theorem dL_undone_120 : decode cL_undone 120 = .ok (.aload_n 1, 1) := by decide +kernel
theorem dL_undone_121 : decode cL_undone 121 = .ok (.iload 7, 2) := by decide +kernel
theorem dL_undone_123 : decode cL_undone 123 = .ok (.iload 8, 2) := by decide +kernel
theorem dL_undone_125 : decode cL_undone 125 = .ok (.invokestatic 129, 3) := by decide +kernel
theorem dL_undone_128 : decode cL_undone 128 = .ok (.istore 9, 2) := by decide +kernel
theorem dL_undone_130 : decode cL_undone 130 = .ok (.goto 202, 3) := by decide +kernel
theorem dL_undone_133 : decode cL_undone 133 = .ok (.aload_n 1, 1) := by decide +kernel
theorem dL_undone_134 : decode cL_undone 134 = .ok (.iload 7, 2) := by decide +kernel
theorem dL_undone_136 : decode cL_undone 136 = .ok (.iload 8, 2) := by decide +kernel
theorem dL_undone_138 : decode cL_undone 138 = .ok (.invokestatic 132, 3) := by decide +kernel
theorem dL_undone_141 : decode cL_undone 141 = .ok (.istore 9, 2) := by decide +kernel
theorem dL_undone_143 : decode cL_undone 143 = .ok (.goto 189, 3) := by decide +kernel
theorem dL_undone_146 : decode cL_undone 146 = .ok (.aload_n 1, 1) := by decide +kernel
theorem dL_undone_147 : decode cL_undone 147 = .ok (.iload 7, 2) := by decide +kernel
theorem dL_undone_149 : decode cL_undone 149 = .ok (.iload 8, 2) := by decide +kernel
theorem dL_undone_151 : decode cL_undone 151 = .ok (.invokestatic 134, 3) := by decide +kernel
theorem dL_undone_154 : decode cL_undone 154 = .ok (.istore 9, 2) := by decide +kernel
theorem dL_undone_156 : decode cL_undone 156 = .ok (.goto 176, 3) := by decide +kernel
theorem dL_undone_159 : decode cL_undone 159 = .ok (.aload_n 1, 1) := by decide +kernel
theorem dL_undone_160 : decode cL_undone 160 = .ok (.iload 8, 2) := by decide +kernel
theorem dL_undone_162 : decode cL_undone 162 = .ok (.invokestatic 296, 3) := by decide +kernel
theorem dL_undone_165 : decode cL_undone 165 = .ok (.istore 9, 2) := by decide +kernel
theorem dL_undone_167 : decode cL_undone 167 = .ok (.goto 165, 3) := by decide +kernel
theorem dL_undone_170 : decode cL_undone 170 = .ok (.aload_n 1, 1) := by decide +kernel
theorem dL_undone_171 : decode cL_undone 171 = .ok (.iload 8, 2) := by decide +kernel
theorem dL_undone_173 : decode cL_undone 173 = .ok (.iload 6, 2) := by decide +kernel
theorem dL_undone_175 : decode cL_undone 175 = .ok (.bipush 7, 2) := by decide +kernel
theorem dL_undone_177 : decode cL_undone 177 = .ok (.iushr, 1) := by decide +kernel
theorem dL_undone_178 : decode cL_undone 178 = .ok (.bipush 11, 2) := by decide +kernel
theorem dL_undone_180 : decode cL_undone 180 = .ok (.irem, 1) := by decide +kernel
theorem dL_undone_181 : decode cL_undone 181 = .ok (.invokestatic 142, 3) := by decide +kernel
theorem dL_undone_184 : decode cL_undone 184 = .ok (.istore 9, 2) := by decide +kernel
theorem dL_undone_186 : decode cL_undone 186 = .ok (.goto 146, 3) := by decide +kernel
theorem dL_undone_189 : decode cL_undone 189 = .ok (.aload_n 1, 1) := by decide +kernel
theorem dL_undone_190 : decode cL_undone 190 = .ok (.iload 8, 2) := by decide +kernel
theorem dL_undone_192 : decode cL_undone 192 = .ok (.invokestatic 144, 3) := by decide +kernel
theorem dL_undone_195 : decode cL_undone 195 = .ok (.istore 9, 2) := by decide +kernel
theorem dL_undone_197 : decode cL_undone 197 = .ok (.goto 135, 3) := by decide +kernel
theorem dL_undone_200 : decode cL_undone 200 = .ok (.aload_n 1, 1) := by decide +kernel
theorem dL_undone_201 : decode cL_undone 201 = .ok (.invokevirtual 147, 3) := by decide +kernel
theorem dL_undone_204 : decode cL_undone 204 = .ok (.istore 9, 2) := by decide +kernel
theorem dL_undone_206 : decode cL_undone 206 = .ok (.goto 126, 3) := by decide +kernel
theorem dL_undone_209 : decode cL_undone 209 = .ok (.aload_n 1, 1) := by decide +kernel
theorem dL_undone_210 : decode cL_undone 210 = .ok (.iload 8, 2) := by decide +kernel
theorem dL_undone_212 : decode cL_undone 212 = .ok (.invokestatic 150, 3) := by decide +kernel
theorem dL_undone_215 : decode cL_undone 215 = .ok (.istore 9, 2) := by decide +kernel
theorem dL_undone_217 : decode cL_undone 217 = .ok (.goto 115, 3) := by decide +kernel
theorem dL_undone_220 : decode cL_undone 220 = .ok (.aload_n 1, 1) := by decide +kernel
theorem dL_undone_221 : decode cL_undone 221 = .ok (.invokestatic 298, 3) := by decide +kernel
theorem dL_undone_224 : decode cL_undone 224 = .ok (.istore 9, 2) := by decide +kernel
theorem dL_undone_226 : decode cL_undone 226 = .ok (.goto 106, 3) := by decide +kernel
theorem dL_undone_229 : decode cL_undone 229 = .ok (.aload_n 1, 1) := by decide +kernel
theorem dL_undone_230 : decode cL_undone 230 = .ok (.invokevirtual 300, 3) := by decide +kernel
theorem dL_undone_233 : decode cL_undone 233 = .ok (.istore 9, 2) := by decide +kernel
theorem dL_undone_235 : decode cL_undone 235 = .ok (.goto 97, 3) := by decide +kernel
theorem dL_undone_238 : decode cL_undone 238 = .ok (.aload_n 1, 1) := by decide +kernel
theorem dL_undone_239 : decode cL_undone 239 = .ok (.new 247, 3) := by decide +kernel
theorem dL_undone_242 : decode cL_undone 242 = .ok (.dup, 1) := by decide +kernel
theorem dL_undone_243 : decode cL_undone 243 = .ok (.invokespecial 249, 3) := by decide +kernel
theorem dL_undone_246 : decode cL_undone 246 = .ok (.ldc_w 303, 3) := by decide +kernel
theorem dL_undone_249 : decode cL_undone 249 = .ok (.invokevirtual 257, 3) := by decide +kernel
theorem dL_undone_252 : decode cL_undone 252 = .ok (.iconst 1, 1) := by decide +kernel
theorem dL_undone_253 : decode cL_undone 253 = .ok (.iload 6, 2) := by decide +kernel
theorem dL_undone_255 : decode cL_undone 255 = .ok (.bipush 9, 2) := by decide +kernel
theorem dL_undone_257 : decode cL_undone 257 = .ok (.irem, 1) := by decide +kernel
theorem dL_undone_258 : decode cL_undone 258 = .ok (.iadd, 1) := by decide +kernel
theorem dL_undone_259 : decode cL_undone 259 = .ok (.invokevirtual 260, 3) := by decide +kernel
theorem dL_undone_262 : decode cL_undone 262 = .ok (.ldc_w 305, 3) := by decide +kernel
theorem dL_undone_265 : decode cL_undone 265 = .ok (.invokevirtual 257, 3) := by decide +kernel
theorem dL_undone_268 : decode cL_undone 268 = .ok (.iload 5, 2) := by decide +kernel
theorem dL_undone_270 : decode cL_undone 270 = .ok (.bipush 22, 2) := by decide +kernel
theorem dL_undone_272 : decode cL_undone 272 = .ok (.irem, 1) := by decide +kernel
theorem dL_undone_273 : decode cL_undone 273 = .ok (.bipush 11, 2) := by decide +kernel
theorem dL_undone_275 : decode cL_undone 275 = .ok (.if_icmp .ge 8, 3) := by decide +kernel
theorem dL_undone_278 : decode cL_undone 278 = .ok (.ldc 255, 2) := by decide +kernel
theorem dL_undone_280 : decode cL_undone 280 = .ok (.goto 27, 3) := by decide +kernel
theorem dL_undone_283 : decode cL_undone 283 = .ok (.new 247, 3) := by decide +kernel
theorem dL_undone_286 : decode cL_undone 286 = .ok (.dup, 1) := by decide +kernel
theorem dL_undone_287 : decode cL_undone 287 = .ok (.invokespecial 249, 3) := by decide +kernel
theorem dL_undone_290 : decode cL_undone 290 = .ok (.ldc_w 307, 3) := by decide +kernel
theorem dL_undone_293 : decode cL_undone 293 = .ok (.invokevirtual 257, 3) := by decide +kernel
theorem dL_undone_296 : decode cL_undone 296 = .ok (.iload 6, 2) := by decide +kernel
theorem dL_undone_298 : decode cL_undone 298 = .ok (.bipush 14, 2) := by decide +kernel
theorem dL_undone_300 : decode cL_undone 300 = .ok (.irem, 1) := by decide +kernel
theorem dL_undone_301 : decode cL_undone 301 = .ok (.invokevirtual 260, 3) := by decide +kernel
theorem dL_undone_304 : decode cL_undone 304 = .ok (.invokevirtual 265, 3) := by decide +kernel
theorem dL_undone_307 : decode cL_undone 307 = .ok (.invokevirtual 257, 3) := by decide +kernel
theorem dL_undone_310 : decode cL_undone 310 = .ok (.ldc_w 309, 3) := by decide +kernel
theorem dL_undone_313 : decode cL_undone 313 = .ok (.invokevirtual 257, 3) := by decide +kernel
theorem dL_undone_316 : decode cL_undone 316 = .ok (.iload 6, 2) := by decide +kernel
theorem dL_undone_318 : decode cL_undone 318 = .ok (.bipush 10, 2) := by decide +kernel
theorem dL_undone_320 : decode cL_undone 320 = .ok (.irem, 1) := by decide +kernel
theorem dL_undone_321 : decode cL_undone 321 = .ok (.invokevirtual 260, 3) := by decide +kernel
theorem dL_undone_324 : decode cL_undone 324 = .ok (.invokevirtual 265, 3) := by decide +kernel
theorem dL_undone_327 : decode cL_undone 327 = .ok (.invokestatic 311, 3) := by decide +kernel
theorem dL_undone_330 : decode cL_undone 330 = .ok (.istore 9, 2) := by decide +kernel
theorem dL_undone_332 : decode cL_undone 332 = .ok (.iload 9, 2) := by decide +kernel
theorem dL_undone_334 : decode cL_undone 334 = .ok (.ifCond .ge 16, 3) := by decide +kernel
theorem dL_undone_337 : decode cL_undone 337 = .ok (.aload_n 1, 1) := by decide +kernel
theorem dL_undone_338 : decode cL_undone 338 = .ok (.invokestatic 292, 3) := by decide +kernel
theorem dL_undone_341 : decode cL_undone 341 = .ok (.aload_n 2, 1) := by decide +kernel
theorem dL_undone_342 : decode cL_undone 342 = .ok (.iload_n 3, 1) := by decide +kernel
theorem dL_undone_343 : decode cL_undone 343 = .ok (.laload, 1) := by decide +kernel
theorem dL_undone_344 : decode cL_undone 344 = .ok (.lcmp, 1) := by decide +kernel
theorem dL_undone_345 : decode cL_undone 345 = .ok (.ifCond .eq 5, 3) := by decide +kernel
theorem dL_undone_348 : decode cL_undone 348 = .ok (.iconst 0, 1) := by decide +kernel
theorem dL_undone_349 : decode cL_undone 349 = .ok (.ireturn, 1) := by decide +kernel
theorem dL_undone_350 : decode cL_undone 350 = .ok (.iload_n 3, 1) := by decide +kernel
theorem dL_undone_351 : decode cL_undone 351 = .ok (.iload 9, 2) := by decide +kernel
theorem dL_undone_353 : decode cL_undone 353 = .ok (.ifCond .ge 7, 3) := by decide +kernel
theorem dL_undone_356 : decode cL_undone 356 = .ok (.iconst 0, 1) := by decide +kernel
theorem dL_undone_357 : decode cL_undone 357 = .ok (.goto 4, 3) := by decide +kernel
theorem dL_undone_360 : decode cL_undone 360 = .ok (.iconst 1, 1) := by decide +kernel
theorem dL_undone_361 : decode cL_undone 361 = .ok (.iadd, 1) := by decide +kernel
theorem dL_undone_362 : decode cL_undone 362 = .ok (.istore_n 3, 1) := by decide +kernel
theorem dL_undone_363 : decode cL_undone 363 = .ok (.iinc 4 1, 3) := by decide +kernel
theorem dL_undone_366 : decode cL_undone 366 = .ok (.goto (-356), 3) := by decide +kernel
theorem dL_undone_369 : decode cL_undone 369 = .ok (.iload_n 3, 1) := by decide +kernel
theorem dL_undone_370 : decode cL_undone 370 = .ok (.iconst 1, 1) := by decide +kernel
theorem dL_undone_371 : decode cL_undone 371 = .ok (.isub, 1) := by decide +kernel
theorem dL_undone_372 : decode cL_undone 372 = .ok (.istore 4, 2) := by decide +kernel
theorem dL_undone_374 : decode cL_undone 374 = .ok (.iload 4, 2) := by decide +kernel
theorem dL_undone_376 : decode cL_undone 376 = .ok (.ifCond .lt 30, 3) := by decide +kernel
theorem dL_undone_379 : decode cL_undone 379 = .ok (.aload_n 1, 1) := by decide +kernel
theorem dL_undone_380 : decode cL_undone 380 = .ok (.invokestatic 314, 3) := by decide +kernel
theorem dL_undone_383 : decode cL_undone 383 = .ok (.ifCond .lt 15, 3) := by decide +kernel
theorem dL_undone_386 : decode cL_undone 386 = .ok (.aload_n 1, 1) := by decide +kernel
theorem dL_undone_387 : decode cL_undone 387 = .ok (.invokestatic 292, 3) := by decide +kernel
theorem dL_undone_390 : decode cL_undone 390 = .ok (.aload_n 2, 1) := by decide +kernel
theorem dL_undone_391 : decode cL_undone 391 = .ok (.iload 4, 2) := by decide +kernel
theorem dL_undone_393 : decode cL_undone 393 = .ok (.laload, 1) := by decide +kernel
theorem dL_undone_394 : decode cL_undone 394 = .ok (.lcmp, 1) := by decide +kernel
theorem dL_undone_395 : decode cL_undone 395 = .ok (.ifCond .eq 5, 3) := by decide +kernel
theorem dL_undone_398 : decode cL_undone 398 = .ok (.iconst 0, 1) := by decide +kernel
theorem dL_undone_399 : decode cL_undone 399 = .ok (.ireturn, 1) := by decide +kernel
theorem dL_undone_400 : decode cL_undone 400 = .ok (.iinc 4 (-1), 3) := by decide +kernel
theorem dL_undone_403 : decode cL_undone 403 = .ok (.goto (-29), 3) := by decide +kernel
theorem dL_undone_406 : decode cL_undone 406 = .ok (.iconst 1, 1) := by decide +kernel
theorem dL_undone_407 : decode cL_undone 407 = .ok (.ireturn, 1) := by decide +kernel
