theorem dL_ranks_0 : decode cL_ranks 0 = .ok (.aload_n 0, 1) := by decide +kernel
theorem dL_ranks_1 : decode cL_ranks 1 = .ok (.invokestatic 197, 3) := by decide +kernel
theorem dL_ranks_4 : decode cL_ranks 4 = .ok (.astore_n 1, 1) := by decide +kernel
theorem dL_ranks_5 : decode cL_ranks 5 = .ok (.iconst 4, 1) := by decide +kernel
theorem dL_ranks_6 : decode cL_ranks 6 = .ok (.newarray .int, 2) := by decide +kernel
theorem dL_ranks_8 : decode cL_ranks 8 = .ok (.astore_n 2, 1) := by decide +kernel
theorem dL_ranks_9 : decode cL_ranks 9 = .ok (.iconst 4, 1) := by decide +kernel
theorem dL_ranks_10 : decode cL_ranks 10 = .ok (.newarray .int, 2) := by decide +kernel
theorem dL_ranks_12 : decode cL_ranks 12 = .ok (.dup, 1) := by decide +kernel
theorem dL_ranks_13 : decode cL_ranks 13 = .ok (.iconst 0, 1) := by decide +kernel
theorem dL_ranks_14 : decode cL_ranks 14 = .ok (.iconst (-1), 1) := by decide +kernel
theorem dL_ranks_15 : decode cL_ranks 15 = .ok (.iastore, 1) := by decide +kernel
theorem dL_ranks_16 : decode cL_ranks 16 = .ok (.dup, 1) := by decide +kernel
theorem dL_ranks_17 : decode cL_ranks 17 = .ok (.iconst 1, 1) := by decide +kernel
theorem dL_ranks_18 : decode cL_ranks 18 = .ok (.iconst (-1), 1) := by decide +kernel
theorem dL_ranks_19 : decode cL_ranks 19 = .ok (.iastore, 1) := by decide +kernel
theorem dL_ranks_20 : decode cL_ranks 20 = .ok (.dup, 1) := by decide +kernel
theorem dL_ranks_21 : decode cL_ranks 21 = .ok (.iconst 2, 1) := by decide +kernel
theorem dL_ranks_22 : decode cL_ranks 22 = .ok (.iconst (-1), 1) := by decide +kernel
theorem dL_ranks_23 : decode cL_ranks 23 = .ok (.iastore, 1) := by decide +kernel
theorem dL_ranks_24 : decode cL_ranks 24 = .ok (.dup, 1) := by decide +kernel
theorem dL_ranks_25 : decode cL_ranks 25 = .ok (.iconst 3, 1) := by decide +kernel
theorem dL_ranks_26 : decode cL_ranks 26 = .ok (.iconst (-1), 1) := by decide +kernel
theorem dL_ranks_27 : decode cL_ranks 27 = .ok (.iastore, 1) := by decide +kernel
theorem dL_ranks_28 : decode cL_ranks 28 = .ok (.astore_n 3, 1) := by decide +kernel
theorem dL_ranks_29 : decode cL_ranks 29 = .ok (.iconst 0, 1) := by decide +kernel
theorem dL_ranks_30 : decode cL_ranks 30 = .ok (.istore 4, 2) := by decide +kernel
theorem dL_ranks_32 : decode cL_ranks 32 = .ok (.iload 4, 2) := by decide +kernel
theorem dL_ranks_34 : decode cL_ranks 34 = .ok (.aload_n 1, 1) := by decide +kernel
theorem dL_ranks_35 : decode cL_ranks 35 = .ok (.arraylength, 1) := by decide +kernel
theorem dL_ranks_36 : decode cL_ranks 36 = .ok (.if_icmp .ge 266, 3) := by decide +kernel
theorem dL_ranks_39 : decode cL_ranks 39 = .ok (.iconst 1, 1) := by decide +kernel
theorem dL_ranks_40 : decode cL_ranks 40 = .ok (.istore 5, 2) := by decide +kernel
theorem dL_ranks_42 : decode cL_ranks 42 = .ok (.iload 5, 2) := by decide +kernel
theorem dL_ranks_44 : decode cL_ranks 44 = .ok (.iconst 4, 1) := by decide +kernel
theorem dL_ranks_45 : decode cL_ranks 45 = .ok (.if_icmp .ge 251, 3) := by decide +kernel
theorem dL_ranks_48 : decode cL_ranks 48 = .ok (.iload 5, 2) := by decide +kernel
theorem dL_ranks_50 : decode cL_ranks 50 = .ok (.iconst 1, 1) := by decide +kernel
theorem dL_ranks_51 : decode cL_ranks 51 = .ok (.if_icmp .ne 12, 3) := by decide +kernel
theorem dL_ranks_54 : decode cL_ranks 54 = .ok (.aload_n 0, 1) := by decide +kernel
theorem dL_ranks_55 : decode cL_ranks 55 = .ok (.iload 4, 2) := by decide +kernel
theorem dL_ranks_57 : decode cL_ranks 57 = .ok (.invokestatic 227, 3) := by decide +kernel
theorem dL_ranks_60 : decode cL_ranks 60 = .ok (.goto 24, 3) := by decide +kernel
theorem dL_ranks_63 : decode cL_ranks 63 = .ok (.iload 5, 2) := by decide +kernel
theorem dL_ranks_65 : decode cL_ranks 65 = .ok (.iconst 2, 1) := by decide +kernel
theorem dL_ranks_66 : decode cL_ranks 66 = .ok (.if_icmp .ne 12, 3) := by decide +kernel
theorem dL_ranks_69 : decode cL_ranks 69 = .ok (.aload_n 0, 1) := by decide +kernel
theorem dL_ranks_70 : decode cL_ranks 70 = .ok (.iload 4, 2) := by decide +kernel
theorem dL_ranks_72 : decode cL_ranks 72 = .ok (.invokestatic 229, 3) := by decide +kernel
theorem dL_ranks_75 : decode cL_ranks 75 = .ok (.goto 9, 3) := by decide +kernel
theorem dL_ranks_78 : decode cL_ranks 78 = .ok (.aload_n 0, 1) := by decide +kernel
theorem dL_ranks_79 : decode cL_ranks 79 = .ok (.iload 4, 2) := by decide +kernel
theorem dL_ranks_81 : decode cL_ranks 81 = .ok (.invokestatic 231, 3) := by decide +kernel
theorem dL_ranks_84 : decode cL_ranks 84 = .ok (.istore 6, 2) := by decide +kernel
theorem dL_ranks_86 : decode cL_ranks 86 = .ok (.iload 4, 2) := by decide +kernel
theorem dL_ranks_88 : decode cL_ranks 88 = .ok (.aload_n 1, 1) := by decide +kernel
theorem dL_ranks_89 : decode cL_ranks 89 = .ok (.iload 5, 2) := by decide +kernel
theorem dL_ranks_91 : decode cL_ranks 91 = .ok (.invokestatic 169, 3) := by decide +kernel
theorem dL_ranks_94 : decode cL_ranks 94 = .ok (.if_icmp .lt 12, 3) := by decide +kernel
theorem dL_ranks_97 : decode cL_ranks 97 = .ok (.iload 6, 2) := by decide +kernel
theorem dL_ranks_99 : decode cL_ranks 99 = .ok (.bipush (-13), 2) := by decide +kernel
theorem dL_ranks_101 : decode cL_ranks 101 = .ok (.if_icmp .eq 189, 3) := by decide +kernel
theorem dL_ranks_104 : decode cL_ranks 104 = .ok (.iconst 0, 1) := by decide +kernel
theorem dL_ranks_105 : decode cL_ranks 105 = .ok (.ireturn, 1) := by decide +kernel
theorem dL_ranks_106 : decode cL_ranks 106 = .ok (.iload 6, 2) := by decide +kernel
theorem dL_ranks_108 : decode cL_ranks 108 = .ok (.ifCond .lt 14, 3) := by decide +kernel
theorem dL_ranks_111 : decode cL_ranks 111 = .ok (.aload_n 1, 1) := by decide +kernel
theorem dL_ranks_112 : decode cL_ranks 112 = .ok (.iload 6, 2) := by decide +kernel
theorem dL_ranks_114 : decode cL_ranks 114 = .ok (.aaload, 1) := by decide +kernel
theorem dL_ranks_115 : decode cL_ranks 115 = .ok (.iconst 0, 1) := by decide +kernel
theorem dL_ranks_116 : decode cL_ranks 116 = .ok (.iaload, 1) := by decide +kernel
theorem dL_ranks_117 : decode cL_ranks 117 = .ok (.iload 5, 2) := by decide +kernel
theorem dL_ranks_119 : decode cL_ranks 119 = .ok (.if_icmp .eq 5, 3) := by decide +kernel
theorem dL_ranks_122 : decode cL_ranks 122 = .ok (.iconst 0, 1) := by decide +kernel
theorem dL_ranks_123 : decode cL_ranks 123 = .ok (.ireturn, 1) := by decide +kernel
theorem dL_ranks_124 : decode cL_ranks 124 = .ok (.aload_n 3, 1) := by decide +kernel
theorem dL_ranks_125 : decode cL_ranks 125 = .ok (.iload 5, 2) := by decide +kernel
theorem dL_ranks_127 : decode cL_ranks 127 = .ok (.iaload, 1) := by decide +kernel
theorem dL_ranks_128 : decode cL_ranks 128 = .ok (.istore 7, 2) := by decide +kernel
theorem dL_ranks_130 : decode cL_ranks 130 = .ok (.iload 7, 2) := by decide +kernel
theorem dL_ranks_132 : decode cL_ranks 132 = .ok (.ifCond .ge 7, 3) := by decide +kernel
theorem dL_ranks_135 : decode cL_ranks 135 = .ok (.iconst 1, 1) := by decide +kernel
theorem dL_ranks_136 : decode cL_ranks 136 = .ok (.goto 62, 3) := by decide +kernel
theorem dL_ranks_139 : decode cL_ranks 139 = .ok (.iload 5, 2) := by decide +kernel
theorem dL_ranks_141 : decode cL_ranks 141 = .ok (.iconst 1, 1) := by decide +kernel
theorem dL_ranks_142 : decode cL_ranks 142 = .ok (.if_icmp .ne 19, 3) := by decide +kernel
theorem dL_ranks_145 : decode cL_ranks 145 = .ok (.aload_n 1, 1) := by decide +kernel
theorem dL_ranks_146 : decode cL_ranks 146 = .ok (.iload 7, 2) := by decide +kernel
theorem dL_ranks_148 : decode cL_ranks 148 = .ok (.aaload, 1) := by decide +kernel
theorem dL_ranks_149 : decode cL_ranks 149 = .ok (.iconst 2, 1) := by decide +kernel
theorem dL_ranks_150 : decode cL_ranks 150 = .ok (.iaload, 1) := by decide +kernel
theorem dL_ranks_151 : decode cL_ranks 151 = .ok (.aload_n 1, 1) := by decide +kernel
theorem dL_ranks_152 : decode cL_ranks 152 = .ok (.iload 6, 2) := by decide +kernel
theorem dL_ranks_154 : decode cL_ranks 154 = .ok (.aaload, 1) := by decide +kernel
theorem dL_ranks_155 : decode cL_ranks 155 = .ok (.iconst 2, 1) := by decide +kernel
theorem dL_ranks_156 : decode cL_ranks 156 = .ok (.iaload, 1) := by decide +kernel
theorem dL_ranks_157 : decode cL_ranks 157 = .ok (.isub, 1) := by decide +kernel
theorem dL_ranks_158 : decode cL_ranks 158 = .ok (.goto 40, 3) := by decide +kernel
theorem dL_ranks_161 : decode cL_ranks 161 = .ok (.iload 5, 2) := by decide +kernel
theorem dL_ranks_163 : decode cL_ranks 163 = .ok (.iconst 2, 1) := by decide +kernel
theorem dL_ranks_164 : decode cL_ranks 164 = .ok (.if_icmp .ne 19, 3) := by decide +kernel
theorem dL_ranks_167 : decode cL_ranks 167 = .ok (.aload_n 1, 1) := by decide +kernel
theorem dL_ranks_168 : decode cL_ranks 168 = .ok (.iload 7, 2) := by decide +kernel
theorem dL_ranks_170 : decode cL_ranks 170 = .ok (.aaload, 1) := by decide +kernel
theorem dL_ranks_171 : decode cL_ranks 171 = .ok (.iconst 3, 1) := by decide +kernel
theorem dL_ranks_172 : decode cL_ranks 172 = .ok (.iaload, 1) := by decide +kernel
theorem dL_ranks_173 : decode cL_ranks 173 = .ok (.aload_n 1, 1) := by decide +kernel
theorem dL_ranks_174 : decode cL_ranks 174 = .ok (.iload 6, 2) := by decide +kernel
theorem dL_ranks_176 : decode cL_ranks 176 = .ok (.aaload, 1) := by decide +kernel
theorem dL_ranks_177 : decode cL_ranks 177 = .ok (.iconst 3, 1) := by decide +kernel
theorem dL_ranks_178 : decode cL_ranks 178 = .ok (.iaload, 1) := by decide +kernel
theorem dL_ranks_179 : decode cL_ranks 179 = .ok (.isub, 1) := by decide +kernel
theorem dL_ranks_180 : decode cL_ranks 180 = .ok (.goto 18, 3) := by decide +kernel
theorem dL_ranks_183 : decode cL_ranks 183 = .ok (.aload_n 1, 1) := by decide +kernel
theorem dL_ranks_184 : decode cL_ranks 184 = .ok (.iload 7, 2) := by decide +kernel
theorem dL_ranks_186 : decode cL_ranks 186 = .ok (.aaload, 1) := by decide +kernel
theorem dL_ranks_187 : decode cL_ranks 187 = .ok (.bipush 6, 2) := by decide +kernel
theorem dL_ranks_189 : decode cL_ranks 189 = .ok (.iaload, 1) := by decide +kernel
theorem dL_ranks_190 : decode cL_ranks 190 = .ok (.aload_n 1, 1) := by decide +kernel
theorem dL_ranks_191 : decode cL_ranks 191 = .ok (.iload 6, 2) := by decide +kernel
theorem dL_ranks_193 : decode cL_ranks 193 = .ok (.aaload, 1) := by decide +kernel
theorem dL_ranks_194 : decode cL_ranks 194 = .ok (.bipush 6, 2) := by decide +kernel
theorem dL_ranks_196 : decode cL_ranks 196 = .ok (.iaload, 1) := by decide +kernel
theorem dL_ranks_197 : decode cL_ranks 197 = .ok (.isub, 1) := by decide +kernel
theorem dL_ranks_198 : decode cL_ranks 198 = .ok (.istore 8, 2) := by decide +kernel
theorem dL_ranks_200 : decode cL_ranks 200 = .ok (.iload 8, 2) := by decide +kernel
theorem dL_ranks_202 : decode cL_ranks 202 = .ok (.ifCond .eq 8, 3) := by decide +kernel
theorem dL_ranks_205 : decode cL_ranks 205 = .ok (.iload 8, 2) := by decide +kernel
theorem dL_ranks_207 : decode cL_ranks 207 = .ok (.goto 48, 3) := by decide +kernel
theorem dL_ranks_210 : decode cL_ranks 210 = .ok (.iload 5, 2) := by decide +kernel
theorem dL_ranks_212 : decode cL_ranks 212 = .ok (.iconst 1, 1) := by decide +kernel
theorem dL_ranks_213 : decode cL_ranks 213 = .ok (.if_icmp .ne 19, 3) := by decide +kernel
theorem dL_ranks_216 : decode cL_ranks 216 = .ok (.aload_n 1, 1) := by decide +kernel
theorem dL_ranks_217 : decode cL_ranks 217 = .ok (.iload 6, 2) := by decide +kernel
theorem dL_ranks_219 : decode cL_ranks 219 = .ok (.aaload, 1) := by decide +kernel
theorem dL_ranks_220 : decode cL_ranks 220 = .ok (.iconst 3, 1) := by decide +kernel
theorem dL_ranks_221 : decode cL_ranks 221 = .ok (.iaload, 1) := by decide +kernel
theorem dL_ranks_222 : decode cL_ranks 222 = .ok (.aload_n 1, 1) := by decide +kernel
theorem dL_ranks_223 : decode cL_ranks 223 = .ok (.iload 7, 2) := by decide +kernel
theorem dL_ranks_225 : decode cL_ranks 225 = .ok (.aaload, 1) := by decide +kernel
theorem dL_ranks_226 : decode cL_ranks 226 = .ok (.iconst 3, 1) := by decide +kernel
theorem dL_ranks_227 : decode cL_ranks 227 = .ok (.iaload, 1) := by decide +kernel
theorem dL_ranks_228 : decode cL_ranks 228 = .ok (.isub, 1) := by decide +kernel
theorem dL_ranks_229 : decode cL_ranks 229 = .ok (.goto 26, 3) := by decide +kernel
theorem dL_ranks_232 : decode cL_ranks 232 = .ok (.iload 5, 2) := by decide +kernel
theorem dL_ranks_234 : decode cL_ranks 234 = .ok (.iconst 2, 1) := by decide +kernel
theorem dL_ranks_235 : decode cL_ranks 235 = .ok (.if_icmp .ne 19, 3) := by decide +kernel
theorem dL_ranks_238 : decode cL_ranks 238 = .ok (.aload_n 1, 1) := by decide +kernel
theorem dL_ranks_239 : decode cL_ranks 239 = .ok (.iload 7, 2) := by decide +kernel
theorem dL_ranks_241 : decode cL_ranks 241 = .ok (.aaload, 1) := by decide +kernel
theorem dL_ranks_242 : decode cL_ranks 242 = .ok (.iconst 2, 1) := by decide +kernel
theorem dL_ranks_243 : decode cL_ranks 243 = .ok (.iaload, 1) := by decide +kernel
theorem dL_ranks_244 : decode cL_ranks 244 = .ok (.aload_n 1, 1) := by decide +kernel
theorem dL_ranks_245 : decode cL_ranks 245 = .ok (.iload 6, 2) := by decide +kernel
theorem dL_ranks_247 : decode cL_ranks 247 = .ok (.aaload, 1) := by decide +kernel
theorem dL_ranks_248 : decode cL_ranks 248 = .ok (.iconst 2, 1) := by decide +kernel
theorem dL_ranks_249 : decode cL_ranks 249 = .ok (.iaload, 1) := by decide +kernel
theorem dL_ranks_250 : decode cL_ranks 250 = .ok (.isub, 1) := by decide +kernel
theorem dL_ranks_251 : decode cL_ranks 251 = .ok (.goto 4, 3) := by decide +kernel
theorem dL_ranks_254 : decode cL_ranks 254 = .ok (.iconst 0, 1) := by decide +kernel
theorem dL_ranks_255 : decode cL_ranks 255 = .ok (.istore 8, 2) := by decide +kernel
theorem dL_ranks_257 : decode cL_ranks 257 = .ok (.iload 8, 2) := by decide +kernel
theorem dL_ranks_259 : decode cL_ranks 259 = .ok (.ifCond .lt 15, 3) := by decide +kernel
theorem dL_ranks_262 : decode cL_ranks 262 = .ok (.iload 8, 2) := by decide +kernel
theorem dL_ranks_264 : decode cL_ranks 264 = .ok (.ifCond .ne 12, 3) := by decide +kernel
theorem dL_ranks_267 : decode cL_ranks 267 = .ok (.iload 6, 2) := by decide +kernel
theorem dL_ranks_269 : decode cL_ranks 269 = .ok (.iload 7, 2) := by decide +kernel
theorem dL_ranks_271 : decode cL_ranks 271 = .ok (.if_icmp .ge 5, 3) := by decide +kernel
theorem dL_ranks_274 : decode cL_ranks 274 = .ok (.iconst 0, 1) := by decide +kernel
theorem dL_ranks_275 : decode cL_ranks 275 = .ok (.ireturn, 1) := by decide +kernel
theorem dL_ranks_276 : decode cL_ranks 276 = .ok (.aload_n 3, 1) := by decide +kernel
theorem dL_ranks_277 : decode cL_ranks 277 = .ok (.iload 5, 2) := by decide +kernel
theorem dL_ranks_279 : decode cL_ranks 279 = .ok (.iload 6, 2) := by decide +kernel
theorem dL_ranks_281 : decode cL_ranks 281 = .ok (.iastore, 1) := by decide +kernel
theorem dL_ranks_282 : decode cL_ranks 282 = .ok (.aload_n 2, 1) := by decide +kernel
theorem dL_ranks_283 : decode cL_ranks 283 = .ok (.iload 5, 2) := by decide +kernel
theorem dL_ranks_285 : decode cL_ranks 285 = .ok (.dup2, 1) := by decide +kernel
theorem dL_ranks_286 : decode cL_ranks 286 = .ok (.iaload, 1) := by decide +kernel
theorem dL_ranks_287 : decode cL_ranks 287 = .ok (.iconst 1, 1) := by decide +kernel
theorem dL_ranks_288 : decode cL_ranks 288 = .ok (.iadd, 1) := by decide +kernel
theorem dL_ranks_289 : decode cL_ranks 289 = .ok (.iastore, 1) := by decide +kernel
theorem dL_ranks_290 : decode cL_ranks 290 = .ok (.iinc 5 1, 3) := by decide +kernel
theorem dL_ranks_293 : decode cL_ranks 293 = .ok (.goto (-251), 3) := by decide +kernel
theorem dL_ranks_296 : decode cL_ranks 296 = .ok (.iinc 4 1, 3) := by decide +kernel
theorem dL_ranks_299 : decode cL_ranks 299 = .ok (.goto (-267), 3) := by decide +kernel
theorem dL_ranks_302 : decode cL_ranks 302 = .ok (.iconst 0, 1) := by decide +kernel
theorem dL_ranks_303 : decode cL_ranks 303 = .ok (.istore 4, 2) := by decide +kernel
theorem dL_ranks_305 : decode cL_ranks 305 = .ok (.iconst 0, 1) := by decide +kernel
theorem dL_ranks_306 : decode cL_ranks 306 = .ok (.istore 5, 2) := by decide +kernel
theorem dL_ranks_308 : decode cL_ranks 308 = .ok (.iconst 0, 1) := by decide +kernel
theorem dL_ranks_309 : decode cL_ranks 309 = .ok (.istore 6, 2) := by decide +kernel
theorem dL_ranks_311 : decode cL_ranks 311 = .ok (.iconst 0, 1) := by decide +kernel
theorem dL_ranks_312 : decode cL_ranks 312 = .ok (.istore 7, 2) := by decide +kernel
theorem dL_ranks_314 : decode cL_ranks 314 = .ok (.iload 7, 2) := by decide +kernel
theorem dL_ranks_316 : decode cL_ranks 316 = .ok (.aload_n 1, 1) := by decide +kernel
theorem dL_ranks_317 : decode cL_ranks 317 = .ok (.arraylength, 1) := by decide +kernel
theorem dL_ranks_318 : decode cL_ranks 318 = .ok (.if_icmp .ge 180, 3) := by decide +kernel
theorem dL_ranks_321 : decode cL_ranks 321 = .ok (.aload_n 1, 1) := by decide +kernel
theorem dL_ranks_322 : decode cL_ranks 322 = .ok (.iload 7, 2) := by decide +kernel
theorem dL_ranks_324 : decode cL_ranks 324 = .ok (.aaload, 1) := by decide +kernel
theorem dL_ranks_325 : decode cL_ranks 325 = .ok (.astore 8, 2) := by decide +kernel
theorem dL_ranks_327 : decode cL_ranks 327 = .ok (.iload 4, 2) := by decide +kernel
theorem dL_ranks_329 : decode cL_ranks 329 = .ok (.aload 8, 2) := by decide +kernel
theorem dL_ranks_331 : decode cL_ranks 331 = .ok (.iconst 4, 1) := by decide +kernel
theorem dL_ranks_332 : decode cL_ranks 332 = .ok (.iaload, 1) := by decide +kernel
theorem dL_ranks_333 : decode cL_ranks 333 = .ok (.iadd, 1) := by decide +kernel
theorem dL_ranks_334 : decode cL_ranks 334 = .ok (.istore 4, 2) := by decide +kernel
theorem dL_ranks_336 : decode cL_ranks 336 = .ok (.iload 5, 2) := by decide +kernel
theorem dL_ranks_338 : decode cL_ranks 338 = .ok (.aload 8, 2) := by decide +kernel
theorem dL_ranks_340 : decode cL_ranks 340 = .ok (.iconst 0, 1) := by decide +kernel
theorem dL_ranks_341 : decode cL_ranks 341 = .ok (.iaload, 1) := by decide +kernel
theorem dL_ranks_342 : decode cL_ranks 342 = .ok (.iconst 1, 1) := by decide +kernel
theorem dL_ranks_343 : decode cL_ranks 343 = .ok (.if_icmp .ne 10, 3) := by decide +kernel
theorem dL_ranks_346 : decode cL_ranks 346 = .ok (.aload 8, 2) := by decide +kernel
theorem dL_ranks_348 : decode cL_ranks 348 = .ok (.iconst 2, 1) := by decide +kernel
theorem dL_ranks_349 : decode cL_ranks 349 = .ok (.iaload, 1) := by decide +kernel
theorem dL_ranks_350 : decode cL_ranks 350 = .ok (.goto 4, 3) := by decide +kernel
theorem dL_ranks_353 : decode cL_ranks 353 = .ok (.iconst 0, 1) := by decide +kernel
theorem dL_ranks_354 : decode cL_ranks 354 = .ok (.iadd, 1) := by decide +kernel
theorem dL_ranks_355 : decode cL_ranks 355 = .ok (.istore 5, 2) := by decide +kernel
theorem dL_ranks_357 : decode cL_ranks 357 = .ok (.aload 8, 2) := by decide +kernel
theorem dL_ranks_359 : decode cL_ranks 359 = .ok (.iconst 0, 1) := by decide +kernel
theorem dL_ranks_360 : decode cL_ranks 360 = .ok (.iaload, 1) := by decide +kernel
theorem dL_ranks_361 : decode cL_ranks 361 = .ok (.iconst 1, 1) := by decide +kernel
theorem dL_ranks_362 : decode cL_ranks 362 = .ok (.if_icmp .ne 39, 3) := by decide +kernel
theorem dL_ranks_365 : decode cL_ranks 365 = .ok (.aload 8, 2) := by decide +kernel
theorem dL_ranks_367 : decode cL_ranks 367 = .ok (.iconst 4, 1) := by decide +kernel
theorem dL_ranks_368 : decode cL_ranks 368 = .ok (.iaload, 1) := by decide +kernel
theorem dL_ranks_369 : decode cL_ranks 369 = .ok (.aload 8, 2) := by decide +kernel
theorem dL_ranks_371 : decode cL_ranks 371 = .ok (.iconst 3, 1) := by decide +kernel
theorem dL_ranks_372 : decode cL_ranks 372 = .ok (.iaload, 1) := by decide +kernel
theorem dL_ranks_373 : decode cL_ranks 373 = .ok (.iconst 3, 1) := by decide +kernel
theorem dL_ranks_374 : decode cL_ranks 374 = .ok (.if_icmp .ne 7, 3) := by decide +kernel
theorem dL_ranks_377 : decode cL_ranks 377 = .ok (.iconst 1, 1) := by decide +kernel
theorem dL_ranks_378 : decode cL_ranks 378 = .ok (.goto 4, 3) := by decide +kernel
theorem dL_ranks_381 : decode cL_ranks 381 = .ok (.iconst 0, 1) := by decide +kernel
theorem dL_ranks_382 : decode cL_ranks 382 = .ok (.if_icmp .ne 15, 3) := by decide +kernel
theorem dL_ranks_385 : decode cL_ranks 385 = .ok (.aload 8, 2) := by decide +kernel
theorem dL_ranks_387 : decode cL_ranks 387 = .ok (.iconst 3, 1) := by decide +kernel
theorem dL_ranks_388 : decode cL_ranks 388 = .ok (.iaload, 1) := by decide +kernel
theorem dL_ranks_389 : decode cL_ranks 389 = .ok (.iconst 4, 1) := by decide +kernel
theorem dL_ranks_390 : decode cL_ranks 390 = .ok (.if_icmp .ge 7, 3) := by decide +kernel
theorem dL_ranks_393 : decode cL_ranks 393 = .ok (.iconst 1, 1) := by decide +kernel
theorem dL_ranks_394 : decode cL_ranks 394 = .ok (.goto 63, 3) := by decide +kernel
theorem dL_ranks_397 : decode cL_ranks 397 = .ok (.iconst 0, 1) := by decide +kernel
theorem dL_ranks_398 : decode cL_ranks 398 = .ok (.goto 59, 3) := by decide +kernel
theorem dL_ranks_401 : decode cL_ranks 401 = .ok (.aload 8, 2) := by decide +kernel
theorem dL_ranks_403 : decode cL_ranks 403 = .ok (.iconst 0, 1) := by decide +kernel
theorem dL_ranks_404 : decode cL_ranks 404 = .ok (.iaload, 1) := by decide +kernel
theorem dL_ranks_405 : decode cL_ranks 405 = .ok (.iconst 2, 1) := by decide +kernel
theorem dL_ranks_406 : decode cL_ranks 406 = .ok (.if_icmp .ne 32, 3) := by decide +kernel
theorem dL_ranks_409 : decode cL_ranks 409 = .ok (.aload 8, 2) := by decide +kernel
theorem dL_ranks_411 : decode cL_ranks 411 = .ok (.iconst 4, 1) := by decide +kernel
theorem dL_ranks_412 : decode cL_ranks 412 = .ok (.iaload, 1) := by decide +kernel
theorem dL_ranks_413 : decode cL_ranks 413 = .ok (.aload 8, 2) := by decide +kernel
theorem dL_ranks_415 : decode cL_ranks 415 = .ok (.iconst 3, 1) := by decide +kernel
theorem dL_ranks_416 : decode cL_ranks 416 = .ok (.iaload, 1) := by decide +kernel
theorem dL_ranks_417 : decode cL_ranks 417 = .ok (.bipush 20, 2) := by decide +kernel
theorem dL_ranks_419 : decode cL_ranks 419 = .ok (.if_icmp .le 7, 3) := by decide +kernel
theorem dL_ranks_422 : decode cL_ranks 422 = .ok (.iconst 1, 1) := by decide +kernel
theorem dL_ranks_423 : decode cL_ranks 423 = .ok (.goto 4, 3) := by decide +kernel
theorem dL_ranks_426 : decode cL_ranks 426 = .ok (.iconst 0, 1) := by decide +kernel
theorem dL_ranks_427 : decode cL_ranks 427 = .ok (.if_icmp .ne 7, 3) := by decide +kernel
theorem dL_ranks_430 : decode cL_ranks 430 = .ok (.iconst 1, 1) := by decide +kernel
theorem dL_ranks_431 : decode cL_ranks 431 = .ok (.goto 26, 3) := by decide +kernel
theorem dL_ranks_434 : decode cL_ranks 434 = .ok (.iconst 0, 1) := by decide +kernel
theorem dL_ranks_435 : decode cL_ranks 435 = .ok (.goto 22, 3) := by decide +kernel
theorem dL_ranks_438 : decode cL_ranks 438 = .ok (.aload 8, 2) := by decide +kernel
theorem dL_ranks_440 : decode cL_ranks 440 = .ok (.iconst 3, 1) := by decide +kernel
theorem dL_ranks_441 : decode cL_ranks 441 = .ok (.iaload, 1) := by decide +kernel
theorem dL_ranks_442 : decode cL_ranks 442 = .ok (.ifCond .ne 14, 3) := by decide +kernel
theorem dL_ranks_445 : decode cL_ranks 445 = .ok (.aload 8, 2) := by decide +kernel
theorem dL_ranks_447 : decode cL_ranks 447 = .ok (.iconst 4, 1) := by decide +kernel
theorem dL_ranks_448 : decode cL_ranks 448 = .ok (.iaload, 1) := by decide +kernel
theorem dL_ranks_449 : decode cL_ranks 449 = .ok (.ifCond .ne 7, 3) := by decide +kernel
theorem dL_ranks_452 : decode cL_ranks 452 = .ok (.iconst 1, 1) := by decide +kernel
theorem dL_ranks_453 : decode cL_ranks 453 = .ok (.goto 4, 3) := by decide +kernel
theorem dL_ranks_456 : decode cL_ranks 456 = .ok (.iconst 0, 1) := by decide +kernel
theorem dL_ranks_457 : decode cL_ranks 457 = .ok (.istore 9, 2) := by decide +kernel
theorem dL_ranks_459 : decode cL_ranks 459 = .ok (.iload 9, 2) := by decide +kernel
theorem dL_ranks_461 : decode cL_ranks 461 = .ok (.ifCond .eq 29, 3) := by decide +kernel
theorem dL_ranks_464 : decode cL_ranks 464 = .ok (.aload_n 0, 1) := by decide +kernel
theorem dL_ranks_465 : decode cL_ranks 465 = .ok (.iload 7, 2) := by decide +kernel
theorem dL_ranks_467 : decode cL_ranks 467 = .ok (.invokestatic 233, 3) := by decide +kernel
theorem dL_ranks_470 : decode cL_ranks 470 = .ok (.aload 8, 2) := by decide +kernel
theorem dL_ranks_472 : decode cL_ranks 472 = .ok (.iconst 4, 1) := by decide +kernel
theorem dL_ranks_473 : decode cL_ranks 473 = .ok (.iaload, 1) := by decide +kernel
theorem dL_ranks_474 : decode cL_ranks 474 = .ok (.if_icmp .ne 16, 3) := by decide +kernel
theorem dL_ranks_477 : decode cL_ranks 477 = .ok (.aload_n 0, 1) := by decide +kernel
theorem dL_ranks_478 : decode cL_ranks 478 = .ok (.iload 7, 2) := by decide +kernel
theorem dL_ranks_480 : decode cL_ranks 480 = .ok (.bipush 7, 2) := by decide +kernel
theorem dL_ranks_482 : decode cL_ranks 482 = .ok (.invokestatic 154, 3) := by decide +kernel
theorem dL_ranks_485 : decode cL_ranks 485 = .ok (.bipush (-12), 2) := by decide +kernel
theorem dL_ranks_487 : decode cL_ranks 487 = .ok (.if_icmp .eq 5, 3) := by decide +kernel
theorem dL_ranks_490 : decode cL_ranks 490 = .ok (.iconst 0, 1) := by decide +kernel
theorem dL_ranks_491 : decode cL_ranks 491 = .ok (.ireturn, 1) := by decide +kernel
theorem dL_ranks_492 : decode cL_ranks 492 = .ok (.iinc 7 1, 3) := by decide +kernel
theorem dL_ranks_495 : decode cL_ranks 495 = .ok (.goto (-181), 3) := by decide +kernel
theorem dL_ranks_498 : decode cL_ranks 498 = .ok (.iconst 0, 1) := by decide +kernel
theorem dL_ranks_499 : decode cL_ranks 499 = .ok (.istore 7, 2) := by decide +kernel
