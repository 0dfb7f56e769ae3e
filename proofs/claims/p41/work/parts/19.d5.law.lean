theorem dL_lines_0 : decode cL_lines 0 = .ok (.aload_n 0, 1) := by decide +kernel
theorem dL_lines_1 : decode cL_lines 1 = .ok (.invokestatic 197, 3) := by decide +kernel
theorem dL_lines_4 : decode cL_lines 4 = .ok (.astore_n 1, 1) := by decide +kernel
theorem dL_lines_5 : decode cL_lines 5 = .ok (.iconst 0, 1) := by decide +kernel
theorem dL_lines_6 : decode cL_lines 6 = .ok (.istore_n 2, 1) := by decide +kernel
theorem dL_lines_7 : decode cL_lines 7 = .ok (.iload_n 2, 1) := by decide +kernel
theorem dL_lines_8 : decode cL_lines 8 = .ok (.aload_n 1, 1) := by decide +kernel
theorem dL_lines_9 : decode cL_lines 9 = .ok (.arraylength, 1) := by decide +kernel
theorem dL_lines_10 : decode cL_lines 10 = .ok (.if_icmp .ge 231, 3) := by decide +kernel
theorem dL_lines_13 : decode cL_lines 13 = .ok (.aload_n 1, 1) := by decide +kernel
theorem dL_lines_14 : decode cL_lines 14 = .ok (.iload_n 2, 1) := by decide +kernel
theorem dL_lines_15 : decode cL_lines 15 = .ok (.aaload, 1) := by decide +kernel
theorem dL_lines_16 : decode cL_lines 16 = .ok (.astore_n 3, 1) := by decide +kernel
theorem dL_lines_17 : decode cL_lines 17 = .ok (.new 247, 3) := by decide +kernel
theorem dL_lines_20 : decode cL_lines 20 = .ok (.dup, 1) := by decide +kernel
theorem dL_lines_21 : decode cL_lines 21 = .ok (.invokespecial 249, 3) := by decide +kernel
theorem dL_lines_24 : decode cL_lines 24 = .ok (.ldc 250, 2) := by decide +kernel
theorem dL_lines_26 : decode cL_lines 26 = .ok (.aload_n 3, 1) := by decide +kernel
theorem dL_lines_27 : decode cL_lines 27 = .ok (.iconst 0, 1) := by decide +kernel
theorem dL_lines_28 : decode cL_lines 28 = .ok (.iaload, 1) := by decide +kernel
theorem dL_lines_29 : decode cL_lines 29 = .ok (.iconst 1, 1) := by decide +kernel
theorem dL_lines_30 : decode cL_lines 30 = .ok (.isub, 1) := by decide +kernel
theorem dL_lines_31 : decode cL_lines 31 = .ok (.invokevirtual 112, 3) := by decide +kernel
theorem dL_lines_34 : decode cL_lines 34 = .ok (.invokevirtual 252, 3) := by decide +kernel
theorem dL_lines_37 : decode cL_lines 37 = .ok (.ldc 255, 2) := by decide +kernel
theorem dL_lines_39 : decode cL_lines 39 = .ok (.invokevirtual 257, 3) := by decide +kernel
theorem dL_lines_42 : decode cL_lines 42 = .ok (.aload_n 3, 1) := by decide +kernel
theorem dL_lines_43 : decode cL_lines 43 = .ok (.iconst 1, 1) := by decide +kernel
theorem dL_lines_44 : decode cL_lines 44 = .ok (.iaload, 1) := by decide +kernel
theorem dL_lines_45 : decode cL_lines 45 = .ok (.invokevirtual 260, 3) := by decide +kernel
theorem dL_lines_48 : decode cL_lines 48 = .ok (.ldc_w 263, 3) := by decide +kernel
theorem dL_lines_51 : decode cL_lines 51 = .ok (.invokevirtual 257, 3) := by decide +kernel
theorem dL_lines_54 : decode cL_lines 54 = .ok (.aload_n 3, 1) := by decide +kernel
theorem dL_lines_55 : decode cL_lines 55 = .ok (.iconst 2, 1) := by decide +kernel
theorem dL_lines_56 : decode cL_lines 56 = .ok (.iaload, 1) := by decide +kernel
theorem dL_lines_57 : decode cL_lines 57 = .ok (.invokevirtual 260, 3) := by decide +kernel
theorem dL_lines_60 : decode cL_lines 60 = .ok (.invokevirtual 265, 3) := by decide +kernel
theorem dL_lines_63 : decode cL_lines 63 = .ok (.astore 4, 2) := by decide +kernel
theorem dL_lines_65 : decode cL_lines 65 = .ok (.iconst 0, 1) := by decide +kernel
theorem dL_lines_66 : decode cL_lines 66 = .ok (.istore 5, 2) := by decide +kernel
theorem dL_lines_68 : decode cL_lines 68 = .ok (.aload_n 3, 1) := by decide +kernel
theorem dL_lines_69 : decode cL_lines 69 = .ok (.iconst 0, 1) := by decide +kernel
theorem dL_lines_70 : decode cL_lines 70 = .ok (.iaload, 1) := by decide +kernel
theorem dL_lines_71 : decode cL_lines 71 = .ok (.iconst 1, 1) := by decide +kernel
theorem dL_lines_72 : decode cL_lines 72 = .ok (.if_icmp .ne 39, 3) := by decide +kernel
theorem dL_lines_75 : decode cL_lines 75 = .ok (.iload 5, 2) := by decide +kernel
theorem dL_lines_77 : decode cL_lines 77 = .ok (.aload_n 3, 1) := by decide +kernel
theorem dL_lines_78 : decode cL_lines 78 = .ok (.iconst 3, 1) := by decide +kernel
theorem dL_lines_79 : decode cL_lines 79 = .ok (.iaload, 1) := by decide +kernel
theorem dL_lines_80 : decode cL_lines 80 = .ok (.if_icmp .ge 31, 3) := by decide +kernel
theorem dL_lines_83 : decode cL_lines 83 = .ok (.new 247, 3) := by decide +kernel
theorem dL_lines_86 : decode cL_lines 86 = .ok (.dup, 1) := by decide +kernel
theorem dL_lines_87 : decode cL_lines 87 = .ok (.invokespecial 249, 3) := by decide +kernel
theorem dL_lines_90 : decode cL_lines 90 = .ok (.aload 4, 2) := by decide +kernel
theorem dL_lines_92 : decode cL_lines 92 = .ok (.invokevirtual 257, 3) := by decide +kernel
theorem dL_lines_95 : decode cL_lines 95 = .ok (.bipush 39, 2) := by decide +kernel
theorem dL_lines_97 : decode cL_lines 97 = .ok (.invokevirtual 252, 3) := by decide +kernel
theorem dL_lines_100 : decode cL_lines 100 = .ok (.invokevirtual 265, 3) := by decide +kernel
theorem dL_lines_103 : decode cL_lines 103 = .ok (.astore 4, 2) := by decide +kernel
theorem dL_lines_105 : decode cL_lines 105 = .ok (.iinc 5 1, 3) := by decide +kernel
theorem dL_lines_108 : decode cL_lines 108 = .ok (.goto (-40), 3) := by decide +kernel
theorem dL_lines_111 : decode cL_lines 111 = .ok (.new 247, 3) := by decide +kernel
theorem dL_lines_114 : decode cL_lines 114 = .ok (.dup, 1) := by decide +kernel
theorem dL_lines_115 : decode cL_lines 115 = .ok (.invokespecial 249, 3) := by decide +kernel
theorem dL_lines_118 : decode cL_lines 118 = .ok (.aload 4, 2) := by decide +kernel
theorem dL_lines_120 : decode cL_lines 120 = .ok (.invokevirtual 257, 3) := by decide +kernel
theorem dL_lines_123 : decode cL_lines 123 = .ok (.aload_n 3, 1) := by decide +kernel
theorem dL_lines_124 : decode cL_lines 124 = .ok (.iconst 0, 1) := by decide +kernel
theorem dL_lines_125 : decode cL_lines 125 = .ok (.iaload, 1) := by decide +kernel
theorem dL_lines_126 : decode cL_lines 126 = .ok (.iconst 2, 1) := by decide +kernel
theorem dL_lines_127 : decode cL_lines 127 = .ok (.if_icmp .ne 28, 3) := by decide +kernel
theorem dL_lines_130 : decode cL_lines 130 = .ok (.new 247, 3) := by decide +kernel
theorem dL_lines_133 : decode cL_lines 133 = .ok (.dup, 1) := by decide +kernel
theorem dL_lines_134 : decode cL_lines 134 = .ok (.invokespecial 249, 3) := by decide +kernel
theorem dL_lines_137 : decode cL_lines 137 = .ok (.ldc_w 269, 3) := by decide +kernel
theorem dL_lines_140 : decode cL_lines 140 = .ok (.invokevirtual 257, 3) := by decide +kernel
theorem dL_lines_143 : decode cL_lines 143 = .ok (.aload_n 3, 1) := by decide +kernel
theorem dL_lines_144 : decode cL_lines 144 = .ok (.iconst 3, 1) := by decide +kernel
theorem dL_lines_145 : decode cL_lines 145 = .ok (.iaload, 1) := by decide +kernel
theorem dL_lines_146 : decode cL_lines 146 = .ok (.invokevirtual 260, 3) := by decide +kernel
theorem dL_lines_149 : decode cL_lines 149 = .ok (.invokevirtual 265, 3) := by decide +kernel
theorem dL_lines_152 : decode cL_lines 152 = .ok (.goto 5, 3) := by decide +kernel
theorem dL_lines_155 : decode cL_lines 155 = .ok (.ldc 255, 2) := by decide +kernel
theorem dL_lines_157 : decode cL_lines 157 = .ok (.invokevirtual 257, 3) := by decide +kernel
theorem dL_lines_160 : decode cL_lines 160 = .ok (.aload_n 3, 1) := by decide +kernel
theorem dL_lines_161 : decode cL_lines 161 = .ok (.iconst 5, 1) := by decide +kernel
theorem dL_lines_162 : decode cL_lines 162 = .ok (.iaload, 1) := by decide +kernel
theorem dL_lines_163 : decode cL_lines 163 = .ok (.ifCond .le 28, 3) := by decide +kernel
theorem dL_lines_166 : decode cL_lines 166 = .ok (.new 247, 3) := by decide +kernel
theorem dL_lines_169 : decode cL_lines 169 = .ok (.dup, 1) := by decide +kernel
theorem dL_lines_170 : decode cL_lines 170 = .ok (.invokespecial 249, 3) := by decide +kernel
theorem dL_lines_173 : decode cL_lines 173 = .ok (.ldc_w 271, 3) := by decide +kernel
theorem dL_lines_176 : decode cL_lines 176 = .ok (.invokevirtual 257, 3) := by decide +kernel
theorem dL_lines_179 : decode cL_lines 179 = .ok (.aload_n 3, 1) := by decide +kernel
theorem dL_lines_180 : decode cL_lines 180 = .ok (.iconst 5, 1) := by decide +kernel
theorem dL_lines_181 : decode cL_lines 181 = .ok (.iaload, 1) := by decide +kernel
theorem dL_lines_182 : decode cL_lines 182 = .ok (.invokevirtual 260, 3) := by decide +kernel
theorem dL_lines_185 : decode cL_lines 185 = .ok (.invokevirtual 265, 3) := by decide +kernel
theorem dL_lines_188 : decode cL_lines 188 = .ok (.goto 5, 3) := by decide +kernel
theorem dL_lines_191 : decode cL_lines 191 = .ok (.ldc 255, 2) := by decide +kernel
theorem dL_lines_193 : decode cL_lines 193 = .ok (.invokevirtual 257, 3) := by decide +kernel
theorem dL_lines_196 : decode cL_lines 196 = .ok (.aload_n 3, 1) := by decide +kernel
theorem dL_lines_197 : decode cL_lines 197 = .ok (.iconst 4, 1) := by decide +kernel
theorem dL_lines_198 : decode cL_lines 198 = .ok (.iaload, 1) := by decide +kernel
theorem dL_lines_199 : decode cL_lines 199 = .ok (.iconst 1, 1) := by decide +kernel
theorem dL_lines_200 : decode cL_lines 200 = .ok (.if_icmp .ne 9, 3) := by decide +kernel
theorem dL_lines_203 : decode cL_lines 203 = .ok (.ldc_w 273, 3) := by decide +kernel
theorem dL_lines_206 : decode cL_lines 206 = .ok (.goto 5, 3) := by decide +kernel
theorem dL_lines_209 : decode cL_lines 209 = .ok (.ldc 255, 2) := by decide +kernel
theorem dL_lines_211 : decode cL_lines 211 = .ok (.invokevirtual 257, 3) := by decide +kernel
theorem dL_lines_214 : decode cL_lines 214 = .ok (.invokevirtual 265, 3) := by decide +kernel
theorem dL_lines_217 : decode cL_lines 217 = .ok (.astore 4, 2) := by decide +kernel
theorem dL_lines_219 : decode cL_lines 219 = .ok (.aload_n 0, 1) := by decide +kernel
theorem dL_lines_220 : decode cL_lines 220 = .ok (.aload_n 0, 1) := by decide +kernel
theorem dL_lines_221 : decode cL_lines 221 = .ok (.iload_n 2, 1) := by decide +kernel
theorem dL_lines_222 : decode cL_lines 222 = .ok (.invokestatic 275, 3) := by decide +kernel
theorem dL_lines_225 : decode cL_lines 225 = .ok (.aload 4, 2) := by decide +kernel
theorem dL_lines_227 : decode cL_lines 227 = .ok (.invokestatic 277, 3) := by decide +kernel
theorem dL_lines_230 : decode cL_lines 230 = .ok (.ifCond .ne 5, 3) := by decide +kernel
theorem dL_lines_233 : decode cL_lines 233 = .ok (.iconst 0, 1) := by decide +kernel
theorem dL_lines_234 : decode cL_lines 234 = .ok (.ireturn, 1) := by decide +kernel
theorem dL_lines_235 : decode cL_lines 235 = .ok (.iinc 2 1, 3) := by decide +kernel
theorem dL_lines_238 : decode cL_lines 238 = .ok (.goto (-231), 3) := by decide +kernel
theorem dL_lines_241 : decode cL_lines 241 = .ok (.ldc 255, 2) := by decide +kernel
theorem dL_lines_243 : decode cL_lines 243 = .ok (.astore_n 2, 1) := by decide +kernel
theorem dL_lines_244 : decode cL_lines 244 = .ok (.iconst 0, 1) := by decide +kernel
theorem dL_lines_245 : decode cL_lines 245 = .ok (.istore_n 3, 1) := by decide +kernel
theorem dL_lines_246 : decode cL_lines 246 = .ok (.iload_n 3, 1) := by decide +kernel
theorem dL_lines_247 : decode cL_lines 247 = .ok (.aload_n 0, 1) := by decide +kernel
theorem dL_lines_248 : decode cL_lines 248 = .ok (.bipush 10, 2) := by decide +kernel
theorem dL_lines_250 : decode cL_lines 250 = .ok (.invokevirtual 136, 3) := by decide +kernel
theorem dL_lines_253 : decode cL_lines 253 = .ok (.if_icmp .ge 32, 3) := by decide +kernel
theorem dL_lines_256 : decode cL_lines 256 = .ok (.new 247, 3) := by decide +kernel
theorem dL_lines_259 : decode cL_lines 259 = .ok (.dup, 1) := by decide +kernel
theorem dL_lines_260 : decode cL_lines 260 = .ok (.invokespecial 249, 3) := by decide +kernel
theorem dL_lines_263 : decode cL_lines 263 = .ok (.aload_n 2, 1) := by decide +kernel
theorem dL_lines_264 : decode cL_lines 264 = .ok (.invokevirtual 257, 3) := by decide +kernel
theorem dL_lines_267 : decode cL_lines 267 = .ok (.aload_n 0, 1) := by decide +kernel
theorem dL_lines_268 : decode cL_lines 268 = .ok (.iload_n 3, 1) := by decide +kernel
theorem dL_lines_269 : decode cL_lines 269 = .ok (.invokestatic 173, 3) := by decide +kernel
theorem dL_lines_272 : decode cL_lines 272 = .ok (.invokevirtual 260, 3) := by decide +kernel
theorem dL_lines_275 : decode cL_lines 275 = .ok (.invokevirtual 265, 3) := by decide +kernel
theorem dL_lines_278 : decode cL_lines 278 = .ok (.astore_n 2, 1) := by decide +kernel
theorem dL_lines_279 : decode cL_lines 279 = .ok (.iinc 3 1, 3) := by decide +kernel
theorem dL_lines_282 : decode cL_lines 282 = .ok (.goto (-36), 3) := by decide +kernel
theorem dL_lines_285 : decode cL_lines 285 = .ok (.aload_n 0, 1) := by decide +kernel
theorem dL_lines_286 : decode cL_lines 286 = .ok (.aload_n 0, 1) := by decide +kernel
theorem dL_lines_287 : decode cL_lines 287 = .ok (.invokevirtual 281, 3) := by decide +kernel
theorem dL_lines_290 : decode cL_lines 290 = .ok (.aload_n 2, 1) := by decide +kernel
theorem dL_lines_291 : decode cL_lines 291 = .ok (.invokestatic 277, 3) := by decide +kernel
theorem dL_lines_294 : decode cL_lines 294 = .ok (.ifCond .eq 33, 3) := by decide +kernel
theorem dL_lines_297 : decode cL_lines 297 = .ok (.aload_n 0, 1) := by decide +kernel
theorem dL_lines_298 : decode cL_lines 298 = .ok (.aload_n 1, 1) := by decide +kernel
theorem dL_lines_299 : decode cL_lines 299 = .ok (.arraylength, 1) := by decide +kernel
theorem dL_lines_300 : decode cL_lines 300 = .ok (.invokestatic 275, 3) := by decide +kernel
theorem dL_lines_303 : decode cL_lines 303 = .ok (.bipush (-11), 2) := by decide +kernel
theorem dL_lines_305 : decode cL_lines 305 = .ok (.if_icmp .ne 22, 3) := by decide +kernel
theorem dL_lines_308 : decode cL_lines 308 = .ok (.aload_n 0, 1) := by decide +kernel
theorem dL_lines_309 : decode cL_lines 309 = .ok (.aload_n 0, 1) := by decide +kernel
theorem dL_lines_310 : decode cL_lines 310 = .ok (.bipush 10, 2) := by decide +kernel
theorem dL_lines_312 : decode cL_lines 312 = .ok (.invokevirtual 136, 3) := by decide +kernel
theorem dL_lines_315 : decode cL_lines 315 = .ok (.invokestatic 173, 3) := by decide +kernel
theorem dL_lines_318 : decode cL_lines 318 = .ok (.bipush (-13), 2) := by decide +kernel
theorem dL_lines_320 : decode cL_lines 320 = .ok (.if_icmp .ne 7, 3) := by decide +kernel
theorem dL_lines_323 : decode cL_lines 323 = .ok (.iconst 1, 1) := by decide +kernel
theorem dL_lines_324 : decode cL_lines 324 = .ok (.goto 4, 3) := by decide +kernel
theorem dL_lines_327 : decode cL_lines 327 = .ok (.iconst 0, 1) := by decide +kernel
theorem dL_lines_328 : decode cL_lines 328 = .ok (.ireturn, 1) := by decide +kernel
