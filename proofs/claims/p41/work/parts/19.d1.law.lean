theorem dL_shocks_0 : decode cL_shocks 0 = .ok (.iconst 5, 1) := by decide +kernel
theorem dL_shocks_1 : decode cL_shocks 1 = .ok (.newarray .boolean, 2) := by decide +kernel
theorem dL_shocks_3 : decode cL_shocks 3 = .ok (.astore_n 2, 1) := by decide +kernel
theorem dL_shocks_4 : decode cL_shocks 4 = .ok (.iconst 0, 1) := by decide +kernel
theorem dL_shocks_5 : decode cL_shocks 5 = .ok (.istore_n 3, 1) := by decide +kernel
theorem dL_shocks_6 : decode cL_shocks 6 = .ok (.aload_n 0, 1) := by decide +kernel
theorem dL_shocks_7 : decode cL_shocks 7 = .ok (.astore 4, 2) := by decide +kernel
theorem dL_shocks_9 : decode cL_shocks 9 = .ok (.aload 4, 2) := by decide +kernel
theorem dL_shocks_11 : decode cL_shocks 11 = .ok (.arraylength, 1) := by decide +kernel
theorem dL_shocks_12 : decode cL_shocks 12 = .ok (.istore 5, 2) := by decide +kernel
theorem dL_shocks_14 : decode cL_shocks 14 = .ok (.iconst 0, 1) := by decide +kernel
theorem dL_shocks_15 : decode cL_shocks 15 = .ok (.istore 6, 2) := by decide +kernel
theorem dL_shocks_17 : decode cL_shocks 17 = .ok (.iload 6, 2) := by decide +kernel
theorem dL_shocks_19 : decode cL_shocks 19 = .ok (.iload 5, 2) := by decide +kernel
theorem dL_shocks_21 : decode cL_shocks 21 = .ok (.if_icmp .ge 316, 3) := by decide +kernel
theorem dL_shocks_24 : decode cL_shocks 24 = .ok (.aload 4, 2) := by decide +kernel
theorem dL_shocks_26 : decode cL_shocks 26 = .ok (.iload 6, 2) := by decide +kernel
theorem dL_shocks_28 : decode cL_shocks 28 = .ok (.aaload, 1) := by decide +kernel
theorem dL_shocks_29 : decode cL_shocks 29 = .ok (.astore 7, 2) := by decide +kernel
theorem dL_shocks_31 : decode cL_shocks 31 = .ok (.aload_n 0, 1) := by decide +kernel
theorem dL_shocks_32 : decode cL_shocks 32 = .ok (.iload_n 1, 1) := by decide +kernel
theorem dL_shocks_33 : decode cL_shocks 33 = .ok (.aload 7, 2) := by decide +kernel
theorem dL_shocks_35 : decode cL_shocks 35 = .ok (.iconst 1, 1) := by decide +kernel
theorem dL_shocks_36 : decode cL_shocks 36 = .ok (.iaload, 1) := by decide +kernel
theorem dL_shocks_37 : decode cL_shocks 37 = .ok (.invokestatic 162, 3) := by decide +kernel
theorem dL_shocks_40 : decode cL_shocks 40 = .ok (.istore 8, 2) := by decide +kernel
theorem dL_shocks_42 : decode cL_shocks 42 = .ok (.aload 7, 2) := by decide +kernel
theorem dL_shocks_44 : decode cL_shocks 44 = .ok (.iconst 0, 1) := by decide +kernel
theorem dL_shocks_45 : decode cL_shocks 45 = .ok (.iaload, 1) := by decide +kernel
theorem dL_shocks_46 : decode cL_shocks 46 = .ok (.iconst 1, 1) := by decide +kernel
theorem dL_shocks_47 : decode cL_shocks 47 = .ok (.if_icmp .ne 154, 3) := by decide +kernel
theorem dL_shocks_50 : decode cL_shocks 50 = .ok (.aload 7, 2) := by decide +kernel
theorem dL_shocks_52 : decode cL_shocks 52 = .ok (.iconst 4, 1) := by decide +kernel
theorem dL_shocks_53 : decode cL_shocks 53 = .ok (.iaload, 1) := by decide +kernel
theorem dL_shocks_54 : decode cL_shocks 54 = .ok (.ifCond .ne 147, 3) := by decide +kernel
theorem dL_shocks_57 : decode cL_shocks 57 = .ok (.iload 8, 2) := by decide +kernel
theorem dL_shocks_59 : decode cL_shocks 59 = .ok (.aload 7, 2) := by decide +kernel
theorem dL_shocks_61 : decode cL_shocks 61 = .ok (.iconst 2, 1) := by decide +kernel
theorem dL_shocks_62 : decode cL_shocks 62 = .ok (.iaload, 1) := by decide +kernel
theorem dL_shocks_63 : decode cL_shocks 63 = .ok (.if_icmp .lt 7, 3) := by decide +kernel
theorem dL_shocks_66 : decode cL_shocks 66 = .ok (.iconst 1, 1) := by decide +kernel
theorem dL_shocks_67 : decode cL_shocks 67 = .ok (.goto 4, 3) := by decide +kernel
theorem dL_shocks_70 : decode cL_shocks 70 = .ok (.iconst 0, 1) := by decide +kernel
theorem dL_shocks_71 : decode cL_shocks 71 = .ok (.istore 9, 2) := by decide +kernel
theorem dL_shocks_73 : decode cL_shocks 73 = .ok (.aload 7, 2) := by decide +kernel
theorem dL_shocks_75 : decode cL_shocks 75 = .ok (.bipush 6, 2) := by decide +kernel
theorem dL_shocks_77 : decode cL_shocks 77 = .ok (.dup2, 1) := by decide +kernel
theorem dL_shocks_78 : decode cL_shocks 78 = .ok (.iaload, 1) := by decide +kernel
theorem dL_shocks_79 : decode cL_shocks 79 = .ok (.iload 9, 2) := by decide +kernel
theorem dL_shocks_81 : decode cL_shocks 81 = .ok (.ifCond .ne 18, 3) := by decide +kernel
theorem dL_shocks_84 : decode cL_shocks 84 = .ok (.iconst 2, 1) := by decide +kernel
theorem dL_shocks_85 : decode cL_shocks 85 = .ok (.iload 8, 2) := by decide +kernel
theorem dL_shocks_87 : decode cL_shocks 87 = .ok (.imul, 1) := by decide +kernel
theorem dL_shocks_88 : decode cL_shocks 88 = .ok (.aload 7, 2) := by decide +kernel
theorem dL_shocks_90 : decode cL_shocks 90 = .ok (.iconst 2, 1) := by decide +kernel
theorem dL_shocks_91 : decode cL_shocks 91 = .ok (.iaload, 1) := by decide +kernel
theorem dL_shocks_92 : decode cL_shocks 92 = .ok (.if_icmp .lt 7, 3) := by decide +kernel
theorem dL_shocks_95 : decode cL_shocks 95 = .ok (.iconst 1, 1) := by decide +kernel
theorem dL_shocks_96 : decode cL_shocks 96 = .ok (.goto 4, 3) := by decide +kernel
theorem dL_shocks_99 : decode cL_shocks 99 = .ok (.iconst 0, 1) := by decide +kernel
theorem dL_shocks_100 : decode cL_shocks 100 = .ok (.iadd, 1) := by decide +kernel
theorem dL_shocks_101 : decode cL_shocks 101 = .ok (.iastore, 1) := by decide +kernel
theorem dL_shocks_102 : decode cL_shocks 102 = .ok (.aload 7, 2) := by decide +kernel
theorem dL_shocks_104 : decode cL_shocks 104 = .ok (.iconst 3, 1) := by decide +kernel
theorem dL_shocks_105 : decode cL_shocks 105 = .ok (.dup2, 1) := by decide +kernel
theorem dL_shocks_106 : decode cL_shocks 106 = .ok (.iaload, 1) := by decide +kernel
theorem dL_shocks_107 : decode cL_shocks 107 = .ok (.iload 9, 2) := by decide +kernel
theorem dL_shocks_109 : decode cL_shocks 109 = .ok (.ifCond .eq 7, 3) := by decide +kernel
theorem dL_shocks_112 : decode cL_shocks 112 = .ok (.iconst 1, 1) := by decide +kernel
theorem dL_shocks_113 : decode cL_shocks 113 = .ok (.goto 4, 3) := by decide +kernel
theorem dL_shocks_116 : decode cL_shocks 116 = .ok (.iconst 0, 1) := by decide +kernel
theorem dL_shocks_117 : decode cL_shocks 117 = .ok (.iadd, 1) := by decide +kernel
theorem dL_shocks_118 : decode cL_shocks 118 = .ok (.iastore, 1) := by decide +kernel
theorem dL_shocks_119 : decode cL_shocks 119 = .ok (.aload 7, 2) := by decide +kernel
theorem dL_shocks_121 : decode cL_shocks 121 = .ok (.iconst 2, 1) := by decide +kernel
theorem dL_shocks_122 : decode cL_shocks 122 = .ok (.iload 9, 2) := by decide +kernel
theorem dL_shocks_124 : decode cL_shocks 124 = .ok (.ifCond .eq 20, 3) := by decide +kernel
theorem dL_shocks_127 : decode cL_shocks 127 = .ok (.aload 7, 2) := by decide +kernel
theorem dL_shocks_129 : decode cL_shocks 129 = .ok (.iconst 2, 1) := by decide +kernel
theorem dL_shocks_130 : decode cL_shocks 130 = .ok (.iaload, 1) := by decide +kernel
theorem dL_shocks_131 : decode cL_shocks 131 = .ok (.iconst 1, 1) := by decide +kernel
theorem dL_shocks_132 : decode cL_shocks 132 = .ok (.if_icmp .le 12, 3) := by decide +kernel
theorem dL_shocks_135 : decode cL_shocks 135 = .ok (.aload 7, 2) := by decide +kernel
theorem dL_shocks_137 : decode cL_shocks 137 = .ok (.iconst 2, 1) := by decide +kernel
theorem dL_shocks_138 : decode cL_shocks 138 = .ok (.iaload, 1) := by decide +kernel
theorem dL_shocks_139 : decode cL_shocks 139 = .ok (.iconst 1, 1) := by decide +kernel
theorem dL_shocks_140 : decode cL_shocks 140 = .ok (.isub, 1) := by decide +kernel
theorem dL_shocks_141 : decode cL_shocks 141 = .ok (.goto 7, 3) := by decide +kernel
theorem dL_shocks_144 : decode cL_shocks 144 = .ok (.aload 7, 2) := by decide +kernel
theorem dL_shocks_146 : decode cL_shocks 146 = .ok (.iconst 2, 1) := by decide +kernel
theorem dL_shocks_147 : decode cL_shocks 147 = .ok (.iaload, 1) := by decide +kernel
theorem dL_shocks_148 : decode cL_shocks 148 = .ok (.iastore, 1) := by decide +kernel
theorem dL_shocks_149 : decode cL_shocks 149 = .ok (.aload 7, 2) := by decide +kernel
theorem dL_shocks_151 : decode cL_shocks 151 = .ok (.iconst 4, 1) := by decide +kernel
theorem dL_shocks_152 : decode cL_shocks 152 = .ok (.aload 7, 2) := by decide +kernel
theorem dL_shocks_154 : decode cL_shocks 154 = .ok (.iconst 3, 1) := by decide +kernel
theorem dL_shocks_155 : decode cL_shocks 155 = .ok (.iaload, 1) := by decide +kernel
theorem dL_shocks_156 : decode cL_shocks 156 = .ok (.iconst 2, 1) := by decide +kernel
theorem dL_shocks_157 : decode cL_shocks 157 = .ok (.if_icmp .le 7, 3) := by decide +kernel
theorem dL_shocks_160 : decode cL_shocks 160 = .ok (.iconst 1, 1) := by decide +kernel
theorem dL_shocks_161 : decode cL_shocks 161 = .ok (.goto 4, 3) := by decide +kernel
theorem dL_shocks_164 : decode cL_shocks 164 = .ok (.iconst 0, 1) := by decide +kernel
theorem dL_shocks_165 : decode cL_shocks 165 = .ok (.iastore, 1) := by decide +kernel
theorem dL_shocks_166 : decode cL_shocks 166 = .ok (.iload_n 3, 1) := by decide +kernel
theorem dL_shocks_167 : decode cL_shocks 167 = .ok (.aload 7, 2) := by decide +kernel
theorem dL_shocks_169 : decode cL_shocks 169 = .ok (.iconst 4, 1) := by decide +kernel
theorem dL_shocks_170 : decode cL_shocks 170 = .ok (.iaload, 1) := by decide +kernel
theorem dL_shocks_171 : decode cL_shocks 171 = .ok (.iadd, 1) := by decide +kernel
theorem dL_shocks_172 : decode cL_shocks 172 = .ok (.istore_n 3, 1) := by decide +kernel
theorem dL_shocks_173 : decode cL_shocks 173 = .ok (.aload_n 2, 1) := by decide +kernel
theorem dL_shocks_174 : decode cL_shocks 174 = .ok (.aload 7, 2) := by decide +kernel
theorem dL_shocks_176 : decode cL_shocks 176 = .ok (.iconst 1, 1) := by decide +kernel
theorem dL_shocks_177 : decode cL_shocks 177 = .ok (.iaload, 1) := by decide +kernel
theorem dL_shocks_178 : decode cL_shocks 178 = .ok (.aload_n 2, 1) := by decide +kernel
theorem dL_shocks_179 : decode cL_shocks 179 = .ok (.aload 7, 2) := by decide +kernel
theorem dL_shocks_181 : decode cL_shocks 181 = .ok (.iconst 1, 1) := by decide +kernel
theorem dL_shocks_182 : decode cL_shocks 182 = .ok (.iaload, 1) := by decide +kernel
theorem dL_shocks_183 : decode cL_shocks 183 = .ok (.baload, 1) := by decide +kernel
theorem dL_shocks_184 : decode cL_shocks 184 = .ok (.ifCond .ne 11, 3) := by decide +kernel
theorem dL_shocks_187 : decode cL_shocks 187 = .ok (.aload 7, 2) := by decide +kernel
theorem dL_shocks_189 : decode cL_shocks 189 = .ok (.iconst 4, 1) := by decide +kernel
theorem dL_shocks_190 : decode cL_shocks 190 = .ok (.iaload, 1) := by decide +kernel
theorem dL_shocks_191 : decode cL_shocks 191 = .ok (.iconst 1, 1) := by decide +kernel
theorem dL_shocks_192 : decode cL_shocks 192 = .ok (.if_icmp .ne 7, 3) := by decide +kernel
theorem dL_shocks_195 : decode cL_shocks 195 = .ok (.iconst 1, 1) := by decide +kernel
theorem dL_shocks_196 : decode cL_shocks 196 = .ok (.goto 4, 3) := by decide +kernel
theorem dL_shocks_199 : decode cL_shocks 199 = .ok (.iconst 0, 1) := by decide +kernel
theorem dL_shocks_200 : decode cL_shocks 200 = .ok (.bastore, 1) := by decide +kernel
theorem dL_shocks_201 : decode cL_shocks 201 = .ok (.aload 7, 2) := by decide +kernel
theorem dL_shocks_203 : decode cL_shocks 203 = .ok (.iconst 0, 1) := by decide +kernel
theorem dL_shocks_204 : decode cL_shocks 204 = .ok (.iaload, 1) := by decide +kernel
theorem dL_shocks_205 : decode cL_shocks 205 = .ok (.iconst 2, 1) := by decide +kernel
theorem dL_shocks_206 : decode cL_shocks 206 = .ok (.if_icmp .ne 125, 3) := by decide +kernel
theorem dL_shocks_209 : decode cL_shocks 209 = .ok (.aload 7, 2) := by decide +kernel
theorem dL_shocks_211 : decode cL_shocks 211 = .ok (.iconst 4, 1) := by decide +kernel
theorem dL_shocks_212 : decode cL_shocks 212 = .ok (.iaload, 1) := by decide +kernel
theorem dL_shocks_213 : decode cL_shocks 213 = .ok (.ifCond .ne 118, 3) := by decide +kernel
theorem dL_shocks_216 : decode cL_shocks 216 = .ok (.aload 7, 2) := by decide +kernel
theorem dL_shocks_218 : decode cL_shocks 218 = .ok (.iconst 3, 1) := by decide +kernel
theorem dL_shocks_219 : decode cL_shocks 219 = .ok (.iload 8, 2) := by decide +kernel
theorem dL_shocks_221 : decode cL_shocks 221 = .ok (.ifCond .ne 16, 3) := by decide +kernel
theorem dL_shocks_224 : decode cL_shocks 224 = .ok (.iconst 0, 1) := by decide +kernel
theorem dL_shocks_225 : decode cL_shocks 225 = .ok (.aload 7, 2) := by decide +kernel
theorem dL_shocks_227 : decode cL_shocks 227 = .ok (.iconst 3, 1) := by decide +kernel
theorem dL_shocks_228 : decode cL_shocks 228 = .ok (.iaload, 1) := by decide +kernel
theorem dL_shocks_229 : decode cL_shocks 229 = .ok (.iconst 1, 1) := by decide +kernel
theorem dL_shocks_230 : decode cL_shocks 230 = .ok (.isub, 1) := by decide +kernel
theorem dL_shocks_231 : decode cL_shocks 231 = .ok (.invokestatic 157, 3) := by decide +kernel
theorem dL_shocks_234 : decode cL_shocks 234 = .ok (.goto 18, 3) := by decide +kernel
theorem dL_shocks_237 : decode cL_shocks 237 = .ok (.aload 7, 2) := by decide +kernel
theorem dL_shocks_239 : decode cL_shocks 239 = .ok (.iconst 3, 1) := by decide +kernel
theorem dL_shocks_240 : decode cL_shocks 240 = .ok (.iaload, 1) := by decide +kernel
theorem dL_shocks_241 : decode cL_shocks 241 = .ok (.iload 8, 2) := by decide +kernel
theorem dL_shocks_243 : decode cL_shocks 243 = .ok (.iadd, 1) := by decide +kernel
theorem dL_shocks_244 : decode cL_shocks 244 = .ok (.aload 7, 2) := by decide +kernel
theorem dL_shocks_246 : decode cL_shocks 246 = .ok (.iconst 2, 1) := by decide +kernel
theorem dL_shocks_247 : decode cL_shocks 247 = .ok (.iaload, 1) := by decide +kernel
theorem dL_shocks_248 : decode cL_shocks 248 = .ok (.iload 8, 2) := by decide +kernel
theorem dL_shocks_250 : decode cL_shocks 250 = .ok (.irem, 1) := by decide +kernel
theorem dL_shocks_251 : decode cL_shocks 251 = .ok (.iadd, 1) := by decide +kernel
theorem dL_shocks_252 : decode cL_shocks 252 = .ok (.iastore, 1) := by decide +kernel
theorem dL_shocks_253 : decode cL_shocks 253 = .ok (.aload 7, 2) := by decide +kernel
theorem dL_shocks_255 : decode cL_shocks 255 = .ok (.iconst 3, 1) := by decide +kernel
theorem dL_shocks_256 : decode cL_shocks 256 = .ok (.aload 7, 2) := by decide +kernel
theorem dL_shocks_258 : decode cL_shocks 258 = .ok (.iconst 5, 1) := by decide +kernel
theorem dL_shocks_259 : decode cL_shocks 259 = .ok (.iaload, 1) := by decide +kernel
theorem dL_shocks_260 : decode cL_shocks 260 = .ok (.iload_n 1, 1) := by decide +kernel
theorem dL_shocks_261 : decode cL_shocks 261 = .ok (.if_icmp .ne 12, 3) := by decide +kernel
theorem dL_shocks_264 : decode cL_shocks 264 = .ok (.aload 7, 2) := by decide +kernel
theorem dL_shocks_266 : decode cL_shocks 266 = .ok (.iconst 3, 1) := by decide +kernel
theorem dL_shocks_267 : decode cL_shocks 267 = .ok (.iaload, 1) := by decide +kernel
theorem dL_shocks_268 : decode cL_shocks 268 = .ok (.iconst 2, 1) := by decide +kernel
theorem dL_shocks_269 : decode cL_shocks 269 = .ok (.idiv, 1) := by decide +kernel
theorem dL_shocks_270 : decode cL_shocks 270 = .ok (.goto 7, 3) := by decide +kernel
theorem dL_shocks_273 : decode cL_shocks 273 = .ok (.aload 7, 2) := by decide +kernel
theorem dL_shocks_275 : decode cL_shocks 275 = .ok (.iconst 3, 1) := by decide +kernel
theorem dL_shocks_276 : decode cL_shocks 276 = .ok (.iaload, 1) := by decide +kernel
theorem dL_shocks_277 : decode cL_shocks 277 = .ok (.iastore, 1) := by decide +kernel
theorem dL_shocks_278 : decode cL_shocks 278 = .ok (.aload 7, 2) := by decide +kernel
theorem dL_shocks_280 : decode cL_shocks 280 = .ok (.iconst 4, 1) := by decide +kernel
theorem dL_shocks_281 : decode cL_shocks 281 = .ok (.aload 7, 2) := by decide +kernel
theorem dL_shocks_283 : decode cL_shocks 283 = .ok (.iconst 3, 1) := by decide +kernel
theorem dL_shocks_284 : decode cL_shocks 284 = .ok (.iaload, 1) := by decide +kernel
theorem dL_shocks_285 : decode cL_shocks 285 = .ok (.bipush 20, 2) := by decide +kernel
theorem dL_shocks_287 : decode cL_shocks 287 = .ok (.if_icmp .le 7, 3) := by decide +kernel
theorem dL_shocks_290 : decode cL_shocks 290 = .ok (.iconst 1, 1) := by decide +kernel
theorem dL_shocks_291 : decode cL_shocks 291 = .ok (.goto 4, 3) := by decide +kernel
theorem dL_shocks_294 : decode cL_shocks 294 = .ok (.iconst 0, 1) := by decide +kernel
theorem dL_shocks_295 : decode cL_shocks 295 = .ok (.iastore, 1) := by decide +kernel
theorem dL_shocks_296 : decode cL_shocks 296 = .ok (.iload_n 3, 1) := by decide +kernel
theorem dL_shocks_297 : decode cL_shocks 297 = .ok (.aload 7, 2) := by decide +kernel
theorem dL_shocks_299 : decode cL_shocks 299 = .ok (.iconst 4, 1) := by decide +kernel
theorem dL_shocks_300 : decode cL_shocks 300 = .ok (.iaload, 1) := by decide +kernel
theorem dL_shocks_301 : decode cL_shocks 301 = .ok (.iadd, 1) := by decide +kernel
theorem dL_shocks_302 : decode cL_shocks 302 = .ok (.istore_n 3, 1) := by decide +kernel
theorem dL_shocks_303 : decode cL_shocks 303 = .ok (.aload_n 2, 1) := by decide +kernel
theorem dL_shocks_304 : decode cL_shocks 304 = .ok (.aload 7, 2) := by decide +kernel
theorem dL_shocks_306 : decode cL_shocks 306 = .ok (.iconst 1, 1) := by decide +kernel
theorem dL_shocks_307 : decode cL_shocks 307 = .ok (.iaload, 1) := by decide +kernel
theorem dL_shocks_308 : decode cL_shocks 308 = .ok (.aload_n 2, 1) := by decide +kernel
theorem dL_shocks_309 : decode cL_shocks 309 = .ok (.aload 7, 2) := by decide +kernel
theorem dL_shocks_311 : decode cL_shocks 311 = .ok (.iconst 1, 1) := by decide +kernel
theorem dL_shocks_312 : decode cL_shocks 312 = .ok (.iaload, 1) := by decide +kernel
theorem dL_shocks_313 : decode cL_shocks 313 = .ok (.baload, 1) := by decide +kernel
theorem dL_shocks_314 : decode cL_shocks 314 = .ok (.ifCond .ne 11, 3) := by decide +kernel
theorem dL_shocks_317 : decode cL_shocks 317 = .ok (.aload 7, 2) := by decide +kernel
theorem dL_shocks_319 : decode cL_shocks 319 = .ok (.iconst 4, 1) := by decide +kernel
theorem dL_shocks_320 : decode cL_shocks 320 = .ok (.iaload, 1) := by decide +kernel
theorem dL_shocks_321 : decode cL_shocks 321 = .ok (.iconst 1, 1) := by decide +kernel
theorem dL_shocks_322 : decode cL_shocks 322 = .ok (.if_icmp .ne 7, 3) := by decide +kernel
theorem dL_shocks_325 : decode cL_shocks 325 = .ok (.iconst 1, 1) := by decide +kernel
theorem dL_shocks_326 : decode cL_shocks 326 = .ok (.goto 4, 3) := by decide +kernel
theorem dL_shocks_329 : decode cL_shocks 329 = .ok (.iconst 0, 1) := by decide +kernel
theorem dL_shocks_330 : decode cL_shocks 330 = .ok (.bastore, 1) := by decide +kernel
theorem dL_shocks_331 : decode cL_shocks 331 = .ok (.iinc 6 1, 3) := by decide +kernel
theorem dL_shocks_334 : decode cL_shocks 334 = .ok (.goto (-317), 3) := by decide +kernel
theorem dL_shocks_337 : decode cL_shocks 337 = .ok (.iconst 0, 1) := by decide +kernel
theorem dL_shocks_338 : decode cL_shocks 338 = .ok (.istore 4, 2) := by decide +kernel
theorem dL_shocks_340 : decode cL_shocks 340 = .ok (.aload_n 0, 1) := by decide +kernel
theorem dL_shocks_341 : decode cL_shocks 341 = .ok (.astore 5, 2) := by decide +kernel
theorem dL_shocks_343 : decode cL_shocks 343 = .ok (.aload 5, 2) := by decide +kernel
theorem dL_shocks_345 : decode cL_shocks 345 = .ok (.arraylength, 1) := by decide +kernel
theorem dL_shocks_346 : decode cL_shocks 346 = .ok (.istore 6, 2) := by decide +kernel
theorem dL_shocks_348 : decode cL_shocks 348 = .ok (.iconst 0, 1) := by decide +kernel
theorem dL_shocks_349 : decode cL_shocks 349 = .ok (.istore 7, 2) := by decide +kernel
theorem dL_shocks_351 : decode cL_shocks 351 = .ok (.iload 7, 2) := by decide +kernel
theorem dL_shocks_353 : decode cL_shocks 353 = .ok (.iload 6, 2) := by decide +kernel
theorem dL_shocks_355 : decode cL_shocks 355 = .ok (.if_icmp .ge 109, 3) := by decide +kernel
theorem dL_shocks_358 : decode cL_shocks 358 = .ok (.aload 5, 2) := by decide +kernel
theorem dL_shocks_360 : decode cL_shocks 360 = .ok (.iload 7, 2) := by decide +kernel
theorem dL_shocks_362 : decode cL_shocks 362 = .ok (.aaload, 1) := by decide +kernel
theorem dL_shocks_363 : decode cL_shocks 363 = .ok (.astore 8, 2) := by decide +kernel
theorem dL_shocks_365 : decode cL_shocks 365 = .ok (.aload 8, 2) := by decide +kernel
theorem dL_shocks_367 : decode cL_shocks 367 = .ok (.iconst 0, 1) := by decide +kernel
theorem dL_shocks_368 : decode cL_shocks 368 = .ok (.iaload, 1) := by decide +kernel
theorem dL_shocks_369 : decode cL_shocks 369 = .ok (.iconst 3, 1) := by decide +kernel
theorem dL_shocks_370 : decode cL_shocks 370 = .ok (.if_icmp .ne 88, 3) := by decide +kernel
theorem dL_shocks_373 : decode cL_shocks 373 = .ok (.aload_n 2, 1) := by decide +kernel
theorem dL_shocks_374 : decode cL_shocks 374 = .ok (.aload 8, 2) := by decide +kernel
theorem dL_shocks_376 : decode cL_shocks 376 = .ok (.iconst 1, 1) := by decide +kernel
theorem dL_shocks_377 : decode cL_shocks 377 = .ok (.iaload, 1) := by decide +kernel
theorem dL_shocks_378 : decode cL_shocks 378 = .ok (.baload, 1) := by decide +kernel
theorem dL_shocks_379 : decode cL_shocks 379 = .ok (.ifCond .eq 7, 3) := by decide +kernel
theorem dL_shocks_382 : decode cL_shocks 382 = .ok (.iconst 0, 1) := by decide +kernel
theorem dL_shocks_383 : decode cL_shocks 383 = .ok (.goto 26, 3) := by decide +kernel
theorem dL_shocks_386 : decode cL_shocks 386 = .ok (.iconst 0, 1) := by decide +kernel
theorem dL_shocks_387 : decode cL_shocks 387 = .ok (.iconst 5, 1) := by decide +kernel
theorem dL_shocks_388 : decode cL_shocks 388 = .ok (.aload 8, 2) := by decide +kernel
theorem dL_shocks_390 : decode cL_shocks 390 = .ok (.iconst 2, 1) := by decide +kernel
theorem dL_shocks_391 : decode cL_shocks 391 = .ok (.iaload, 1) := by decide +kernel
theorem dL_shocks_392 : decode cL_shocks 392 = .ok (.aload_n 0, 1) := by decide +kernel
theorem dL_shocks_393 : decode cL_shocks 393 = .ok (.iload_n 1, 1) := by decide +kernel
theorem dL_shocks_394 : decode cL_shocks 394 = .ok (.aload 8, 2) := by decide +kernel
theorem dL_shocks_396 : decode cL_shocks 396 = .ok (.iconst 1, 1) := by decide +kernel
theorem dL_shocks_397 : decode cL_shocks 397 = .ok (.iaload, 1) := by decide +kernel
theorem dL_shocks_398 : decode cL_shocks 398 = .ok (.invokestatic 162, 3) := by decide +kernel
theorem dL_shocks_401 : decode cL_shocks 401 = .ok (.isub, 1) := by decide +kernel
theorem dL_shocks_402 : decode cL_shocks 402 = .ok (.invokestatic 166, 3) := by decide +kernel
theorem dL_shocks_405 : decode cL_shocks 405 = .ok (.isub, 1) := by decide +kernel
theorem dL_shocks_406 : decode cL_shocks 406 = .ok (.invokestatic 157, 3) := by decide +kernel
theorem dL_shocks_409 : decode cL_shocks 409 = .ok (.istore 9, 2) := by decide +kernel
theorem dL_shocks_411 : decode cL_shocks 411 = .ok (.aload 8, 2) := by decide +kernel
theorem dL_shocks_413 : decode cL_shocks 413 = .ok (.iconst 2, 1) := by decide +kernel
theorem dL_shocks_414 : decode cL_shocks 414 = .ok (.aload_n 2, 1) := by decide +kernel
theorem dL_shocks_415 : decode cL_shocks 415 = .ok (.aload 8, 2) := by decide +kernel
theorem dL_shocks_417 : decode cL_shocks 417 = .ok (.iconst 1, 1) := by decide +kernel
theorem dL_shocks_418 : decode cL_shocks 418 = .ok (.iaload, 1) := by decide +kernel
theorem dL_shocks_419 : decode cL_shocks 419 = .ok (.baload, 1) := by decide +kernel
theorem dL_shocks_420 : decode cL_shocks 420 = .ok (.ifCond .eq 16, 3) := by decide +kernel
theorem dL_shocks_423 : decode cL_shocks 423 = .ok (.iconst 0, 1) := by decide +kernel
theorem dL_shocks_424 : decode cL_shocks 424 = .ok (.aload 8, 2) := by decide +kernel
theorem dL_shocks_426 : decode cL_shocks 426 = .ok (.iconst 2, 1) := by decide +kernel
theorem dL_shocks_427 : decode cL_shocks 427 = .ok (.iaload, 1) := by decide +kernel
theorem dL_shocks_428 : decode cL_shocks 428 = .ok (.iconst 1, 1) := by decide +kernel
theorem dL_shocks_429 : decode cL_shocks 429 = .ok (.isub, 1) := by decide +kernel
theorem dL_shocks_430 : decode cL_shocks 430 = .ok (.invokestatic 157, 3) := by decide +kernel
theorem dL_shocks_433 : decode cL_shocks 433 = .ok (.goto 7, 3) := by decide +kernel
theorem dL_shocks_436 : decode cL_shocks 436 = .ok (.aload 8, 2) := by decide +kernel
theorem dL_shocks_438 : decode cL_shocks 438 = .ok (.iconst 2, 1) := by decide +kernel
theorem dL_shocks_439 : decode cL_shocks 439 = .ok (.iaload, 1) := by decide +kernel
theorem dL_shocks_440 : decode cL_shocks 440 = .ok (.iastore, 1) := by decide +kernel
theorem dL_shocks_441 : decode cL_shocks 441 = .ok (.aload 8, 2) := by decide +kernel
theorem dL_shocks_443 : decode cL_shocks 443 = .ok (.bipush 6, 2) := by decide +kernel
theorem dL_shocks_445 : decode cL_shocks 445 = .ok (.dup2, 1) := by decide +kernel
theorem dL_shocks_446 : decode cL_shocks 446 = .ok (.iaload, 1) := by decide +kernel
theorem dL_shocks_447 : decode cL_shocks 447 = .ok (.iload 9, 2) := by decide +kernel
theorem dL_shocks_449 : decode cL_shocks 449 = .ok (.iadd, 1) := by decide +kernel
theorem dL_shocks_450 : decode cL_shocks 450 = .ok (.iastore, 1) := by decide +kernel
theorem dL_shocks_451 : decode cL_shocks 451 = .ok (.iload 4, 2) := by decide +kernel
theorem dL_shocks_453 : decode cL_shocks 453 = .ok (.iload 9, 2) := by decide +kernel
theorem dL_shocks_455 : decode cL_shocks 455 = .ok (.iadd, 1) := by decide +kernel
theorem dL_shocks_456 : decode cL_shocks 456 = .ok (.istore 4, 2) := by decide +kernel
theorem dL_shocks_458 : decode cL_shocks 458 = .ok (.iinc 7 1, 3) := by decide +kernel
theorem dL_shocks_461 : decode cL_shocks 461 = .ok (.goto (-110), 3) := by decide +kernel
theorem dL_shocks_464 : decode cL_shocks 464 = .ok (.iconst 2, 1) := by decide +kernel
theorem dL_shocks_465 : decode cL_shocks 465 = .ok (.newarray .int, 2) := by decide +kernel
theorem dL_shocks_467 : decode cL_shocks 467 = .ok (.dup, 1) := by decide +kernel
theorem dL_shocks_468 : decode cL_shocks 468 = .ok (.iconst 0, 1) := by decide +kernel
theorem dL_shocks_469 : decode cL_shocks 469 = .ok (.iload 4, 2) := by decide +kernel
theorem dL_shocks_471 : decode cL_shocks 471 = .ok (.iastore, 1) := by decide +kernel
theorem dL_shocks_472 : decode cL_shocks 472 = .ok (.dup, 1) := by decide +kernel
theorem dL_shocks_473 : decode cL_shocks 473 = .ok (.iconst 1, 1) := by decide +kernel
theorem dL_shocks_474 : decode cL_shocks 474 = .ok (.iload_n 3, 1) := by decide +kernel
theorem dL_shocks_475 : decode cL_shocks 475 = .ok (.iastore, 1) := by decide +kernel
theorem dL_shocks_476 : decode cL_shocks 476 = .ok (.areturn, 1) := by decide +kernel
