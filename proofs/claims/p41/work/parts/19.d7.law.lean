theorem dL_drawn_0 : decode cL_drawn 0 = .ok (.new 9, 3) := by decide +kernel
theorem dL_drawn_3 : decode cL_drawn 3 = .ok (.dup, 1) := by decide +kernel
theorem dL_drawn_4 : decode cL_drawn 4 = .ok (.invokespecial 124, 3) := by decide +kernel
theorem dL_drawn_7 : decode cL_drawn 7 = .ok (.astore_n 1, 1) := by decide +kernel
theorem dL_drawn_8 : decode cL_drawn 8 = .ok (.aload_n 0, 1) := by decide +kernel
theorem dL_drawn_9 : decode cL_drawn 9 = .ok (.iconst 0, 1) := by decide +kernel
theorem dL_drawn_10 : decode cL_drawn 10 = .ok (.invokestatic 125, 3) := by decide +kernel
theorem dL_drawn_13 : decode cL_drawn 13 = .ok (.iconst 1, 1) := by decide +kernel
theorem dL_drawn_14 : decode cL_drawn 14 = .ok (.iushr, 1) := by decide +kernel
theorem dL_drawn_15 : decode cL_drawn 15 = .ok (.istore_n 2, 1) := by decide +kernel
theorem dL_drawn_16 : decode cL_drawn 16 = .ok (.iconst 3, 1) := by decide +kernel
theorem dL_drawn_17 : decode cL_drawn 17 = .ok (.iload_n 2, 1) := by decide +kernel
theorem dL_drawn_18 : decode cL_drawn 18 = .ok (.bipush 9, 2) := by decide +kernel
theorem dL_drawn_20 : decode cL_drawn 20 = .ok (.irem, 1) := by decide +kernel
theorem dL_drawn_21 : decode cL_drawn 21 = .ok (.iadd, 1) := by decide +kernel
theorem dL_drawn_22 : decode cL_drawn 22 = .ok (.istore_n 3, 1) := by decide +kernel
theorem dL_drawn_23 : decode cL_drawn 23 = .ok (.iconst 0, 1) := by decide +kernel
theorem dL_drawn_24 : decode cL_drawn 24 = .ok (.istore 4, 2) := by decide +kernel
theorem dL_drawn_26 : decode cL_drawn 26 = .ok (.iload 4, 2) := by decide +kernel
theorem dL_drawn_28 : decode cL_drawn 28 = .ok (.iload_n 3, 1) := by decide +kernel
theorem dL_drawn_29 : decode cL_drawn 29 = .ok (.if_icmp .ge 111, 3) := by decide +kernel
theorem dL_drawn_32 : decode cL_drawn 32 = .ok (.aload_n 0, 1) := by decide +kernel
theorem dL_drawn_33 : decode cL_drawn 33 = .ok (.iconst 1, 1) := by decide +kernel
theorem dL_drawn_34 : decode cL_drawn 34 = .ok (.iload 4, 2) := by decide +kernel
theorem dL_drawn_36 : decode cL_drawn 36 = .ok (.iadd, 1) := by decide +kernel
theorem dL_drawn_37 : decode cL_drawn 37 = .ok (.invokestatic 125, 3) := by decide +kernel
theorem dL_drawn_40 : decode cL_drawn 40 = .ok (.iconst 1, 1) := by decide +kernel
theorem dL_drawn_41 : decode cL_drawn 41 = .ok (.iushr, 1) := by decide +kernel
theorem dL_drawn_42 : decode cL_drawn 42 = .ok (.istore 5, 2) := by decide +kernel
theorem dL_drawn_44 : decode cL_drawn 44 = .ok (.iload 5, 2) := by decide +kernel
theorem dL_drawn_46 : decode cL_drawn 46 = .ok (.iconst 3, 1) := by decide +kernel
theorem dL_drawn_47 : decode cL_drawn 47 = .ok (.iushr, 1) := by decide +kernel
theorem dL_drawn_48 : decode cL_drawn 48 = .ok (.iconst 5, 1) := by decide +kernel
theorem dL_drawn_49 : decode cL_drawn 49 = .ok (.irem, 1) := by decide +kernel
theorem dL_drawn_50 : decode cL_drawn 50 = .ok (.istore 6, 2) := by decide +kernel
theorem dL_drawn_52 : decode cL_drawn 52 = .ok (.iconst 1, 1) := by decide +kernel
theorem dL_drawn_53 : decode cL_drawn 53 = .ok (.iload 5, 2) := by decide +kernel
theorem dL_drawn_55 : decode cL_drawn 55 = .ok (.bipush 6, 2) := by decide +kernel
theorem dL_drawn_57 : decode cL_drawn 57 = .ok (.iushr, 1) := by decide +kernel
theorem dL_drawn_58 : decode cL_drawn 58 = .ok (.bipush 9, 2) := by decide +kernel
theorem dL_drawn_60 : decode cL_drawn 60 = .ok (.irem, 1) := by decide +kernel
theorem dL_drawn_61 : decode cL_drawn 61 = .ok (.iadd, 1) := by decide +kernel
theorem dL_drawn_62 : decode cL_drawn 62 = .ok (.istore 7, 2) := by decide +kernel
theorem dL_drawn_64 : decode cL_drawn 64 = .ok (.iload 5, 2) := by decide +kernel
theorem dL_drawn_66 : decode cL_drawn 66 = .ok (.iconst 3, 1) := by decide +kernel
theorem dL_drawn_67 : decode cL_drawn 67 = .ok (.irem, 1) := by decide +kernel
theorem dL_drawn_68 : decode cL_drawn 68 = .ok (.ifCond .ne 14, 3) := by decide +kernel
theorem dL_drawn_71 : decode cL_drawn 71 = .ok (.aload_n 1, 1) := by decide +kernel
theorem dL_drawn_72 : decode cL_drawn 72 = .ok (.iload 6, 2) := by decide +kernel
theorem dL_drawn_74 : decode cL_drawn 74 = .ok (.iload 7, 2) := by decide +kernel
theorem dL_drawn_76 : decode cL_drawn 76 = .ok (.invokestatic 129, 3) := by decide +kernel
theorem dL_drawn_79 : decode cL_drawn 79 = .ok (.goto 30, 3) := by decide +kernel
theorem dL_drawn_82 : decode cL_drawn 82 = .ok (.iload 5, 2) := by decide +kernel
theorem dL_drawn_84 : decode cL_drawn 84 = .ok (.iconst 3, 1) := by decide +kernel
theorem dL_drawn_85 : decode cL_drawn 85 = .ok (.irem, 1) := by decide +kernel
theorem dL_drawn_86 : decode cL_drawn 86 = .ok (.iconst 1, 1) := by decide +kernel
theorem dL_drawn_87 : decode cL_drawn 87 = .ok (.if_icmp .ne 14, 3) := by decide +kernel
theorem dL_drawn_90 : decode cL_drawn 90 = .ok (.aload_n 1, 1) := by decide +kernel
theorem dL_drawn_91 : decode cL_drawn 91 = .ok (.iload 6, 2) := by decide +kernel
theorem dL_drawn_93 : decode cL_drawn 93 = .ok (.iload 7, 2) := by decide +kernel
theorem dL_drawn_95 : decode cL_drawn 95 = .ok (.invokestatic 132, 3) := by decide +kernel
theorem dL_drawn_98 : decode cL_drawn 98 = .ok (.goto 11, 3) := by decide +kernel
theorem dL_drawn_101 : decode cL_drawn 101 = .ok (.aload_n 1, 1) := by decide +kernel
theorem dL_drawn_102 : decode cL_drawn 102 = .ok (.iload 6, 2) := by decide +kernel
theorem dL_drawn_104 : decode cL_drawn 104 = .ok (.iload 7, 2) := by decide +kernel
theorem dL_drawn_106 : decode cL_drawn 106 = .ok (.invokestatic 134, 3) := by decide +kernel
theorem dL_drawn_109 : decode cL_drawn 109 = .ok (.istore 8, 2) := by decide +kernel
theorem dL_drawn_111 : decode cL_drawn 111 = .ok (.iload 8, 2) := by decide +kernel
theorem dL_drawn_113 : decode cL_drawn 113 = .ok (.aload_n 1, 1) := by decide +kernel
theorem dL_drawn_114 : decode cL_drawn 114 = .ok (.iconst 0, 1) := by decide +kernel
theorem dL_drawn_115 : decode cL_drawn 115 = .ok (.invokevirtual 136, 3) := by decide +kernel
theorem dL_drawn_118 : decode cL_drawn 118 = .ok (.iconst 1, 1) := by decide +kernel
theorem dL_drawn_119 : decode cL_drawn 119 = .ok (.isub, 1) := by decide +kernel
theorem dL_drawn_120 : decode cL_drawn 120 = .ok (.if_icmp .eq 14, 3) := by decide +kernel
theorem dL_drawn_123 : decode cL_drawn 123 = .ok (.aload_n 1, 1) := by decide +kernel
theorem dL_drawn_124 : decode cL_drawn 124 = .ok (.iconst 0, 1) := by decide +kernel
theorem dL_drawn_125 : decode cL_drawn 125 = .ok (.invokestatic 139, 3) := by decide +kernel
theorem dL_drawn_128 : decode cL_drawn 128 = .ok (.iconst 2, 1) := by decide +kernel
theorem dL_drawn_129 : decode cL_drawn 129 = .ok (.if_icmp .eq 5, 3) := by decide +kernel
theorem dL_drawn_132 : decode cL_drawn 132 = .ok (.aconst_null, 1) := by decide +kernel
theorem dL_drawn_133 : decode cL_drawn 133 = .ok (.areturn, 1) := by decide +kernel
theorem dL_drawn_134 : decode cL_drawn 134 = .ok (.iinc 4 1, 3) := by decide +kernel
theorem dL_drawn_137 : decode cL_drawn 137 = .ok (.goto (-111), 3) := by decide +kernel
theorem dL_drawn_140 : decode cL_drawn 140 = .ok (.iconst 0, 1) := by decide +kernel
theorem dL_drawn_141 : decode cL_drawn 141 = .ok (.istore 4, 2) := by decide +kernel
theorem dL_drawn_143 : decode cL_drawn 143 = .ok (.iload 4, 2) := by decide +kernel
theorem dL_drawn_145 : decode cL_drawn 145 = .ok (.iconst 3, 1) := by decide +kernel
theorem dL_drawn_146 : decode cL_drawn 146 = .ok (.if_icmp .ge 59, 3) := by decide +kernel
theorem dL_drawn_149 : decode cL_drawn 149 = .ok (.aload_n 0, 1) := by decide +kernel
theorem dL_drawn_150 : decode cL_drawn 150 = .ok (.bipush 13, 2) := by decide +kernel
theorem dL_drawn_152 : decode cL_drawn 152 = .ok (.iload 4, 2) := by decide +kernel
theorem dL_drawn_154 : decode cL_drawn 154 = .ok (.iadd, 1) := by decide +kernel
theorem dL_drawn_155 : decode cL_drawn 155 = .ok (.invokestatic 125, 3) := by decide +kernel
theorem dL_drawn_158 : decode cL_drawn 158 = .ok (.iconst 1, 1) := by decide +kernel
theorem dL_drawn_159 : decode cL_drawn 159 = .ok (.iushr, 1) := by decide +kernel
theorem dL_drawn_160 : decode cL_drawn 160 = .ok (.istore 5, 2) := by decide +kernel
theorem dL_drawn_162 : decode cL_drawn 162 = .ok (.aload_n 1, 1) := by decide +kernel
theorem dL_drawn_163 : decode cL_drawn 163 = .ok (.iload 5, 2) := by decide +kernel
theorem dL_drawn_165 : decode cL_drawn 165 = .ok (.aload_n 1, 1) := by decide +kernel
theorem dL_drawn_166 : decode cL_drawn 166 = .ok (.iconst 0, 1) := by decide +kernel
theorem dL_drawn_167 : decode cL_drawn 167 = .ok (.invokevirtual 136, 3) := by decide +kernel
theorem dL_drawn_170 : decode cL_drawn 170 = .ok (.irem, 1) := by decide +kernel
theorem dL_drawn_171 : decode cL_drawn 171 = .ok (.iload 5, 2) := by decide +kernel
theorem dL_drawn_173 : decode cL_drawn 173 = .ok (.iconst 4, 1) := by decide +kernel
theorem dL_drawn_174 : decode cL_drawn 174 = .ok (.iushr, 1) := by decide +kernel
theorem dL_drawn_175 : decode cL_drawn 175 = .ok (.bipush 10, 2) := by decide +kernel
theorem dL_drawn_177 : decode cL_drawn 177 = .ok (.irem, 1) := by decide +kernel
theorem dL_drawn_178 : decode cL_drawn 178 = .ok (.invokestatic 142, 3) := by decide +kernel
theorem dL_drawn_181 : decode cL_drawn 181 = .ok (.istore 6, 2) := by decide +kernel
theorem dL_drawn_183 : decode cL_drawn 183 = .ok (.iload 6, 2) := by decide +kernel
theorem dL_drawn_185 : decode cL_drawn 185 = .ok (.ifCond .ge 14, 3) := by decide +kernel
theorem dL_drawn_188 : decode cL_drawn 188 = .ok (.aload_n 1, 1) := by decide +kernel
theorem dL_drawn_189 : decode cL_drawn 189 = .ok (.iconst 0, 1) := by decide +kernel
theorem dL_drawn_190 : decode cL_drawn 190 = .ok (.invokestatic 139, 3) := by decide +kernel
theorem dL_drawn_193 : decode cL_drawn 193 = .ok (.iconst 3, 1) := by decide +kernel
theorem dL_drawn_194 : decode cL_drawn 194 = .ok (.if_icmp .ge 5, 3) := by decide +kernel
theorem dL_drawn_197 : decode cL_drawn 197 = .ok (.aconst_null, 1) := by decide +kernel
theorem dL_drawn_198 : decode cL_drawn 198 = .ok (.areturn, 1) := by decide +kernel
theorem dL_drawn_199 : decode cL_drawn 199 = .ok (.iinc 4 1, 3) := by decide +kernel
theorem dL_drawn_202 : decode cL_drawn 202 = .ok (.goto (-59), 3) := by decide +kernel
theorem dL_drawn_205 : decode cL_drawn 205 = .ok (.aload_n 1, 1) := by decide +kernel
theorem dL_drawn_206 : decode cL_drawn 206 = .ok (.iconst 1, 1) := by decide +kernel
theorem dL_drawn_207 : decode cL_drawn 207 = .ok (.iload_n 2, 1) := by decide +kernel
theorem dL_drawn_208 : decode cL_drawn 208 = .ok (.iconst 4, 1) := by decide +kernel
theorem dL_drawn_209 : decode cL_drawn 209 = .ok (.iushr, 1) := by decide +kernel
theorem dL_drawn_210 : decode cL_drawn 210 = .ok (.bipush 9, 2) := by decide +kernel
theorem dL_drawn_212 : decode cL_drawn 212 = .ok (.irem, 1) := by decide +kernel
theorem dL_drawn_213 : decode cL_drawn 213 = .ok (.iadd, 1) := by decide +kernel
theorem dL_drawn_214 : decode cL_drawn 214 = .ok (.invokestatic 144, 3) := by decide +kernel
theorem dL_drawn_217 : decode cL_drawn 217 = .ok (.ifCond .ge 14, 3) := by decide +kernel
theorem dL_drawn_220 : decode cL_drawn 220 = .ok (.aload_n 1, 1) := by decide +kernel
theorem dL_drawn_221 : decode cL_drawn 221 = .ok (.iconst 0, 1) := by decide +kernel
theorem dL_drawn_222 : decode cL_drawn 222 = .ok (.invokestatic 139, 3) := by decide +kernel
theorem dL_drawn_225 : decode cL_drawn 225 = .ok (.iconst 3, 1) := by decide +kernel
theorem dL_drawn_226 : decode cL_drawn 226 = .ok (.if_icmp .eq 5, 3) := by decide +kernel
theorem dL_drawn_229 : decode cL_drawn 229 = .ok (.aconst_null, 1) := by decide +kernel
theorem dL_drawn_230 : decode cL_drawn 230 = .ok (.areturn, 1) := by decide +kernel
theorem dL_drawn_231 : decode cL_drawn 231 = .ok (.iconst 0, 1) := by decide +kernel
theorem dL_drawn_232 : decode cL_drawn 232 = .ok (.istore 4, 2) := by decide +kernel
theorem dL_drawn_234 : decode cL_drawn 234 = .ok (.iload 4, 2) := by decide +kernel
theorem dL_drawn_236 : decode cL_drawn 236 = .ok (.iload_n 2, 1) := by decide +kernel
theorem dL_drawn_237 : decode cL_drawn 237 = .ok (.bipush 8, 2) := by decide +kernel
theorem dL_drawn_239 : decode cL_drawn 239 = .ok (.iushr, 1) := by decide +kernel
theorem dL_drawn_240 : decode cL_drawn 240 = .ok (.iconst 4, 1) := by decide +kernel
theorem dL_drawn_241 : decode cL_drawn 241 = .ok (.irem, 1) := by decide +kernel
theorem dL_drawn_242 : decode cL_drawn 242 = .ok (.if_icmp .ge 18, 3) := by decide +kernel
theorem dL_drawn_245 : decode cL_drawn 245 = .ok (.aload_n 1, 1) := by decide +kernel
theorem dL_drawn_246 : decode cL_drawn 246 = .ok (.invokevirtual 147, 3) := by decide +kernel
theorem dL_drawn_249 : decode cL_drawn 249 = .ok (.ifCond .ge 5, 3) := by decide +kernel
theorem dL_drawn_252 : decode cL_drawn 252 = .ok (.aconst_null, 1) := by decide +kernel
theorem dL_drawn_253 : decode cL_drawn 253 = .ok (.areturn, 1) := by decide +kernel
theorem dL_drawn_254 : decode cL_drawn 254 = .ok (.iinc 4 1, 3) := by decide +kernel
theorem dL_drawn_257 : decode cL_drawn 257 = .ok (.goto (-23), 3) := by decide +kernel
theorem dL_drawn_260 : decode cL_drawn 260 = .ok (.iconst 0, 1) := by decide +kernel
theorem dL_drawn_261 : decode cL_drawn 261 = .ok (.istore 4, 2) := by decide +kernel
theorem dL_drawn_263 : decode cL_drawn 263 = .ok (.iload 4, 2) := by decide +kernel
theorem dL_drawn_265 : decode cL_drawn 265 = .ok (.iload_n 2, 1) := by decide +kernel
theorem dL_drawn_266 : decode cL_drawn 266 = .ok (.bipush 10, 2) := by decide +kernel
theorem dL_drawn_268 : decode cL_drawn 268 = .ok (.iushr, 1) := by decide +kernel
theorem dL_drawn_269 : decode cL_drawn 269 = .ok (.iconst 5, 1) := by decide +kernel
theorem dL_drawn_270 : decode cL_drawn 270 = .ok (.irem, 1) := by decide +kernel
theorem dL_drawn_271 : decode cL_drawn 271 = .ok (.if_icmp .ge 36, 3) := by decide +kernel
theorem dL_drawn_274 : decode cL_drawn 274 = .ok (.aload_n 1, 1) := by decide +kernel
theorem dL_drawn_275 : decode cL_drawn 275 = .ok (.iconst 1, 1) := by decide +kernel
theorem dL_drawn_276 : decode cL_drawn 276 = .ok (.iload_n 2, 1) := by decide +kernel
theorem dL_drawn_277 : decode cL_drawn 277 = .ok (.bipush 12, 2) := by decide +kernel
theorem dL_drawn_279 : decode cL_drawn 279 = .ok (.iconst 3, 1) := by decide +kernel
theorem dL_drawn_280 : decode cL_drawn 280 = .ok (.iload 4, 2) := by decide +kernel
theorem dL_drawn_282 : decode cL_drawn 282 = .ok (.imul, 1) := by decide +kernel
theorem dL_drawn_283 : decode cL_drawn 283 = .ok (.iadd, 1) := by decide +kernel
theorem dL_drawn_284 : decode cL_drawn 284 = .ok (.iushr, 1) := by decide +kernel
theorem dL_drawn_285 : decode cL_drawn 285 = .ok (.bipush 9, 2) := by decide +kernel
theorem dL_drawn_287 : decode cL_drawn 287 = .ok (.irem, 1) := by decide +kernel
theorem dL_drawn_288 : decode cL_drawn 288 = .ok (.iadd, 1) := by decide +kernel
theorem dL_drawn_289 : decode cL_drawn 289 = .ok (.invokestatic 150, 3) := by decide +kernel
theorem dL_drawn_292 : decode cL_drawn 292 = .ok (.iload 4, 2) := by decide +kernel
theorem dL_drawn_294 : decode cL_drawn 294 = .ok (.iconst 1, 1) := by decide +kernel
theorem dL_drawn_295 : decode cL_drawn 295 = .ok (.iadd, 1) := by decide +kernel
theorem dL_drawn_296 : decode cL_drawn 296 = .ok (.if_icmp .eq 5, 3) := by decide +kernel
theorem dL_drawn_299 : decode cL_drawn 299 = .ok (.aconst_null, 1) := by decide +kernel
theorem dL_drawn_300 : decode cL_drawn 300 = .ok (.areturn, 1) := by decide +kernel
theorem dL_drawn_301 : decode cL_drawn 301 = .ok (.iinc 4 1, 3) := by decide +kernel
theorem dL_drawn_304 : decode cL_drawn 304 = .ok (.goto (-41), 3) := by decide +kernel
theorem dL_drawn_307 : decode cL_drawn 307 = .ok (.aload_n 1, 1) := by decide +kernel
theorem dL_drawn_308 : decode cL_drawn 308 = .ok (.areturn, 1) := by decide +kernel
