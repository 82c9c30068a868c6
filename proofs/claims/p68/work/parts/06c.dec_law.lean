theorem dL_ofObjects_4 : decode cL_ofObjects 4 = .ok (.irem, 1) := by decide +kernel
theorem dL_ofObjects_5 : decode cL_ofObjects 5 = .ok (.istore 5, 2) := by decide +kernel
theorem dL_ofObjects_7 : decode cL_ofObjects 7 = .ok (.iload 4, 2) := by decide +kernel
theorem dL_ofObjects_9 : decode cL_ofObjects 9 = .ok (.bipush 10, 2) := by decide +kernel
theorem dL_ofObjects_11 : decode cL_ofObjects 11 = .ok (.idiv, 1) := by decide +kernel
theorem dL_ofObjects_12 : decode cL_ofObjects 12 = .ok (.bipush 10, 2) := by decide +kernel
theorem dL_ofObjects_14 : decode cL_ofObjects 14 = .ok (.irem, 1) := by decide +kernel
theorem dL_ofObjects_15 : decode cL_ofObjects 15 = .ok (.istore 6, 2) := by decide +kernel
theorem dL_ofObjects_17 : decode cL_ofObjects 17 = .ok (.iload 4, 2) := by decide +kernel
theorem dL_ofObjects_19 : decode cL_ofObjects 19 = .ok (.bipush 100, 2) := by decide +kernel
theorem dL_ofObjects_21 : decode cL_ofObjects 21 = .ok (.idiv, 1) := by decide +kernel
theorem dL_ofObjects_22 : decode cL_ofObjects 22 = .ok (.bipush 12, 2) := by decide +kernel
theorem dL_ofObjects_24 : decode cL_ofObjects 24 = .ok (.irem, 1) := by decide +kernel
theorem dL_ofObjects_25 : decode cL_ofObjects 25 = .ok (.istore 7, 2) := by decide +kernel
theorem dL_ofObjects_27 : decode cL_ofObjects 27 = .ok (.aload_n 1, 1) := by decide +kernel
theorem dL_ofObjects_28 : decode cL_ofObjects 28 = .ok (.iload 5, 2) := by decide +kernel
theorem dL_ofObjects_30 : decode cL_ofObjects 30 = .ok (.iaload, 1) := by decide +kernel
theorem dL_ofObjects_31 : decode cL_ofObjects 31 = .ok (.bipush (-2), 2) := by decide +kernel
theorem dL_ofObjects_33 : decode cL_ofObjects 33 = .ok (.if_icmp .eq 7, 3) := by decide +kernel
theorem dL_ofObjects_36 : decode cL_ofObjects 36 = .ok (.iconst 1, 1) := by decide +kernel
theorem dL_ofObjects_37 : decode cL_ofObjects 37 = .ok (.goto 4, 3) := by decide +kernel
theorem dL_ofObjects_40 : decode cL_ofObjects 40 = .ok (.iconst 0, 1) := by decide +kernel
theorem dL_ofObjects_41 : decode cL_ofObjects 41 = .ok (.istore 8, 2) := by decide +kernel
theorem dL_ofObjects_43 : decode cL_ofObjects 43 = .ok (.iload_n 3, 1) := by decide +kernel
theorem dL_ofObjects_44 : decode cL_ofObjects 44 = .ok (.iconst 3, 1) := by decide +kernel
theorem dL_ofObjects_45 : decode cL_ofObjects 45 = .ok (.if_icmp .ge 142, 3) := by decide +kernel
theorem dL_ofObjects_48 : decode cL_ofObjects 48 = .ok (.iload 8, 2) := by decide +kernel
theorem dL_ofObjects_50 : decode cL_ofObjects 50 = .ok (.ifCond .eq 21, 3) := by decide +kernel
theorem dL_ofObjects_53 : decode cL_ofObjects 53 = .ok (.iload 7, 2) := by decide +kernel
theorem dL_ofObjects_55 : decode cL_ofObjects 55 = .ok (.aload_n 2, 1) := by decide +kernel
theorem dL_ofObjects_56 : decode cL_ofObjects 56 = .ok (.iconst 0, 1) := by decide +kernel
theorem dL_ofObjects_57 : decode cL_ofObjects 57 = .ok (.iaload, 1) := by decide +kernel
theorem dL_ofObjects_58 : decode cL_ofObjects 58 = .ok (.if_icmp .ge 13, 3) := by decide +kernel
theorem dL_ofObjects_61 : decode cL_ofObjects 61 = .ok (.aload_n 2, 1) := by decide +kernel
theorem dL_ofObjects_62 : decode cL_ofObjects 62 = .ok (.iconst 2, 1) := by decide +kernel
theorem dL_ofObjects_63 : decode cL_ofObjects 63 = .ok (.iaload, 1) := by decide +kernel
theorem dL_ofObjects_64 : decode cL_ofObjects 64 = .ok (.bipush 10, 2) := by decide +kernel
theorem dL_ofObjects_66 : decode cL_ofObjects 66 = .ok (.if_icmp .ne 5, 3) := by decide +kernel
theorem dL_ofObjects_69 : decode cL_ofObjects 69 = .ok (.iconst 1, 1) := by decide +kernel
theorem dL_ofObjects_70 : decode cL_ofObjects 70 = .ok (.ireturn, 1) := by decide +kernel
theorem dL_ofObjects_71 : decode cL_ofObjects 71 = .ok (.iload 8, 2) := by decide +kernel
theorem dL_ofObjects_73 : decode cL_ofObjects 73 = .ok (.ifCond .eq 11, 3) := by decide +kernel
theorem dL_ofObjects_76 : decode cL_ofObjects 76 = .ok (.iload 7, 2) := by decide +kernel
theorem dL_ofObjects_78 : decode cL_ofObjects 78 = .ok (.aload_n 2, 1) := by decide +kernel
theorem dL_ofObjects_79 : decode cL_ofObjects 79 = .ok (.iconst 0, 1) := by decide +kernel
theorem dL_ofObjects_80 : decode cL_ofObjects 80 = .ok (.iaload, 1) := by decide +kernel
theorem dL_ofObjects_81 : decode cL_ofObjects 81 = .ok (.if_icmp .lt 22, 3) := by decide +kernel
theorem dL_ofObjects_84 : decode cL_ofObjects 84 = .ok (.aload_n 0, 1) := by decide +kernel
theorem dL_ofObjects_85 : decode cL_ofObjects 85 = .ok (.iload 5, 2) := by decide +kernel
theorem dL_ofObjects_87 : decode cL_ofObjects 87 = .ok (.iload 7, 2) := by decide +kernel
theorem dL_ofObjects_89 : decode cL_ofObjects 89 = .ok (.invokestatic 350, 3) := by decide +kernel
theorem dL_ofObjects_92 : decode cL_ofObjects 92 = .ok (.bipush (-101), 2) := by decide +kernel
theorem dL_ofObjects_94 : decode cL_ofObjects 94 = .ok (.if_icmp .ne 7, 3) := by decide +kernel
theorem dL_ofObjects_97 : decode cL_ofObjects 97 = .ok (.iconst 1, 1) := by decide +kernel
theorem dL_ofObjects_98 : decode cL_ofObjects 98 = .ok (.goto 4, 3) := by decide +kernel
theorem dL_ofObjects_101 : decode cL_ofObjects 101 = .ok (.iconst 0, 1) := by decide +kernel
theorem dL_ofObjects_102 : decode cL_ofObjects 102 = .ok (.ireturn, 1) := by decide +kernel
theorem dL_ofObjects_103 : decode cL_ofObjects 103 = .ok (.iconst 0, 1) := by decide +kernel
theorem dL_ofObjects_104 : decode cL_ofObjects 104 = .ok (.istore 9, 2) := by decide +kernel
theorem dL_ofObjects_106 : decode cL_ofObjects 106 = .ok (.aload_n 1, 1) := by decide +kernel
theorem dL_ofObjects_107 : decode cL_ofObjects 107 = .ok (.iload 9, 2) := by decide +kernel
theorem dL_ofObjects_109 : decode cL_ofObjects 109 = .ok (.iaload, 1) := by decide +kernel
theorem dL_ofObjects_110 : decode cL_ofObjects 110 = .ok (.bipush (-2), 2) := by decide +kernel
theorem dL_ofObjects_112 : decode cL_ofObjects 112 = .ok (.if_icmp .eq 9, 3) := by decide +kernel
theorem dL_ofObjects_115 : decode cL_ofObjects 115 = .ok (.iinc 9 1, 3) := by decide +kernel
theorem dL_ofObjects_118 : decode cL_ofObjects 118 = .ok (.goto (-12), 3) := by decide +kernel
theorem dL_ofObjects_121 : decode cL_ofObjects 121 = .ok (.aload_n 1, 1) := by decide +kernel
theorem dL_ofObjects_122 : decode cL_ofObjects 122 = .ok (.iload 9, 2) := by decide +kernel
theorem dL_ofObjects_124 : decode cL_ofObjects 124 = .ok (.iload 5, 2) := by decide +kernel
theorem dL_ofObjects_126 : decode cL_ofObjects 126 = .ok (.iastore, 1) := by decide +kernel
theorem dL_ofObjects_127 : decode cL_ofObjects 127 = .ok (.aload_n 1, 1) := by decide +kernel
theorem dL_ofObjects_128 : decode cL_ofObjects 128 = .ok (.bipush 10, 2) := by decide +kernel
theorem dL_ofObjects_130 : decode cL_ofObjects 130 = .ok (.iload 9, 2) := by decide +kernel
theorem dL_ofObjects_132 : decode cL_ofObjects 132 = .ok (.iadd, 1) := by decide +kernel
theorem dL_ofObjects_133 : decode cL_ofObjects 133 = .ok (.iload 7, 2) := by decide +kernel
theorem dL_ofObjects_135 : decode cL_ofObjects 135 = .ok (.iastore, 1) := by decide +kernel
theorem dL_ofObjects_136 : decode cL_ofObjects 136 = .ok (.aload_n 1, 1) := by decide +kernel
theorem dL_ofObjects_137 : decode cL_ofObjects 137 = .ok (.bipush 20, 2) := by decide +kernel
theorem dL_ofObjects_139 : decode cL_ofObjects 139 = .ok (.iload 9, 2) := by decide +kernel
theorem dL_ofObjects_141 : decode cL_ofObjects 141 = .ok (.iadd, 1) := by decide +kernel
theorem dL_ofObjects_142 : decode cL_ofObjects 142 = .ok (.bipush 15, 2) := by decide +kernel
theorem dL_ofObjects_144 : decode cL_ofObjects 144 = .ok (.iastore, 1) := by decide +kernel
theorem dL_ofObjects_145 : decode cL_ofObjects 145 = .ok (.aload_n 1, 1) := by decide +kernel
theorem dL_ofObjects_146 : decode cL_ofObjects 146 = .ok (.bipush 30, 2) := by decide +kernel
theorem dL_ofObjects_148 : decode cL_ofObjects 148 = .ok (.iload 9, 2) := by decide +kernel
theorem dL_ofObjects_150 : decode cL_ofObjects 150 = .ok (.iadd, 1) := by decide +kernel
theorem dL_ofObjects_151 : decode cL_ofObjects 151 = .ok (.iconst 1, 1) := by decide +kernel
theorem dL_ofObjects_152 : decode cL_ofObjects 152 = .ok (.iastore, 1) := by decide +kernel
theorem dL_ofObjects_153 : decode cL_ofObjects 153 = .ok (.aload_n 1, 1) := by decide +kernel
theorem dL_ofObjects_154 : decode cL_ofObjects 154 = .ok (.bipush 40, 2) := by decide +kernel
theorem dL_ofObjects_156 : decode cL_ofObjects 156 = .ok (.iload 9, 2) := by decide +kernel
theorem dL_ofObjects_158 : decode cL_ofObjects 158 = .ok (.iadd, 1) := by decide +kernel
theorem dL_ofObjects_159 : decode cL_ofObjects 159 = .ok (.iconst 0, 1) := by decide +kernel
theorem dL_ofObjects_160 : decode cL_ofObjects 160 = .ok (.iastore, 1) := by decide +kernel
theorem dL_ofObjects_161 : decode cL_ofObjects 161 = .ok (.aload_n 2, 1) := by decide +kernel
theorem dL_ofObjects_162 : decode cL_ofObjects 162 = .ok (.iconst 2, 1) := by decide +kernel
theorem dL_ofObjects_163 : decode cL_ofObjects 163 = .ok (.dup2, 1) := by decide +kernel
theorem dL_ofObjects_164 : decode cL_ofObjects 164 = .ok (.iaload, 1) := by decide +kernel
theorem dL_ofObjects_165 : decode cL_ofObjects 165 = .ok (.iconst 1, 1) := by decide +kernel
theorem dL_ofObjects_166 : decode cL_ofObjects 166 = .ok (.iadd, 1) := by decide +kernel
theorem dL_ofObjects_167 : decode cL_ofObjects 167 = .ok (.iastore, 1) := by decide +kernel
theorem dL_ofObjects_168 : decode cL_ofObjects 168 = .ok (.aload_n 0, 1) := by decide +kernel
theorem dL_ofObjects_169 : decode cL_ofObjects 169 = .ok (.iload 5, 2) := by decide +kernel
theorem dL_ofObjects_171 : decode cL_ofObjects 171 = .ok (.iload 7, 2) := by decide +kernel
theorem dL_ofObjects_173 : decode cL_ofObjects 173 = .ok (.invokestatic 350, 3) := by decide +kernel
theorem dL_ofObjects_176 : decode cL_ofObjects 176 = .ok (.iload 9, 2) := by decide +kernel
theorem dL_ofObjects_178 : decode cL_ofObjects 178 = .ok (.if_icmp .ne 7, 3) := by decide +kernel
theorem dL_ofObjects_181 : decode cL_ofObjects 181 = .ok (.iconst 1, 1) := by decide +kernel
theorem dL_ofObjects_182 : decode cL_ofObjects 182 = .ok (.goto 4, 3) := by decide +kernel
theorem dL_ofObjects_185 : decode cL_ofObjects 185 = .ok (.iconst 0, 1) := by decide +kernel
theorem dL_ofObjects_186 : decode cL_ofObjects 186 = .ok (.ireturn, 1) := by decide +kernel
theorem dL_ofObjects_187 : decode cL_ofObjects 187 = .ok (.iload_n 3, 1) := by decide +kernel
theorem dL_ofObjects_188 : decode cL_ofObjects 188 = .ok (.iconst 3, 1) := by decide +kernel
theorem dL_ofObjects_189 : decode cL_ofObjects 189 = .ok (.if_icmp .ne 116, 3) := by decide +kernel
theorem dL_ofObjects_192 : decode cL_ofObjects 192 = .ok (.iconst 1, 1) := by decide +kernel
theorem dL_ofObjects_193 : decode cL_ofObjects 193 = .ok (.istore 9, 2) := by decide +kernel
theorem dL_ofObjects_195 : decode cL_ofObjects 195 = .ok (.iconst 0, 1) := by decide +kernel
theorem dL_ofObjects_196 : decode cL_ofObjects 196 = .ok (.istore 10, 2) := by decide +kernel
theorem dL_ofObjects_198 : decode cL_ofObjects 198 = .ok (.iload 10, 2) := by decide +kernel
theorem dL_ofObjects_200 : decode cL_ofObjects 200 = .ok (.bipush 10, 2) := by decide +kernel
theorem dL_ofObjects_202 : decode cL_ofObjects 202 = .ok (.if_icmp .ge 30, 3) := by decide +kernel
theorem dL_ofObjects_205 : decode cL_ofObjects 205 = .ok (.iload 9, 2) := by decide +kernel
theorem dL_ofObjects_207 : decode cL_ofObjects 207 = .ok (.ifCond .eq 16, 3) := by decide +kernel
theorem dL_ofObjects_210 : decode cL_ofObjects 210 = .ok (.aload_n 1, 1) := by decide +kernel
theorem dL_ofObjects_211 : decode cL_ofObjects 211 = .ok (.iload 10, 2) := by decide +kernel
theorem dL_ofObjects_213 : decode cL_ofObjects 213 = .ok (.iaload, 1) := by decide +kernel
theorem dL_ofObjects_214 : decode cL_ofObjects 214 = .ok (.iload 5, 2) := by decide +kernel
theorem dL_ofObjects_216 : decode cL_ofObjects 216 = .ok (.if_icmp .eq 7, 3) := by decide +kernel
theorem dL_ofObjects_219 : decode cL_ofObjects 219 = .ok (.iconst 1, 1) := by decide +kernel
theorem dL_ofObjects_220 : decode cL_ofObjects 220 = .ok (.goto 4, 3) := by decide +kernel
theorem dL_ofObjects_223 : decode cL_ofObjects 223 = .ok (.iconst 0, 1) := by decide +kernel
theorem dL_ofObjects_224 : decode cL_ofObjects 224 = .ok (.istore 9, 2) := by decide +kernel
theorem dL_ofObjects_226 : decode cL_ofObjects 226 = .ok (.iinc 10 1, 3) := by decide +kernel
theorem dL_ofObjects_229 : decode cL_ofObjects 229 = .ok (.goto (-31), 3) := by decide +kernel
theorem dL_ofObjects_232 : decode cL_ofObjects 232 = .ok (.iload 8, 2) := by decide +kernel
theorem dL_ofObjects_234 : decode cL_ofObjects 234 = .ok (.ifCond .eq 13, 3) := by decide +kernel
theorem dL_ofObjects_237 : decode cL_ofObjects 237 = .ok (.iload 5, 2) := by decide +kernel
theorem dL_ofObjects_239 : decode cL_ofObjects 239 = .ok (.ifCond .eq 8, 3) := by decide +kernel
theorem dL_ofObjects_242 : decode cL_ofObjects 242 = .ok (.iload 9, 2) := by decide +kernel
theorem dL_ofObjects_244 : decode cL_ofObjects 244 = .ok (.ifCond .ne 30, 3) := by decide +kernel
theorem dL_ofObjects_247 : decode cL_ofObjects 247 = .ok (.aload_n 0, 1) := by decide +kernel
theorem dL_ofObjects_248 : decode cL_ofObjects 248 = .ok (.iload 5, 2) := by decide +kernel
theorem dL_ofObjects_250 : decode cL_ofObjects 250 = .ok (.invokestatic 353, 3) := by decide +kernel
theorem dL_ofObjects_253 : decode cL_ofObjects 253 = .ok (.iload 8, 2) := by decide +kernel
theorem dL_ofObjects_255 : decode cL_ofObjects 255 = .ok (.ifCond .eq 8, 3) := by decide +kernel
theorem dL_ofObjects_258 : decode cL_ofObjects 258 = .ok (.bipush (-102), 2) := by decide +kernel
theorem dL_ofObjects_260 : decode cL_ofObjects 260 = .ok (.goto 5, 3) := by decide +kernel
theorem dL_ofObjects_263 : decode cL_ofObjects 263 = .ok (.bipush (-101), 2) := by decide +kernel
theorem dL_ofObjects_265 : decode cL_ofObjects 265 = .ok (.if_icmp .ne 7, 3) := by decide +kernel
theorem dL_ofObjects_268 : decode cL_ofObjects 268 = .ok (.iconst 1, 1) := by decide +kernel
theorem dL_ofObjects_269 : decode cL_ofObjects 269 = .ok (.goto 4, 3) := by decide +kernel
theorem dL_ofObjects_272 : decode cL_ofObjects 272 = .ok (.iconst 0, 1) := by decide +kernel
theorem dL_ofObjects_273 : decode cL_ofObjects 273 = .ok (.ireturn, 1) := by decide +kernel
theorem dL_ofObjects_274 : decode cL_ofObjects 274 = .ok (.aload_n 1, 1) := by decide +kernel
theorem dL_ofObjects_275 : decode cL_ofObjects 275 = .ok (.iload 5, 2) := by decide +kernel
theorem dL_ofObjects_277 : decode cL_ofObjects 277 = .ok (.bipush (-2), 2) := by decide +kernel
theorem dL_ofObjects_279 : decode cL_ofObjects 279 = .ok (.iastore, 1) := by decide +kernel
theorem dL_ofObjects_280 : decode cL_ofObjects 280 = .ok (.aload_n 2, 1) := by decide +kernel
theorem dL_ofObjects_281 : decode cL_ofObjects 281 = .ok (.iconst 2, 1) := by decide +kernel
theorem dL_ofObjects_282 : decode cL_ofObjects 282 = .ok (.dup2, 1) := by decide +kernel
theorem dL_ofObjects_283 : decode cL_ofObjects 283 = .ok (.iaload, 1) := by decide +kernel
theorem dL_ofObjects_284 : decode cL_ofObjects 284 = .ok (.iconst 1, 1) := by decide +kernel
theorem dL_ofObjects_285 : decode cL_ofObjects 285 = .ok (.isub, 1) := by decide +kernel
theorem dL_ofObjects_286 : decode cL_ofObjects 286 = .ok (.iastore, 1) := by decide +kernel
theorem dL_ofObjects_287 : decode cL_ofObjects 287 = .ok (.aload_n 0, 1) := by decide +kernel
theorem dL_ofObjects_288 : decode cL_ofObjects 288 = .ok (.iload 5, 2) := by decide +kernel
theorem dL_ofObjects_290 : decode cL_ofObjects 290 = .ok (.invokestatic 353, 3) := by decide +kernel
theorem dL_ofObjects_293 : decode cL_ofObjects 293 = .ok (.aload_n 2, 1) := by decide +kernel
theorem dL_ofObjects_294 : decode cL_ofObjects 294 = .ok (.iconst 2, 1) := by decide +kernel
theorem dL_ofObjects_295 : decode cL_ofObjects 295 = .ok (.iaload, 1) := by decide +kernel
theorem dL_ofObjects_296 : decode cL_ofObjects 296 = .ok (.if_icmp .ne 7, 3) := by decide +kernel
theorem dL_ofObjects_299 : decode cL_ofObjects 299 = .ok (.iconst 1, 1) := by decide +kernel
theorem dL_ofObjects_300 : decode cL_ofObjects 300 = .ok (.goto 4, 3) := by decide +kernel
theorem dL_ofObjects_303 : decode cL_ofObjects 303 = .ok (.iconst 0, 1) := by decide +kernel
theorem dL_ofObjects_304 : decode cL_ofObjects 304 = .ok (.ireturn, 1) := by decide +kernel
theorem dL_ofObjects_305 : decode cL_ofObjects 305 = .ok (.iload_n 3, 1) := by decide +kernel
theorem dL_ofObjects_306 : decode cL_ofObjects 306 = .ok (.iconst 4, 1) := by decide +kernel
theorem dL_ofObjects_307 : decode cL_ofObjects 307 = .ok (.if_icmp .ne 112, 3) := by decide +kernel
theorem dL_ofObjects_310 : decode cL_ofObjects 310 = .ok (.iload 8, 2) := by decide +kernel
theorem dL_ofObjects_312 : decode cL_ofObjects 312 = .ok (.ifCond .eq 16, 3) := by decide +kernel
theorem dL_ofObjects_315 : decode cL_ofObjects 315 = .ok (.aload_n 1, 1) := by decide +kernel
theorem dL_ofObjects_316 : decode cL_ofObjects 316 = .ok (.iload 6, 2) := by decide +kernel
theorem dL_ofObjects_318 : decode cL_ofObjects 318 = .ok (.iaload, 1) := by decide +kernel
theorem dL_ofObjects_319 : decode cL_ofObjects 319 = .ok (.bipush (-2), 2) := by decide +kernel
theorem dL_ofObjects_321 : decode cL_ofObjects 321 = .ok (.if_icmp .eq 7, 3) := by decide +kernel
theorem dL_ofObjects_324 : decode cL_ofObjects 324 = .ok (.iconst 1, 1) := by decide +kernel
theorem dL_ofObjects_325 : decode cL_ofObjects 325 = .ok (.goto 4, 3) := by decide +kernel
theorem dL_ofObjects_328 : decode cL_ofObjects 328 = .ok (.iconst 0, 1) := by decide +kernel
theorem dL_ofObjects_329 : decode cL_ofObjects 329 = .ok (.istore 9, 2) := by decide +kernel
theorem dL_ofObjects_331 : decode cL_ofObjects 331 = .ok (.iload 9, 2) := by decide +kernel
theorem dL_ofObjects_333 : decode cL_ofObjects 333 = .ok (.ifCond .eq 26, 3) := by decide +kernel
theorem dL_ofObjects_336 : decode cL_ofObjects 336 = .ok (.iload 5, 2) := by decide +kernel
theorem dL_ofObjects_338 : decode cL_ofObjects 338 = .ok (.ifCond .eq 21, 3) := by decide +kernel
theorem dL_ofObjects_341 : decode cL_ofObjects 341 = .ok (.iload 6, 2) := by decide +kernel
theorem dL_ofObjects_343 : decode cL_ofObjects 343 = .ok (.iload 5, 2) := by decide +kernel
theorem dL_ofObjects_345 : decode cL_ofObjects 345 = .ok (.if_icmp .eq 14, 3) := by decide +kernel
theorem dL_ofObjects_348 : decode cL_ofObjects 348 = .ok (.aload_n 1, 1) := by decide +kernel
theorem dL_ofObjects_349 : decode cL_ofObjects 349 = .ok (.iload 6, 2) := by decide +kernel
theorem dL_ofObjects_351 : decode cL_ofObjects 351 = .ok (.iload 5, 2) := by decide +kernel
theorem dL_ofObjects_353 : decode cL_ofObjects 353 = .ok (.invokestatic 234, 3) := by decide +kernel
theorem dL_ofObjects_356 : decode cL_ofObjects 356 = .ok (.ifCond .eq 32, 3) := by decide +kernel
theorem dL_ofObjects_359 : decode cL_ofObjects 359 = .ok (.aload_n 0, 1) := by decide +kernel
theorem dL_ofObjects_360 : decode cL_ofObjects 360 = .ok (.iload 5, 2) := by decide +kernel
theorem dL_ofObjects_362 : decode cL_ofObjects 362 = .ok (.iload 6, 2) := by decide +kernel
theorem dL_ofObjects_364 : decode cL_ofObjects 364 = .ok (.invokestatic 356, 3) := by decide +kernel
theorem dL_ofObjects_367 : decode cL_ofObjects 367 = .ok (.iload 9, 2) := by decide +kernel
theorem dL_ofObjects_369 : decode cL_ofObjects 369 = .ok (.ifCond .eq 8, 3) := by decide +kernel
theorem dL_ofObjects_372 : decode cL_ofObjects 372 = .ok (.bipush (-102), 2) := by decide +kernel
theorem dL_ofObjects_374 : decode cL_ofObjects 374 = .ok (.goto 5, 3) := by decide +kernel
theorem dL_ofObjects_377 : decode cL_ofObjects 377 = .ok (.bipush (-101), 2) := by decide +kernel
theorem dL_ofObjects_379 : decode cL_ofObjects 379 = .ok (.if_icmp .ne 7, 3) := by decide +kernel
theorem dL_ofObjects_382 : decode cL_ofObjects 382 = .ok (.iconst 1, 1) := by decide +kernel
theorem dL_ofObjects_383 : decode cL_ofObjects 383 = .ok (.goto 4, 3) := by decide +kernel
theorem dL_ofObjects_386 : decode cL_ofObjects 386 = .ok (.iconst 0, 1) := by decide +kernel
theorem dL_ofObjects_387 : decode cL_ofObjects 387 = .ok (.ireturn, 1) := by decide +kernel
theorem dL_ofObjects_388 : decode cL_ofObjects 388 = .ok (.aload_n 1, 1) := by decide +kernel
theorem dL_ofObjects_389 : decode cL_ofObjects 389 = .ok (.iload 5, 2) := by decide +kernel
theorem dL_ofObjects_391 : decode cL_ofObjects 391 = .ok (.iaload, 1) := by decide +kernel
theorem dL_ofObjects_392 : decode cL_ofObjects 392 = .ok (.istore 10, 2) := by decide +kernel
theorem dL_ofObjects_394 : decode cL_ofObjects 394 = .ok (.aload_n 1, 1) := by decide +kernel
theorem dL_ofObjects_395 : decode cL_ofObjects 395 = .ok (.iload 5, 2) := by decide +kernel
theorem dL_ofObjects_397 : decode cL_ofObjects 397 = .ok (.iload 6, 2) := by decide +kernel
theorem dL_ofObjects_399 : decode cL_ofObjects 399 = .ok (.iastore, 1) := by decide +kernel
theorem dL_ofObjects_400 : decode cL_ofObjects 400 = .ok (.aload_n 0, 1) := by decide +kernel
theorem dL_ofObjects_401 : decode cL_ofObjects 401 = .ok (.iload 5, 2) := by decide +kernel
theorem dL_ofObjects_403 : decode cL_ofObjects 403 = .ok (.iload 6, 2) := by decide +kernel
theorem dL_ofObjects_405 : decode cL_ofObjects 405 = .ok (.invokestatic 356, 3) := by decide +kernel
theorem dL_ofObjects_408 : decode cL_ofObjects 408 = .ok (.iload 10, 2) := by decide +kernel
theorem dL_ofObjects_410 : decode cL_ofObjects 410 = .ok (.if_icmp .ne 7, 3) := by decide +kernel
theorem dL_ofObjects_413 : decode cL_ofObjects 413 = .ok (.iconst 1, 1) := by decide +kernel
theorem dL_ofObjects_414 : decode cL_ofObjects 414 = .ok (.goto 4, 3) := by decide +kernel
theorem dL_ofObjects_417 : decode cL_ofObjects 417 = .ok (.iconst 0, 1) := by decide +kernel
theorem dL_ofObjects_418 : decode cL_ofObjects 418 = .ok (.ireturn, 1) := by decide +kernel
theorem dL_ofObjects_419 : decode cL_ofObjects 419 = .ok (.iload_n 3, 1) := by decide +kernel
theorem dL_ofObjects_420 : decode cL_ofObjects 420 = .ok (.iconst 5, 1) := by decide +kernel
theorem dL_ofObjects_421 : decode cL_ofObjects 421 = .ok (.if_icmp .ne 80, 3) := by decide +kernel
theorem dL_ofObjects_424 : decode cL_ofObjects 424 = .ok (.aload_n 1, 1) := by decide +kernel
theorem dL_ofObjects_425 : decode cL_ofObjects 425 = .ok (.bipush 10, 2) := by decide +kernel
theorem dL_ofObjects_427 : decode cL_ofObjects 427 = .ok (.iload 5, 2) := by decide +kernel
theorem dL_ofObjects_429 : decode cL_ofObjects 429 = .ok (.iadd, 1) := by decide +kernel
theorem dL_ofObjects_430 : decode cL_ofObjects 430 = .ok (.iaload, 1) := by decide +kernel
theorem dL_ofObjects_431 : decode cL_ofObjects 431 = .ok (.istore 9, 2) := by decide +kernel
theorem dL_ofObjects_433 : decode cL_ofObjects 433 = .ok (.iload 8, 2) := by decide +kernel
theorem dL_ofObjects_435 : decode cL_ofObjects 435 = .ok (.ifCond .eq 15, 3) := by decide +kernel
theorem dL_ofObjects_438 : decode cL_ofObjects 438 = .ok (.iload 7, 2) := by decide +kernel
theorem dL_ofObjects_440 : decode cL_ofObjects 440 = .ok (.aload_n 2, 1) := by decide +kernel
theorem dL_ofObjects_441 : decode cL_ofObjects 441 = .ok (.iconst 0, 1) := by decide +kernel
theorem dL_ofObjects_442 : decode cL_ofObjects 442 = .ok (.iaload, 1) := by decide +kernel
theorem dL_ofObjects_443 : decode cL_ofObjects 443 = .ok (.if_icmp .ge 7, 3) := by decide +kernel
theorem dL_ofObjects_446 : decode cL_ofObjects 446 = .ok (.iconst 1, 1) := by decide +kernel
theorem dL_ofObjects_447 : decode cL_ofObjects 447 = .ok (.goto 4, 3) := by decide +kernel
theorem dL_ofObjects_450 : decode cL_ofObjects 450 = .ok (.iconst 0, 1) := by decide +kernel
theorem dL_ofObjects_451 : decode cL_ofObjects 451 = .ok (.istore 10, 2) := by decide +kernel
theorem dL_ofObjects_453 : decode cL_ofObjects 453 = .ok (.aload_n 1, 1) := by decide +kernel
theorem dL_ofObjects_454 : decode cL_ofObjects 454 = .ok (.bipush 10, 2) := by decide +kernel
theorem dL_ofObjects_456 : decode cL_ofObjects 456 = .ok (.iload 5, 2) := by decide +kernel
theorem dL_ofObjects_458 : decode cL_ofObjects 458 = .ok (.iadd, 1) := by decide +kernel
theorem dL_ofObjects_459 : decode cL_ofObjects 459 = .ok (.iload 10, 2) := by decide +kernel
theorem dL_ofObjects_461 : decode cL_ofObjects 461 = .ok (.ifCond .eq 8, 3) := by decide +kernel
theorem dL_ofObjects_464 : decode cL_ofObjects 464 = .ok (.iload 7, 2) := by decide +kernel
theorem dL_ofObjects_466 : decode cL_ofObjects 466 = .ok (.goto 5, 3) := by decide +kernel
theorem dL_ofObjects_469 : decode cL_ofObjects 469 = .ok (.iload 9, 2) := by decide +kernel
theorem dL_ofObjects_471 : decode cL_ofObjects 471 = .ok (.iastore, 1) := by decide +kernel
theorem dL_ofObjects_472 : decode cL_ofObjects 472 = .ok (.aload_n 0, 1) := by decide +kernel
theorem dL_ofObjects_473 : decode cL_ofObjects 473 = .ok (.iload 5, 2) := by decide +kernel
theorem dL_ofObjects_475 : decode cL_ofObjects 475 = .ok (.iload 7, 2) := by decide +kernel
theorem dL_ofObjects_477 : decode cL_ofObjects 477 = .ok (.invokestatic 359, 3) := by decide +kernel
theorem dL_ofObjects_480 : decode cL_ofObjects 480 = .ok (.iload 10, 2) := by decide +kernel
theorem dL_ofObjects_482 : decode cL_ofObjects 482 = .ok (.ifCond .eq 8, 3) := by decide +kernel
theorem dL_ofObjects_485 : decode cL_ofObjects 485 = .ok (.iload 9, 2) := by decide +kernel
theorem dL_ofObjects_487 : decode cL_ofObjects 487 = .ok (.goto 5, 3) := by decide +kernel
theorem dL_ofObjects_490 : decode cL_ofObjects 490 = .ok (.bipush (-101), 2) := by decide +kernel
theorem dL_ofObjects_492 : decode cL_ofObjects 492 = .ok (.if_icmp .ne 7, 3) := by decide +kernel
theorem dL_ofObjects_495 : decode cL_ofObjects 495 = .ok (.iconst 1, 1) := by decide +kernel
theorem dL_ofObjects_496 : decode cL_ofObjects 496 = .ok (.goto 4, 3) := by decide +kernel
theorem dL_ofObjects_499 : decode cL_ofObjects 499 = .ok (.iconst 0, 1) := by decide +kernel
theorem dL_ofObjects_500 : decode cL_ofObjects 500 = .ok (.ireturn, 1) := by decide +kernel
theorem dL_ofObjects_501 : decode cL_ofObjects 501 = .ok (.iload_n 3, 1) := by decide +kernel
theorem dL_ofObjects_502 : decode cL_ofObjects 502 = .ok (.bipush 6, 2) := by decide +kernel
theorem dL_ofObjects_504 : decode cL_ofObjects 504 = .ok (.if_icmp .ne 62, 3) := by decide +kernel
theorem dL_ofObjects_507 : decode cL_ofObjects 507 = .ok (.aload_n 1, 1) := by decide +kernel
theorem dL_ofObjects_508 : decode cL_ofObjects 508 = .ok (.bipush 20, 2) := by decide +kernel
theorem dL_ofObjects_510 : decode cL_ofObjects 510 = .ok (.iload 5, 2) := by decide +kernel
theorem dL_ofObjects_512 : decode cL_ofObjects 512 = .ok (.iadd, 1) := by decide +kernel
theorem dL_ofObjects_513 : decode cL_ofObjects 513 = .ok (.iaload, 1) := by decide +kernel
theorem dL_ofObjects_514 : decode cL_ofObjects 514 = .ok (.istore 9, 2) := by decide +kernel
theorem dL_ofObjects_516 : decode cL_ofObjects 516 = .ok (.aload_n 1, 1) := by decide +kernel
theorem dL_ofObjects_517 : decode cL_ofObjects 517 = .ok (.bipush 20, 2) := by decide +kernel
theorem dL_ofObjects_519 : decode cL_ofObjects 519 = .ok (.iload 5, 2) := by decide +kernel
theorem dL_ofObjects_521 : decode cL_ofObjects 521 = .ok (.iadd, 1) := by decide +kernel
theorem dL_ofObjects_522 : decode cL_ofObjects 522 = .ok (.iload 4, 2) := by decide +kernel
theorem dL_ofObjects_524 : decode cL_ofObjects 524 = .ok (.bipush 10, 2) := by decide +kernel
theorem dL_ofObjects_526 : decode cL_ofObjects 526 = .ok (.idiv, 1) := by decide +kernel
theorem dL_ofObjects_527 : decode cL_ofObjects 527 = .ok (.bipush 16, 2) := by decide +kernel
theorem dL_ofObjects_529 : decode cL_ofObjects 529 = .ok (.irem, 1) := by decide +kernel
theorem dL_ofObjects_530 : decode cL_ofObjects 530 = .ok (.iastore, 1) := by decide +kernel
theorem dL_ofObjects_531 : decode cL_ofObjects 531 = .ok (.aload_n 0, 1) := by decide +kernel
theorem dL_ofObjects_532 : decode cL_ofObjects 532 = .ok (.iload 5, 2) := by decide +kernel
theorem dL_ofObjects_534 : decode cL_ofObjects 534 = .ok (.iload 4, 2) := by decide +kernel
theorem dL_ofObjects_536 : decode cL_ofObjects 536 = .ok (.bipush 10, 2) := by decide +kernel
theorem dL_ofObjects_538 : decode cL_ofObjects 538 = .ok (.idiv, 1) := by decide +kernel
theorem dL_ofObjects_539 : decode cL_ofObjects 539 = .ok (.bipush 16, 2) := by decide +kernel
theorem dL_ofObjects_541 : decode cL_ofObjects 541 = .ok (.irem, 1) := by decide +kernel
theorem dL_ofObjects_542 : decode cL_ofObjects 542 = .ok (.invokestatic 362, 3) := by decide +kernel
theorem dL_ofObjects_545 : decode cL_ofObjects 545 = .ok (.iload 8, 2) := by decide +kernel
theorem dL_ofObjects_547 : decode cL_ofObjects 547 = .ok (.ifCond .eq 8, 3) := by decide +kernel
theorem dL_ofObjects_550 : decode cL_ofObjects 550 = .ok (.iload 9, 2) := by decide +kernel
theorem dL_ofObjects_552 : decode cL_ofObjects 552 = .ok (.goto 5, 3) := by decide +kernel
theorem dL_ofObjects_555 : decode cL_ofObjects 555 = .ok (.bipush (-101), 2) := by decide +kernel
theorem dL_ofObjects_557 : decode cL_ofObjects 557 = .ok (.if_icmp .ne 7, 3) := by decide +kernel
theorem dL_ofObjects_560 : decode cL_ofObjects 560 = .ok (.iconst 1, 1) := by decide +kernel
theorem dL_ofObjects_561 : decode cL_ofObjects 561 = .ok (.goto 4, 3) := by decide +kernel
theorem dL_ofObjects_564 : decode cL_ofObjects 564 = .ok (.iconst 0, 1) := by decide +kernel
theorem dL_ofObjects_565 : decode cL_ofObjects 565 = .ok (.ireturn, 1) := by decide +kernel
theorem dL_ofObjects_566 : decode cL_ofObjects 566 = .ok (.aload_n 1, 1) := by decide +kernel
theorem dL_ofObjects_567 : decode cL_ofObjects 567 = .ok (.bipush 30, 2) := by decide +kernel
theorem dL_ofObjects_569 : decode cL_ofObjects 569 = .ok (.iload 5, 2) := by decide +kernel
theorem dL_ofObjects_571 : decode cL_ofObjects 571 = .ok (.iadd, 1) := by decide +kernel
theorem dL_ofObjects_572 : decode cL_ofObjects 572 = .ok (.iaload, 1) := by decide +kernel
theorem dL_ofObjects_573 : decode cL_ofObjects 573 = .ok (.istore 9, 2) := by decide +kernel
theorem dL_ofObjects_575 : decode cL_ofObjects 575 = .ok (.aload_n 1, 1) := by decide +kernel
theorem dL_ofObjects_576 : decode cL_ofObjects 576 = .ok (.bipush 30, 2) := by decide +kernel
theorem dL_ofObjects_578 : decode cL_ofObjects 578 = .ok (.iload 5, 2) := by decide +kernel
theorem dL_ofObjects_580 : decode cL_ofObjects 580 = .ok (.iadd, 1) := by decide +kernel
theorem dL_ofObjects_581 : decode cL_ofObjects 581 = .ok (.iload 4, 2) := by decide +kernel
theorem dL_ofObjects_583 : decode cL_ofObjects 583 = .ok (.bipush 10, 2) := by decide +kernel
theorem dL_ofObjects_585 : decode cL_ofObjects 585 = .ok (.idiv, 1) := by decide +kernel
theorem dL_ofObjects_586 : decode cL_ofObjects 586 = .ok (.iconst 2, 1) := by decide +kernel
theorem dL_ofObjects_587 : decode cL_ofObjects 587 = .ok (.irem, 1) := by decide +kernel
theorem dL_ofObjects_588 : decode cL_ofObjects 588 = .ok (.iastore, 1) := by decide +kernel
theorem dL_ofObjects_589 : decode cL_ofObjects 589 = .ok (.aload_n 0, 1) := by decide +kernel
theorem dL_ofObjects_590 : decode cL_ofObjects 590 = .ok (.iload 5, 2) := by decide +kernel
theorem dL_ofObjects_592 : decode cL_ofObjects 592 = .ok (.iload 4, 2) := by decide +kernel
theorem dL_ofObjects_594 : decode cL_ofObjects 594 = .ok (.bipush 10, 2) := by decide +kernel
theorem dL_ofObjects_596 : decode cL_ofObjects 596 = .ok (.idiv, 1) := by decide +kernel
theorem dL_ofObjects_597 : decode cL_ofObjects 597 = .ok (.iconst 2, 1) := by decide +kernel
theorem dL_ofObjects_598 : decode cL_ofObjects 598 = .ok (.irem, 1) := by decide +kernel
theorem dL_ofObjects_599 : decode cL_ofObjects 599 = .ok (.iconst 1, 1) := by decide +kernel
theorem dL_ofObjects_600 : decode cL_ofObjects 600 = .ok (.if_icmp .ne 7, 3) := by decide +kernel
theorem dL_ofObjects_603 : decode cL_ofObjects 603 = .ok (.iconst 1, 1) := by decide +kernel
theorem dL_ofObjects_604 : decode cL_ofObjects 604 = .ok (.goto 4, 3) := by decide +kernel
theorem dL_ofObjects_607 : decode cL_ofObjects 607 = .ok (.iconst 0, 1) := by decide +kernel
theorem dL_ofObjects_608 : decode cL_ofObjects 608 = .ok (.invokestatic 365, 3) := by decide +kernel
theorem dL_ofObjects_611 : decode cL_ofObjects 611 = .ok (.iload 8, 2) := by decide +kernel
theorem dL_ofObjects_613 : decode cL_ofObjects 613 = .ok (.ifCond .eq 8, 3) := by decide +kernel
theorem dL_ofObjects_616 : decode cL_ofObjects 616 = .ok (.iload 9, 2) := by decide +kernel
theorem dL_ofObjects_618 : decode cL_ofObjects 618 = .ok (.goto 5, 3) := by decide +kernel
theorem dL_ofObjects_621 : decode cL_ofObjects 621 = .ok (.bipush (-101), 2) := by decide +kernel
theorem dL_ofObjects_623 : decode cL_ofObjects 623 = .ok (.if_icmp .ne 7, 3) := by decide +kernel
theorem dL_ofObjects_626 : decode cL_ofObjects 626 = .ok (.iconst 1, 1) := by decide +kernel
theorem dL_ofObjects_627 : decode cL_ofObjects 627 = .ok (.goto 4, 3) := by decide +kernel
theorem dL_ofObjects_630 : decode cL_ofObjects 630 = .ok (.iconst 0, 1) := by decide +kernel
theorem dL_ofObjects_631 : decode cL_ofObjects 631 = .ok (.ireturn, 1) := by decide +kernel
theorem dL_ofEntries_0 : decode cL_ofEntries 0 = .ok (.iload 6, 2) := by decide +kernel
theorem dL_ofEntries_2 : decode cL_ofEntries 2 = .ok (.bipush 10, 2) := by decide +kernel
theorem dL_ofEntries_4 : decode cL_ofEntries 4 = .ok (.irem, 1) := by decide +kernel
theorem dL_ofEntries_5 : decode cL_ofEntries 5 = .ok (.istore 7, 2) := by decide +kernel
theorem dL_ofEntries_7 : decode cL_ofEntries 7 = .ok (.aload_n 2, 1) := by decide +kernel
theorem dL_ofEntries_8 : decode cL_ofEntries 8 = .ok (.iload 7, 2) := by decide +kernel
theorem dL_ofEntries_10 : decode cL_ofEntries 10 = .ok (.iaload, 1) := by decide +kernel
theorem dL_ofEntries_11 : decode cL_ofEntries 11 = .ok (.bipush (-2), 2) := by decide +kernel
theorem dL_ofEntries_13 : decode cL_ofEntries 13 = .ok (.if_icmp .eq 7, 3) := by decide +kernel
theorem dL_ofEntries_16 : decode cL_ofEntries 16 = .ok (.iconst 1, 1) := by decide +kernel
theorem dL_ofEntries_17 : decode cL_ofEntries 17 = .ok (.goto 4, 3) := by decide +kernel
theorem dL_ofEntries_20 : decode cL_ofEntries 20 = .ok (.iconst 0, 1) := by decide +kernel
theorem dL_ofEntries_21 : decode cL_ofEntries 21 = .ok (.istore 8, 2) := by decide +kernel
theorem dL_ofEntries_23 : decode cL_ofEntries 23 = .ok (.iload 8, 2) := by decide +kernel
theorem dL_ofEntries_25 : decode cL_ofEntries 25 = .ok (.ifCond .eq 13, 3) := by decide +kernel
theorem dL_ofEntries_28 : decode cL_ofEntries 28 = .ok (.aload_n 2, 1) := by decide +kernel
theorem dL_ofEntries_29 : decode cL_ofEntries 29 = .ok (.bipush 40, 2) := by decide +kernel
theorem dL_ofEntries_31 : decode cL_ofEntries 31 = .ok (.iload 7, 2) := by decide +kernel
theorem dL_ofEntries_33 : decode cL_ofEntries 33 = .ok (.iadd, 1) := by decide +kernel
theorem dL_ofEntries_34 : decode cL_ofEntries 34 = .ok (.iaload, 1) := by decide +kernel
theorem dL_ofEntries_35 : decode cL_ofEntries 35 = .ok (.goto 4, 3) := by decide +kernel
theorem dL_ofEntries_38 : decode cL_ofEntries 38 = .ok (.iconst 0, 1) := by decide +kernel
theorem dL_ofEntries_39 : decode cL_ofEntries 39 = .ok (.istore 9, 2) := by decide +kernel
theorem dL_ofEntries_41 : decode cL_ofEntries 41 = .ok (.iload 6, 2) := by decide +kernel
theorem dL_ofEntries_43 : decode cL_ofEntries 43 = .ok (.bipush 10, 2) := by decide +kernel
theorem dL_ofEntries_45 : decode cL_ofEntries 45 = .ok (.idiv, 1) := by decide +kernel
theorem dL_ofEntries_46 : decode cL_ofEntries 46 = .ok (.iconst 4, 1) := by decide +kernel
theorem dL_ofEntries_47 : decode cL_ofEntries 47 = .ok (.irem, 1) := by decide +kernel
theorem dL_ofEntries_48 : decode cL_ofEntries 48 = .ok (.istore 10, 2) := by decide +kernel
theorem dL_ofEntries_50 : decode cL_ofEntries 50 = .ok (.iload 6, 2) := by decide +kernel
theorem dL_ofEntries_52 : decode cL_ofEntries 52 = .ok (.bipush 40, 2) := by decide +kernel
theorem dL_ofEntries_54 : decode cL_ofEntries 54 = .ok (.idiv, 1) := by decide +kernel
theorem dL_ofEntries_55 : decode cL_ofEntries 55 = .ok (.iload 10, 2) := by decide +kernel
theorem dL_ofEntries_57 : decode cL_ofEntries 57 = .ok (.ifCond .ne 8, 3) := by decide +kernel
theorem dL_ofEntries_60 : decode cL_ofEntries 60 = .ok (.bipush 12, 2) := by decide +kernel
theorem dL_ofEntries_62 : decode cL_ofEntries 62 = .ok (.goto 15, 3) := by decide +kernel
theorem dL_ofEntries_65 : decode cL_ofEntries 65 = .ok (.iload 10, 2) := by decide +kernel
theorem dL_ofEntries_67 : decode cL_ofEntries 67 = .ok (.iconst 1, 1) := by decide +kernel
theorem dL_ofEntries_68 : decode cL_ofEntries 68 = .ok (.if_icmp .ne 8, 3) := by decide +kernel
theorem dL_ofEntries_71 : decode cL_ofEntries 71 = .ok (.bipush 8, 2) := by decide +kernel
theorem dL_ofEntries_73 : decode cL_ofEntries 73 = .ok (.goto 4, 3) := by decide +kernel
theorem dL_ofEntries_76 : decode cL_ofEntries 76 = .ok (.iconst 1, 1) := by decide +kernel
theorem dL_ofEntries_77 : decode cL_ofEntries 77 = .ok (.irem, 1) := by decide +kernel
theorem dL_ofEntries_78 : decode cL_ofEntries 78 = .ok (.istore 11, 2) := by decide +kernel
theorem dL_ofEntries_80 : decode cL_ofEntries 80 = .ok (.iconst 1, 1) := by decide +kernel
theorem dL_ofEntries_81 : decode cL_ofEntries 81 = .ok (.iload 6, 2) := by decide +kernel
theorem dL_ofEntries_83 : decode cL_ofEntries 83 = .ok (.sipush 480, 3) := by decide +kernel
theorem dL_ofEntries_86 : decode cL_ofEntries 86 = .ok (.idiv, 1) := by decide +kernel
theorem dL_ofEntries_87 : decode cL_ofEntries 87 = .ok (.bipush 15, 2) := by decide +kernel
theorem dL_ofEntries_89 : decode cL_ofEntries 89 = .ok (.irem, 1) := by decide +kernel
theorem dL_ofEntries_90 : decode cL_ofEntries 90 = .ok (.iadd, 1) := by decide +kernel
theorem dL_ofEntries_91 : decode cL_ofEntries 91 = .ok (.istore 12, 2) := by decide +kernel
theorem dL_ofEntries_93 : decode cL_ofEntries 93 = .ok (.iload 6, 2) := by decide +kernel
theorem dL_ofEntries_95 : decode cL_ofEntries 95 = .ok (.sipush 7200, 3) := by decide +kernel
theorem dL_ofEntries_98 : decode cL_ofEntries 98 = .ok (.idiv, 1) := by decide +kernel
theorem dL_ofEntries_99 : decode cL_ofEntries 99 = .ok (.iconst 3, 1) := by decide +kernel
theorem dL_ofEntries_100 : decode cL_ofEntries 100 = .ok (.irem, 1) := by decide +kernel
theorem dL_ofEntries_101 : decode cL_ofEntries 101 = .ok (.ifCond .le 7, 3) := by decide +kernel
theorem dL_ofEntries_104 : decode cL_ofEntries 104 = .ok (.iconst 1, 1) := by decide +kernel
theorem dL_ofEntries_105 : decode cL_ofEntries 105 = .ok (.goto 4, 3) := by decide +kernel
theorem dL_ofEntries_108 : decode cL_ofEntries 108 = .ok (.iconst 0, 1) := by decide +kernel
theorem dL_ofEntries_109 : decode cL_ofEntries 109 = .ok (.istore 13, 2) := by decide +kernel
theorem dL_ofEntries_111 : decode cL_ofEntries 111 = .ok (.iload 6, 2) := by decide +kernel
theorem dL_ofEntries_113 : decode cL_ofEntries 113 = .ok (.sipush 21600, 3) := by decide +kernel
theorem dL_ofEntries_116 : decode cL_ofEntries 116 = .ok (.idiv, 1) := by decide +kernel
theorem dL_ofEntries_117 : decode cL_ofEntries 117 = .ok (.iconst 2, 1) := by decide +kernel
theorem dL_ofEntries_118 : decode cL_ofEntries 118 = .ok (.irem, 1) := by decide +kernel
theorem dL_ofEntries_119 : decode cL_ofEntries 119 = .ok (.iconst 1, 1) := by decide +kernel
theorem dL_ofEntries_120 : decode cL_ofEntries 120 = .ok (.if_icmp .ne 7, 3) := by decide +kernel
theorem dL_ofEntries_123 : decode cL_ofEntries 123 = .ok (.iconst 1, 1) := by decide +kernel
theorem dL_ofEntries_124 : decode cL_ofEntries 124 = .ok (.goto 4, 3) := by decide +kernel
theorem dL_ofEntries_127 : decode cL_ofEntries 127 = .ok (.iconst 0, 1) := by decide +kernel
theorem dL_ofEntries_128 : decode cL_ofEntries 128 = .ok (.istore 14, 2) := by decide +kernel
theorem dL_ofEntries_130 : decode cL_ofEntries 130 = .ok (.iload 5, 2) := by decide +kernel
theorem dL_ofEntries_132 : decode cL_ofEntries 132 = .ok (.bipush 6, 2) := by decide +kernel
theorem dL_ofEntries_134 : decode cL_ofEntries 134 = .ok (.if_icmp .ge 225, 3) := by decide +kernel
theorem dL_ofEntries_137 : decode cL_ofEntries 137 = .ok (.iload 8, 2) := by decide +kernel
theorem dL_ofEntries_139 : decode cL_ofEntries 139 = .ok (.ifCond .eq 36, 3) := by decide +kernel
theorem dL_ofEntries_142 : decode cL_ofEntries 142 = .ok (.iload 10, 2) := by decide +kernel
theorem dL_ofEntries_144 : decode cL_ofEntries 144 = .ok (.ifCond .ne 12, 3) := by decide +kernel
theorem dL_ofEntries_147 : decode cL_ofEntries 147 = .ok (.iload 11, 2) := by decide +kernel
theorem dL_ofEntries_149 : decode cL_ofEntries 149 = .ok (.aload 4, 2) := by decide +kernel
theorem dL_ofEntries_151 : decode cL_ofEntries 151 = .ok (.iconst 0, 1) := by decide +kernel
theorem dL_ofEntries_152 : decode cL_ofEntries 152 = .ok (.iaload, 1) := by decide +kernel
theorem dL_ofEntries_153 : decode cL_ofEntries 153 = .ok (.if_icmp .ge 22, 3) := by decide +kernel
theorem dL_ofEntries_156 : decode cL_ofEntries 156 = .ok (.iload 10, 2) := by decide +kernel
theorem dL_ofEntries_158 : decode cL_ofEntries 158 = .ok (.iconst 1, 1) := by decide +kernel
theorem dL_ofEntries_159 : decode cL_ofEntries 159 = .ok (.if_icmp .ne 12, 3) := by decide +kernel
theorem dL_ofEntries_162 : decode cL_ofEntries 162 = .ok (.iload 11, 2) := by decide +kernel
theorem dL_ofEntries_164 : decode cL_ofEntries 164 = .ok (.aload 4, 2) := by decide +kernel
theorem dL_ofEntries_166 : decode cL_ofEntries 166 = .ok (.iconst 1, 1) := by decide +kernel
theorem dL_ofEntries_167 : decode cL_ofEntries 167 = .ok (.iaload, 1) := by decide +kernel
theorem dL_ofEntries_168 : decode cL_ofEntries 168 = .ok (.if_icmp .ge 7, 3) := by decide +kernel
theorem dL_ofEntries_171 : decode cL_ofEntries 171 = .ok (.iconst 1, 1) := by decide +kernel
theorem dL_ofEntries_172 : decode cL_ofEntries 172 = .ok (.goto 4, 3) := by decide +kernel
theorem dL_ofEntries_175 : decode cL_ofEntries 175 = .ok (.iconst 0, 1) := by decide +kernel
theorem dL_ofEntries_176 : decode cL_ofEntries 176 = .ok (.istore 15, 2) := by decide +kernel
theorem dL_ofEntries_178 : decode cL_ofEntries 178 = .ok (.iload 15, 2) := by decide +kernel
theorem dL_ofEntries_180 : decode cL_ofEntries 180 = .ok (.ifCond .ne 8, 3) := by decide +kernel
theorem dL_ofEntries_183 : decode cL_ofEntries 183 = .ok (.bipush (-101), 2) := by decide +kernel
theorem dL_ofEntries_185 : decode cL_ofEntries 185 = .ok (.goto 19, 3) := by decide +kernel
theorem dL_ofEntries_188 : decode cL_ofEntries 188 = .ok (.iload 9, 2) := by decide +kernel
theorem dL_ofEntries_190 : decode cL_ofEntries 190 = .ok (.bipush 6, 2) := by decide +kernel
theorem dL_ofEntries_192 : decode cL_ofEntries 192 = .ok (.if_icmp .ne 8, 3) := by decide +kernel
theorem dL_ofEntries_195 : decode cL_ofEntries 195 = .ok (.bipush (-103), 2) := by decide +kernel
theorem dL_ofEntries_197 : decode cL_ofEntries 197 = .ok (.goto 7, 3) := by decide +kernel
theorem dL_ofEntries_200 : decode cL_ofEntries 200 = .ok (.iload 9, 2) := by decide +kernel
theorem dL_ofEntries_202 : decode cL_ofEntries 202 = .ok (.iconst 1, 1) := by decide +kernel
theorem dL_ofEntries_203 : decode cL_ofEntries 203 = .ok (.iadd, 1) := by decide +kernel
theorem dL_ofEntries_204 : decode cL_ofEntries 204 = .ok (.istore 16, 2) := by decide +kernel
theorem dL_ofEntries_206 : decode cL_ofEntries 206 = .ok (.iload 16, 2) := by decide +kernel
theorem dL_ofEntries_208 : decode cL_ofEntries 208 = .ok (.ifCond .le 62, 3) := by decide +kernel
theorem dL_ofEntries_211 : decode cL_ofEntries 211 = .ok (.aload_n 3, 1) := by decide +kernel
theorem dL_ofEntries_212 : decode cL_ofEntries 212 = .ok (.bipush 6, 2) := by decide +kernel
theorem dL_ofEntries_214 : decode cL_ofEntries 214 = .ok (.iload 7, 2) := by decide +kernel
theorem dL_ofEntries_216 : decode cL_ofEntries 216 = .ok (.imul, 1) := by decide +kernel
theorem dL_ofEntries_217 : decode cL_ofEntries 217 = .ok (.iload 9, 2) := by decide +kernel
theorem dL_ofEntries_219 : decode cL_ofEntries 219 = .ok (.iadd, 1) := by decide +kernel
theorem dL_ofEntries_220 : decode cL_ofEntries 220 = .ok (.bipush 16, 2) := by decide +kernel
theorem dL_ofEntries_222 : decode cL_ofEntries 222 = .ok (.iload 10, 2) := by decide +kernel
theorem dL_ofEntries_224 : decode cL_ofEntries 224 = .ok (.imul, 1) := by decide +kernel
theorem dL_ofEntries_225 : decode cL_ofEntries 225 = .ok (.iload 11, 2) := by decide +kernel
theorem dL_ofEntries_227 : decode cL_ofEntries 227 = .ok (.iadd, 1) := by decide +kernel
theorem dL_ofEntries_228 : decode cL_ofEntries 228 = .ok (.bipush 16, 2) := by decide +kernel
theorem dL_ofEntries_230 : decode cL_ofEntries 230 = .ok (.imul, 1) := by decide +kernel
theorem dL_ofEntries_231 : decode cL_ofEntries 231 = .ok (.iload 12, 2) := by decide +kernel
theorem dL_ofEntries_233 : decode cL_ofEntries 233 = .ok (.iadd, 1) := by decide +kernel
theorem dL_ofEntries_234 : decode cL_ofEntries 234 = .ok (.iconst 4, 1) := by decide +kernel
theorem dL_ofEntries_235 : decode cL_ofEntries 235 = .ok (.imul, 1) := by decide +kernel
theorem dL_ofEntries_236 : decode cL_ofEntries 236 = .ok (.iload 13, 2) := by decide +kernel
theorem dL_ofEntries_238 : decode cL_ofEntries 238 = .ok (.ifCond .eq 7, 3) := by decide +kernel
theorem dL_ofEntries_241 : decode cL_ofEntries 241 = .ok (.iconst 2, 1) := by decide +kernel
theorem dL_ofEntries_242 : decode cL_ofEntries 242 = .ok (.goto 4, 3) := by decide +kernel
theorem dL_ofEntries_245 : decode cL_ofEntries 245 = .ok (.iconst 0, 1) := by decide +kernel
theorem dL_ofEntries_246 : decode cL_ofEntries 246 = .ok (.iadd, 1) := by decide +kernel
theorem dL_ofEntries_247 : decode cL_ofEntries 247 = .ok (.iload 14, 2) := by decide +kernel
theorem dL_ofEntries_249 : decode cL_ofEntries 249 = .ok (.ifCond .eq 7, 3) := by decide +kernel
theorem dL_ofEntries_252 : decode cL_ofEntries 252 = .ok (.iconst 1, 1) := by decide +kernel
theorem dL_ofEntries_253 : decode cL_ofEntries 253 = .ok (.goto 4, 3) := by decide +kernel
theorem dL_ofEntries_256 : decode cL_ofEntries 256 = .ok (.iconst 0, 1) := by decide +kernel
theorem dL_ofEntries_257 : decode cL_ofEntries 257 = .ok (.iadd, 1) := by decide +kernel
theorem dL_ofEntries_258 : decode cL_ofEntries 258 = .ok (.iastore, 1) := by decide +kernel
theorem dL_ofEntries_259 : decode cL_ofEntries 259 = .ok (.aload_n 2, 1) := by decide +kernel
theorem dL_ofEntries_260 : decode cL_ofEntries 260 = .ok (.bipush 40, 2) := by decide +kernel
theorem dL_ofEntries_262 : decode cL_ofEntries 262 = .ok (.iload 7, 2) := by decide +kernel
theorem dL_ofEntries_264 : decode cL_ofEntries 264 = .ok (.iadd, 1) := by decide +kernel
theorem dL_ofEntries_265 : decode cL_ofEntries 265 = .ok (.dup2, 1) := by decide +kernel
theorem dL_ofEntries_266 : decode cL_ofEntries 266 = .ok (.iaload, 1) := by decide +kernel
theorem dL_ofEntries_267 : decode cL_ofEntries 267 = .ok (.iconst 1, 1) := by decide +kernel
theorem dL_ofEntries_268 : decode cL_ofEntries 268 = .ok (.iadd, 1) := by decide +kernel
theorem dL_ofEntries_269 : decode cL_ofEntries 269 = .ok (.iastore, 1) := by decide +kernel
theorem dL_ofEntries_270 : decode cL_ofEntries 270 = .ok (.iload 16, 2) := by decide +kernel
theorem dL_ofEntries_272 : decode cL_ofEntries 272 = .ok (.iload 10, 2) := by decide +kernel
theorem dL_ofEntries_274 : decode cL_ofEntries 274 = .ok (.ifCond .ne 20, 3) := by decide +kernel
theorem dL_ofEntries_277 : decode cL_ofEntries 277 = .ok (.aload_n 0, 1) := by decide +kernel
theorem dL_ofEntries_278 : decode cL_ofEntries 278 = .ok (.iload 7, 2) := by decide +kernel
theorem dL_ofEntries_280 : decode cL_ofEntries 280 = .ok (.iload 11, 2) := by decide +kernel
theorem dL_ofEntries_282 : decode cL_ofEntries 282 = .ok (.iload 12, 2) := by decide +kernel
theorem dL_ofEntries_284 : decode cL_ofEntries 284 = .ok (.iload 13, 2) := by decide +kernel
theorem dL_ofEntries_286 : decode cL_ofEntries 286 = .ok (.iload 14, 2) := by decide +kernel
theorem dL_ofEntries_288 : decode cL_ofEntries 288 = .ok (.invokestatic 369, 3) := by decide +kernel
theorem dL_ofEntries_291 : decode cL_ofEntries 291 = .ok (.goto 59, 3) := by decide +kernel
theorem dL_ofEntries_294 : decode cL_ofEntries 294 = .ok (.iload 10, 2) := by decide +kernel
theorem dL_ofEntries_296 : decode cL_ofEntries 296 = .ok (.iconst 1, 1) := by decide +kernel
theorem dL_ofEntries_297 : decode cL_ofEntries 297 = .ok (.if_icmp .ne 20, 3) := by decide +kernel
theorem dL_ofEntries_300 : decode cL_ofEntries 300 = .ok (.aload_n 0, 1) := by decide +kernel
theorem dL_ofEntries_301 : decode cL_ofEntries 301 = .ok (.iload 7, 2) := by decide +kernel
theorem dL_ofEntries_303 : decode cL_ofEntries 303 = .ok (.iload 11, 2) := by decide +kernel
theorem dL_ofEntries_305 : decode cL_ofEntries 305 = .ok (.iload 12, 2) := by decide +kernel
theorem dL_ofEntries_307 : decode cL_ofEntries 307 = .ok (.iload 13, 2) := by decide +kernel
theorem dL_ofEntries_309 : decode cL_ofEntries 309 = .ok (.iload 14, 2) := by decide +kernel
theorem dL_ofEntries_311 : decode cL_ofEntries 311 = .ok (.invokestatic 373, 3) := by decide +kernel
theorem dL_ofEntries_314 : decode cL_ofEntries 314 = .ok (.goto 36, 3) := by decide +kernel
theorem dL_ofEntries_317 : decode cL_ofEntries 317 = .ok (.iload 10, 2) := by decide +kernel
theorem dL_ofEntries_319 : decode cL_ofEntries 319 = .ok (.iconst 2, 1) := by decide +kernel
theorem dL_ofEntries_320 : decode cL_ofEntries 320 = .ok (.if_icmp .ne 18, 3) := by decide +kernel
theorem dL_ofEntries_323 : decode cL_ofEntries 323 = .ok (.aload_n 0, 1) := by decide +kernel
theorem dL_ofEntries_324 : decode cL_ofEntries 324 = .ok (.iload 7, 2) := by decide +kernel
theorem dL_ofEntries_326 : decode cL_ofEntries 326 = .ok (.iload 12, 2) := by decide +kernel
theorem dL_ofEntries_328 : decode cL_ofEntries 328 = .ok (.iload 13, 2) := by decide +kernel
theorem dL_ofEntries_330 : decode cL_ofEntries 330 = .ok (.iload 14, 2) := by decide +kernel
theorem dL_ofEntries_332 : decode cL_ofEntries 332 = .ok (.invokestatic 376, 3) := by decide +kernel
theorem dL_ofEntries_335 : decode cL_ofEntries 335 = .ok (.goto 15, 3) := by decide +kernel
theorem dL_ofEntries_338 : decode cL_ofEntries 338 = .ok (.aload_n 0, 1) := by decide +kernel
theorem dL_ofEntries_339 : decode cL_ofEntries 339 = .ok (.iload 7, 2) := by decide +kernel
theorem dL_ofEntries_341 : decode cL_ofEntries 341 = .ok (.iload 12, 2) := by decide +kernel
theorem dL_ofEntries_343 : decode cL_ofEntries 343 = .ok (.iload 13, 2) := by decide +kernel
theorem dL_ofEntries_345 : decode cL_ofEntries 345 = .ok (.iload 14, 2) := by decide +kernel
theorem dL_ofEntries_347 : decode cL_ofEntries 347 = .ok (.invokestatic 380, 3) := by decide +kernel
theorem dL_ofEntries_350 : decode cL_ofEntries 350 = .ok (.if_icmp .ne 7, 3) := by decide +kernel
theorem dL_ofEntries_353 : decode cL_ofEntries 353 = .ok (.iconst 1, 1) := by decide +kernel
theorem dL_ofEntries_354 : decode cL_ofEntries 354 = .ok (.goto 4, 3) := by decide +kernel
theorem dL_ofEntries_357 : decode cL_ofEntries 357 = .ok (.iconst 0, 1) := by decide +kernel
theorem dL_ofEntries_358 : decode cL_ofEntries 358 = .ok (.ireturn, 1) := by decide +kernel
theorem dL_ofEntries_359 : decode cL_ofEntries 359 = .ok (.iload 6, 2) := by decide +kernel
theorem dL_ofEntries_361 : decode cL_ofEntries 361 = .ok (.bipush 10, 2) := by decide +kernel
theorem dL_ofEntries_363 : decode cL_ofEntries 363 = .ok (.idiv, 1) := by decide +kernel
theorem dL_ofEntries_364 : decode cL_ofEntries 364 = .ok (.bipush 6, 2) := by decide +kernel
theorem dL_ofEntries_366 : decode cL_ofEntries 366 = .ok (.irem, 1) := by decide +kernel
theorem dL_ofEntries_367 : decode cL_ofEntries 367 = .ok (.istore 15, 2) := by decide +kernel
theorem dL_ofEntries_369 : decode cL_ofEntries 369 = .ok (.iload 6, 2) := by decide +kernel
theorem dL_ofEntries_371 : decode cL_ofEntries 371 = .ok (.bipush 60, 2) := by decide +kernel
theorem dL_ofEntries_373 : decode cL_ofEntries 373 = .ok (.idiv, 1) := by decide +kernel
theorem dL_ofEntries_374 : decode cL_ofEntries 374 = .ok (.bipush 6, 2) := by decide +kernel
theorem dL_ofEntries_376 : decode cL_ofEntries 376 = .ok (.irem, 1) := by decide +kernel
theorem dL_ofEntries_377 : decode cL_ofEntries 377 = .ok (.istore 16, 2) := by decide +kernel
theorem dL_ofEntries_379 : decode cL_ofEntries 379 = .ok (.iload 5, 2) := by decide +kernel
theorem dL_ofEntries_381 : decode cL_ofEntries 381 = .ok (.bipush 6, 2) := by decide +kernel
theorem dL_ofEntries_383 : decode cL_ofEntries 383 = .ok (.if_icmp .ne 102, 3) := by decide +kernel
theorem dL_ofEntries_386 : decode cL_ofEntries 386 = .ok (.iload 15, 2) := by decide +kernel
theorem dL_ofEntries_388 : decode cL_ofEntries 388 = .ok (.iload 9, 2) := by decide +kernel
theorem dL_ofEntries_390 : decode cL_ofEntries 390 = .ok (.if_icmp .lt 22, 3) := by decide +kernel
theorem dL_ofEntries_393 : decode cL_ofEntries 393 = .ok (.aload_n 0, 1) := by decide +kernel
theorem dL_ofEntries_394 : decode cL_ofEntries 394 = .ok (.iload 7, 2) := by decide +kernel
theorem dL_ofEntries_396 : decode cL_ofEntries 396 = .ok (.iload 15, 2) := by decide +kernel
theorem dL_ofEntries_398 : decode cL_ofEntries 398 = .ok (.invokestatic 383, 3) := by decide +kernel
theorem dL_ofEntries_401 : decode cL_ofEntries 401 = .ok (.bipush (-101), 2) := by decide +kernel
theorem dL_ofEntries_403 : decode cL_ofEntries 403 = .ok (.if_icmp .ne 7, 3) := by decide +kernel
theorem dL_ofEntries_406 : decode cL_ofEntries 406 = .ok (.iconst 1, 1) := by decide +kernel
theorem dL_ofEntries_407 : decode cL_ofEntries 407 = .ok (.goto 4, 3) := by decide +kernel
theorem dL_ofEntries_410 : decode cL_ofEntries 410 = .ok (.iconst 0, 1) := by decide +kernel
theorem dL_ofEntries_411 : decode cL_ofEntries 411 = .ok (.ireturn, 1) := by decide +kernel
theorem dL_ofEntries_412 : decode cL_ofEntries 412 = .ok (.iload 15, 2) := by decide +kernel
theorem dL_ofEntries_414 : decode cL_ofEntries 414 = .ok (.istore 17, 2) := by decide +kernel
theorem dL_ofEntries_416 : decode cL_ofEntries 416 = .ok (.iload 17, 2) := by decide +kernel
theorem dL_ofEntries_418 : decode cL_ofEntries 418 = .ok (.iload 9, 2) := by decide +kernel
theorem dL_ofEntries_420 : decode cL_ofEntries 420 = .ok (.iconst 1, 1) := by decide +kernel
theorem dL_ofEntries_421 : decode cL_ofEntries 421 = .ok (.isub, 1) := by decide +kernel
theorem dL_ofEntries_422 : decode cL_ofEntries 422 = .ok (.if_icmp .ge 31, 3) := by decide +kernel
theorem dL_ofEntries_425 : decode cL_ofEntries 425 = .ok (.aload_n 3, 1) := by decide +kernel
theorem dL_ofEntries_426 : decode cL_ofEntries 426 = .ok (.bipush 6, 2) := by decide +kernel
theorem dL_ofEntries_428 : decode cL_ofEntries 428 = .ok (.iload 7, 2) := by decide +kernel
theorem dL_ofEntries_430 : decode cL_ofEntries 430 = .ok (.imul, 1) := by decide +kernel
theorem dL_ofEntries_431 : decode cL_ofEntries 431 = .ok (.iload 17, 2) := by decide +kernel
theorem dL_ofEntries_433 : decode cL_ofEntries 433 = .ok (.iadd, 1) := by decide +kernel
theorem dL_ofEntries_434 : decode cL_ofEntries 434 = .ok (.aload_n 3, 1) := by decide +kernel
theorem dL_ofEntries_435 : decode cL_ofEntries 435 = .ok (.bipush 6, 2) := by decide +kernel
theorem dL_ofEntries_437 : decode cL_ofEntries 437 = .ok (.iload 7, 2) := by decide +kernel
theorem dL_ofEntries_439 : decode cL_ofEntries 439 = .ok (.imul, 1) := by decide +kernel
theorem dL_ofEntries_440 : decode cL_ofEntries 440 = .ok (.iload 17, 2) := by decide +kernel
theorem dL_ofEntries_442 : decode cL_ofEntries 442 = .ok (.iadd, 1) := by decide +kernel
theorem dL_ofEntries_443 : decode cL_ofEntries 443 = .ok (.iconst 1, 1) := by decide +kernel
theorem dL_ofEntries_444 : decode cL_ofEntries 444 = .ok (.iadd, 1) := by decide +kernel
theorem dL_ofEntries_445 : decode cL_ofEntries 445 = .ok (.iaload, 1) := by decide +kernel
theorem dL_ofEntries_446 : decode cL_ofEntries 446 = .ok (.iastore, 1) := by decide +kernel
theorem dL_ofEntries_447 : decode cL_ofEntries 447 = .ok (.iinc 17 1, 3) := by decide +kernel
theorem dL_ofEntries_450 : decode cL_ofEntries 450 = .ok (.goto (-34), 3) := by decide +kernel
theorem dL_ofEntries_453 : decode cL_ofEntries 453 = .ok (.aload_n 2, 1) := by decide +kernel
theorem dL_ofEntries_454 : decode cL_ofEntries 454 = .ok (.bipush 40, 2) := by decide +kernel
theorem dL_ofEntries_456 : decode cL_ofEntries 456 = .ok (.iload 7, 2) := by decide +kernel
theorem dL_ofEntries_458 : decode cL_ofEntries 458 = .ok (.iadd, 1) := by decide +kernel
theorem dL_ofEntries_459 : decode cL_ofEntries 459 = .ok (.dup2, 1) := by decide +kernel
theorem dL_ofEntries_460 : decode cL_ofEntries 460 = .ok (.iaload, 1) := by decide +kernel
theorem dL_ofEntries_461 : decode cL_ofEntries 461 = .ok (.iconst 1, 1) := by decide +kernel
theorem dL_ofEntries_462 : decode cL_ofEntries 462 = .ok (.isub, 1) := by decide +kernel
theorem dL_ofEntries_463 : decode cL_ofEntries 463 = .ok (.iastore, 1) := by decide +kernel
theorem dL_ofEntries_464 : decode cL_ofEntries 464 = .ok (.aload_n 0, 1) := by decide +kernel
theorem dL_ofEntries_465 : decode cL_ofEntries 465 = .ok (.iload 7, 2) := by decide +kernel
theorem dL_ofEntries_467 : decode cL_ofEntries 467 = .ok (.iload 15, 2) := by decide +kernel
theorem dL_ofEntries_469 : decode cL_ofEntries 469 = .ok (.invokestatic 383, 3) := by decide +kernel
theorem dL_ofEntries_472 : decode cL_ofEntries 472 = .ok (.iload 9, 2) := by decide +kernel
theorem dL_ofEntries_474 : decode cL_ofEntries 474 = .ok (.iconst 1, 1) := by decide +kernel
theorem dL_ofEntries_475 : decode cL_ofEntries 475 = .ok (.isub, 1) := by decide +kernel
theorem dL_ofEntries_476 : decode cL_ofEntries 476 = .ok (.if_icmp .ne 7, 3) := by decide +kernel
theorem dL_ofEntries_479 : decode cL_ofEntries 479 = .ok (.iconst 1, 1) := by decide +kernel
theorem dL_ofEntries_480 : decode cL_ofEntries 480 = .ok (.goto 4, 3) := by decide +kernel
theorem dL_ofEntries_483 : decode cL_ofEntries 483 = .ok (.iconst 0, 1) := by decide +kernel
theorem dL_ofEntries_484 : decode cL_ofEntries 484 = .ok (.ireturn, 1) := by decide +kernel
theorem dL_ofEntries_485 : decode cL_ofEntries 485 = .ok (.iload 15, 2) := by decide +kernel
theorem dL_ofEntries_487 : decode cL_ofEntries 487 = .ok (.iload 9, 2) := by decide +kernel
theorem dL_ofEntries_489 : decode cL_ofEntries 489 = .ok (.if_icmp .ge 10, 3) := by decide +kernel
theorem dL_ofEntries_492 : decode cL_ofEntries 492 = .ok (.iload 16, 2) := by decide +kernel
theorem dL_ofEntries_494 : decode cL_ofEntries 494 = .ok (.iload 9, 2) := by decide +kernel
theorem dL_ofEntries_496 : decode cL_ofEntries 496 = .ok (.if_icmp .lt 24, 3) := by decide +kernel
theorem dL_ofEntries_499 : decode cL_ofEntries 499 = .ok (.aload_n 0, 1) := by decide +kernel
theorem dL_ofEntries_500 : decode cL_ofEntries 500 = .ok (.iload 7, 2) := by decide +kernel
theorem dL_ofEntries_502 : decode cL_ofEntries 502 = .ok (.iload 15, 2) := by decide +kernel
theorem dL_ofEntries_504 : decode cL_ofEntries 504 = .ok (.iload 16, 2) := by decide +kernel
theorem dL_ofEntries_506 : decode cL_ofEntries 506 = .ok (.invokestatic 386, 3) := by decide +kernel
theorem dL_ofEntries_509 : decode cL_ofEntries 509 = .ok (.bipush (-101), 2) := by decide +kernel
theorem dL_ofEntries_511 : decode cL_ofEntries 511 = .ok (.if_icmp .ne 7, 3) := by decide +kernel
theorem dL_ofEntries_514 : decode cL_ofEntries 514 = .ok (.iconst 1, 1) := by decide +kernel
theorem dL_ofEntries_515 : decode cL_ofEntries 515 = .ok (.goto 4, 3) := by decide +kernel
theorem dL_ofEntries_518 : decode cL_ofEntries 518 = .ok (.iconst 0, 1) := by decide +kernel
theorem dL_ofEntries_519 : decode cL_ofEntries 519 = .ok (.ireturn, 1) := by decide +kernel
theorem dL_ofEntries_520 : decode cL_ofEntries 520 = .ok (.bipush 12, 2) := by decide +kernel
theorem dL_ofEntries_522 : decode cL_ofEntries 522 = .ok (.newarray .long, 2) := by decide +kernel
theorem dL_ofEntries_524 : decode cL_ofEntries 524 = .ok (.astore 17, 2) := by decide +kernel
theorem dL_ofEntries_526 : decode cL_ofEntries 526 = .ok (.bipush 12, 2) := by decide +kernel
theorem dL_ofEntries_528 : decode cL_ofEntries 528 = .ok (.newarray .long, 2) := by decide +kernel
theorem dL_ofEntries_530 : decode cL_ofEntries 530 = .ok (.astore 18, 2) := by decide +kernel
theorem dL_ofEntries_532 : decode cL_ofEntries 532 = .ok (.aload_n 1, 1) := by decide +kernel
theorem dL_ofEntries_533 : decode cL_ofEntries 533 = .ok (.aload_n 2, 1) := by decide +kernel
theorem dL_ofEntries_534 : decode cL_ofEntries 534 = .ok (.aload_n 3, 1) := by decide +kernel
theorem dL_ofEntries_535 : decode cL_ofEntries 535 = .ok (.aload 4, 2) := by decide +kernel
theorem dL_ofEntries_537 : decode cL_ofEntries 537 = .ok (.aload 17, 2) := by decide +kernel
theorem dL_ofEntries_539 : decode cL_ofEntries 539 = .ok (.invokestatic 293, 3) := by decide +kernel
theorem dL_ofEntries_542 : decode cL_ofEntries 542 = .ok (.aload_n 3, 1) := by decide +kernel
theorem dL_ofEntries_543 : decode cL_ofEntries 543 = .ok (.bipush 6, 2) := by decide +kernel
theorem dL_ofEntries_545 : decode cL_ofEntries 545 = .ok (.iload 7, 2) := by decide +kernel
theorem dL_ofEntries_547 : decode cL_ofEntries 547 = .ok (.imul, 1) := by decide +kernel
theorem dL_ofEntries_548 : decode cL_ofEntries 548 = .ok (.iload 15, 2) := by decide +kernel
theorem dL_ofEntries_550 : decode cL_ofEntries 550 = .ok (.iadd, 1) := by decide +kernel
theorem dL_ofEntries_551 : decode cL_ofEntries 551 = .ok (.iaload, 1) := by decide +kernel
theorem dL_ofEntries_552 : decode cL_ofEntries 552 = .ok (.istore 19, 2) := by decide +kernel
theorem dL_ofEntries_554 : decode cL_ofEntries 554 = .ok (.iload 15, 2) := by decide +kernel
theorem dL_ofEntries_556 : decode cL_ofEntries 556 = .ok (.istore 20, 2) := by decide +kernel
theorem dL_ofEntries_558 : decode cL_ofEntries 558 = .ok (.iload 20, 2) := by decide +kernel
theorem dL_ofEntries_560 : decode cL_ofEntries 560 = .ok (.iload 16, 2) := by decide +kernel
theorem dL_ofEntries_562 : decode cL_ofEntries 562 = .ok (.if_icmp .ge 31, 3) := by decide +kernel
theorem dL_ofEntries_565 : decode cL_ofEntries 565 = .ok (.aload_n 3, 1) := by decide +kernel
theorem dL_ofEntries_566 : decode cL_ofEntries 566 = .ok (.bipush 6, 2) := by decide +kernel
theorem dL_ofEntries_568 : decode cL_ofEntries 568 = .ok (.iload 7, 2) := by decide +kernel
theorem dL_ofEntries_570 : decode cL_ofEntries 570 = .ok (.imul, 1) := by decide +kernel
theorem dL_ofEntries_571 : decode cL_ofEntries 571 = .ok (.iload 20, 2) := by decide +kernel
theorem dL_ofEntries_573 : decode cL_ofEntries 573 = .ok (.iadd, 1) := by decide +kernel
theorem dL_ofEntries_574 : decode cL_ofEntries 574 = .ok (.aload_n 3, 1) := by decide +kernel
theorem dL_ofEntries_575 : decode cL_ofEntries 575 = .ok (.bipush 6, 2) := by decide +kernel
theorem dL_ofEntries_577 : decode cL_ofEntries 577 = .ok (.iload 7, 2) := by decide +kernel
theorem dL_ofEntries_579 : decode cL_ofEntries 579 = .ok (.imul, 1) := by decide +kernel
theorem dL_ofEntries_580 : decode cL_ofEntries 580 = .ok (.iload 20, 2) := by decide +kernel
theorem dL_ofEntries_582 : decode cL_ofEntries 582 = .ok (.iadd, 1) := by decide +kernel
theorem dL_ofEntries_583 : decode cL_ofEntries 583 = .ok (.iconst 1, 1) := by decide +kernel
theorem dL_ofEntries_584 : decode cL_ofEntries 584 = .ok (.iadd, 1) := by decide +kernel
theorem dL_ofEntries_585 : decode cL_ofEntries 585 = .ok (.iaload, 1) := by decide +kernel
theorem dL_ofEntries_586 : decode cL_ofEntries 586 = .ok (.iastore, 1) := by decide +kernel
theorem dL_ofEntries_587 : decode cL_ofEntries 587 = .ok (.iinc 20 1, 3) := by decide +kernel
theorem dL_ofEntries_590 : decode cL_ofEntries 590 = .ok (.goto (-32), 3) := by decide +kernel
theorem dL_ofEntries_593 : decode cL_ofEntries 593 = .ok (.iload 15, 2) := by decide +kernel
theorem dL_ofEntries_595 : decode cL_ofEntries 595 = .ok (.istore 20, 2) := by decide +kernel
theorem dL_ofEntries_597 : decode cL_ofEntries 597 = .ok (.iload 20, 2) := by decide +kernel
theorem dL_ofEntries_599 : decode cL_ofEntries 599 = .ok (.iload 16, 2) := by decide +kernel
theorem dL_ofEntries_601 : decode cL_ofEntries 601 = .ok (.if_icmp .le 31, 3) := by decide +kernel
theorem dL_ofEntries_604 : decode cL_ofEntries 604 = .ok (.aload_n 3, 1) := by decide +kernel
theorem dL_ofEntries_605 : decode cL_ofEntries 605 = .ok (.bipush 6, 2) := by decide +kernel
theorem dL_ofEntries_607 : decode cL_ofEntries 607 = .ok (.iload 7, 2) := by decide +kernel
theorem dL_ofEntries_609 : decode cL_ofEntries 609 = .ok (.imul, 1) := by decide +kernel
theorem dL_ofEntries_610 : decode cL_ofEntries 610 = .ok (.iload 20, 2) := by decide +kernel
theorem dL_ofEntries_612 : decode cL_ofEntries 612 = .ok (.iadd, 1) := by decide +kernel
theorem dL_ofEntries_613 : decode cL_ofEntries 613 = .ok (.aload_n 3, 1) := by decide +kernel
theorem dL_ofEntries_614 : decode cL_ofEntries 614 = .ok (.bipush 6, 2) := by decide +kernel
theorem dL_ofEntries_616 : decode cL_ofEntries 616 = .ok (.iload 7, 2) := by decide +kernel
theorem dL_ofEntries_618 : decode cL_ofEntries 618 = .ok (.imul, 1) := by decide +kernel
theorem dL_ofEntries_619 : decode cL_ofEntries 619 = .ok (.iload 20, 2) := by decide +kernel
theorem dL_ofEntries_621 : decode cL_ofEntries 621 = .ok (.iadd, 1) := by decide +kernel
theorem dL_ofEntries_622 : decode cL_ofEntries 622 = .ok (.iconst 1, 1) := by decide +kernel
theorem dL_ofEntries_623 : decode cL_ofEntries 623 = .ok (.isub, 1) := by decide +kernel
theorem dL_ofEntries_624 : decode cL_ofEntries 624 = .ok (.iaload, 1) := by decide +kernel
theorem dL_ofEntries_625 : decode cL_ofEntries 625 = .ok (.iastore, 1) := by decide +kernel
theorem dL_ofEntries_626 : decode cL_ofEntries 626 = .ok (.iinc 20 (-1), 3) := by decide +kernel
theorem dL_ofEntries_629 : decode cL_ofEntries 629 = .ok (.goto (-32), 3) := by decide +kernel
theorem dL_ofEntries_632 : decode cL_ofEntries 632 = .ok (.aload_n 3, 1) := by decide +kernel
theorem dL_ofEntries_633 : decode cL_ofEntries 633 = .ok (.bipush 6, 2) := by decide +kernel
theorem dL_ofEntries_635 : decode cL_ofEntries 635 = .ok (.iload 7, 2) := by decide +kernel
theorem dL_ofEntries_637 : decode cL_ofEntries 637 = .ok (.imul, 1) := by decide +kernel
theorem dL_ofEntries_638 : decode cL_ofEntries 638 = .ok (.iload 16, 2) := by decide +kernel
theorem dL_ofEntries_640 : decode cL_ofEntries 640 = .ok (.iadd, 1) := by decide +kernel
theorem dL_ofEntries_641 : decode cL_ofEntries 641 = .ok (.iload 19, 2) := by decide +kernel
theorem dL_ofEntries_643 : decode cL_ofEntries 643 = .ok (.iastore, 1) := by decide +kernel
theorem dL_ofEntries_644 : decode cL_ofEntries 644 = .ok (.aload_n 1, 1) := by decide +kernel
theorem dL_ofEntries_645 : decode cL_ofEntries 645 = .ok (.aload_n 2, 1) := by decide +kernel
theorem dL_ofEntries_646 : decode cL_ofEntries 646 = .ok (.aload_n 3, 1) := by decide +kernel
theorem dL_ofEntries_647 : decode cL_ofEntries 647 = .ok (.aload 4, 2) := by decide +kernel
theorem dL_ofEntries_649 : decode cL_ofEntries 649 = .ok (.aload 18, 2) := by decide +kernel
theorem dL_ofEntries_651 : decode cL_ofEntries 651 = .ok (.invokestatic 293, 3) := by decide +kernel
theorem dL_ofEntries_654 : decode cL_ofEntries 654 = .ok (.aload_n 0, 1) := by decide +kernel
theorem dL_ofEntries_655 : decode cL_ofEntries 655 = .ok (.iload 7, 2) := by decide +kernel
theorem dL_ofEntries_657 : decode cL_ofEntries 657 = .ok (.iload 15, 2) := by decide +kernel
theorem dL_ofEntries_659 : decode cL_ofEntries 659 = .ok (.iload 16, 2) := by decide +kernel
theorem dL_ofEntries_661 : decode cL_ofEntries 661 = .ok (.invokestatic 386, 3) := by decide +kernel
theorem dL_ofEntries_664 : decode cL_ofEntries 664 = .ok (.aload 17, 2) := by decide +kernel
theorem dL_ofEntries_666 : decode cL_ofEntries 666 = .ok (.aload 18, 2) := by decide +kernel
theorem dL_ofEntries_668 : decode cL_ofEntries 668 = .ok (.invokestatic 312, 3) := by decide +kernel
theorem dL_ofEntries_671 : decode cL_ofEntries 671 = .ok (.if_icmp .ne 7, 3) := by decide +kernel
theorem dL_ofEntries_674 : decode cL_ofEntries 674 = .ok (.iconst 1, 1) := by decide +kernel
theorem dL_ofEntries_675 : decode cL_ofEntries 675 = .ok (.goto 4, 3) := by decide +kernel
theorem dL_ofEntries_678 : decode cL_ofEntries 678 = .ok (.iconst 0, 1) := by decide +kernel
theorem dL_ofEntries_679 : decode cL_ofEntries 679 = .ok (.ireturn, 1) := by decide +kernel
theorem dL_ofRequests_0 : decode cL_ofRequests 0 = .ok (.iload 7, 2) := by decide +kernel
theorem dL_ofRequests_2 : decode cL_ofRequests 2 = .ok (.bipush 12, 2) := by decide +kernel
theorem dL_ofRequests_4 : decode cL_ofRequests 4 = .ok (.irem, 1) := by decide +kernel
theorem dL_ofRequests_5 : decode cL_ofRequests 5 = .ok (.istore 8, 2) := by decide +kernel
theorem dL_ofRequests_7 : decode cL_ofRequests 7 = .ok (.iload 7, 2) := by decide +kernel
theorem dL_ofRequests_9 : decode cL_ofRequests 9 = .ok (.bipush 12, 2) := by decide +kernel
theorem dL_ofRequests_11 : decode cL_ofRequests 11 = .ok (.idiv, 1) := by decide +kernel
theorem dL_ofRequests_12 : decode cL_ofRequests 12 = .ok (.bipush 10, 2) := by decide +kernel
theorem dL_ofRequests_14 : decode cL_ofRequests 14 = .ok (.irem, 1) := by decide +kernel
theorem dL_ofRequests_15 : decode cL_ofRequests 15 = .ok (.istore 9, 2) := by decide +kernel
theorem dL_ofRequests_17 : decode cL_ofRequests 17 = .ok (.iload 7, 2) := by decide +kernel
theorem dL_ofRequests_19 : decode cL_ofRequests 19 = .ok (.bipush 120, 2) := by decide +kernel
theorem dL_ofRequests_21 : decode cL_ofRequests 21 = .ok (.idiv, 1) := by decide +kernel
theorem dL_ofRequests_22 : decode cL_ofRequests 22 = .ok (.iconst 4, 1) := by decide +kernel
theorem dL_ofRequests_23 : decode cL_ofRequests 23 = .ok (.irem, 1) := by decide +kernel
theorem dL_ofRequests_24 : decode cL_ofRequests 24 = .ok (.istore 10, 2) := by decide +kernel
theorem dL_ofRequests_26 : decode cL_ofRequests 26 = .ok (.iload 8, 2) := by decide +kernel
theorem dL_ofRequests_28 : decode cL_ofRequests 28 = .ok (.aload 5, 2) := by decide +kernel
theorem dL_ofRequests_30 : decode cL_ofRequests 30 = .ok (.iconst 0, 1) := by decide +kernel
theorem dL_ofRequests_31 : decode cL_ofRequests 31 = .ok (.iaload, 1) := by decide +kernel
theorem dL_ofRequests_32 : decode cL_ofRequests 32 = .ok (.if_icmp .ge 16, 3) := by decide +kernel
theorem dL_ofRequests_35 : decode cL_ofRequests 35 = .ok (.aload_n 2, 1) := by decide +kernel
theorem dL_ofRequests_36 : decode cL_ofRequests 36 = .ok (.iload 9, 2) := by decide +kernel
theorem dL_ofRequests_38 : decode cL_ofRequests 38 = .ok (.iaload, 1) := by decide +kernel
theorem dL_ofRequests_39 : decode cL_ofRequests 39 = .ok (.bipush (-2), 2) := by decide +kernel
theorem dL_ofRequests_41 : decode cL_ofRequests 41 = .ok (.if_icmp .eq 7, 3) := by decide +kernel
theorem dL_ofRequests_44 : decode cL_ofRequests 44 = .ok (.iconst 1, 1) := by decide +kernel
theorem dL_ofRequests_45 : decode cL_ofRequests 45 = .ok (.goto 4, 3) := by decide +kernel
theorem dL_ofRequests_48 : decode cL_ofRequests 48 = .ok (.iconst 0, 1) := by decide +kernel
theorem dL_ofRequests_49 : decode cL_ofRequests 49 = .ok (.istore 11, 2) := by decide +kernel
theorem dL_ofRequests_51 : decode cL_ofRequests 51 = .ok (.iload 6, 2) := by decide +kernel
theorem dL_ofRequests_53 : decode cL_ofRequests 53 = .ok (.iconst 2, 1) := by decide +kernel
theorem dL_ofRequests_54 : decode cL_ofRequests 54 = .ok (.if_icmp .ge 149, 3) := by decide +kernel
theorem dL_ofRequests_57 : decode cL_ofRequests 57 = .ok (.iload 11, 2) := by decide +kernel
theorem dL_ofRequests_59 : decode cL_ofRequests 59 = .ok (.ifCond .ne 24, 3) := by decide +kernel
theorem dL_ofRequests_62 : decode cL_ofRequests 62 = .ok (.aload_n 0, 1) := by decide +kernel
theorem dL_ofRequests_63 : decode cL_ofRequests 63 = .ok (.iload 8, 2) := by decide +kernel
theorem dL_ofRequests_65 : decode cL_ofRequests 65 = .ok (.iload 9, 2) := by decide +kernel
theorem dL_ofRequests_67 : decode cL_ofRequests 67 = .ok (.iload 10, 2) := by decide +kernel
theorem dL_ofRequests_69 : decode cL_ofRequests 69 = .ok (.invokestatic 389, 3) := by decide +kernel
theorem dL_ofRequests_72 : decode cL_ofRequests 72 = .ok (.bipush (-101), 2) := by decide +kernel
theorem dL_ofRequests_74 : decode cL_ofRequests 74 = .ok (.if_icmp .ne 7, 3) := by decide +kernel
theorem dL_ofRequests_77 : decode cL_ofRequests 77 = .ok (.iconst 1, 1) := by decide +kernel
theorem dL_ofRequests_78 : decode cL_ofRequests 78 = .ok (.goto 4, 3) := by decide +kernel
theorem dL_ofRequests_81 : decode cL_ofRequests 81 = .ok (.iconst 0, 1) := by decide +kernel
theorem dL_ofRequests_82 : decode cL_ofRequests 82 = .ok (.ireturn, 1) := by decide +kernel
theorem dL_ofRequests_83 : decode cL_ofRequests 83 = .ok (.aload_n 1, 1) := by decide +kernel
theorem dL_ofRequests_84 : decode cL_ofRequests 84 = .ok (.aload_n 2, 1) := by decide +kernel
theorem dL_ofRequests_85 : decode cL_ofRequests 85 = .ok (.aload_n 3, 1) := by decide +kernel
theorem dL_ofRequests_86 : decode cL_ofRequests 86 = .ok (.iload 8, 2) := by decide +kernel
theorem dL_ofRequests_88 : decode cL_ofRequests 88 = .ok (.iload 9, 2) := by decide +kernel
theorem dL_ofRequests_90 : decode cL_ofRequests 90 = .ok (.iload 10, 2) := by decide +kernel
theorem dL_ofRequests_92 : decode cL_ofRequests 92 = .ok (.invokestatic 192, 3) := by decide +kernel
theorem dL_ofRequests_95 : decode cL_ofRequests 95 = .ok (.istore 12, 2) := by decide +kernel
theorem dL_ofRequests_97 : decode cL_ofRequests 97 = .ok (.bipush 7, 2) := by decide +kernel
theorem dL_ofRequests_99 : decode cL_ofRequests 99 = .ok (.istore 13, 2) := by decide +kernel
theorem dL_ofRequests_101 : decode cL_ofRequests 101 = .ok (.iload 13, 2) := by decide +kernel
theorem dL_ofRequests_103 : decode cL_ofRequests 103 = .ok (.ifCond .le 21, 3) := by decide +kernel
theorem dL_ofRequests_106 : decode cL_ofRequests 106 = .ok (.aload 4, 2) := by decide +kernel
theorem dL_ofRequests_108 : decode cL_ofRequests 108 = .ok (.iload 13, 2) := by decide +kernel
theorem dL_ofRequests_110 : decode cL_ofRequests 110 = .ok (.aload 4, 2) := by decide +kernel
theorem dL_ofRequests_112 : decode cL_ofRequests 112 = .ok (.iload 13, 2) := by decide +kernel
theorem dL_ofRequests_114 : decode cL_ofRequests 114 = .ok (.iconst 1, 1) := by decide +kernel
theorem dL_ofRequests_115 : decode cL_ofRequests 115 = .ok (.isub, 1) := by decide +kernel
theorem dL_ofRequests_116 : decode cL_ofRequests 116 = .ok (.iaload, 1) := by decide +kernel
theorem dL_ofRequests_117 : decode cL_ofRequests 117 = .ok (.iastore, 1) := by decide +kernel
theorem dL_ofRequests_118 : decode cL_ofRequests 118 = .ok (.iinc 13 (-1), 3) := by decide +kernel
theorem dL_ofRequests_121 : decode cL_ofRequests 121 = .ok (.goto (-20), 3) := by decide +kernel
theorem dL_ofRequests_124 : decode cL_ofRequests 124 = .ok (.aload 4, 2) := by decide +kernel
theorem dL_ofRequests_126 : decode cL_ofRequests 126 = .ok (.iconst 0, 1) := by decide +kernel
theorem dL_ofRequests_127 : decode cL_ofRequests 127 = .ok (.bipush 100, 2) := by decide +kernel
theorem dL_ofRequests_129 : decode cL_ofRequests 129 = .ok (.iload 8, 2) := by decide +kernel
theorem dL_ofRequests_131 : decode cL_ofRequests 131 = .ok (.imul, 1) := by decide +kernel
theorem dL_ofRequests_132 : decode cL_ofRequests 132 = .ok (.iconst 2, 1) := by decide +kernel
theorem dL_ofRequests_133 : decode cL_ofRequests 133 = .ok (.iload 9, 2) := by decide +kernel
theorem dL_ofRequests_135 : decode cL_ofRequests 135 = .ok (.imul, 1) := by decide +kernel
theorem dL_ofRequests_136 : decode cL_ofRequests 136 = .ok (.iadd, 1) := by decide +kernel
theorem dL_ofRequests_137 : decode cL_ofRequests 137 = .ok (.iload 12, 2) := by decide +kernel
theorem dL_ofRequests_139 : decode cL_ofRequests 139 = .ok (.ifCond .eq 7, 3) := by decide +kernel
theorem dL_ofRequests_142 : decode cL_ofRequests 142 = .ok (.iconst 1, 1) := by decide +kernel
theorem dL_ofRequests_143 : decode cL_ofRequests 143 = .ok (.goto 4, 3) := by decide +kernel
theorem dL_ofRequests_146 : decode cL_ofRequests 146 = .ok (.iconst 0, 1) := by decide +kernel
theorem dL_ofRequests_147 : decode cL_ofRequests 147 = .ok (.iadd, 1) := by decide +kernel
theorem dL_ofRequests_148 : decode cL_ofRequests 148 = .ok (.iastore, 1) := by decide +kernel
theorem dL_ofRequests_149 : decode cL_ofRequests 149 = .ok (.aload 5, 2) := by decide +kernel
theorem dL_ofRequests_151 : decode cL_ofRequests 151 = .ok (.iconst 3, 1) := by decide +kernel
theorem dL_ofRequests_152 : decode cL_ofRequests 152 = .ok (.dup2, 1) := by decide +kernel
theorem dL_ofRequests_153 : decode cL_ofRequests 153 = .ok (.iaload, 1) := by decide +kernel
theorem dL_ofRequests_154 : decode cL_ofRequests 154 = .ok (.iconst 1, 1) := by decide +kernel
theorem dL_ofRequests_155 : decode cL_ofRequests 155 = .ok (.iadd, 1) := by decide +kernel
theorem dL_ofRequests_156 : decode cL_ofRequests 156 = .ok (.iastore, 1) := by decide +kernel
theorem dL_ofRequests_157 : decode cL_ofRequests 157 = .ok (.aload 5, 2) := by decide +kernel
theorem dL_ofRequests_159 : decode cL_ofRequests 159 = .ok (.iconst 4, 1) := by decide +kernel
theorem dL_ofRequests_160 : decode cL_ofRequests 160 = .ok (.dup2, 1) := by decide +kernel
theorem dL_ofRequests_161 : decode cL_ofRequests 161 = .ok (.iaload, 1) := by decide +kernel
theorem dL_ofRequests_162 : decode cL_ofRequests 162 = .ok (.iload 12, 2) := by decide +kernel
theorem dL_ofRequests_164 : decode cL_ofRequests 164 = .ok (.ifCond .eq 7, 3) := by decide +kernel
theorem dL_ofRequests_167 : decode cL_ofRequests 167 = .ok (.iconst 0, 1) := by decide +kernel
theorem dL_ofRequests_168 : decode cL_ofRequests 168 = .ok (.goto 4, 3) := by decide +kernel
theorem dL_ofRequests_171 : decode cL_ofRequests 171 = .ok (.iconst 1, 1) := by decide +kernel
theorem dL_ofRequests_172 : decode cL_ofRequests 172 = .ok (.iadd, 1) := by decide +kernel
theorem dL_ofRequests_173 : decode cL_ofRequests 173 = .ok (.iastore, 1) := by decide +kernel
theorem dL_ofRequests_174 : decode cL_ofRequests 174 = .ok (.aload_n 0, 1) := by decide +kernel
theorem dL_ofRequests_175 : decode cL_ofRequests 175 = .ok (.iload 8, 2) := by decide +kernel
theorem dL_ofRequests_177 : decode cL_ofRequests 177 = .ok (.iload 9, 2) := by decide +kernel
theorem dL_ofRequests_179 : decode cL_ofRequests 179 = .ok (.iload 10, 2) := by decide +kernel
theorem dL_ofRequests_181 : decode cL_ofRequests 181 = .ok (.invokestatic 389, 3) := by decide +kernel
theorem dL_ofRequests_184 : decode cL_ofRequests 184 = .ok (.iload 12, 2) := by decide +kernel
theorem dL_ofRequests_186 : decode cL_ofRequests 186 = .ok (.ifCond .eq 7, 3) := by decide +kernel
theorem dL_ofRequests_189 : decode cL_ofRequests 189 = .ok (.iconst 1, 1) := by decide +kernel
theorem dL_ofRequests_190 : decode cL_ofRequests 190 = .ok (.goto 4, 3) := by decide +kernel
theorem dL_ofRequests_193 : decode cL_ofRequests 193 = .ok (.iconst 0, 1) := by decide +kernel
theorem dL_ofRequests_194 : decode cL_ofRequests 194 = .ok (.if_icmp .ne 7, 3) := by decide +kernel
theorem dL_ofRequests_197 : decode cL_ofRequests 197 = .ok (.iconst 1, 1) := by decide +kernel
theorem dL_ofRequests_198 : decode cL_ofRequests 198 = .ok (.goto 4, 3) := by decide +kernel
theorem dL_ofRequests_201 : decode cL_ofRequests 201 = .ok (.iconst 0, 1) := by decide +kernel
theorem dL_ofRequests_202 : decode cL_ofRequests 202 = .ok (.ireturn, 1) := by decide +kernel
theorem dL_ofRequests_203 : decode cL_ofRequests 203 = .ok (.iload 7, 2) := by decide +kernel
theorem dL_ofRequests_205 : decode cL_ofRequests 205 = .ok (.sipush 480, 3) := by decide +kernel
theorem dL_ofRequests_208 : decode cL_ofRequests 208 = .ok (.idiv, 1) := by decide +kernel
theorem dL_ofRequests_209 : decode cL_ofRequests 209 = .ok (.aload 5, 2) := by decide +kernel
theorem dL_ofRequests_211 : decode cL_ofRequests 211 = .ok (.iconst 0, 1) := by decide +kernel
theorem dL_ofRequests_212 : decode cL_ofRequests 212 = .ok (.iaload, 1) := by decide +kernel
theorem dL_ofRequests_213 : decode cL_ofRequests 213 = .ok (.irem, 1) := by decide +kernel
theorem dL_ofRequests_214 : decode cL_ofRequests 214 = .ok (.istore 12, 2) := by decide +kernel
theorem dL_ofRequests_216 : decode cL_ofRequests 216 = .ok (.iconst 1, 1) := by decide +kernel
theorem dL_ofRequests_217 : decode cL_ofRequests 217 = .ok (.iload 7, 2) := by decide +kernel
theorem dL_ofRequests_219 : decode cL_ofRequests 219 = .ok (.sipush 5760, 3) := by decide +kernel
theorem dL_ofRequests_222 : decode cL_ofRequests 222 = .ok (.idiv, 1) := by decide +kernel
theorem dL_ofRequests_223 : decode cL_ofRequests 223 = .ok (.bipush 15, 2) := by decide +kernel
theorem dL_ofRequests_225 : decode cL_ofRequests 225 = .ok (.irem, 1) := by decide +kernel
theorem dL_ofRequests_226 : decode cL_ofRequests 226 = .ok (.iadd, 1) := by decide +kernel
theorem dL_ofRequests_227 : decode cL_ofRequests 227 = .ok (.istore 13, 2) := by decide +kernel
theorem dL_ofRequests_229 : decode cL_ofRequests 229 = .ok (.iload 13, 2) := by decide +kernel
theorem dL_ofRequests_231 : decode cL_ofRequests 231 = .ok (.bipush 8, 2) := by decide +kernel
theorem dL_ofRequests_233 : decode cL_ofRequests 233 = .ok (.ior, 1) := by decide +kernel
theorem dL_ofRequests_234 : decode cL_ofRequests 234 = .ok (.istore 14, 2) := by decide +kernel
theorem dL_ofRequests_236 : decode cL_ofRequests 236 = .ok (.iload 11, 2) := by decide +kernel
theorem dL_ofRequests_238 : decode cL_ofRequests 238 = .ok (.ifCond .ne 26, 3) := by decide +kernel
theorem dL_ofRequests_241 : decode cL_ofRequests 241 = .ok (.aload_n 0, 1) := by decide +kernel
theorem dL_ofRequests_242 : decode cL_ofRequests 242 = .ok (.iload 8, 2) := by decide +kernel
theorem dL_ofRequests_244 : decode cL_ofRequests 244 = .ok (.iload 9, 2) := by decide +kernel
theorem dL_ofRequests_246 : decode cL_ofRequests 246 = .ok (.iload 12, 2) := by decide +kernel
theorem dL_ofRequests_248 : decode cL_ofRequests 248 = .ok (.iload 13, 2) := by decide +kernel
theorem dL_ofRequests_250 : decode cL_ofRequests 250 = .ok (.invokestatic 392, 3) := by decide +kernel
theorem dL_ofRequests_253 : decode cL_ofRequests 253 = .ok (.bipush (-101), 2) := by decide +kernel
theorem dL_ofRequests_255 : decode cL_ofRequests 255 = .ok (.if_icmp .ne 7, 3) := by decide +kernel
theorem dL_ofRequests_258 : decode cL_ofRequests 258 = .ok (.iconst 1, 1) := by decide +kernel
theorem dL_ofRequests_259 : decode cL_ofRequests 259 = .ok (.goto 4, 3) := by decide +kernel
theorem dL_ofRequests_262 : decode cL_ofRequests 262 = .ok (.iconst 0, 1) := by decide +kernel
theorem dL_ofRequests_263 : decode cL_ofRequests 263 = .ok (.ireturn, 1) := by decide +kernel
theorem dL_ofRequests_264 : decode cL_ofRequests 264 = .ok (.aload_n 1, 1) := by decide +kernel
theorem dL_ofRequests_265 : decode cL_ofRequests 265 = .ok (.aload_n 2, 1) := by decide +kernel
theorem dL_ofRequests_266 : decode cL_ofRequests 266 = .ok (.aload_n 3, 1) := by decide +kernel
theorem dL_ofRequests_267 : decode cL_ofRequests 267 = .ok (.iload 8, 2) := by decide +kernel
theorem dL_ofRequests_269 : decode cL_ofRequests 269 = .ok (.iload 9, 2) := by decide +kernel
theorem dL_ofRequests_271 : decode cL_ofRequests 271 = .ok (.invokestatic 198, 3) := by decide +kernel
theorem dL_ofRequests_274 : decode cL_ofRequests 274 = .ok (.iload 14, 2) := by decide +kernel
theorem dL_ofRequests_276 : decode cL_ofRequests 276 = .ok (.iand, 1) := by decide +kernel
theorem dL_ofRequests_277 : decode cL_ofRequests 277 = .ok (.iload 14, 2) := by decide +kernel
theorem dL_ofRequests_279 : decode cL_ofRequests 279 = .ok (.if_icmp .ne 15, 3) := by decide +kernel
theorem dL_ofRequests_282 : decode cL_ofRequests 282 = .ok (.aload_n 2, 1) := by decide +kernel
theorem dL_ofRequests_283 : decode cL_ofRequests 283 = .ok (.bipush 40, 2) := by decide +kernel
theorem dL_ofRequests_285 : decode cL_ofRequests 285 = .ok (.iload 9, 2) := by decide +kernel
theorem dL_ofRequests_287 : decode cL_ofRequests 287 = .ok (.iadd, 1) := by decide +kernel
theorem dL_ofRequests_288 : decode cL_ofRequests 288 = .ok (.iaload, 1) := by decide +kernel
theorem dL_ofRequests_289 : decode cL_ofRequests 289 = .ok (.bipush 6, 2) := by decide +kernel
theorem dL_ofRequests_291 : decode cL_ofRequests 291 = .ok (.if_icmp .ne 26, 3) := by decide +kernel
theorem dL_ofRequests_294 : decode cL_ofRequests 294 = .ok (.aload_n 0, 1) := by decide +kernel
theorem dL_ofRequests_295 : decode cL_ofRequests 295 = .ok (.iload 8, 2) := by decide +kernel
theorem dL_ofRequests_297 : decode cL_ofRequests 297 = .ok (.iload 9, 2) := by decide +kernel
theorem dL_ofRequests_299 : decode cL_ofRequests 299 = .ok (.iload 12, 2) := by decide +kernel
theorem dL_ofRequests_301 : decode cL_ofRequests 301 = .ok (.iload 13, 2) := by decide +kernel
theorem dL_ofRequests_303 : decode cL_ofRequests 303 = .ok (.invokestatic 392, 3) := by decide +kernel
theorem dL_ofRequests_306 : decode cL_ofRequests 306 = .ok (.bipush (-103), 2) := by decide +kernel
theorem dL_ofRequests_308 : decode cL_ofRequests 308 = .ok (.if_icmp .ne 7, 3) := by decide +kernel
theorem dL_ofRequests_311 : decode cL_ofRequests 311 = .ok (.iconst 1, 1) := by decide +kernel
theorem dL_ofRequests_312 : decode cL_ofRequests 312 = .ok (.goto 4, 3) := by decide +kernel
theorem dL_ofRequests_315 : decode cL_ofRequests 315 = .ok (.iconst 0, 1) := by decide +kernel
theorem dL_ofRequests_316 : decode cL_ofRequests 316 = .ok (.ireturn, 1) := by decide +kernel
theorem dL_ofRequests_317 : decode cL_ofRequests 317 = .ok (.aload_n 2, 1) := by decide +kernel
theorem dL_ofRequests_318 : decode cL_ofRequests 318 = .ok (.bipush 40, 2) := by decide +kernel
theorem dL_ofRequests_320 : decode cL_ofRequests 320 = .ok (.iload 9, 2) := by decide +kernel
theorem dL_ofRequests_322 : decode cL_ofRequests 322 = .ok (.iadd, 1) := by decide +kernel
theorem dL_ofRequests_323 : decode cL_ofRequests 323 = .ok (.iaload, 1) := by decide +kernel
theorem dL_ofRequests_324 : decode cL_ofRequests 324 = .ok (.istore 15, 2) := by decide +kernel
theorem dL_ofRequests_326 : decode cL_ofRequests 326 = .ok (.iload 15, 2) := by decide +kernel
theorem dL_ofRequests_328 : decode cL_ofRequests 328 = .ok (.ifCond .le 31, 3) := by decide +kernel
theorem dL_ofRequests_331 : decode cL_ofRequests 331 = .ok (.aload_n 3, 1) := by decide +kernel
theorem dL_ofRequests_332 : decode cL_ofRequests 332 = .ok (.bipush 6, 2) := by decide +kernel
theorem dL_ofRequests_334 : decode cL_ofRequests 334 = .ok (.iload 9, 2) := by decide +kernel
theorem dL_ofRequests_336 : decode cL_ofRequests 336 = .ok (.imul, 1) := by decide +kernel
theorem dL_ofRequests_337 : decode cL_ofRequests 337 = .ok (.iload 15, 2) := by decide +kernel
theorem dL_ofRequests_339 : decode cL_ofRequests 339 = .ok (.iadd, 1) := by decide +kernel
theorem dL_ofRequests_340 : decode cL_ofRequests 340 = .ok (.aload_n 3, 1) := by decide +kernel
theorem dL_ofRequests_341 : decode cL_ofRequests 341 = .ok (.bipush 6, 2) := by decide +kernel
theorem dL_ofRequests_343 : decode cL_ofRequests 343 = .ok (.iload 9, 2) := by decide +kernel
theorem dL_ofRequests_345 : decode cL_ofRequests 345 = .ok (.imul, 1) := by decide +kernel
theorem dL_ofRequests_346 : decode cL_ofRequests 346 = .ok (.iload 15, 2) := by decide +kernel
theorem dL_ofRequests_348 : decode cL_ofRequests 348 = .ok (.iadd, 1) := by decide +kernel
theorem dL_ofRequests_349 : decode cL_ofRequests 349 = .ok (.iconst 1, 1) := by decide +kernel
theorem dL_ofRequests_350 : decode cL_ofRequests 350 = .ok (.isub, 1) := by decide +kernel
theorem dL_ofRequests_351 : decode cL_ofRequests 351 = .ok (.iaload, 1) := by decide +kernel
theorem dL_ofRequests_352 : decode cL_ofRequests 352 = .ok (.iastore, 1) := by decide +kernel
theorem dL_ofRequests_353 : decode cL_ofRequests 353 = .ok (.iinc 15 (-1), 3) := by decide +kernel
theorem dL_ofRequests_356 : decode cL_ofRequests 356 = .ok (.goto (-30), 3) := by decide +kernel
theorem dL_ofRequests_359 : decode cL_ofRequests 359 = .ok (.aload_n 3, 1) := by decide +kernel
theorem dL_ofRequests_360 : decode cL_ofRequests 360 = .ok (.bipush 6, 2) := by decide +kernel
theorem dL_ofRequests_362 : decode cL_ofRequests 362 = .ok (.iload 9, 2) := by decide +kernel
theorem dL_ofRequests_364 : decode cL_ofRequests 364 = .ok (.imul, 1) := by decide +kernel
theorem dL_ofRequests_365 : decode cL_ofRequests 365 = .ok (.bipush 16, 2) := by decide +kernel
theorem dL_ofRequests_367 : decode cL_ofRequests 367 = .ok (.iload 12, 2) := by decide +kernel
theorem dL_ofRequests_369 : decode cL_ofRequests 369 = .ok (.imul, 1) := by decide +kernel
theorem dL_ofRequests_370 : decode cL_ofRequests 370 = .ok (.iload 13, 2) := by decide +kernel
theorem dL_ofRequests_372 : decode cL_ofRequests 372 = .ok (.iadd, 1) := by decide +kernel
theorem dL_ofRequests_373 : decode cL_ofRequests 373 = .ok (.iconst 4, 1) := by decide +kernel
theorem dL_ofRequests_374 : decode cL_ofRequests 374 = .ok (.imul, 1) := by decide +kernel
theorem dL_ofRequests_375 : decode cL_ofRequests 375 = .ok (.iconst 2, 1) := by decide +kernel
theorem dL_ofRequests_376 : decode cL_ofRequests 376 = .ok (.iadd, 1) := by decide +kernel
theorem dL_ofRequests_377 : decode cL_ofRequests 377 = .ok (.iastore, 1) := by decide +kernel
theorem dL_ofRequests_378 : decode cL_ofRequests 378 = .ok (.aload_n 2, 1) := by decide +kernel
theorem dL_ofRequests_379 : decode cL_ofRequests 379 = .ok (.bipush 40, 2) := by decide +kernel
theorem dL_ofRequests_381 : decode cL_ofRequests 381 = .ok (.iload 9, 2) := by decide +kernel
theorem dL_ofRequests_383 : decode cL_ofRequests 383 = .ok (.iadd, 1) := by decide +kernel
theorem dL_ofRequests_384 : decode cL_ofRequests 384 = .ok (.dup2, 1) := by decide +kernel
theorem dL_ofRequests_385 : decode cL_ofRequests 385 = .ok (.iaload, 1) := by decide +kernel
theorem dL_ofRequests_386 : decode cL_ofRequests 386 = .ok (.iconst 1, 1) := by decide +kernel
theorem dL_ofRequests_387 : decode cL_ofRequests 387 = .ok (.iadd, 1) := by decide +kernel
theorem dL_ofRequests_388 : decode cL_ofRequests 388 = .ok (.iastore, 1) := by decide +kernel
theorem dL_ofRequests_389 : decode cL_ofRequests 389 = .ok (.aload_n 0, 1) := by decide +kernel
theorem dL_ofRequests_390 : decode cL_ofRequests 390 = .ok (.iload 8, 2) := by decide +kernel
theorem dL_ofRequests_392 : decode cL_ofRequests 392 = .ok (.iload 9, 2) := by decide +kernel
theorem dL_ofRequests_394 : decode cL_ofRequests 394 = .ok (.iload 12, 2) := by decide +kernel
theorem dL_ofRequests_396 : decode cL_ofRequests 396 = .ok (.iload 13, 2) := by decide +kernel
theorem dL_ofRequests_398 : decode cL_ofRequests 398 = .ok (.invokestatic 392, 3) := by decide +kernel
theorem dL_ofRequests_401 : decode cL_ofRequests 401 = .ok (.aload_n 1, 1) := by decide +kernel
theorem dL_ofRequests_402 : decode cL_ofRequests 402 = .ok (.aload_n 2, 1) := by decide +kernel
theorem dL_ofRequests_403 : decode cL_ofRequests 403 = .ok (.aload_n 3, 1) := by decide +kernel
theorem dL_ofRequests_404 : decode cL_ofRequests 404 = .ok (.iload 12, 2) := by decide +kernel
theorem dL_ofRequests_406 : decode cL_ofRequests 406 = .ok (.iload 9, 2) := by decide +kernel
theorem dL_ofRequests_408 : decode cL_ofRequests 408 = .ok (.invokestatic 198, 3) := by decide +kernel
theorem dL_ofRequests_411 : decode cL_ofRequests 411 = .ok (.if_icmp .ne 7, 3) := by decide +kernel
theorem dL_ofRequests_414 : decode cL_ofRequests 414 = .ok (.iconst 1, 1) := by decide +kernel
theorem dL_ofRequests_415 : decode cL_ofRequests 415 = .ok (.goto 4, 3) := by decide +kernel
theorem dL_ofRequests_418 : decode cL_ofRequests 418 = .ok (.iconst 0, 1) := by decide +kernel
theorem dL_ofRequests_419 : decode cL_ofRequests 419 = .ok (.ireturn, 1) := by decide +kernel
theorem dL_law_0 : decode cL_law 0 = .ok (.new 10, 3) := by decide +kernel
theorem dL_law_3 : decode cL_law 3 = .ok (.dup, 1) := by decide +kernel
theorem dL_law_4 : decode cL_law 4 = .ok (.invokespecial 396, 3) := by decide +kernel
theorem dL_law_7 : decode cL_law 7 = .ok (.astore_n 1, 1) := by decide +kernel
theorem dL_law_8 : decode cL_law 8 = .ok (.bipush 16, 2) := by decide +kernel
theorem dL_law_10 : decode cL_law 10 = .ok (.newarray .int, 2) := by decide +kernel
theorem dL_law_12 : decode cL_law 12 = .ok (.astore_n 2, 1) := by decide +kernel
theorem dL_law_13 : decode cL_law 13 = .ok (.bipush 50, 2) := by decide +kernel
theorem dL_law_15 : decode cL_law 15 = .ok (.newarray .int, 2) := by decide +kernel
theorem dL_law_17 : decode cL_law 17 = .ok (.astore_n 3, 1) := by decide +kernel
theorem dL_law_18 : decode cL_law 18 = .ok (.bipush 60, 2) := by decide +kernel
theorem dL_law_20 : decode cL_law 20 = .ok (.newarray .int, 2) := by decide +kernel
theorem dL_law_22 : decode cL_law 22 = .ok (.astore 4, 2) := by decide +kernel
theorem dL_law_24 : decode cL_law 24 = .ok (.bipush 8, 2) := by decide +kernel
theorem dL_law_26 : decode cL_law 26 = .ok (.newarray .int, 2) := by decide +kernel
theorem dL_law_28 : decode cL_law 28 = .ok (.astore 5, 2) := by decide +kernel
theorem dL_law_30 : decode cL_law 30 = .ok (.iconst 5, 1) := by decide +kernel
theorem dL_law_31 : decode cL_law 31 = .ok (.newarray .int, 2) := by decide +kernel
theorem dL_law_33 : decode cL_law 33 = .ok (.astore 6, 2) := by decide +kernel
theorem dL_law_35 : decode cL_law 35 = .ok (.aload 6, 2) := by decide +kernel
theorem dL_law_37 : decode cL_law 37 = .ok (.iconst 0, 1) := by decide +kernel
theorem dL_law_38 : decode cL_law 38 = .ok (.iconst 1, 1) := by decide +kernel
theorem dL_law_39 : decode cL_law 39 = .ok (.iastore, 1) := by decide +kernel
theorem dL_law_40 : decode cL_law 40 = .ok (.aload 6, 2) := by decide +kernel
theorem dL_law_42 : decode cL_law 42 = .ok (.iconst 2, 1) := by decide +kernel
theorem dL_law_43 : decode cL_law 43 = .ok (.iconst 1, 1) := by decide +kernel
theorem dL_law_44 : decode cL_law 44 = .ok (.iastore, 1) := by decide +kernel
theorem dL_law_45 : decode cL_law 45 = .ok (.iconst 0, 1) := by decide +kernel
theorem dL_law_46 : decode cL_law 46 = .ok (.istore 7, 2) := by decide +kernel
theorem dL_law_48 : decode cL_law 48 = .ok (.iload 7, 2) := by decide +kernel
theorem dL_law_50 : decode cL_law 50 = .ok (.bipush 10, 2) := by decide +kernel
theorem dL_law_52 : decode cL_law 52 = .ok (.if_icmp .ge 24, 3) := by decide +kernel
theorem dL_law_55 : decode cL_law 55 = .ok (.aload_n 3, 1) := by decide +kernel
theorem dL_law_56 : decode cL_law 56 = .ok (.iload 7, 2) := by decide +kernel
theorem dL_law_58 : decode cL_law 58 = .ok (.iload 7, 2) := by decide +kernel
theorem dL_law_60 : decode cL_law 60 = .ok (.ifCond .ne 7, 3) := by decide +kernel
theorem dL_law_63 : decode cL_law 63 = .ok (.iconst (-1), 1) := by decide +kernel
theorem dL_law_64 : decode cL_law 64 = .ok (.goto 5, 3) := by decide +kernel
theorem dL_law_67 : decode cL_law 67 = .ok (.bipush (-2), 2) := by decide +kernel
theorem dL_law_69 : decode cL_law 69 = .ok (.iastore, 1) := by decide +kernel
theorem dL_law_70 : decode cL_law 70 = .ok (.iinc 7 1, 3) := by decide +kernel
theorem dL_law_73 : decode cL_law 73 = .ok (.goto (-25), 3) := by decide +kernel
theorem dL_law_76 : decode cL_law 76 = .ok (.aload_n 3, 1) := by decide +kernel
theorem dL_law_77 : decode cL_law 77 = .ok (.bipush 20, 2) := by decide +kernel
theorem dL_law_79 : decode cL_law 79 = .ok (.bipush 15, 2) := by decide +kernel
theorem dL_law_81 : decode cL_law 81 = .ok (.iastore, 1) := by decide +kernel
theorem dL_law_82 : decode cL_law 82 = .ok (.aload_n 3, 1) := by decide +kernel
theorem dL_law_83 : decode cL_law 83 = .ok (.bipush 30, 2) := by decide +kernel
theorem dL_law_85 : decode cL_law 85 = .ok (.iconst 1, 1) := by decide +kernel
theorem dL_law_86 : decode cL_law 86 = .ok (.iastore, 1) := by decide +kernel
theorem dL_law_87 : decode cL_law 87 = .ok (.iconst 0, 1) := by decide +kernel
theorem dL_law_88 : decode cL_law 88 = .ok (.istore 7, 2) := by decide +kernel
theorem dL_law_90 : decode cL_law 90 = .ok (.iload 7, 2) := by decide +kernel
theorem dL_law_92 : decode cL_law 92 = .ok (.bipush 60, 2) := by decide +kernel
theorem dL_law_94 : decode cL_law 94 = .ok (.if_icmp .ge 309, 3) := by decide +kernel
theorem dL_law_97 : decode cL_law 97 = .ok (.aload_n 0, 1) := by decide +kernel
theorem dL_law_98 : decode cL_law 98 = .ok (.iload 7, 2) := by decide +kernel
theorem dL_law_100 : decode cL_law 100 = .ok (.invokestatic 397, 3) := by decide +kernel
theorem dL_law_103 : decode cL_law 103 = .ok (.ldc 8, 2) := by decide +kernel
theorem dL_law_105 : decode cL_law 105 = .ok (.iand, 1) := by decide +kernel
theorem dL_law_106 : decode cL_law 106 = .ok (.istore 8, 2) := by decide +kernel
theorem dL_law_108 : decode cL_law 108 = .ok (.iload 8, 2) := by decide +kernel
theorem dL_law_110 : decode cL_law 110 = .ok (.bipush 26, 2) := by decide +kernel
theorem dL_law_112 : decode cL_law 112 = .ok (.idiv, 1) := by decide +kernel
theorem dL_law_113 : decode cL_law 113 = .ok (.istore 9, 2) := by decide +kernel
theorem dL_law_115 : decode cL_law 115 = .ok (.iload 8, 2) := by decide +kernel
theorem dL_law_117 : decode cL_law 117 = .ok (.bipush 26, 2) := by decide +kernel
theorem dL_law_119 : decode cL_law 119 = .ok (.irem, 1) := by decide +kernel
theorem dL_law_120 : decode cL_law 120 = .ok (.istore 10, 2) := by decide +kernel
theorem dL_law_122 : decode cL_law 122 = .ok (.iload 7, 2) := by decide +kernel
theorem dL_law_124 : decode cL_law 124 = .ok (.bipush 6, 2) := by decide +kernel
theorem dL_law_126 : decode cL_law 126 = .ok (.if_icmp .ge 19, 3) := by decide +kernel
theorem dL_law_129 : decode cL_law 129 = .ok (.aload_n 1, 1) := by decide +kernel
theorem dL_law_130 : decode cL_law 130 = .ok (.aload_n 2, 1) := by decide +kernel
theorem dL_law_131 : decode cL_law 131 = .ok (.aload 6, 2) := by decide +kernel
theorem dL_law_133 : decode cL_law 133 = .ok (.iload 7, 2) := by decide +kernel
theorem dL_law_135 : decode cL_law 135 = .ok (.iconst 2, 1) := by decide +kernel
theorem dL_law_136 : decode cL_law 136 = .ok (.irem, 1) := by decide +kernel
theorem dL_law_137 : decode cL_law 137 = .ok (.iload 9, 2) := by decide +kernel
theorem dL_law_139 : decode cL_law 139 = .ok (.invokestatic 400, 3) := by decide +kernel
theorem dL_law_142 : decode cL_law 142 = .ok (.goto 113, 3) := by decide +kernel
theorem dL_law_145 : decode cL_law 145 = .ok (.iload 10, 2) := by decide +kernel
theorem dL_law_147 : decode cL_law 147 = .ok (.bipush 8, 2) := by decide +kernel
theorem dL_law_149 : decode cL_law 149 = .ok (.if_icmp .ge 17, 3) := by decide +kernel
theorem dL_law_152 : decode cL_law 152 = .ok (.aload_n 1, 1) := by decide +kernel
theorem dL_law_153 : decode cL_law 153 = .ok (.aload_n 2, 1) := by decide +kernel
theorem dL_law_154 : decode cL_law 154 = .ok (.aload 6, 2) := by decide +kernel
theorem dL_law_156 : decode cL_law 156 = .ok (.iload 10, 2) := by decide +kernel
theorem dL_law_158 : decode cL_law 158 = .ok (.iload 9, 2) := by decide +kernel
theorem dL_law_160 : decode cL_law 160 = .ok (.invokestatic 400, 3) := by decide +kernel
theorem dL_law_163 : decode cL_law 163 = .ok (.goto 92, 3) := by decide +kernel
theorem dL_law_166 : decode cL_law 166 = .ok (.iload 10, 2) := by decide +kernel
theorem dL_law_168 : decode cL_law 168 = .ok (.bipush 15, 2) := by decide +kernel
theorem dL_law_170 : decode cL_law 170 = .ok (.if_icmp .ge 39, 3) := by decide +kernel
theorem dL_law_173 : decode cL_law 173 = .ok (.aload_n 1, 1) := by decide +kernel
theorem dL_law_174 : decode cL_law 174 = .ok (.aload_n 3, 1) := by decide +kernel
theorem dL_law_175 : decode cL_law 175 = .ok (.aload 6, 2) := by decide +kernel
theorem dL_law_177 : decode cL_law 177 = .ok (.iload 10, 2) := by decide +kernel
theorem dL_law_179 : decode cL_law 179 = .ok (.bipush 14, 2) := by decide +kernel
theorem dL_law_181 : decode cL_law 181 = .ok (.if_icmp .ne 13, 3) := by decide +kernel
theorem dL_law_184 : decode cL_law 184 = .ok (.bipush 6, 2) := by decide +kernel
theorem dL_law_186 : decode cL_law 186 = .ok (.iload 9, 2) := by decide +kernel
theorem dL_law_188 : decode cL_law 188 = .ok (.iconst 2, 1) := by decide +kernel
theorem dL_law_189 : decode cL_law 189 = .ok (.irem, 1) := by decide +kernel
theorem dL_law_190 : decode cL_law 190 = .ok (.iadd, 1) := by decide +kernel
theorem dL_law_191 : decode cL_law 191 = .ok (.goto 8, 3) := by decide +kernel
theorem dL_law_194 : decode cL_law 194 = .ok (.iload 10, 2) := by decide +kernel
theorem dL_law_196 : decode cL_law 196 = .ok (.bipush 8, 2) := by decide +kernel
theorem dL_law_198 : decode cL_law 198 = .ok (.isub, 1) := by decide +kernel
theorem dL_law_199 : decode cL_law 199 = .ok (.iload 9, 2) := by decide +kernel
theorem dL_law_201 : decode cL_law 201 = .ok (.iconst 2, 1) := by decide +kernel
theorem dL_law_202 : decode cL_law 202 = .ok (.idiv, 1) := by decide +kernel
theorem dL_law_203 : decode cL_law 203 = .ok (.invokestatic 404, 3) := by decide +kernel
theorem dL_law_206 : decode cL_law 206 = .ok (.goto 49, 3) := by decide +kernel
theorem dL_law_209 : decode cL_law 209 = .ok (.iload 10, 2) := by decide +kernel
theorem dL_law_211 : decode cL_law 211 = .ok (.bipush 23, 2) := by decide +kernel
theorem dL_law_213 : decode cL_law 213 = .ok (.if_icmp .ge 23, 3) := by decide +kernel
theorem dL_law_216 : decode cL_law 216 = .ok (.aload_n 1, 1) := by decide +kernel
theorem dL_law_217 : decode cL_law 217 = .ok (.aload_n 2, 1) := by decide +kernel
theorem dL_law_218 : decode cL_law 218 = .ok (.aload_n 3, 1) := by decide +kernel
theorem dL_law_219 : decode cL_law 219 = .ok (.aload 4, 2) := by decide +kernel
theorem dL_law_221 : decode cL_law 221 = .ok (.aload 6, 2) := by decide +kernel
theorem dL_law_223 : decode cL_law 223 = .ok (.iload 10, 2) := by decide +kernel
theorem dL_law_225 : decode cL_law 225 = .ok (.bipush 15, 2) := by decide +kernel
theorem dL_law_227 : decode cL_law 227 = .ok (.isub, 1) := by decide +kernel
theorem dL_law_228 : decode cL_law 228 = .ok (.iload 9, 2) := by decide +kernel
theorem dL_law_230 : decode cL_law 230 = .ok (.invokestatic 407, 3) := by decide +kernel
theorem dL_law_233 : decode cL_law 233 = .ok (.goto 22, 3) := by decide +kernel
theorem dL_law_236 : decode cL_law 236 = .ok (.aload_n 1, 1) := by decide +kernel
theorem dL_law_237 : decode cL_law 237 = .ok (.aload_n 2, 1) := by decide +kernel
theorem dL_law_238 : decode cL_law 238 = .ok (.aload_n 3, 1) := by decide +kernel
theorem dL_law_239 : decode cL_law 239 = .ok (.aload 4, 2) := by decide +kernel
theorem dL_law_241 : decode cL_law 241 = .ok (.aload 5, 2) := by decide +kernel
theorem dL_law_243 : decode cL_law 243 = .ok (.aload 6, 2) := by decide +kernel
theorem dL_law_245 : decode cL_law 245 = .ok (.iload 10, 2) := by decide +kernel
theorem dL_law_247 : decode cL_law 247 = .ok (.bipush 23, 2) := by decide +kernel
theorem dL_law_249 : decode cL_law 249 = .ok (.isub, 1) := by decide +kernel
theorem dL_law_250 : decode cL_law 250 = .ok (.iload 9, 2) := by decide +kernel
theorem dL_law_252 : decode cL_law 252 = .ok (.invokestatic 411, 3) := by decide +kernel
theorem dL_law_255 : decode cL_law 255 = .ok (.istore 11, 2) := by decide +kernel
theorem dL_law_257 : decode cL_law 257 = .ok (.iload 8, 2) := by decide +kernel
theorem dL_law_259 : decode cL_law 259 = .ok (.bipush 7, 2) := by decide +kernel
theorem dL_law_261 : decode cL_law 261 = .ok (.idiv, 1) := by decide +kernel
theorem dL_law_262 : decode cL_law 262 = .ok (.aload 6, 2) := by decide +kernel
theorem dL_law_264 : decode cL_law 264 = .ok (.iconst 0, 1) := by decide +kernel
theorem dL_law_265 : decode cL_law 265 = .ok (.iaload, 1) := by decide +kernel
theorem dL_law_266 : decode cL_law 266 = .ok (.irem, 1) := by decide +kernel
theorem dL_law_267 : decode cL_law 267 = .ok (.istore 12, 2) := by decide +kernel
theorem dL_law_269 : decode cL_law 269 = .ok (.iload 11, 2) := by decide +kernel
theorem dL_law_271 : decode cL_law 271 = .ok (.ifCond .eq 124, 3) := by decide +kernel
theorem dL_law_274 : decode cL_law 274 = .ok (.aload_n 1, 1) := by decide +kernel
theorem dL_law_275 : decode cL_law 275 = .ok (.aload_n 3, 1) := by decide +kernel
theorem dL_law_276 : decode cL_law 276 = .ok (.aload 4, 2) := by decide +kernel
theorem dL_law_278 : decode cL_law 278 = .ok (.aload 6, 2) := by decide +kernel
theorem dL_law_280 : decode cL_law 280 = .ok (.invokestatic 415, 3) := by decide +kernel
theorem dL_law_283 : decode cL_law 283 = .ok (.ifCond .eq 112, 3) := by decide +kernel
theorem dL_law_286 : decode cL_law 286 = .ok (.aload_n 1, 1) := by decide +kernel
theorem dL_law_287 : decode cL_law 287 = .ok (.aload_n 2, 1) := by decide +kernel
theorem dL_law_288 : decode cL_law 288 = .ok (.aload_n 3, 1) := by decide +kernel
theorem dL_law_289 : decode cL_law 289 = .ok (.aload 4, 2) := by decide +kernel
theorem dL_law_291 : decode cL_law 291 = .ok (.aload 6, 2) := by decide +kernel
theorem dL_law_293 : decode cL_law 293 = .ok (.iload 12, 2) := by decide +kernel
theorem dL_law_295 : decode cL_law 295 = .ok (.iload 8, 2) := by decide +kernel
theorem dL_law_297 : decode cL_law 297 = .ok (.bipush 11, 2) := by decide +kernel
theorem dL_law_299 : decode cL_law 299 = .ok (.idiv, 1) := by decide +kernel
theorem dL_law_300 : decode cL_law 300 = .ok (.bipush 8, 2) := by decide +kernel
theorem dL_law_302 : decode cL_law 302 = .ok (.irem, 1) := by decide +kernel
theorem dL_law_303 : decode cL_law 303 = .ok (.invokestatic 419, 3) := by decide +kernel
theorem dL_law_306 : decode cL_law 306 = .ok (.ifCond .eq 89, 3) := by decide +kernel
theorem dL_law_309 : decode cL_law 309 = .ok (.aload_n 1, 1) := by decide +kernel
theorem dL_law_310 : decode cL_law 310 = .ok (.aload 5, 2) := by decide +kernel
theorem dL_law_312 : decode cL_law 312 = .ok (.aload 6, 2) := by decide +kernel
theorem dL_law_314 : decode cL_law 314 = .ok (.invokestatic 422, 3) := by decide +kernel
theorem dL_law_317 : decode cL_law 317 = .ok (.ifCond .eq 78, 3) := by decide +kernel
theorem dL_law_320 : decode cL_law 320 = .ok (.iload 7, 2) := by decide +kernel
theorem dL_law_322 : decode cL_law 322 = .ok (.iconst 4, 1) := by decide +kernel
theorem dL_law_323 : decode cL_law 323 = .ok (.irem, 1) := by decide +kernel
theorem dL_law_324 : decode cL_law 324 = .ok (.iconst 1, 1) := by decide +kernel
theorem dL_law_325 : decode cL_law 325 = .ok (.if_icmp .ne 13, 3) := by decide +kernel
theorem dL_law_328 : decode cL_law 328 = .ok (.aload_n 1, 1) := by decide +kernel
theorem dL_law_329 : decode cL_law 329 = .ok (.aload_n 2, 1) := by decide +kernel
theorem dL_law_330 : decode cL_law 330 = .ok (.aload 6, 2) := by decide +kernel
theorem dL_law_332 : decode cL_law 332 = .ok (.invokestatic 426, 3) := by decide +kernel
theorem dL_law_335 : decode cL_law 335 = .ok (.ifCond .eq 60, 3) := by decide +kernel
theorem dL_law_338 : decode cL_law 338 = .ok (.iload 7, 2) := by decide +kernel
theorem dL_law_340 : decode cL_law 340 = .ok (.bipush 6, 2) := by decide +kernel
theorem dL_law_342 : decode cL_law 342 = .ok (.irem, 1) := by decide +kernel
theorem dL_law_343 : decode cL_law 343 = .ok (.iconst 2, 1) := by decide +kernel
theorem dL_law_344 : decode cL_law 344 = .ok (.if_icmp .ne 53, 3) := by decide +kernel
theorem dL_law_347 : decode cL_law 347 = .ok (.aload_n 1, 1) := by decide +kernel
theorem dL_law_348 : decode cL_law 348 = .ok (.aload_n 2, 1) := by decide +kernel
theorem dL_law_349 : decode cL_law 349 = .ok (.aload_n 3, 1) := by decide +kernel
theorem dL_law_350 : decode cL_law 350 = .ok (.aload 4, 2) := by decide +kernel
theorem dL_law_352 : decode cL_law 352 = .ok (.aload 6, 2) := by decide +kernel
theorem dL_law_354 : decode cL_law 354 = .ok (.iload 8, 2) := by decide +kernel
theorem dL_law_356 : decode cL_law 356 = .ok (.iconst 3, 1) := by decide +kernel
theorem dL_law_357 : decode cL_law 357 = .ok (.idiv, 1) := by decide +kernel
theorem dL_law_358 : decode cL_law 358 = .ok (.bipush 10, 2) := by decide +kernel
theorem dL_law_360 : decode cL_law 360 = .ok (.irem, 1) := by decide +kernel
theorem dL_law_361 : decode cL_law 361 = .ok (.invokestatic 429, 3) := by decide +kernel
theorem dL_law_364 : decode cL_law 364 = .ok (.ifCond .eq 31, 3) := by decide +kernel
theorem dL_law_367 : decode cL_law 367 = .ok (.aload_n 1, 1) := by decide +kernel
theorem dL_law_368 : decode cL_law 368 = .ok (.aload_n 2, 1) := by decide +kernel
theorem dL_law_369 : decode cL_law 369 = .ok (.aload_n 3, 1) := by decide +kernel
theorem dL_law_370 : decode cL_law 370 = .ok (.aload 4, 2) := by decide +kernel
theorem dL_law_372 : decode cL_law 372 = .ok (.aload 6, 2) := by decide +kernel
theorem dL_law_374 : decode cL_law 374 = .ok (.iload 8, 2) := by decide +kernel
theorem dL_law_376 : decode cL_law 376 = .ok (.iconst 5, 1) := by decide +kernel
theorem dL_law_377 : decode cL_law 377 = .ok (.idiv, 1) := by decide +kernel
theorem dL_law_378 : decode cL_law 378 = .ok (.bipush 10, 2) := by decide +kernel
theorem dL_law_380 : decode cL_law 380 = .ok (.irem, 1) := by decide +kernel
theorem dL_law_381 : decode cL_law 381 = .ok (.iload 8, 2) := by decide +kernel
theorem dL_law_383 : decode cL_law 383 = .ok (.bipush 13, 2) := by decide +kernel
theorem dL_law_385 : decode cL_law 385 = .ok (.idiv, 1) := by decide +kernel
theorem dL_law_386 : decode cL_law 386 = .ok (.bipush 6, 2) := by decide +kernel
theorem dL_law_388 : decode cL_law 388 = .ok (.irem, 1) := by decide +kernel
theorem dL_law_389 : decode cL_law 389 = .ok (.invokestatic 433, 3) := by decide +kernel
theorem dL_law_392 : decode cL_law 392 = .ok (.ifCond .ne 5, 3) := by decide +kernel
theorem dL_law_395 : decode cL_law 395 = .ok (.iconst 0, 1) := by decide +kernel
theorem dL_law_396 : decode cL_law 396 = .ok (.ireturn, 1) := by decide +kernel
theorem dL_law_397 : decode cL_law 397 = .ok (.iinc 7 1, 3) := by decide +kernel
theorem dL_law_400 : decode cL_law 400 = .ok (.goto (-310), 3) := by decide +kernel
theorem dL_law_403 : decode cL_law 403 = .ok (.iconst 1, 1) := by decide +kernel
theorem dL_law_404 : decode cL_law 404 = .ok (.ireturn, 1) := by decide +kernel
