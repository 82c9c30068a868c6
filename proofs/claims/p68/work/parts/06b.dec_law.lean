theorem dL_areObjects_13 : decode cL_areObjects 13 = .ok (.invokevirtual 224, 3) := by decide +kernel
theorem dL_areObjects_16 : decode cL_areObjects 16 = .ok (.ifCond .ne 36, 3) := by decide +kernel
theorem dL_areObjects_19 : decode cL_areObjects 19 = .ok (.aload_n 0, 1) := by decide +kernel
theorem dL_areObjects_20 : decode cL_areObjects 20 = .ok (.iconst (-1), 1) := by decide +kernel
theorem dL_areObjects_21 : decode cL_areObjects 21 = .ok (.invokevirtual 224, 3) := by decide +kernel
theorem dL_areObjects_24 : decode cL_areObjects 24 = .ok (.ifCond .ne 28, 3) := by decide +kernel
theorem dL_areObjects_27 : decode cL_areObjects 27 = .ok (.aload_n 0, 1) := by decide +kernel
theorem dL_areObjects_28 : decode cL_areObjects 28 = .ok (.bipush 20, 2) := by decide +kernel
theorem dL_areObjects_30 : decode cL_areObjects 30 = .ok (.invokestatic 227, 3) := by decide +kernel
theorem dL_areObjects_33 : decode cL_areObjects 33 = .ok (.bipush (-101), 2) := by decide +kernel
theorem dL_areObjects_35 : decode cL_areObjects 35 = .ok (.if_icmp .ne 17, 3) := by decide +kernel
theorem dL_areObjects_38 : decode cL_areObjects 38 = .ok (.aload_n 0, 1) := by decide +kernel
theorem dL_areObjects_39 : decode cL_areObjects 39 = .ok (.iconst (-1), 1) := by decide +kernel
theorem dL_areObjects_40 : decode cL_areObjects 40 = .ok (.invokestatic 231, 3) := by decide +kernel
theorem dL_areObjects_43 : decode cL_areObjects 43 = .ok (.bipush (-101), 2) := by decide +kernel
theorem dL_areObjects_45 : decode cL_areObjects 45 = .ok (.if_icmp .ne 7, 3) := by decide +kernel
theorem dL_areObjects_48 : decode cL_areObjects 48 = .ok (.iconst 1, 1) := by decide +kernel
theorem dL_areObjects_49 : decode cL_areObjects 49 = .ok (.goto 4, 3) := by decide +kernel
theorem dL_areObjects_52 : decode cL_areObjects 52 = .ok (.iconst 0, 1) := by decide +kernel
theorem dL_areObjects_53 : decode cL_areObjects 53 = .ok (.istore 4, 2) := by decide +kernel
theorem dL_areObjects_55 : decode cL_areObjects 55 = .ok (.iconst 0, 1) := by decide +kernel
theorem dL_areObjects_56 : decode cL_areObjects 56 = .ok (.istore 5, 2) := by decide +kernel
theorem dL_areObjects_58 : decode cL_areObjects 58 = .ok (.iload 5, 2) := by decide +kernel
theorem dL_areObjects_60 : decode cL_areObjects 60 = .ok (.bipush 10, 2) := by decide +kernel
theorem dL_areObjects_62 : decode cL_areObjects 62 = .ok (.if_icmp .ge 519, 3) := by decide +kernel
theorem dL_areObjects_65 : decode cL_areObjects 65 = .ok (.iload 4, 2) := by decide +kernel
theorem dL_areObjects_67 : decode cL_areObjects 67 = .ok (.ifCond .eq 514, 3) := by decide +kernel
theorem dL_areObjects_70 : decode cL_areObjects 70 = .ok (.aload_n 1, 1) := by decide +kernel
theorem dL_areObjects_71 : decode cL_areObjects 71 = .ok (.iload 5, 2) := by decide +kernel
theorem dL_areObjects_73 : decode cL_areObjects 73 = .ok (.iaload, 1) := by decide +kernel
theorem dL_areObjects_74 : decode cL_areObjects 74 = .ok (.bipush (-2), 2) := by decide +kernel
theorem dL_areObjects_76 : decode cL_areObjects 76 = .ok (.if_icmp .eq 7, 3) := by decide +kernel
theorem dL_areObjects_79 : decode cL_areObjects 79 = .ok (.iconst 1, 1) := by decide +kernel
theorem dL_areObjects_80 : decode cL_areObjects 80 = .ok (.goto 4, 3) := by decide +kernel
theorem dL_areObjects_83 : decode cL_areObjects 83 = .ok (.iconst 0, 1) := by decide +kernel
theorem dL_areObjects_84 : decode cL_areObjects 84 = .ok (.istore 6, 2) := by decide +kernel
theorem dL_areObjects_86 : decode cL_areObjects 86 = .ok (.iconst 0, 1) := by decide +kernel
theorem dL_areObjects_87 : decode cL_areObjects 87 = .ok (.istore 7, 2) := by decide +kernel
theorem dL_areObjects_89 : decode cL_areObjects 89 = .ok (.iconst 0, 1) := by decide +kernel
theorem dL_areObjects_90 : decode cL_areObjects 90 = .ok (.istore 8, 2) := by decide +kernel
theorem dL_areObjects_92 : decode cL_areObjects 92 = .ok (.iload 8, 2) := by decide +kernel
theorem dL_areObjects_94 : decode cL_areObjects 94 = .ok (.bipush 10, 2) := by decide +kernel
theorem dL_areObjects_96 : decode cL_areObjects 96 = .ok (.if_icmp .ge 39, 3) := by decide +kernel
theorem dL_areObjects_99 : decode cL_areObjects 99 = .ok (.iload 7, 2) := by decide +kernel
theorem dL_areObjects_101 : decode cL_areObjects 101 = .ok (.aload_n 1, 1) := by decide +kernel
theorem dL_areObjects_102 : decode cL_areObjects 102 = .ok (.iload 8, 2) := by decide +kernel
theorem dL_areObjects_104 : decode cL_areObjects 104 = .ok (.iaload, 1) := by decide +kernel
theorem dL_areObjects_105 : decode cL_areObjects 105 = .ok (.bipush (-2), 2) := by decide +kernel
theorem dL_areObjects_107 : decode cL_areObjects 107 = .ok (.if_icmp .eq 18, 3) := by decide +kernel
theorem dL_areObjects_110 : decode cL_areObjects 110 = .ok (.aload_n 1, 1) := by decide +kernel
theorem dL_areObjects_111 : decode cL_areObjects 111 = .ok (.iload 8, 2) := by decide +kernel
theorem dL_areObjects_113 : decode cL_areObjects 113 = .ok (.iload 5, 2) := by decide +kernel
theorem dL_areObjects_115 : decode cL_areObjects 115 = .ok (.invokestatic 234, 3) := by decide +kernel
theorem dL_areObjects_118 : decode cL_areObjects 118 = .ok (.ifCond .eq 7, 3) := by decide +kernel
theorem dL_areObjects_121 : decode cL_areObjects 121 = .ok (.iconst 1, 1) := by decide +kernel
theorem dL_areObjects_122 : decode cL_areObjects 122 = .ok (.goto 4, 3) := by decide +kernel
theorem dL_areObjects_125 : decode cL_areObjects 125 = .ok (.iconst 0, 1) := by decide +kernel
theorem dL_areObjects_126 : decode cL_areObjects 126 = .ok (.iadd, 1) := by decide +kernel
theorem dL_areObjects_127 : decode cL_areObjects 127 = .ok (.istore 7, 2) := by decide +kernel
theorem dL_areObjects_129 : decode cL_areObjects 129 = .ok (.iinc 8 1, 3) := by decide +kernel
theorem dL_areObjects_132 : decode cL_areObjects 132 = .ok (.goto (-40), 3) := by decide +kernel
theorem dL_areObjects_135 : decode cL_areObjects 135 = .ok (.aload_n 0, 1) := by decide +kernel
theorem dL_areObjects_136 : decode cL_areObjects 136 = .ok (.iload 5, 2) := by decide +kernel
theorem dL_areObjects_138 : decode cL_areObjects 138 = .ok (.invokevirtual 224, 3) := by decide +kernel
theorem dL_areObjects_141 : decode cL_areObjects 141 = .ok (.iload 6, 2) := by decide +kernel
theorem dL_areObjects_143 : decode cL_areObjects 143 = .ok (.if_icmp .ne 155, 3) := by decide +kernel
theorem dL_areObjects_146 : decode cL_areObjects 146 = .ok (.aload_n 0, 1) := by decide +kernel
theorem dL_areObjects_147 : decode cL_areObjects 147 = .ok (.iload 5, 2) := by decide +kernel
theorem dL_areObjects_149 : decode cL_areObjects 149 = .ok (.invokestatic 227, 3) := by decide +kernel
theorem dL_areObjects_152 : decode cL_areObjects 152 = .ok (.iload 6, 2) := by decide +kernel
theorem dL_areObjects_154 : decode cL_areObjects 154 = .ok (.ifCond .eq 10, 3) := by decide +kernel
theorem dL_areObjects_157 : decode cL_areObjects 157 = .ok (.aload_n 1, 1) := by decide +kernel
theorem dL_areObjects_158 : decode cL_areObjects 158 = .ok (.iload 5, 2) := by decide +kernel
theorem dL_areObjects_160 : decode cL_areObjects 160 = .ok (.iaload, 1) := by decide +kernel
theorem dL_areObjects_161 : decode cL_areObjects 161 = .ok (.goto 5, 3) := by decide +kernel
theorem dL_areObjects_164 : decode cL_areObjects 164 = .ok (.bipush (-101), 2) := by decide +kernel
theorem dL_areObjects_166 : decode cL_areObjects 166 = .ok (.if_icmp .ne 132, 3) := by decide +kernel
theorem dL_areObjects_169 : decode cL_areObjects 169 = .ok (.aload_n 0, 1) := by decide +kernel
theorem dL_areObjects_170 : decode cL_areObjects 170 = .ok (.iload 5, 2) := by decide +kernel
theorem dL_areObjects_172 : decode cL_areObjects 172 = .ok (.invokestatic 238, 3) := by decide +kernel
theorem dL_areObjects_175 : decode cL_areObjects 175 = .ok (.iload 6, 2) := by decide +kernel
theorem dL_areObjects_177 : decode cL_areObjects 177 = .ok (.ifCond .eq 13, 3) := by decide +kernel
theorem dL_areObjects_180 : decode cL_areObjects 180 = .ok (.aload_n 1, 1) := by decide +kernel
theorem dL_areObjects_181 : decode cL_areObjects 181 = .ok (.bipush 10, 2) := by decide +kernel
theorem dL_areObjects_183 : decode cL_areObjects 183 = .ok (.iload 5, 2) := by decide +kernel
theorem dL_areObjects_185 : decode cL_areObjects 185 = .ok (.iadd, 1) := by decide +kernel
theorem dL_areObjects_186 : decode cL_areObjects 186 = .ok (.iaload, 1) := by decide +kernel
theorem dL_areObjects_187 : decode cL_areObjects 187 = .ok (.goto 5, 3) := by decide +kernel
theorem dL_areObjects_190 : decode cL_areObjects 190 = .ok (.bipush (-101), 2) := by decide +kernel
theorem dL_areObjects_192 : decode cL_areObjects 192 = .ok (.if_icmp .ne 106, 3) := by decide +kernel
theorem dL_areObjects_195 : decode cL_areObjects 195 = .ok (.aload_n 0, 1) := by decide +kernel
theorem dL_areObjects_196 : decode cL_areObjects 196 = .ok (.iload 5, 2) := by decide +kernel
theorem dL_areObjects_198 : decode cL_areObjects 198 = .ok (.invokestatic 241, 3) := by decide +kernel
theorem dL_areObjects_201 : decode cL_areObjects 201 = .ok (.iload 6, 2) := by decide +kernel
theorem dL_areObjects_203 : decode cL_areObjects 203 = .ok (.ifCond .eq 13, 3) := by decide +kernel
theorem dL_areObjects_206 : decode cL_areObjects 206 = .ok (.aload_n 1, 1) := by decide +kernel
theorem dL_areObjects_207 : decode cL_areObjects 207 = .ok (.bipush 20, 2) := by decide +kernel
theorem dL_areObjects_209 : decode cL_areObjects 209 = .ok (.iload 5, 2) := by decide +kernel
theorem dL_areObjects_211 : decode cL_areObjects 211 = .ok (.iadd, 1) := by decide +kernel
theorem dL_areObjects_212 : decode cL_areObjects 212 = .ok (.iaload, 1) := by decide +kernel
theorem dL_areObjects_213 : decode cL_areObjects 213 = .ok (.goto 5, 3) := by decide +kernel
theorem dL_areObjects_216 : decode cL_areObjects 216 = .ok (.bipush (-101), 2) := by decide +kernel
theorem dL_areObjects_218 : decode cL_areObjects 218 = .ok (.if_icmp .ne 80, 3) := by decide +kernel
theorem dL_areObjects_221 : decode cL_areObjects 221 = .ok (.aload_n 0, 1) := by decide +kernel
theorem dL_areObjects_222 : decode cL_areObjects 222 = .ok (.iload 5, 2) := by decide +kernel
theorem dL_areObjects_224 : decode cL_areObjects 224 = .ok (.invokestatic 244, 3) := by decide +kernel
theorem dL_areObjects_227 : decode cL_areObjects 227 = .ok (.iload 6, 2) := by decide +kernel
theorem dL_areObjects_229 : decode cL_areObjects 229 = .ok (.ifCond .eq 13, 3) := by decide +kernel
theorem dL_areObjects_232 : decode cL_areObjects 232 = .ok (.aload_n 1, 1) := by decide +kernel
theorem dL_areObjects_233 : decode cL_areObjects 233 = .ok (.bipush 30, 2) := by decide +kernel
theorem dL_areObjects_235 : decode cL_areObjects 235 = .ok (.iload 5, 2) := by decide +kernel
theorem dL_areObjects_237 : decode cL_areObjects 237 = .ok (.iadd, 1) := by decide +kernel
theorem dL_areObjects_238 : decode cL_areObjects 238 = .ok (.iaload, 1) := by decide +kernel
theorem dL_areObjects_239 : decode cL_areObjects 239 = .ok (.goto 5, 3) := by decide +kernel
theorem dL_areObjects_242 : decode cL_areObjects 242 = .ok (.bipush (-101), 2) := by decide +kernel
theorem dL_areObjects_244 : decode cL_areObjects 244 = .ok (.if_icmp .ne 54, 3) := by decide +kernel
theorem dL_areObjects_247 : decode cL_areObjects 247 = .ok (.aload_n 0, 1) := by decide +kernel
theorem dL_areObjects_248 : decode cL_areObjects 248 = .ok (.iload 5, 2) := by decide +kernel
theorem dL_areObjects_250 : decode cL_areObjects 250 = .ok (.invokestatic 231, 3) := by decide +kernel
theorem dL_areObjects_253 : decode cL_areObjects 253 = .ok (.iload 6, 2) := by decide +kernel
theorem dL_areObjects_255 : decode cL_areObjects 255 = .ok (.ifCond .eq 13, 3) := by decide +kernel
theorem dL_areObjects_258 : decode cL_areObjects 258 = .ok (.aload_n 1, 1) := by decide +kernel
theorem dL_areObjects_259 : decode cL_areObjects 259 = .ok (.bipush 40, 2) := by decide +kernel
theorem dL_areObjects_261 : decode cL_areObjects 261 = .ok (.iload 5, 2) := by decide +kernel
theorem dL_areObjects_263 : decode cL_areObjects 263 = .ok (.iadd, 1) := by decide +kernel
theorem dL_areObjects_264 : decode cL_areObjects 264 = .ok (.iaload, 1) := by decide +kernel
theorem dL_areObjects_265 : decode cL_areObjects 265 = .ok (.goto 5, 3) := by decide +kernel
theorem dL_areObjects_268 : decode cL_areObjects 268 = .ok (.bipush (-101), 2) := by decide +kernel
theorem dL_areObjects_270 : decode cL_areObjects 270 = .ok (.if_icmp .ne 28, 3) := by decide +kernel
theorem dL_areObjects_273 : decode cL_areObjects 273 = .ok (.aload_n 0, 1) := by decide +kernel
theorem dL_areObjects_274 : decode cL_areObjects 274 = .ok (.iload 5, 2) := by decide +kernel
theorem dL_areObjects_276 : decode cL_areObjects 276 = .ok (.invokestatic 247, 3) := by decide +kernel
theorem dL_areObjects_279 : decode cL_areObjects 279 = .ok (.iload 6, 2) := by decide +kernel
theorem dL_areObjects_281 : decode cL_areObjects 281 = .ok (.ifCond .eq 8, 3) := by decide +kernel
theorem dL_areObjects_284 : decode cL_areObjects 284 = .ok (.iload 7, 2) := by decide +kernel
theorem dL_areObjects_286 : decode cL_areObjects 286 = .ok (.goto 5, 3) := by decide +kernel
theorem dL_areObjects_289 : decode cL_areObjects 289 = .ok (.bipush (-101), 2) := by decide +kernel
theorem dL_areObjects_291 : decode cL_areObjects 291 = .ok (.if_icmp .ne 7, 3) := by decide +kernel
theorem dL_areObjects_294 : decode cL_areObjects 294 = .ok (.iconst 1, 1) := by decide +kernel
theorem dL_areObjects_295 : decode cL_areObjects 295 = .ok (.goto 4, 3) := by decide +kernel
theorem dL_areObjects_298 : decode cL_areObjects 298 = .ok (.iconst 0, 1) := by decide +kernel
theorem dL_areObjects_299 : decode cL_areObjects 299 = .ok (.istore 4, 2) := by decide +kernel
theorem dL_areObjects_301 : decode cL_areObjects 301 = .ok (.iconst 0, 1) := by decide +kernel
theorem dL_areObjects_302 : decode cL_areObjects 302 = .ok (.istore 8, 2) := by decide +kernel
theorem dL_areObjects_304 : decode cL_areObjects 304 = .ok (.iload 6, 2) := by decide +kernel
theorem dL_areObjects_306 : decode cL_areObjects 306 = .ok (.ifCond .eq 269, 3) := by decide +kernel
theorem dL_areObjects_309 : decode cL_areObjects 309 = .ok (.iload 8, 2) := by decide +kernel
theorem dL_areObjects_311 : decode cL_areObjects 311 = .ok (.aload_n 1, 1) := by decide +kernel
theorem dL_areObjects_312 : decode cL_areObjects 312 = .ok (.bipush 40, 2) := by decide +kernel
theorem dL_areObjects_314 : decode cL_areObjects 314 = .ok (.iload 5, 2) := by decide +kernel
theorem dL_areObjects_316 : decode cL_areObjects 316 = .ok (.iadd, 1) := by decide +kernel
theorem dL_areObjects_317 : decode cL_areObjects 317 = .ok (.iaload, 1) := by decide +kernel
theorem dL_areObjects_318 : decode cL_areObjects 318 = .ok (.if_icmp .gt 257, 3) := by decide +kernel
theorem dL_areObjects_321 : decode cL_areObjects 321 = .ok (.iload 4, 2) := by decide +kernel
theorem dL_areObjects_323 : decode cL_areObjects 323 = .ok (.ifCond .eq 252, 3) := by decide +kernel
theorem dL_areObjects_326 : decode cL_areObjects 326 = .ok (.aload_n 2, 1) := by decide +kernel
theorem dL_areObjects_327 : decode cL_areObjects 327 = .ok (.bipush 6, 2) := by decide +kernel
theorem dL_areObjects_329 : decode cL_areObjects 329 = .ok (.iload 5, 2) := by decide +kernel
theorem dL_areObjects_331 : decode cL_areObjects 331 = .ok (.imul, 1) := by decide +kernel
theorem dL_areObjects_332 : decode cL_areObjects 332 = .ok (.iload 8, 2) := by decide +kernel
theorem dL_areObjects_334 : decode cL_areObjects 334 = .ok (.bipush 6, 2) := by decide +kernel
theorem dL_areObjects_336 : decode cL_areObjects 336 = .ok (.if_icmp .ge 8, 3) := by decide +kernel
theorem dL_areObjects_339 : decode cL_areObjects 339 = .ok (.iload 8, 2) := by decide +kernel
theorem dL_areObjects_341 : decode cL_areObjects 341 = .ok (.goto 4, 3) := by decide +kernel
theorem dL_areObjects_344 : decode cL_areObjects 344 = .ok (.iconst 5, 1) := by decide +kernel
theorem dL_areObjects_345 : decode cL_areObjects 345 = .ok (.iadd, 1) := by decide +kernel
theorem dL_areObjects_346 : decode cL_areObjects 346 = .ok (.iaload, 1) := by decide +kernel
theorem dL_areObjects_347 : decode cL_areObjects 347 = .ok (.istore 9, 2) := by decide +kernel
theorem dL_areObjects_349 : decode cL_areObjects 349 = .ok (.iload 9, 2) := by decide +kernel
theorem dL_areObjects_351 : decode cL_areObjects 351 = .ok (.bipush 10, 2) := by decide +kernel
theorem dL_areObjects_353 : decode cL_areObjects 353 = .ok (.ishr, 1) := by decide +kernel
theorem dL_areObjects_354 : decode cL_areObjects 354 = .ok (.istore 10, 2) := by decide +kernel
theorem dL_areObjects_356 : decode cL_areObjects 356 = .ok (.iload 9, 2) := by decide +kernel
theorem dL_areObjects_358 : decode cL_areObjects 358 = .ok (.bipush 6, 2) := by decide +kernel
theorem dL_areObjects_360 : decode cL_areObjects 360 = .ok (.ishr, 1) := by decide +kernel
theorem dL_areObjects_361 : decode cL_areObjects 361 = .ok (.bipush 15, 2) := by decide +kernel
theorem dL_areObjects_363 : decode cL_areObjects 363 = .ok (.iand, 1) := by decide +kernel
theorem dL_areObjects_364 : decode cL_areObjects 364 = .ok (.istore 11, 2) := by decide +kernel
theorem dL_areObjects_366 : decode cL_areObjects 366 = .ok (.iload 8, 2) := by decide +kernel
theorem dL_areObjects_368 : decode cL_areObjects 368 = .ok (.aload_n 1, 1) := by decide +kernel
theorem dL_areObjects_369 : decode cL_areObjects 369 = .ok (.bipush 40, 2) := by decide +kernel
theorem dL_areObjects_371 : decode cL_areObjects 371 = .ok (.iload 5, 2) := by decide +kernel
theorem dL_areObjects_373 : decode cL_areObjects 373 = .ok (.iadd, 1) := by decide +kernel
theorem dL_areObjects_374 : decode cL_areObjects 374 = .ok (.iaload, 1) := by decide +kernel
theorem dL_areObjects_375 : decode cL_areObjects 375 = .ok (.if_icmp .ne 7, 3) := by decide +kernel
theorem dL_areObjects_378 : decode cL_areObjects 378 = .ok (.iconst 1, 1) := by decide +kernel
theorem dL_areObjects_379 : decode cL_areObjects 379 = .ok (.goto 4, 3) := by decide +kernel
theorem dL_areObjects_382 : decode cL_areObjects 382 = .ok (.iconst 0, 1) := by decide +kernel
theorem dL_areObjects_383 : decode cL_areObjects 383 = .ok (.istore 12, 2) := by decide +kernel
theorem dL_areObjects_385 : decode cL_areObjects 385 = .ok (.aload_n 0, 1) := by decide +kernel
theorem dL_areObjects_386 : decode cL_areObjects 386 = .ok (.iload 5, 2) := by decide +kernel
theorem dL_areObjects_388 : decode cL_areObjects 388 = .ok (.iload 8, 2) := by decide +kernel
theorem dL_areObjects_390 : decode cL_areObjects 390 = .ok (.invokestatic 250, 3) := by decide +kernel
theorem dL_areObjects_393 : decode cL_areObjects 393 = .ok (.iload 12, 2) := by decide +kernel
theorem dL_areObjects_395 : decode cL_areObjects 395 = .ok (.ifCond .eq 8, 3) := by decide +kernel
theorem dL_areObjects_398 : decode cL_areObjects 398 = .ok (.bipush (-101), 2) := by decide +kernel
theorem dL_areObjects_400 : decode cL_areObjects 400 = .ok (.goto 9, 3) := by decide +kernel
theorem dL_areObjects_403 : decode cL_areObjects 403 = .ok (.iload 9, 2) := by decide +kernel
theorem dL_areObjects_405 : decode cL_areObjects 405 = .ok (.iconst 1, 1) := by decide +kernel
theorem dL_areObjects_406 : decode cL_areObjects 406 = .ok (.ishr, 1) := by decide +kernel
theorem dL_areObjects_407 : decode cL_areObjects 407 = .ok (.iconst 1, 1) := by decide +kernel
theorem dL_areObjects_408 : decode cL_areObjects 408 = .ok (.iand, 1) := by decide +kernel
theorem dL_areObjects_409 : decode cL_areObjects 409 = .ok (.if_icmp .ne 157, 3) := by decide +kernel
theorem dL_areObjects_412 : decode cL_areObjects 412 = .ok (.aload_n 0, 1) := by decide +kernel
theorem dL_areObjects_413 : decode cL_areObjects 413 = .ok (.iload 5, 2) := by decide +kernel
theorem dL_areObjects_415 : decode cL_areObjects 415 = .ok (.iload 8, 2) := by decide +kernel
theorem dL_areObjects_417 : decode cL_areObjects 417 = .ok (.invokestatic 253, 3) := by decide +kernel
theorem dL_areObjects_420 : decode cL_areObjects 420 = .ok (.iload 12, 2) := by decide +kernel
theorem dL_areObjects_422 : decode cL_areObjects 422 = .ok (.ifCond .eq 8, 3) := by decide +kernel
theorem dL_areObjects_425 : decode cL_areObjects 425 = .ok (.bipush (-101), 2) := by decide +kernel
theorem dL_areObjects_427 : decode cL_areObjects 427 = .ok (.goto 10, 3) := by decide +kernel
theorem dL_areObjects_430 : decode cL_areObjects 430 = .ok (.iload 9, 2) := by decide +kernel
theorem dL_areObjects_432 : decode cL_areObjects 432 = .ok (.iconst 2, 1) := by decide +kernel
theorem dL_areObjects_433 : decode cL_areObjects 433 = .ok (.ishr, 1) := by decide +kernel
theorem dL_areObjects_434 : decode cL_areObjects 434 = .ok (.bipush 15, 2) := by decide +kernel
theorem dL_areObjects_436 : decode cL_areObjects 436 = .ok (.iand, 1) := by decide +kernel
theorem dL_areObjects_437 : decode cL_areObjects 437 = .ok (.if_icmp .ne 129, 3) := by decide +kernel
theorem dL_areObjects_440 : decode cL_areObjects 440 = .ok (.aload_n 0, 1) := by decide +kernel
theorem dL_areObjects_441 : decode cL_areObjects 441 = .ok (.iload 5, 2) := by decide +kernel
theorem dL_areObjects_443 : decode cL_areObjects 443 = .ok (.iload 8, 2) := by decide +kernel
theorem dL_areObjects_445 : decode cL_areObjects 445 = .ok (.invokestatic 256, 3) := by decide +kernel
theorem dL_areObjects_448 : decode cL_areObjects 448 = .ok (.iload 12, 2) := by decide +kernel
theorem dL_areObjects_450 : decode cL_areObjects 450 = .ok (.ifCond .eq 8, 3) := by decide +kernel
theorem dL_areObjects_453 : decode cL_areObjects 453 = .ok (.bipush (-101), 2) := by decide +kernel
theorem dL_areObjects_455 : decode cL_areObjects 455 = .ok (.goto 14, 3) := by decide +kernel
theorem dL_areObjects_458 : decode cL_areObjects 458 = .ok (.iload 10, 2) := by decide +kernel
theorem dL_areObjects_460 : decode cL_areObjects 460 = .ok (.ifCond .ne 8, 3) := by decide +kernel
theorem dL_areObjects_463 : decode cL_areObjects 463 = .ok (.iload 11, 2) := by decide +kernel
theorem dL_areObjects_465 : decode cL_areObjects 465 = .ok (.goto 4, 3) := by decide +kernel
theorem dL_areObjects_468 : decode cL_areObjects 468 = .ok (.iconst (-1), 1) := by decide +kernel
theorem dL_areObjects_469 : decode cL_areObjects 469 = .ok (.if_icmp .ne 97, 3) := by decide +kernel
theorem dL_areObjects_472 : decode cL_areObjects 472 = .ok (.aload_n 0, 1) := by decide +kernel
theorem dL_areObjects_473 : decode cL_areObjects 473 = .ok (.iload 5, 2) := by decide +kernel
theorem dL_areObjects_475 : decode cL_areObjects 475 = .ok (.iload 8, 2) := by decide +kernel
theorem dL_areObjects_477 : decode cL_areObjects 477 = .ok (.invokestatic 259, 3) := by decide +kernel
theorem dL_areObjects_480 : decode cL_areObjects 480 = .ok (.iload 12, 2) := by decide +kernel
theorem dL_areObjects_482 : decode cL_areObjects 482 = .ok (.ifCond .eq 8, 3) := by decide +kernel
theorem dL_areObjects_485 : decode cL_areObjects 485 = .ok (.bipush (-101), 2) := by decide +kernel
theorem dL_areObjects_487 : decode cL_areObjects 487 = .ok (.goto 15, 3) := by decide +kernel
theorem dL_areObjects_490 : decode cL_areObjects 490 = .ok (.iload 10, 2) := by decide +kernel
theorem dL_areObjects_492 : decode cL_areObjects 492 = .ok (.iconst 1, 1) := by decide +kernel
theorem dL_areObjects_493 : decode cL_areObjects 493 = .ok (.if_icmp .ne 8, 3) := by decide +kernel
theorem dL_areObjects_496 : decode cL_areObjects 496 = .ok (.iload 11, 2) := by decide +kernel
theorem dL_areObjects_498 : decode cL_areObjects 498 = .ok (.goto 4, 3) := by decide +kernel
theorem dL_areObjects_501 : decode cL_areObjects 501 = .ok (.iconst (-1), 1) := by decide +kernel
theorem dL_areObjects_502 : decode cL_areObjects 502 = .ok (.if_icmp .ne 64, 3) := by decide +kernel
theorem dL_areObjects_505 : decode cL_areObjects 505 = .ok (.aload_n 0, 1) := by decide +kernel
theorem dL_areObjects_506 : decode cL_areObjects 506 = .ok (.iload 5, 2) := by decide +kernel
theorem dL_areObjects_508 : decode cL_areObjects 508 = .ok (.iload 8, 2) := by decide +kernel
theorem dL_areObjects_510 : decode cL_areObjects 510 = .ok (.invokestatic 262, 3) := by decide +kernel
theorem dL_areObjects_513 : decode cL_areObjects 513 = .ok (.iload 12, 2) := by decide +kernel
theorem dL_areObjects_515 : decode cL_areObjects 515 = .ok (.ifCond .eq 8, 3) := by decide +kernel
theorem dL_areObjects_518 : decode cL_areObjects 518 = .ok (.bipush (-101), 2) := by decide +kernel
theorem dL_areObjects_520 : decode cL_areObjects 520 = .ok (.goto 14, 3) := by decide +kernel
theorem dL_areObjects_523 : decode cL_areObjects 523 = .ok (.iload 10, 2) := by decide +kernel
theorem dL_areObjects_525 : decode cL_areObjects 525 = .ok (.iconst 2, 1) := by decide +kernel
theorem dL_areObjects_526 : decode cL_areObjects 526 = .ok (.if_icmp .ne 7, 3) := by decide +kernel
theorem dL_areObjects_529 : decode cL_areObjects 529 = .ok (.iconst 1, 1) := by decide +kernel
theorem dL_areObjects_530 : decode cL_areObjects 530 = .ok (.goto 4, 3) := by decide +kernel
theorem dL_areObjects_533 : decode cL_areObjects 533 = .ok (.iconst 0, 1) := by decide +kernel
theorem dL_areObjects_534 : decode cL_areObjects 534 = .ok (.if_icmp .ne 32, 3) := by decide +kernel
theorem dL_areObjects_537 : decode cL_areObjects 537 = .ok (.aload_n 0, 1) := by decide +kernel
theorem dL_areObjects_538 : decode cL_areObjects 538 = .ok (.iload 5, 2) := by decide +kernel
theorem dL_areObjects_540 : decode cL_areObjects 540 = .ok (.iload 8, 2) := by decide +kernel
theorem dL_areObjects_542 : decode cL_areObjects 542 = .ok (.invokestatic 265, 3) := by decide +kernel
theorem dL_areObjects_545 : decode cL_areObjects 545 = .ok (.iload 12, 2) := by decide +kernel
theorem dL_areObjects_547 : decode cL_areObjects 547 = .ok (.ifCond .eq 8, 3) := by decide +kernel
theorem dL_areObjects_550 : decode cL_areObjects 550 = .ok (.bipush (-101), 2) := by decide +kernel
theorem dL_areObjects_552 : decode cL_areObjects 552 = .ok (.goto 7, 3) := by decide +kernel
theorem dL_areObjects_555 : decode cL_areObjects 555 = .ok (.iload 9, 2) := by decide +kernel
theorem dL_areObjects_557 : decode cL_areObjects 557 = .ok (.iconst 1, 1) := by decide +kernel
theorem dL_areObjects_558 : decode cL_areObjects 558 = .ok (.iand, 1) := by decide +kernel
theorem dL_areObjects_559 : decode cL_areObjects 559 = .ok (.if_icmp .ne 7, 3) := by decide +kernel
theorem dL_areObjects_562 : decode cL_areObjects 562 = .ok (.iconst 1, 1) := by decide +kernel
theorem dL_areObjects_563 : decode cL_areObjects 563 = .ok (.goto 4, 3) := by decide +kernel
theorem dL_areObjects_566 : decode cL_areObjects 566 = .ok (.iconst 0, 1) := by decide +kernel
theorem dL_areObjects_567 : decode cL_areObjects 567 = .ok (.istore 4, 2) := by decide +kernel
theorem dL_areObjects_569 : decode cL_areObjects 569 = .ok (.iinc 8 1, 3) := by decide +kernel
theorem dL_areObjects_572 : decode cL_areObjects 572 = .ok (.goto (-268), 3) := by decide +kernel
theorem dL_areObjects_575 : decode cL_areObjects 575 = .ok (.iinc 5 1, 3) := by decide +kernel
theorem dL_areObjects_578 : decode cL_areObjects 578 = .ok (.goto (-520), 3) := by decide +kernel
theorem dL_areObjects_581 : decode cL_areObjects 581 = .ok (.iload 4, 2) := by decide +kernel
theorem dL_areObjects_583 : decode cL_areObjects 583 = .ok (.ireturn, 1) := by decide +kernel
theorem dL_areRights_0 : decode cL_areRights 0 = .ok (.aload_n 0, 1) := by decide +kernel
theorem dL_areRights_1 : decode cL_areRights 1 = .ok (.aload 4, 2) := by decide +kernel
theorem dL_areRights_3 : decode cL_areRights 3 = .ok (.iconst 0, 1) := by decide +kernel
theorem dL_areRights_4 : decode cL_areRights 4 = .ok (.iaload, 1) := by decide +kernel
theorem dL_areRights_5 : decode cL_areRights 5 = .ok (.iconst 0, 1) := by decide +kernel
theorem dL_areRights_6 : decode cL_areRights 6 = .ok (.iconst 0, 1) := by decide +kernel
theorem dL_areRights_7 : decode cL_areRights 7 = .ok (.invokestatic 268, 3) := by decide +kernel
theorem dL_areRights_10 : decode cL_areRights 10 = .ok (.bipush (-101), 2) := by decide +kernel
theorem dL_areRights_12 : decode cL_areRights 12 = .ok (.if_icmp .ne 56, 3) := by decide +kernel
theorem dL_areRights_15 : decode cL_areRights 15 = .ok (.aload_n 0, 1) := by decide +kernel
theorem dL_areRights_16 : decode cL_areRights 16 = .ok (.iconst 0, 1) := by decide +kernel
theorem dL_areRights_17 : decode cL_areRights 17 = .ok (.iconst 0, 1) := by decide +kernel
theorem dL_areRights_18 : decode cL_areRights 18 = .ok (.iconst 4, 1) := by decide +kernel
theorem dL_areRights_19 : decode cL_areRights 19 = .ok (.invokestatic 268, 3) := by decide +kernel
theorem dL_areRights_22 : decode cL_areRights 22 = .ok (.bipush (-102), 2) := by decide +kernel
theorem dL_areRights_24 : decode cL_areRights 24 = .ok (.if_icmp .ne 44, 3) := by decide +kernel
theorem dL_areRights_27 : decode cL_areRights 27 = .ok (.aload_n 0, 1) := by decide +kernel
theorem dL_areRights_28 : decode cL_areRights 28 = .ok (.iconst 0, 1) := by decide +kernel
theorem dL_areRights_29 : decode cL_areRights 29 = .ok (.bipush 20, 2) := by decide +kernel
theorem dL_areRights_31 : decode cL_areRights 31 = .ok (.bipush 9, 2) := by decide +kernel
theorem dL_areRights_33 : decode cL_areRights 33 = .ok (.invokestatic 272, 3) := by decide +kernel
theorem dL_areRights_36 : decode cL_areRights 36 = .ok (.bipush (-101), 2) := by decide +kernel
theorem dL_areRights_38 : decode cL_areRights 38 = .ok (.if_icmp .ne 30, 3) := by decide +kernel
theorem dL_areRights_41 : decode cL_areRights 41 = .ok (.aload_n 0, 1) := by decide +kernel
theorem dL_areRights_42 : decode cL_areRights 42 = .ok (.iconst 0, 1) := by decide +kernel
theorem dL_areRights_43 : decode cL_areRights 43 = .ok (.iconst (-1), 1) := by decide +kernel
theorem dL_areRights_44 : decode cL_areRights 44 = .ok (.invokestatic 275, 3) := by decide +kernel
theorem dL_areRights_47 : decode cL_areRights 47 = .ok (.bipush (-102), 2) := by decide +kernel
theorem dL_areRights_49 : decode cL_areRights 49 = .ok (.if_icmp .ne 19, 3) := by decide +kernel
theorem dL_areRights_52 : decode cL_areRights 52 = .ok (.aload_n 0, 1) := by decide +kernel
theorem dL_areRights_53 : decode cL_areRights 53 = .ok (.iconst 0, 1) := by decide +kernel
theorem dL_areRights_54 : decode cL_areRights 54 = .ok (.bipush 20, 2) := by decide +kernel
theorem dL_areRights_56 : decode cL_areRights 56 = .ok (.invokestatic 278, 3) := by decide +kernel
theorem dL_areRights_59 : decode cL_areRights 59 = .ok (.bipush (-101), 2) := by decide +kernel
theorem dL_areRights_61 : decode cL_areRights 61 = .ok (.if_icmp .ne 7, 3) := by decide +kernel
theorem dL_areRights_64 : decode cL_areRights 64 = .ok (.iconst 1, 1) := by decide +kernel
theorem dL_areRights_65 : decode cL_areRights 65 = .ok (.goto 4, 3) := by decide +kernel
theorem dL_areRights_68 : decode cL_areRights 68 = .ok (.iconst 0, 1) := by decide +kernel
theorem dL_areRights_69 : decode cL_areRights 69 = .ok (.istore 7, 2) := by decide +kernel
theorem dL_areRights_71 : decode cL_areRights 71 = .ok (.iconst 0, 1) := by decide +kernel
theorem dL_areRights_72 : decode cL_areRights 72 = .ok (.istore 8, 2) := by decide +kernel
theorem dL_areRights_74 : decode cL_areRights 74 = .ok (.iconst 0, 1) := by decide +kernel
theorem dL_areRights_75 : decode cL_areRights 75 = .ok (.istore 9, 2) := by decide +kernel
theorem dL_areRights_77 : decode cL_areRights 77 = .ok (.iload 9, 2) := by decide +kernel
theorem dL_areRights_79 : decode cL_areRights 79 = .ok (.bipush 10, 2) := by decide +kernel
theorem dL_areRights_81 : decode cL_areRights 81 = .ok (.if_icmp .ge 323, 3) := by decide +kernel
theorem dL_areRights_84 : decode cL_areRights 84 = .ok (.iload 7, 2) := by decide +kernel
theorem dL_areRights_86 : decode cL_areRights 86 = .ok (.ifCond .eq 318, 3) := by decide +kernel
theorem dL_areRights_89 : decode cL_areRights 89 = .ok (.aload_n 2, 1) := by decide +kernel
theorem dL_areRights_90 : decode cL_areRights 90 = .ok (.iload 9, 2) := by decide +kernel
theorem dL_areRights_92 : decode cL_areRights 92 = .ok (.iaload, 1) := by decide +kernel
theorem dL_areRights_93 : decode cL_areRights 93 = .ok (.bipush (-2), 2) := by decide +kernel
theorem dL_areRights_95 : decode cL_areRights 95 = .ok (.if_icmp .ne 26, 3) := by decide +kernel
theorem dL_areRights_98 : decode cL_areRights 98 = .ok (.aload_n 0, 1) := by decide +kernel
theorem dL_areRights_99 : decode cL_areRights 99 = .ok (.iload 5, 2) := by decide +kernel
theorem dL_areRights_101 : decode cL_areRights 101 = .ok (.iload 9, 2) := by decide +kernel
theorem dL_areRights_103 : decode cL_areRights 103 = .ok (.invokestatic 278, 3) := by decide +kernel
theorem dL_areRights_106 : decode cL_areRights 106 = .ok (.bipush (-101), 2) := by decide +kernel
theorem dL_areRights_108 : decode cL_areRights 108 = .ok (.if_icmp .ne 7, 3) := by decide +kernel
theorem dL_areRights_111 : decode cL_areRights 111 = .ok (.iconst 1, 1) := by decide +kernel
theorem dL_areRights_112 : decode cL_areRights 112 = .ok (.goto 4, 3) := by decide +kernel
theorem dL_areRights_115 : decode cL_areRights 115 = .ok (.iconst 0, 1) := by decide +kernel
theorem dL_areRights_116 : decode cL_areRights 116 = .ok (.istore 7, 2) := by decide +kernel
theorem dL_areRights_118 : decode cL_areRights 118 = .ok (.goto 31, 3) := by decide +kernel
theorem dL_areRights_121 : decode cL_areRights 121 = .ok (.aload_n 0, 1) := by decide +kernel
theorem dL_areRights_122 : decode cL_areRights 122 = .ok (.iload 5, 2) := by decide +kernel
theorem dL_areRights_124 : decode cL_areRights 124 = .ok (.iload 9, 2) := by decide +kernel
theorem dL_areRights_126 : decode cL_areRights 126 = .ok (.invokestatic 278, 3) := by decide +kernel
theorem dL_areRights_129 : decode cL_areRights 129 = .ok (.aload_n 1, 1) := by decide +kernel
theorem dL_areRights_130 : decode cL_areRights 130 = .ok (.aload_n 2, 1) := by decide +kernel
theorem dL_areRights_131 : decode cL_areRights 131 = .ok (.aload_n 3, 1) := by decide +kernel
theorem dL_areRights_132 : decode cL_areRights 132 = .ok (.iload 5, 2) := by decide +kernel
theorem dL_areRights_134 : decode cL_areRights 134 = .ok (.iload 9, 2) := by decide +kernel
theorem dL_areRights_136 : decode cL_areRights 136 = .ok (.invokestatic 198, 3) := by decide +kernel
theorem dL_areRights_139 : decode cL_areRights 139 = .ok (.if_icmp .ne 7, 3) := by decide +kernel
theorem dL_areRights_142 : decode cL_areRights 142 = .ok (.iconst 1, 1) := by decide +kernel
theorem dL_areRights_143 : decode cL_areRights 143 = .ok (.goto 4, 3) := by decide +kernel
theorem dL_areRights_146 : decode cL_areRights 146 = .ok (.iconst 0, 1) := by decide +kernel
theorem dL_areRights_147 : decode cL_areRights 147 = .ok (.istore 7, 2) := by decide +kernel
theorem dL_areRights_149 : decode cL_areRights 149 = .ok (.iconst 0, 1) := by decide +kernel
theorem dL_areRights_150 : decode cL_areRights 150 = .ok (.istore 10, 2) := by decide +kernel
theorem dL_areRights_152 : decode cL_areRights 152 = .ok (.iload 10, 2) := by decide +kernel
theorem dL_areRights_154 : decode cL_areRights 154 = .ok (.iconst 4, 1) := by decide +kernel
theorem dL_areRights_155 : decode cL_areRights 155 = .ok (.if_icmp .ge 243, 3) := by decide +kernel
theorem dL_areRights_158 : decode cL_areRights 158 = .ok (.aload_n 2, 1) := by decide +kernel
theorem dL_areRights_159 : decode cL_areRights 159 = .ok (.iload 9, 2) := by decide +kernel
theorem dL_areRights_161 : decode cL_areRights 161 = .ok (.iaload, 1) := by decide +kernel
theorem dL_areRights_162 : decode cL_areRights 162 = .ok (.bipush (-2), 2) := by decide +kernel
theorem dL_areRights_164 : decode cL_areRights 164 = .ok (.if_icmp .eq 234, 3) := by decide +kernel
theorem dL_areRights_167 : decode cL_areRights 167 = .ok (.iload 7, 2) := by decide +kernel
theorem dL_areRights_169 : decode cL_areRights 169 = .ok (.ifCond .eq 229, 3) := by decide +kernel
theorem dL_areRights_172 : decode cL_areRights 172 = .ok (.aload_n 1, 1) := by decide +kernel
theorem dL_areRights_173 : decode cL_areRights 173 = .ok (.aload_n 2, 1) := by decide +kernel
theorem dL_areRights_174 : decode cL_areRights 174 = .ok (.aload_n 3, 1) := by decide +kernel
theorem dL_areRights_175 : decode cL_areRights 175 = .ok (.iload 5, 2) := by decide +kernel
theorem dL_areRights_177 : decode cL_areRights 177 = .ok (.iload 9, 2) := by decide +kernel
theorem dL_areRights_179 : decode cL_areRights 179 = .ok (.iload 10, 2) := by decide +kernel
theorem dL_areRights_181 : decode cL_areRights 181 = .ok (.invokestatic 192, 3) := by decide +kernel
theorem dL_areRights_184 : decode cL_areRights 184 = .ok (.istore 11, 2) := by decide +kernel
theorem dL_areRights_186 : decode cL_areRights 186 = .ok (.aload_n 1, 1) := by decide +kernel
theorem dL_areRights_187 : decode cL_areRights 187 = .ok (.aload_n 2, 1) := by decide +kernel
theorem dL_areRights_188 : decode cL_areRights 188 = .ok (.aload_n 3, 1) := by decide +kernel
theorem dL_areRights_189 : decode cL_areRights 189 = .ok (.iload 5, 2) := by decide +kernel
theorem dL_areRights_191 : decode cL_areRights 191 = .ok (.iload 9, 2) := by decide +kernel
theorem dL_areRights_193 : decode cL_areRights 193 = .ok (.iload 10, 2) := by decide +kernel
theorem dL_areRights_195 : decode cL_areRights 195 = .ok (.invokestatic 188, 3) := by decide +kernel
theorem dL_areRights_198 : decode cL_areRights 198 = .ok (.istore 12, 2) := by decide +kernel
theorem dL_areRights_200 : decode cL_areRights 200 = .ok (.iload 12, 2) := by decide +kernel
theorem dL_areRights_202 : decode cL_areRights 202 = .ok (.ifCond .lt 17, 3) := by decide +kernel
theorem dL_areRights_205 : decode cL_areRights 205 = .ok (.aload_n 3, 1) := by decide +kernel
theorem dL_areRights_206 : decode cL_areRights 206 = .ok (.iload 12, 2) := by decide +kernel
theorem dL_areRights_208 : decode cL_areRights 208 = .ok (.iaload, 1) := by decide +kernel
theorem dL_areRights_209 : decode cL_areRights 209 = .ok (.iconst 2, 1) := by decide +kernel
theorem dL_areRights_210 : decode cL_areRights 210 = .ok (.iand, 1) := by decide +kernel
theorem dL_areRights_211 : decode cL_areRights 211 = .ok (.iconst 2, 1) := by decide +kernel
theorem dL_areRights_212 : decode cL_areRights 212 = .ok (.if_icmp .ne 7, 3) := by decide +kernel
theorem dL_areRights_215 : decode cL_areRights 215 = .ok (.iconst 1, 1) := by decide +kernel
theorem dL_areRights_216 : decode cL_areRights 216 = .ok (.goto 4, 3) := by decide +kernel
theorem dL_areRights_219 : decode cL_areRights 219 = .ok (.iconst 0, 1) := by decide +kernel
theorem dL_areRights_220 : decode cL_areRights 220 = .ok (.istore 13, 2) := by decide +kernel
theorem dL_areRights_222 : decode cL_areRights 222 = .ok (.iload 8, 2) := by decide +kernel
theorem dL_areRights_224 : decode cL_areRights 224 = .ok (.iload 11, 2) := by decide +kernel
theorem dL_areRights_226 : decode cL_areRights 226 = .ok (.ifCond .eq 27, 3) := by decide +kernel
theorem dL_areRights_229 : decode cL_areRights 229 = .ok (.iload 13, 2) := by decide +kernel
theorem dL_areRights_231 : decode cL_areRights 231 = .ok (.ifCond .eq 22, 3) := by decide +kernel
theorem dL_areRights_234 : decode cL_areRights 234 = .ok (.aload_n 3, 1) := by decide +kernel
theorem dL_areRights_235 : decode cL_areRights 235 = .ok (.iload 12, 2) := by decide +kernel
theorem dL_areRights_237 : decode cL_areRights 237 = .ok (.iaload, 1) := by decide +kernel
theorem dL_areRights_238 : decode cL_areRights 238 = .ok (.bipush 6, 2) := by decide +kernel
theorem dL_areRights_240 : decode cL_areRights 240 = .ok (.ishr, 1) := by decide +kernel
theorem dL_areRights_241 : decode cL_areRights 241 = .ok (.bipush 16, 2) := by decide +kernel
theorem dL_areRights_243 : decode cL_areRights 243 = .ok (.iload 6, 2) := by decide +kernel
theorem dL_areRights_245 : decode cL_areRights 245 = .ok (.iadd, 1) := by decide +kernel
theorem dL_areRights_246 : decode cL_areRights 246 = .ok (.if_icmp .ne 7, 3) := by decide +kernel
theorem dL_areRights_249 : decode cL_areRights 249 = .ok (.iconst 1, 1) := by decide +kernel
theorem dL_areRights_250 : decode cL_areRights 250 = .ok (.goto 4, 3) := by decide +kernel
theorem dL_areRights_253 : decode cL_areRights 253 = .ok (.iconst 0, 1) := by decide +kernel
theorem dL_areRights_254 : decode cL_areRights 254 = .ok (.iadd, 1) := by decide +kernel
theorem dL_areRights_255 : decode cL_areRights 255 = .ok (.istore 8, 2) := by decide +kernel
theorem dL_areRights_257 : decode cL_areRights 257 = .ok (.aload_n 0, 1) := by decide +kernel
theorem dL_areRights_258 : decode cL_areRights 258 = .ok (.iload 5, 2) := by decide +kernel
theorem dL_areRights_260 : decode cL_areRights 260 = .ok (.iload 9, 2) := by decide +kernel
theorem dL_areRights_262 : decode cL_areRights 262 = .ok (.iload 10, 2) := by decide +kernel
theorem dL_areRights_264 : decode cL_areRights 264 = .ok (.invokestatic 268, 3) := by decide +kernel
theorem dL_areRights_267 : decode cL_areRights 267 = .ok (.iload 11, 2) := by decide +kernel
theorem dL_areRights_269 : decode cL_areRights 269 = .ok (.ifCond .eq 7, 3) := by decide +kernel
theorem dL_areRights_272 : decode cL_areRights 272 = .ok (.iconst 1, 1) := by decide +kernel
theorem dL_areRights_273 : decode cL_areRights 273 = .ok (.goto 4, 3) := by decide +kernel
theorem dL_areRights_276 : decode cL_areRights 276 = .ok (.iconst 0, 1) := by decide +kernel
theorem dL_areRights_277 : decode cL_areRights 277 = .ok (.if_icmp .ne 112, 3) := by decide +kernel
theorem dL_areRights_280 : decode cL_areRights 280 = .ok (.aload_n 0, 1) := by decide +kernel
theorem dL_areRights_281 : decode cL_areRights 281 = .ok (.iload 5, 2) := by decide +kernel
theorem dL_areRights_283 : decode cL_areRights 283 = .ok (.iload 9, 2) := by decide +kernel
theorem dL_areRights_285 : decode cL_areRights 285 = .ok (.iload 10, 2) := by decide +kernel
theorem dL_areRights_287 : decode cL_areRights 287 = .ok (.invokestatic 281, 3) := by decide +kernel
theorem dL_areRights_290 : decode cL_areRights 290 = .ok (.iload 11, 2) := by decide +kernel
theorem dL_areRights_292 : decode cL_areRights 292 = .ok (.ifCond .eq 7, 3) := by decide +kernel
theorem dL_areRights_295 : decode cL_areRights 295 = .ok (.iconst 1, 1) := by decide +kernel
theorem dL_areRights_296 : decode cL_areRights 296 = .ok (.goto 4, 3) := by decide +kernel
theorem dL_areRights_299 : decode cL_areRights 299 = .ok (.iconst 0, 1) := by decide +kernel
theorem dL_areRights_300 : decode cL_areRights 300 = .ok (.if_icmp .ne 89, 3) := by decide +kernel
theorem dL_areRights_303 : decode cL_areRights 303 = .ok (.aload_n 0, 1) := by decide +kernel
theorem dL_areRights_304 : decode cL_areRights 304 = .ok (.iload 5, 2) := by decide +kernel
theorem dL_areRights_306 : decode cL_areRights 306 = .ok (.iload 9, 2) := by decide +kernel
theorem dL_areRights_308 : decode cL_areRights 308 = .ok (.iload 10, 2) := by decide +kernel
theorem dL_areRights_310 : decode cL_areRights 310 = .ok (.invokestatic 272, 3) := by decide +kernel
theorem dL_areRights_313 : decode cL_areRights 313 = .ok (.iload 12, 2) := by decide +kernel
theorem dL_areRights_315 : decode cL_areRights 315 = .ok (.ifCond .ge 7, 3) := by decide +kernel
theorem dL_areRights_318 : decode cL_areRights 318 = .ok (.iconst (-1), 1) := by decide +kernel
theorem dL_areRights_319 : decode cL_areRights 319 = .ok (.goto 8, 3) := by decide +kernel
theorem dL_areRights_322 : decode cL_areRights 322 = .ok (.iload 12, 2) := by decide +kernel
theorem dL_areRights_324 : decode cL_areRights 324 = .ok (.bipush 6, 2) := by decide +kernel
theorem dL_areRights_326 : decode cL_areRights 326 = .ok (.idiv, 1) := by decide +kernel
theorem dL_areRights_327 : decode cL_areRights 327 = .ok (.if_icmp .ne 62, 3) := by decide +kernel
theorem dL_areRights_330 : decode cL_areRights 330 = .ok (.aload_n 0, 1) := by decide +kernel
theorem dL_areRights_331 : decode cL_areRights 331 = .ok (.iload 5, 2) := by decide +kernel
theorem dL_areRights_333 : decode cL_areRights 333 = .ok (.iload 9, 2) := by decide +kernel
theorem dL_areRights_335 : decode cL_areRights 335 = .ok (.iload 10, 2) := by decide +kernel
theorem dL_areRights_337 : decode cL_areRights 337 = .ok (.invokestatic 284, 3) := by decide +kernel
theorem dL_areRights_340 : decode cL_areRights 340 = .ok (.iload 12, 2) := by decide +kernel
theorem dL_areRights_342 : decode cL_areRights 342 = .ok (.ifCond .ge 7, 3) := by decide +kernel
theorem dL_areRights_345 : decode cL_areRights 345 = .ok (.iconst (-1), 1) := by decide +kernel
theorem dL_areRights_346 : decode cL_areRights 346 = .ok (.goto 8, 3) := by decide +kernel
theorem dL_areRights_349 : decode cL_areRights 349 = .ok (.iload 12, 2) := by decide +kernel
theorem dL_areRights_351 : decode cL_areRights 351 = .ok (.bipush 6, 2) := by decide +kernel
theorem dL_areRights_353 : decode cL_areRights 353 = .ok (.irem, 1) := by decide +kernel
theorem dL_areRights_354 : decode cL_areRights 354 = .ok (.if_icmp .ne 35, 3) := by decide +kernel
theorem dL_areRights_357 : decode cL_areRights 357 = .ok (.aload_n 0, 1) := by decide +kernel
theorem dL_areRights_358 : decode cL_areRights 358 = .ok (.iload 5, 2) := by decide +kernel
theorem dL_areRights_360 : decode cL_areRights 360 = .ok (.iload 9, 2) := by decide +kernel
theorem dL_areRights_362 : decode cL_areRights 362 = .ok (.iload 10, 2) := by decide +kernel
theorem dL_areRights_364 : decode cL_areRights 364 = .ok (.invokestatic 287, 3) := by decide +kernel
theorem dL_areRights_367 : decode cL_areRights 367 = .ok (.iload 11, 2) := by decide +kernel
theorem dL_areRights_369 : decode cL_areRights 369 = .ok (.ifCond .ne 12, 3) := by decide +kernel
theorem dL_areRights_372 : decode cL_areRights 372 = .ok (.iload 13, 2) := by decide +kernel
theorem dL_areRights_374 : decode cL_areRights 374 = .ok (.ifCond .eq 7, 3) := by decide +kernel
theorem dL_areRights_377 : decode cL_areRights 377 = .ok (.iconst 1, 1) := by decide +kernel
theorem dL_areRights_378 : decode cL_areRights 378 = .ok (.goto 4, 3) := by decide +kernel
theorem dL_areRights_381 : decode cL_areRights 381 = .ok (.iconst 0, 1) := by decide +kernel
theorem dL_areRights_382 : decode cL_areRights 382 = .ok (.if_icmp .ne 7, 3) := by decide +kernel
theorem dL_areRights_385 : decode cL_areRights 385 = .ok (.iconst 1, 1) := by decide +kernel
theorem dL_areRights_386 : decode cL_areRights 386 = .ok (.goto 4, 3) := by decide +kernel
theorem dL_areRights_389 : decode cL_areRights 389 = .ok (.iconst 0, 1) := by decide +kernel
theorem dL_areRights_390 : decode cL_areRights 390 = .ok (.istore 7, 2) := by decide +kernel
theorem dL_areRights_392 : decode cL_areRights 392 = .ok (.iinc 10 1, 3) := by decide +kernel
theorem dL_areRights_395 : decode cL_areRights 395 = .ok (.goto (-243), 3) := by decide +kernel
theorem dL_areRights_398 : decode cL_areRights 398 = .ok (.iinc 9 1, 3) := by decide +kernel
theorem dL_areRights_401 : decode cL_areRights 401 = .ok (.goto (-324), 3) := by decide +kernel
theorem dL_areRights_404 : decode cL_areRights 404 = .ok (.iload 7, 2) := by decide +kernel
theorem dL_areRights_406 : decode cL_areRights 406 = .ok (.ifCond .eq 34, 3) := by decide +kernel
theorem dL_areRights_409 : decode cL_areRights 409 = .ok (.aload_n 0, 1) := by decide +kernel
theorem dL_areRights_410 : decode cL_areRights 410 = .ok (.iload 5, 2) := by decide +kernel
theorem dL_areRights_412 : decode cL_areRights 412 = .ok (.iload 6, 2) := by decide +kernel
theorem dL_areRights_414 : decode cL_areRights 414 = .ok (.invokestatic 290, 3) := by decide +kernel
theorem dL_areRights_417 : decode cL_areRights 417 = .ok (.iload 6, 2) := by decide +kernel
theorem dL_areRights_419 : decode cL_areRights 419 = .ok (.aload 4, 2) := by decide +kernel
theorem dL_areRights_421 : decode cL_areRights 421 = .ok (.iconst 1, 1) := by decide +kernel
theorem dL_areRights_422 : decode cL_areRights 422 = .ok (.iaload, 1) := by decide +kernel
theorem dL_areRights_423 : decode cL_areRights 423 = .ok (.if_icmp .ge 8, 3) := by decide +kernel
theorem dL_areRights_426 : decode cL_areRights 426 = .ok (.iload 8, 2) := by decide +kernel
theorem dL_areRights_428 : decode cL_areRights 428 = .ok (.goto 5, 3) := by decide +kernel
theorem dL_areRights_431 : decode cL_areRights 431 = .ok (.bipush (-101), 2) := by decide +kernel
theorem dL_areRights_433 : decode cL_areRights 433 = .ok (.if_icmp .ne 7, 3) := by decide +kernel
theorem dL_areRights_436 : decode cL_areRights 436 = .ok (.iconst 1, 1) := by decide +kernel
theorem dL_areRights_437 : decode cL_areRights 437 = .ok (.goto 4, 3) := by decide +kernel
theorem dL_areRights_440 : decode cL_areRights 440 = .ok (.iconst 0, 1) := by decide +kernel
theorem dL_areRights_441 : decode cL_areRights 441 = .ok (.ireturn, 1) := by decide +kernel
theorem dL_areSums_0 : decode cL_areSums 0 = .ok (.bipush 12, 2) := by decide +kernel
theorem dL_areSums_2 : decode cL_areSums 2 = .ok (.newarray .long, 2) := by decide +kernel
theorem dL_areSums_4 : decode cL_areSums 4 = .ok (.astore 6, 2) := by decide +kernel
theorem dL_areSums_6 : decode cL_areSums 6 = .ok (.aload_n 1, 1) := by decide +kernel
theorem dL_areSums_7 : decode cL_areSums 7 = .ok (.aload_n 2, 1) := by decide +kernel
theorem dL_areSums_8 : decode cL_areSums 8 = .ok (.aload_n 3, 1) := by decide +kernel
theorem dL_areSums_9 : decode cL_areSums 9 = .ok (.aload 4, 2) := by decide +kernel
theorem dL_areSums_11 : decode cL_areSums 11 = .ok (.aload 6, 2) := by decide +kernel
theorem dL_areSums_13 : decode cL_areSums 13 = .ok (.invokestatic 293, 3) := by decide +kernel
theorem dL_areSums_16 : decode cL_areSums 16 = .ok (.iconst 0, 1) := by decide +kernel
theorem dL_areSums_17 : decode cL_areSums 17 = .ok (.istore 7, 2) := by decide +kernel
theorem dL_areSums_19 : decode cL_areSums 19 = .ok (.iconst 4, 1) := by decide +kernel
theorem dL_areSums_20 : decode cL_areSums 20 = .ok (.newarray .int, 2) := by decide +kernel
theorem dL_areSums_22 : decode cL_areSums 22 = .ok (.astore 8, 2) := by decide +kernel
theorem dL_areSums_24 : decode cL_areSums 24 = .ok (.iconst 0, 1) := by decide +kernel
theorem dL_areSums_25 : decode cL_areSums 25 = .ok (.istore 9, 2) := by decide +kernel
theorem dL_areSums_27 : decode cL_areSums 27 = .ok (.iload 9, 2) := by decide +kernel
theorem dL_areSums_29 : decode cL_areSums 29 = .ok (.aload 4, 2) := by decide +kernel
theorem dL_areSums_31 : decode cL_areSums 31 = .ok (.iconst 0, 1) := by decide +kernel
theorem dL_areSums_32 : decode cL_areSums 32 = .ok (.iaload, 1) := by decide +kernel
theorem dL_areSums_33 : decode cL_areSums 33 = .ok (.if_icmp .ge 92, 3) := by decide +kernel
theorem dL_areSums_36 : decode cL_areSums 36 = .ok (.iconst 0, 1) := by decide +kernel
theorem dL_areSums_37 : decode cL_areSums 37 = .ok (.istore 10, 2) := by decide +kernel
theorem dL_areSums_39 : decode cL_areSums 39 = .ok (.iload 10, 2) := by decide +kernel
theorem dL_areSums_41 : decode cL_areSums 41 = .ok (.bipush 10, 2) := by decide +kernel
theorem dL_areSums_43 : decode cL_areSums 43 = .ok (.if_icmp .ge 76, 3) := by decide +kernel
theorem dL_areSums_46 : decode cL_areSums 46 = .ok (.aload 6, 2) := by decide +kernel
theorem dL_areSums_48 : decode cL_areSums 48 = .ok (.iload 9, 2) := by decide +kernel
theorem dL_areSums_50 : decode cL_areSums 50 = .ok (.laload, 1) := by decide +kernel
theorem dL_areSums_51 : decode cL_areSums 51 = .ok (.bipush 36, 2) := by decide +kernel
theorem dL_areSums_53 : decode cL_areSums 53 = .ok (.iconst 4, 1) := by decide +kernel
theorem dL_areSums_54 : decode cL_areSums 54 = .ok (.iload 10, 2) := by decide +kernel
theorem dL_areSums_56 : decode cL_areSums 56 = .ok (.imul, 1) := by decide +kernel
theorem dL_areSums_57 : decode cL_areSums 57 = .ok (.isub, 1) := by decide +kernel
theorem dL_areSums_58 : decode cL_areSums 58 = .ok (.lshr, 1) := by decide +kernel
theorem dL_areSums_59 : decode cL_areSums 59 = .ok (.ldc2_w 297, 3) := by decide +kernel
theorem dL_areSums_62 : decode cL_areSums 62 = .ok (.land, 1) := by decide +kernel
theorem dL_areSums_63 : decode cL_areSums 63 = .ok (.l2i, 1) := by decide +kernel
theorem dL_areSums_64 : decode cL_areSums 64 = .ok (.istore 11, 2) := by decide +kernel
theorem dL_areSums_66 : decode cL_areSums 66 = .ok (.iload 7, 2) := by decide +kernel
theorem dL_areSums_68 : decode cL_areSums 68 = .ok (.iload 11, 2) := by decide +kernel
theorem dL_areSums_70 : decode cL_areSums 70 = .ok (.invokestatic 299, 3) := by decide +kernel
theorem dL_areSums_73 : decode cL_areSums 73 = .ok (.iadd, 1) := by decide +kernel
theorem dL_areSums_74 : decode cL_areSums 74 = .ok (.istore 7, 2) := by decide +kernel
theorem dL_areSums_76 : decode cL_areSums 76 = .ok (.iconst 0, 1) := by decide +kernel
theorem dL_areSums_77 : decode cL_areSums 77 = .ok (.istore 12, 2) := by decide +kernel
theorem dL_areSums_79 : decode cL_areSums 79 = .ok (.iload 12, 2) := by decide +kernel
theorem dL_areSums_81 : decode cL_areSums 81 = .ok (.iconst 4, 1) := by decide +kernel
theorem dL_areSums_82 : decode cL_areSums 82 = .ok (.if_icmp .ge 31, 3) := by decide +kernel
theorem dL_areSums_85 : decode cL_areSums 85 = .ok (.iload 10, 2) := by decide +kernel
theorem dL_areSums_87 : decode cL_areSums 87 = .ok (.iload 5, 2) := by decide +kernel
theorem dL_areSums_89 : decode cL_areSums 89 = .ok (.if_icmp .ne 24, 3) := by decide +kernel
theorem dL_areSums_92 : decode cL_areSums 92 = .ok (.aload 8, 2) := by decide +kernel
theorem dL_areSums_94 : decode cL_areSums 94 = .ok (.iload 12, 2) := by decide +kernel
theorem dL_areSums_96 : decode cL_areSums 96 = .ok (.dup2, 1) := by decide +kernel
theorem dL_areSums_97 : decode cL_areSums 97 = .ok (.iaload, 1) := by decide +kernel
theorem dL_areSums_98 : decode cL_areSums 98 = .ok (.iload 11, 2) := by decide +kernel
theorem dL_areSums_100 : decode cL_areSums 100 = .ok (.iload 12, 2) := by decide +kernel
theorem dL_areSums_102 : decode cL_areSums 102 = .ok (.ishr, 1) := by decide +kernel
theorem dL_areSums_103 : decode cL_areSums 103 = .ok (.iconst 1, 1) := by decide +kernel
theorem dL_areSums_104 : decode cL_areSums 104 = .ok (.iand, 1) := by decide +kernel
theorem dL_areSums_105 : decode cL_areSums 105 = .ok (.iadd, 1) := by decide +kernel
theorem dL_areSums_106 : decode cL_areSums 106 = .ok (.iastore, 1) := by decide +kernel
theorem dL_areSums_107 : decode cL_areSums 107 = .ok (.iinc 12 1, 3) := by decide +kernel
theorem dL_areSums_110 : decode cL_areSums 110 = .ok (.goto (-31), 3) := by decide +kernel
theorem dL_areSums_113 : decode cL_areSums 113 = .ok (.iinc 10 1, 3) := by decide +kernel
theorem dL_areSums_116 : decode cL_areSums 116 = .ok (.goto (-77), 3) := by decide +kernel
theorem dL_areSums_119 : decode cL_areSums 119 = .ok (.iinc 9 1, 3) := by decide +kernel
theorem dL_areSums_122 : decode cL_areSums 122 = .ok (.goto (-95), 3) := by decide +kernel
theorem dL_areSums_125 : decode cL_areSums 125 = .ok (.aload_n 0, 1) := by decide +kernel
theorem dL_areSums_126 : decode cL_areSums 126 = .ok (.invokevirtual 302, 3) := by decide +kernel
theorem dL_areSums_129 : decode cL_areSums 129 = .ok (.iload 7, 2) := by decide +kernel
theorem dL_areSums_131 : decode cL_areSums 131 = .ok (.if_icmp .ne 31, 3) := by decide +kernel
theorem dL_areSums_134 : decode cL_areSums 134 = .ok (.aload_n 0, 1) := by decide +kernel
theorem dL_areSums_135 : decode cL_areSums 135 = .ok (.invokevirtual 305, 3) := by decide +kernel
theorem dL_areSums_138 : decode cL_areSums 138 = .ok (.iload 7, 2) := by decide +kernel
theorem dL_areSums_140 : decode cL_areSums 140 = .ok (.i2d, 1) := by decide +kernel
theorem dL_areSums_141 : decode cL_areSums 141 = .ok (.iconst 4, 1) := by decide +kernel
theorem dL_areSums_142 : decode cL_areSums 142 = .ok (.aload 4, 2) := by decide +kernel
theorem dL_areSums_144 : decode cL_areSums 144 = .ok (.iconst 0, 1) := by decide +kernel
theorem dL_areSums_145 : decode cL_areSums 145 = .ok (.iaload, 1) := by decide +kernel
theorem dL_areSums_146 : decode cL_areSums 146 = .ok (.imul, 1) := by decide +kernel
theorem dL_areSums_147 : decode cL_areSums 147 = .ok (.aload 4, 2) := by decide +kernel
theorem dL_areSums_149 : decode cL_areSums 149 = .ok (.iconst 2, 1) := by decide +kernel
theorem dL_areSums_150 : decode cL_areSums 150 = .ok (.iaload, 1) := by decide +kernel
theorem dL_areSums_151 : decode cL_areSums 151 = .ok (.imul, 1) := by decide +kernel
theorem dL_areSums_152 : decode cL_areSums 152 = .ok (.i2d, 1) := by decide +kernel
theorem dL_areSums_153 : decode cL_areSums 153 = .ok (.ddiv, 1) := by decide +kernel
theorem dL_areSums_154 : decode cL_areSums 154 = .ok (.dcmp .l, 1) := by decide +kernel
theorem dL_areSums_155 : decode cL_areSums 155 = .ok (.ifCond .ne 7, 3) := by decide +kernel
theorem dL_areSums_158 : decode cL_areSums 158 = .ok (.iconst 1, 1) := by decide +kernel
theorem dL_areSums_159 : decode cL_areSums 159 = .ok (.goto 4, 3) := by decide +kernel
theorem dL_areSums_162 : decode cL_areSums 162 = .ok (.iconst 0, 1) := by decide +kernel
theorem dL_areSums_163 : decode cL_areSums 163 = .ok (.istore 9, 2) := by decide +kernel
theorem dL_areSums_165 : decode cL_areSums 165 = .ok (.iconst 0, 1) := by decide +kernel
theorem dL_areSums_166 : decode cL_areSums 166 = .ok (.istore 10, 2) := by decide +kernel
theorem dL_areSums_168 : decode cL_areSums 168 = .ok (.iload 10, 2) := by decide +kernel
theorem dL_areSums_170 : decode cL_areSums 170 = .ok (.iconst 4, 1) := by decide +kernel
theorem dL_areSums_171 : decode cL_areSums 171 = .ok (.if_icmp .ge 51, 3) := by decide +kernel
theorem dL_areSums_174 : decode cL_areSums 174 = .ok (.iload 9, 2) := by decide +kernel
theorem dL_areSums_176 : decode cL_areSums 176 = .ok (.ifCond .eq 37, 3) := by decide +kernel
theorem dL_areSums_179 : decode cL_areSums 179 = .ok (.aload_n 0, 1) := by decide +kernel
theorem dL_areSums_180 : decode cL_areSums 180 = .ok (.iload 5, 2) := by decide +kernel
theorem dL_areSums_182 : decode cL_areSums 182 = .ok (.iload 10, 2) := by decide +kernel
theorem dL_areSums_184 : decode cL_areSums 184 = .ok (.invokestatic 275, 3) := by decide +kernel
theorem dL_areSums_187 : decode cL_areSums 187 = .ok (.aload_n 2, 1) := by decide +kernel
theorem dL_areSums_188 : decode cL_areSums 188 = .ok (.iload 5, 2) := by decide +kernel
theorem dL_areSums_190 : decode cL_areSums 190 = .ok (.iaload, 1) := by decide +kernel
theorem dL_areSums_191 : decode cL_areSums 191 = .ok (.bipush (-2), 2) := by decide +kernel
theorem dL_areSums_193 : decode cL_areSums 193 = .ok (.if_icmp .ne 8, 3) := by decide +kernel
theorem dL_areSums_196 : decode cL_areSums 196 = .ok (.bipush (-101), 2) := by decide +kernel
theorem dL_areSums_198 : decode cL_areSums 198 = .ok (.goto 8, 3) := by decide +kernel
theorem dL_areSums_201 : decode cL_areSums 201 = .ok (.aload 8, 2) := by decide +kernel
theorem dL_areSums_203 : decode cL_areSums 203 = .ok (.iload 10, 2) := by decide +kernel
theorem dL_areSums_205 : decode cL_areSums 205 = .ok (.iaload, 1) := by decide +kernel
theorem dL_areSums_206 : decode cL_areSums 206 = .ok (.if_icmp .ne 7, 3) := by decide +kernel
theorem dL_areSums_209 : decode cL_areSums 209 = .ok (.iconst 1, 1) := by decide +kernel
theorem dL_areSums_210 : decode cL_areSums 210 = .ok (.goto 4, 3) := by decide +kernel
theorem dL_areSums_213 : decode cL_areSums 213 = .ok (.iconst 0, 1) := by decide +kernel
theorem dL_areSums_214 : decode cL_areSums 214 = .ok (.istore 9, 2) := by decide +kernel
theorem dL_areSums_216 : decode cL_areSums 216 = .ok (.iinc 10 1, 3) := by decide +kernel
theorem dL_areSums_219 : decode cL_areSums 219 = .ok (.goto (-51), 3) := by decide +kernel
theorem dL_areSums_222 : decode cL_areSums 222 = .ok (.iload 9, 2) := by decide +kernel
theorem dL_areSums_224 : decode cL_areSums 224 = .ok (.ireturn, 1) := by decide +kernel
theorem dL_isNeedless_0 : decode cL_isNeedless 0 = .ok (.aload_n 2, 1) := by decide +kernel
theorem dL_isNeedless_1 : decode cL_isNeedless 1 = .ok (.iload 5, 2) := by decide +kernel
theorem dL_isNeedless_3 : decode cL_isNeedless 3 = .ok (.iaload, 1) := by decide +kernel
theorem dL_isNeedless_4 : decode cL_isNeedless 4 = .ok (.bipush (-2), 2) := by decide +kernel
theorem dL_isNeedless_6 : decode cL_isNeedless 6 = .ok (.if_icmp .eq 15, 3) := by decide +kernel
theorem dL_isNeedless_9 : decode cL_isNeedless 9 = .ok (.iload 6, 2) := by decide +kernel
theorem dL_isNeedless_11 : decode cL_isNeedless 11 = .ok (.aload_n 2, 1) := by decide +kernel
theorem dL_isNeedless_12 : decode cL_isNeedless 12 = .ok (.bipush 40, 2) := by decide +kernel
theorem dL_isNeedless_14 : decode cL_isNeedless 14 = .ok (.iload 5, 2) := by decide +kernel
theorem dL_isNeedless_16 : decode cL_isNeedless 16 = .ok (.iadd, 1) := by decide +kernel
theorem dL_isNeedless_17 : decode cL_isNeedless 17 = .ok (.iaload, 1) := by decide +kernel
theorem dL_isNeedless_18 : decode cL_isNeedless 18 = .ok (.if_icmp .lt 22, 3) := by decide +kernel
theorem dL_isNeedless_21 : decode cL_isNeedless 21 = .ok (.aload_n 0, 1) := by decide +kernel
theorem dL_isNeedless_22 : decode cL_isNeedless 22 = .ok (.iload 5, 2) := by decide +kernel
theorem dL_isNeedless_24 : decode cL_isNeedless 24 = .ok (.iload 6, 2) := by decide +kernel
theorem dL_isNeedless_26 : decode cL_isNeedless 26 = .ok (.invokestatic 309, 3) := by decide +kernel
theorem dL_isNeedless_29 : decode cL_isNeedless 29 = .ok (.bipush (-101), 2) := by decide +kernel
theorem dL_isNeedless_31 : decode cL_isNeedless 31 = .ok (.if_icmp .ne 7, 3) := by decide +kernel
theorem dL_isNeedless_34 : decode cL_isNeedless 34 = .ok (.iconst 1, 1) := by decide +kernel
theorem dL_isNeedless_35 : decode cL_isNeedless 35 = .ok (.goto 4, 3) := by decide +kernel
theorem dL_isNeedless_38 : decode cL_isNeedless 38 = .ok (.iconst 0, 1) := by decide +kernel
theorem dL_isNeedless_39 : decode cL_isNeedless 39 = .ok (.ireturn, 1) := by decide +kernel
theorem dL_isNeedless_40 : decode cL_isNeedless 40 = .ok (.bipush 12, 2) := by decide +kernel
theorem dL_isNeedless_42 : decode cL_isNeedless 42 = .ok (.newarray .long, 2) := by decide +kernel
theorem dL_isNeedless_44 : decode cL_isNeedless 44 = .ok (.astore 7, 2) := by decide +kernel
theorem dL_isNeedless_46 : decode cL_isNeedless 46 = .ok (.bipush 12, 2) := by decide +kernel
theorem dL_isNeedless_48 : decode cL_isNeedless 48 = .ok (.newarray .long, 2) := by decide +kernel
theorem dL_isNeedless_50 : decode cL_isNeedless 50 = .ok (.astore 8, 2) := by decide +kernel
theorem dL_isNeedless_52 : decode cL_isNeedless 52 = .ok (.aload_n 1, 1) := by decide +kernel
theorem dL_isNeedless_53 : decode cL_isNeedless 53 = .ok (.aload_n 2, 1) := by decide +kernel
theorem dL_isNeedless_54 : decode cL_isNeedless 54 = .ok (.aload_n 3, 1) := by decide +kernel
theorem dL_isNeedless_55 : decode cL_isNeedless 55 = .ok (.aload 4, 2) := by decide +kernel
theorem dL_isNeedless_57 : decode cL_isNeedless 57 = .ok (.aload 7, 2) := by decide +kernel
theorem dL_isNeedless_59 : decode cL_isNeedless 59 = .ok (.invokestatic 293, 3) := by decide +kernel
theorem dL_isNeedless_62 : decode cL_isNeedless 62 = .ok (.aload_n 3, 1) := by decide +kernel
theorem dL_isNeedless_63 : decode cL_isNeedless 63 = .ok (.bipush 6, 2) := by decide +kernel
theorem dL_isNeedless_65 : decode cL_isNeedless 65 = .ok (.iload 5, 2) := by decide +kernel
theorem dL_isNeedless_67 : decode cL_isNeedless 67 = .ok (.imul, 1) := by decide +kernel
theorem dL_isNeedless_68 : decode cL_isNeedless 68 = .ok (.iload 6, 2) := by decide +kernel
theorem dL_isNeedless_70 : decode cL_isNeedless 70 = .ok (.iadd, 1) := by decide +kernel
theorem dL_isNeedless_71 : decode cL_isNeedless 71 = .ok (.iaload, 1) := by decide +kernel
theorem dL_isNeedless_72 : decode cL_isNeedless 72 = .ok (.istore 9, 2) := by decide +kernel
theorem dL_isNeedless_74 : decode cL_isNeedless 74 = .ok (.aload_n 3, 1) := by decide +kernel
theorem dL_isNeedless_75 : decode cL_isNeedless 75 = .ok (.bipush 6, 2) := by decide +kernel
theorem dL_isNeedless_77 : decode cL_isNeedless 77 = .ok (.iload 5, 2) := by decide +kernel
theorem dL_isNeedless_79 : decode cL_isNeedless 79 = .ok (.imul, 1) := by decide +kernel
theorem dL_isNeedless_80 : decode cL_isNeedless 80 = .ok (.iload 6, 2) := by decide +kernel
theorem dL_isNeedless_82 : decode cL_isNeedless 82 = .ok (.iadd, 1) := by decide +kernel
theorem dL_isNeedless_83 : decode cL_isNeedless 83 = .ok (.sipush 3072, 3) := by decide +kernel
theorem dL_isNeedless_86 : decode cL_isNeedless 86 = .ok (.iastore, 1) := by decide +kernel
theorem dL_isNeedless_87 : decode cL_isNeedless 87 = .ok (.aload_n 1, 1) := by decide +kernel
theorem dL_isNeedless_88 : decode cL_isNeedless 88 = .ok (.aload_n 2, 1) := by decide +kernel
theorem dL_isNeedless_89 : decode cL_isNeedless 89 = .ok (.aload_n 3, 1) := by decide +kernel
theorem dL_isNeedless_90 : decode cL_isNeedless 90 = .ok (.aload 4, 2) := by decide +kernel
theorem dL_isNeedless_92 : decode cL_isNeedless 92 = .ok (.aload 8, 2) := by decide +kernel
theorem dL_isNeedless_94 : decode cL_isNeedless 94 = .ok (.invokestatic 293, 3) := by decide +kernel
theorem dL_isNeedless_97 : decode cL_isNeedless 97 = .ok (.aload_n 3, 1) := by decide +kernel
theorem dL_isNeedless_98 : decode cL_isNeedless 98 = .ok (.bipush 6, 2) := by decide +kernel
theorem dL_isNeedless_100 : decode cL_isNeedless 100 = .ok (.iload 5, 2) := by decide +kernel
theorem dL_isNeedless_102 : decode cL_isNeedless 102 = .ok (.imul, 1) := by decide +kernel
theorem dL_isNeedless_103 : decode cL_isNeedless 103 = .ok (.iload 6, 2) := by decide +kernel
theorem dL_isNeedless_105 : decode cL_isNeedless 105 = .ok (.iadd, 1) := by decide +kernel
theorem dL_isNeedless_106 : decode cL_isNeedless 106 = .ok (.iload 9, 2) := by decide +kernel
theorem dL_isNeedless_108 : decode cL_isNeedless 108 = .ok (.iastore, 1) := by decide +kernel
theorem dL_isNeedless_109 : decode cL_isNeedless 109 = .ok (.aload_n 0, 1) := by decide +kernel
theorem dL_isNeedless_110 : decode cL_isNeedless 110 = .ok (.iload 5, 2) := by decide +kernel
theorem dL_isNeedless_112 : decode cL_isNeedless 112 = .ok (.iload 6, 2) := by decide +kernel
theorem dL_isNeedless_114 : decode cL_isNeedless 114 = .ok (.invokestatic 309, 3) := by decide +kernel
theorem dL_isNeedless_117 : decode cL_isNeedless 117 = .ok (.aload 7, 2) := by decide +kernel
theorem dL_isNeedless_119 : decode cL_isNeedless 119 = .ok (.aload 8, 2) := by decide +kernel
theorem dL_isNeedless_121 : decode cL_isNeedless 121 = .ok (.invokestatic 312, 3) := by decide +kernel
theorem dL_isNeedless_124 : decode cL_isNeedless 124 = .ok (.ifCond .ne 7, 3) := by decide +kernel
theorem dL_isNeedless_127 : decode cL_isNeedless 127 = .ok (.iconst 1, 1) := by decide +kernel
theorem dL_isNeedless_128 : decode cL_isNeedless 128 = .ok (.goto 4, 3) := by decide +kernel
theorem dL_isNeedless_131 : decode cL_isNeedless 131 = .ok (.iconst 0, 1) := by decide +kernel
theorem dL_isNeedless_132 : decode cL_isNeedless 132 = .ok (.if_icmp .ne 7, 3) := by decide +kernel
theorem dL_isNeedless_135 : decode cL_isNeedless 135 = .ok (.iconst 1, 1) := by decide +kernel
theorem dL_isNeedless_136 : decode cL_isNeedless 136 = .ok (.goto 4, 3) := by decide +kernel
theorem dL_isNeedless_139 : decode cL_isNeedless 139 = .ok (.iconst 0, 1) := by decide +kernel
theorem dL_isNeedless_140 : decode cL_isNeedless 140 = .ok (.ireturn, 1) := by decide +kernel
theorem dL_isLog_0 : decode cL_isLog 0 = .ok (.aload_n 0, 1) := by decide +kernel
theorem dL_isLog_1 : decode cL_isLog 1 = .ok (.invokevirtual 316, 3) := by decide +kernel
theorem dL_isLog_4 : decode cL_isLog 4 = .ok (.aload_n 2, 1) := by decide +kernel
theorem dL_isLog_5 : decode cL_isLog 5 = .ok (.iconst 3, 1) := by decide +kernel
theorem dL_isLog_6 : decode cL_isLog 6 = .ok (.iaload, 1) := by decide +kernel
theorem dL_isLog_7 : decode cL_isLog 7 = .ok (.if_icmp .ne 27, 3) := by decide +kernel
theorem dL_isLog_10 : decode cL_isLog 10 = .ok (.aload_n 0, 1) := by decide +kernel
theorem dL_isLog_11 : decode cL_isLog 11 = .ok (.invokevirtual 319, 3) := by decide +kernel
theorem dL_isLog_14 : decode cL_isLog 14 = .ok (.aload_n 2, 1) := by decide +kernel
theorem dL_isLog_15 : decode cL_isLog 15 = .ok (.iconst 4, 1) := by decide +kernel
theorem dL_isLog_16 : decode cL_isLog 16 = .ok (.iaload, 1) := by decide +kernel
theorem dL_isLog_17 : decode cL_isLog 17 = .ok (.if_icmp .ne 17, 3) := by decide +kernel
theorem dL_isLog_20 : decode cL_isLog 20 = .ok (.aload_n 0, 1) := by decide +kernel
theorem dL_isLog_21 : decode cL_isLog 21 = .ok (.iconst (-1), 1) := by decide +kernel
theorem dL_isLog_22 : decode cL_isLog 22 = .ok (.invokestatic 322, 3) := by decide +kernel
theorem dL_isLog_25 : decode cL_isLog 25 = .ok (.bipush (-101), 2) := by decide +kernel
theorem dL_isLog_27 : decode cL_isLog 27 = .ok (.if_icmp .ne 7, 3) := by decide +kernel
theorem dL_isLog_30 : decode cL_isLog 30 = .ok (.iconst 1, 1) := by decide +kernel
theorem dL_isLog_31 : decode cL_isLog 31 = .ok (.goto 4, 3) := by decide +kernel
theorem dL_isLog_34 : decode cL_isLog 34 = .ok (.iconst 0, 1) := by decide +kernel
theorem dL_isLog_35 : decode cL_isLog 35 = .ok (.istore_n 3, 1) := by decide +kernel
theorem dL_isLog_36 : decode cL_isLog 36 = .ok (.iconst 0, 1) := by decide +kernel
theorem dL_isLog_37 : decode cL_isLog 37 = .ok (.istore 4, 2) := by decide +kernel
theorem dL_isLog_39 : decode cL_isLog 39 = .ok (.iload 4, 2) := by decide +kernel
theorem dL_isLog_41 : decode cL_isLog 41 = .ok (.bipush 9, 2) := by decide +kernel
theorem dL_isLog_43 : decode cL_isLog 43 = .ok (.if_icmp .ge 129, 3) := by decide +kernel
theorem dL_isLog_46 : decode cL_isLog 46 = .ok (.iload 4, 2) := by decide +kernel
theorem dL_isLog_48 : decode cL_isLog 48 = .ok (.bipush 8, 2) := by decide +kernel
theorem dL_isLog_50 : decode cL_isLog 50 = .ok (.if_icmp .ge 15, 3) := by decide +kernel
theorem dL_isLog_53 : decode cL_isLog 53 = .ok (.iload 4, 2) := by decide +kernel
theorem dL_isLog_55 : decode cL_isLog 55 = .ok (.aload_n 2, 1) := by decide +kernel
theorem dL_isLog_56 : decode cL_isLog 56 = .ok (.iconst 3, 1) := by decide +kernel
theorem dL_isLog_57 : decode cL_isLog 57 = .ok (.iaload, 1) := by decide +kernel
theorem dL_isLog_58 : decode cL_isLog 58 = .ok (.if_icmp .ge 7, 3) := by decide +kernel
theorem dL_isLog_61 : decode cL_isLog 61 = .ok (.iconst 1, 1) := by decide +kernel
theorem dL_isLog_62 : decode cL_isLog 62 = .ok (.goto 4, 3) := by decide +kernel
theorem dL_isLog_65 : decode cL_isLog 65 = .ok (.iconst 0, 1) := by decide +kernel
theorem dL_isLog_66 : decode cL_isLog 66 = .ok (.istore 5, 2) := by decide +kernel
theorem dL_isLog_68 : decode cL_isLog 68 = .ok (.iload 5, 2) := by decide +kernel
theorem dL_isLog_70 : decode cL_isLog 70 = .ok (.ifCond .eq 10, 3) := by decide +kernel
theorem dL_isLog_73 : decode cL_isLog 73 = .ok (.aload_n 1, 1) := by decide +kernel
theorem dL_isLog_74 : decode cL_isLog 74 = .ok (.iload 4, 2) := by decide +kernel
theorem dL_isLog_76 : decode cL_isLog 76 = .ok (.iaload, 1) := by decide +kernel
theorem dL_isLog_77 : decode cL_isLog 77 = .ok (.goto 4, 3) := by decide +kernel
theorem dL_isLog_80 : decode cL_isLog 80 = .ok (.iconst 0, 1) := by decide +kernel
theorem dL_isLog_81 : decode cL_isLog 81 = .ok (.istore 6, 2) := by decide +kernel
theorem dL_isLog_83 : decode cL_isLog 83 = .ok (.iload_n 3, 1) := by decide +kernel
theorem dL_isLog_84 : decode cL_isLog 84 = .ok (.ifCond .eq 80, 3) := by decide +kernel
theorem dL_isLog_87 : decode cL_isLog 87 = .ok (.aload_n 0, 1) := by decide +kernel
theorem dL_isLog_88 : decode cL_isLog 88 = .ok (.iload 4, 2) := by decide +kernel
theorem dL_isLog_90 : decode cL_isLog 90 = .ok (.invokestatic 322, 3) := by decide +kernel
theorem dL_isLog_93 : decode cL_isLog 93 = .ok (.iload 5, 2) := by decide +kernel
theorem dL_isLog_95 : decode cL_isLog 95 = .ok (.ifCond .eq 11, 3) := by decide +kernel
theorem dL_isLog_98 : decode cL_isLog 98 = .ok (.iload 6, 2) := by decide +kernel
theorem dL_isLog_100 : decode cL_isLog 100 = .ok (.bipush 100, 2) := by decide +kernel
theorem dL_isLog_102 : decode cL_isLog 102 = .ok (.idiv, 1) := by decide +kernel
theorem dL_isLog_103 : decode cL_isLog 103 = .ok (.goto 5, 3) := by decide +kernel
theorem dL_isLog_106 : decode cL_isLog 106 = .ok (.bipush (-101), 2) := by decide +kernel
theorem dL_isLog_108 : decode cL_isLog 108 = .ok (.if_icmp .ne 56, 3) := by decide +kernel
theorem dL_isLog_111 : decode cL_isLog 111 = .ok (.aload_n 0, 1) := by decide +kernel
theorem dL_isLog_112 : decode cL_isLog 112 = .ok (.iload 4, 2) := by decide +kernel
theorem dL_isLog_114 : decode cL_isLog 114 = .ok (.invokestatic 325, 3) := by decide +kernel
theorem dL_isLog_117 : decode cL_isLog 117 = .ok (.iload 5, 2) := by decide +kernel
theorem dL_isLog_119 : decode cL_isLog 119 = .ok (.ifCond .eq 13, 3) := by decide +kernel
theorem dL_isLog_122 : decode cL_isLog 122 = .ok (.iload 6, 2) := by decide +kernel
theorem dL_isLog_124 : decode cL_isLog 124 = .ok (.bipush 100, 2) := by decide +kernel
theorem dL_isLog_126 : decode cL_isLog 126 = .ok (.irem, 1) := by decide +kernel
theorem dL_isLog_127 : decode cL_isLog 127 = .ok (.iconst 2, 1) := by decide +kernel
theorem dL_isLog_128 : decode cL_isLog 128 = .ok (.idiv, 1) := by decide +kernel
theorem dL_isLog_129 : decode cL_isLog 129 = .ok (.goto 5, 3) := by decide +kernel
theorem dL_isLog_132 : decode cL_isLog 132 = .ok (.bipush (-101), 2) := by decide +kernel
theorem dL_isLog_134 : decode cL_isLog 134 = .ok (.if_icmp .ne 30, 3) := by decide +kernel
theorem dL_isLog_137 : decode cL_isLog 137 = .ok (.aload_n 0, 1) := by decide +kernel
theorem dL_isLog_138 : decode cL_isLog 138 = .ok (.iload 4, 2) := by decide +kernel
theorem dL_isLog_140 : decode cL_isLog 140 = .ok (.invokestatic 328, 3) := by decide +kernel
theorem dL_isLog_143 : decode cL_isLog 143 = .ok (.iload 5, 2) := by decide +kernel
theorem dL_isLog_145 : decode cL_isLog 145 = .ok (.ifCond .eq 10, 3) := by decide +kernel
theorem dL_isLog_148 : decode cL_isLog 148 = .ok (.iload 6, 2) := by decide +kernel
theorem dL_isLog_150 : decode cL_isLog 150 = .ok (.iconst 2, 1) := by decide +kernel
theorem dL_isLog_151 : decode cL_isLog 151 = .ok (.irem, 1) := by decide +kernel
theorem dL_isLog_152 : decode cL_isLog 152 = .ok (.goto 5, 3) := by decide +kernel
theorem dL_isLog_155 : decode cL_isLog 155 = .ok (.bipush (-101), 2) := by decide +kernel
theorem dL_isLog_157 : decode cL_isLog 157 = .ok (.if_icmp .ne 7, 3) := by decide +kernel
theorem dL_isLog_160 : decode cL_isLog 160 = .ok (.iconst 1, 1) := by decide +kernel
theorem dL_isLog_161 : decode cL_isLog 161 = .ok (.goto 4, 3) := by decide +kernel
theorem dL_isLog_164 : decode cL_isLog 164 = .ok (.iconst 0, 1) := by decide +kernel
theorem dL_isLog_165 : decode cL_isLog 165 = .ok (.istore_n 3, 1) := by decide +kernel
theorem dL_isLog_166 : decode cL_isLog 166 = .ok (.iinc 4 1, 3) := by decide +kernel
theorem dL_isLog_169 : decode cL_isLog 169 = .ok (.goto (-130), 3) := by decide +kernel
theorem dL_isLog_172 : decode cL_isLog 172 = .ok (.iload_n 3, 1) := by decide +kernel
theorem dL_isLog_173 : decode cL_isLog 173 = .ok (.ireturn, 1) := by decide +kernel
theorem dL_ofGroups_0 : decode cL_ofGroups 0 = .ok (.iload 4, 2) := by decide +kernel
theorem dL_ofGroups_2 : decode cL_ofGroups 2 = .ok (.bipush 12, 2) := by decide +kernel
theorem dL_ofGroups_4 : decode cL_ofGroups 4 = .ok (.irem, 1) := by decide +kernel
theorem dL_ofGroups_5 : decode cL_ofGroups 5 = .ok (.istore 5, 2) := by decide +kernel
theorem dL_ofGroups_7 : decode cL_ofGroups 7 = .ok (.iload 4, 2) := by decide +kernel
theorem dL_ofGroups_9 : decode cL_ofGroups 9 = .ok (.bipush 12, 2) := by decide +kernel
theorem dL_ofGroups_11 : decode cL_ofGroups 11 = .ok (.idiv, 1) := by decide +kernel
theorem dL_ofGroups_12 : decode cL_ofGroups 12 = .ok (.bipush 8, 2) := by decide +kernel
theorem dL_ofGroups_14 : decode cL_ofGroups 14 = .ok (.irem, 1) := by decide +kernel
theorem dL_ofGroups_15 : decode cL_ofGroups 15 = .ok (.istore 6, 2) := by decide +kernel
theorem dL_ofGroups_17 : decode cL_ofGroups 17 = .ok (.iload 4, 2) := by decide +kernel
theorem dL_ofGroups_19 : decode cL_ofGroups 19 = .ok (.bipush 96, 2) := by decide +kernel
theorem dL_ofGroups_21 : decode cL_ofGroups 21 = .ok (.idiv, 1) := by decide +kernel
theorem dL_ofGroups_22 : decode cL_ofGroups 22 = .ok (.bipush 8, 2) := by decide +kernel
theorem dL_ofGroups_24 : decode cL_ofGroups 24 = .ok (.irem, 1) := by decide +kernel
theorem dL_ofGroups_25 : decode cL_ofGroups 25 = .ok (.istore 7, 2) := by decide +kernel
theorem dL_ofGroups_27 : decode cL_ofGroups 27 = .ok (.iload_n 3, 1) := by decide +kernel
theorem dL_ofGroups_28 : decode cL_ofGroups 28 = .ok (.ifCond .ne 62, 3) := by decide +kernel
theorem dL_ofGroups_31 : decode cL_ofGroups 31 = .ok (.aload_n 2, 1) := by decide +kernel
theorem dL_ofGroups_32 : decode cL_ofGroups 32 = .ok (.iconst 0, 1) := by decide +kernel
theorem dL_ofGroups_33 : decode cL_ofGroups 33 = .ok (.iaload, 1) := by decide +kernel
theorem dL_ofGroups_34 : decode cL_ofGroups 34 = .ok (.bipush 12, 2) := by decide +kernel
theorem dL_ofGroups_36 : decode cL_ofGroups 36 = .ok (.if_icmp .ne 7, 3) := by decide +kernel
theorem dL_ofGroups_39 : decode cL_ofGroups 39 = .ok (.iconst 1, 1) := by decide +kernel
theorem dL_ofGroups_40 : decode cL_ofGroups 40 = .ok (.goto 4, 3) := by decide +kernel
theorem dL_ofGroups_43 : decode cL_ofGroups 43 = .ok (.iconst 0, 1) := by decide +kernel
theorem dL_ofGroups_44 : decode cL_ofGroups 44 = .ok (.istore 8, 2) := by decide +kernel
theorem dL_ofGroups_46 : decode cL_ofGroups 46 = .ok (.aload_n 2, 1) := by decide +kernel
theorem dL_ofGroups_47 : decode cL_ofGroups 47 = .ok (.iconst 0, 1) := by decide +kernel
theorem dL_ofGroups_48 : decode cL_ofGroups 48 = .ok (.dup2, 1) := by decide +kernel
theorem dL_ofGroups_49 : decode cL_ofGroups 49 = .ok (.iaload, 1) := by decide +kernel
theorem dL_ofGroups_50 : decode cL_ofGroups 50 = .ok (.iload 8, 2) := by decide +kernel
theorem dL_ofGroups_52 : decode cL_ofGroups 52 = .ok (.ifCond .eq 7, 3) := by decide +kernel
theorem dL_ofGroups_55 : decode cL_ofGroups 55 = .ok (.iconst 0, 1) := by decide +kernel
theorem dL_ofGroups_56 : decode cL_ofGroups 56 = .ok (.goto 4, 3) := by decide +kernel
theorem dL_ofGroups_59 : decode cL_ofGroups 59 = .ok (.iconst 1, 1) := by decide +kernel
theorem dL_ofGroups_60 : decode cL_ofGroups 60 = .ok (.iadd, 1) := by decide +kernel
theorem dL_ofGroups_61 : decode cL_ofGroups 61 = .ok (.iastore, 1) := by decide +kernel
theorem dL_ofGroups_62 : decode cL_ofGroups 62 = .ok (.aload_n 0, 1) := by decide +kernel
theorem dL_ofGroups_63 : decode cL_ofGroups 63 = .ok (.invokestatic 331, 3) := by decide +kernel
theorem dL_ofGroups_66 : decode cL_ofGroups 66 = .ok (.iload 8, 2) := by decide +kernel
theorem dL_ofGroups_68 : decode cL_ofGroups 68 = .ok (.ifCond .eq 8, 3) := by decide +kernel
theorem dL_ofGroups_71 : decode cL_ofGroups 71 = .ok (.bipush (-101), 2) := by decide +kernel
theorem dL_ofGroups_73 : decode cL_ofGroups 73 = .ok (.goto 8, 3) := by decide +kernel
theorem dL_ofGroups_76 : decode cL_ofGroups 76 = .ok (.aload_n 2, 1) := by decide +kernel
theorem dL_ofGroups_77 : decode cL_ofGroups 77 = .ok (.iconst 0, 1) := by decide +kernel
theorem dL_ofGroups_78 : decode cL_ofGroups 78 = .ok (.iaload, 1) := by decide +kernel
theorem dL_ofGroups_79 : decode cL_ofGroups 79 = .ok (.iconst 1, 1) := by decide +kernel
theorem dL_ofGroups_80 : decode cL_ofGroups 80 = .ok (.isub, 1) := by decide +kernel
theorem dL_ofGroups_81 : decode cL_ofGroups 81 = .ok (.if_icmp .ne 7, 3) := by decide +kernel
theorem dL_ofGroups_84 : decode cL_ofGroups 84 = .ok (.iconst 1, 1) := by decide +kernel
theorem dL_ofGroups_85 : decode cL_ofGroups 85 = .ok (.goto 4, 3) := by decide +kernel
theorem dL_ofGroups_88 : decode cL_ofGroups 88 = .ok (.iconst 0, 1) := by decide +kernel
theorem dL_ofGroups_89 : decode cL_ofGroups 89 = .ok (.ireturn, 1) := by decide +kernel
theorem dL_ofGroups_90 : decode cL_ofGroups 90 = .ok (.iload_n 3, 1) := by decide +kernel
theorem dL_ofGroups_91 : decode cL_ofGroups 91 = .ok (.iconst 1, 1) := by decide +kernel
theorem dL_ofGroups_92 : decode cL_ofGroups 92 = .ok (.if_icmp .ne 62, 3) := by decide +kernel
theorem dL_ofGroups_95 : decode cL_ofGroups 95 = .ok (.aload_n 2, 1) := by decide +kernel
theorem dL_ofGroups_96 : decode cL_ofGroups 96 = .ok (.iconst 1, 1) := by decide +kernel
theorem dL_ofGroups_97 : decode cL_ofGroups 97 = .ok (.iaload, 1) := by decide +kernel
theorem dL_ofGroups_98 : decode cL_ofGroups 98 = .ok (.bipush 8, 2) := by decide +kernel
theorem dL_ofGroups_100 : decode cL_ofGroups 100 = .ok (.if_icmp .ne 7, 3) := by decide +kernel
theorem dL_ofGroups_103 : decode cL_ofGroups 103 = .ok (.iconst 1, 1) := by decide +kernel
theorem dL_ofGroups_104 : decode cL_ofGroups 104 = .ok (.goto 4, 3) := by decide +kernel
theorem dL_ofGroups_107 : decode cL_ofGroups 107 = .ok (.iconst 0, 1) := by decide +kernel
theorem dL_ofGroups_108 : decode cL_ofGroups 108 = .ok (.istore 8, 2) := by decide +kernel
theorem dL_ofGroups_110 : decode cL_ofGroups 110 = .ok (.aload_n 2, 1) := by decide +kernel
theorem dL_ofGroups_111 : decode cL_ofGroups 111 = .ok (.iconst 1, 1) := by decide +kernel
theorem dL_ofGroups_112 : decode cL_ofGroups 112 = .ok (.dup2, 1) := by decide +kernel
theorem dL_ofGroups_113 : decode cL_ofGroups 113 = .ok (.iaload, 1) := by decide +kernel
theorem dL_ofGroups_114 : decode cL_ofGroups 114 = .ok (.iload 8, 2) := by decide +kernel
theorem dL_ofGroups_116 : decode cL_ofGroups 116 = .ok (.ifCond .eq 7, 3) := by decide +kernel
theorem dL_ofGroups_119 : decode cL_ofGroups 119 = .ok (.iconst 0, 1) := by decide +kernel
theorem dL_ofGroups_120 : decode cL_ofGroups 120 = .ok (.goto 4, 3) := by decide +kernel
theorem dL_ofGroups_123 : decode cL_ofGroups 123 = .ok (.iconst 1, 1) := by decide +kernel
theorem dL_ofGroups_124 : decode cL_ofGroups 124 = .ok (.iadd, 1) := by decide +kernel
theorem dL_ofGroups_125 : decode cL_ofGroups 125 = .ok (.iastore, 1) := by decide +kernel
theorem dL_ofGroups_126 : decode cL_ofGroups 126 = .ok (.aload_n 0, 1) := by decide +kernel
theorem dL_ofGroups_127 : decode cL_ofGroups 127 = .ok (.invokestatic 335, 3) := by decide +kernel
theorem dL_ofGroups_130 : decode cL_ofGroups 130 = .ok (.iload 8, 2) := by decide +kernel
theorem dL_ofGroups_132 : decode cL_ofGroups 132 = .ok (.ifCond .eq 8, 3) := by decide +kernel
theorem dL_ofGroups_135 : decode cL_ofGroups 135 = .ok (.bipush (-101), 2) := by decide +kernel
theorem dL_ofGroups_137 : decode cL_ofGroups 137 = .ok (.goto 8, 3) := by decide +kernel
theorem dL_ofGroups_140 : decode cL_ofGroups 140 = .ok (.aload_n 2, 1) := by decide +kernel
theorem dL_ofGroups_141 : decode cL_ofGroups 141 = .ok (.iconst 1, 1) := by decide +kernel
theorem dL_ofGroups_142 : decode cL_ofGroups 142 = .ok (.iaload, 1) := by decide +kernel
theorem dL_ofGroups_143 : decode cL_ofGroups 143 = .ok (.iconst 1, 1) := by decide +kernel
theorem dL_ofGroups_144 : decode cL_ofGroups 144 = .ok (.isub, 1) := by decide +kernel
theorem dL_ofGroups_145 : decode cL_ofGroups 145 = .ok (.if_icmp .ne 7, 3) := by decide +kernel
theorem dL_ofGroups_148 : decode cL_ofGroups 148 = .ok (.iconst 1, 1) := by decide +kernel
theorem dL_ofGroups_149 : decode cL_ofGroups 149 = .ok (.goto 4, 3) := by decide +kernel
theorem dL_ofGroups_152 : decode cL_ofGroups 152 = .ok (.iconst 0, 1) := by decide +kernel
theorem dL_ofGroups_153 : decode cL_ofGroups 153 = .ok (.ireturn, 1) := by decide +kernel
theorem dL_ofGroups_154 : decode cL_ofGroups 154 = .ok (.iload_n 3, 1) := by decide +kernel
theorem dL_ofGroups_155 : decode cL_ofGroups 155 = .ok (.iconst 5, 1) := by decide +kernel
theorem dL_ofGroups_156 : decode cL_ofGroups 156 = .ok (.if_icmp .ge 172, 3) := by decide +kernel
theorem dL_ofGroups_159 : decode cL_ofGroups 159 = .ok (.iload 5, 2) := by decide +kernel
theorem dL_ofGroups_161 : decode cL_ofGroups 161 = .ok (.aload_n 2, 1) := by decide +kernel
theorem dL_ofGroups_162 : decode cL_ofGroups 162 = .ok (.iconst 0, 1) := by decide +kernel
theorem dL_ofGroups_163 : decode cL_ofGroups 163 = .ok (.iaload, 1) := by decide +kernel
theorem dL_ofGroups_164 : decode cL_ofGroups 164 = .ok (.if_icmp .ge 15, 3) := by decide +kernel
theorem dL_ofGroups_167 : decode cL_ofGroups 167 = .ok (.iload 6, 2) := by decide +kernel
theorem dL_ofGroups_169 : decode cL_ofGroups 169 = .ok (.aload_n 2, 1) := by decide +kernel
theorem dL_ofGroups_170 : decode cL_ofGroups 170 = .ok (.iconst 1, 1) := by decide +kernel
theorem dL_ofGroups_171 : decode cL_ofGroups 171 = .ok (.iaload, 1) := by decide +kernel
theorem dL_ofGroups_172 : decode cL_ofGroups 172 = .ok (.if_icmp .ge 7, 3) := by decide +kernel
theorem dL_ofGroups_175 : decode cL_ofGroups 175 = .ok (.iconst 1, 1) := by decide +kernel
theorem dL_ofGroups_176 : decode cL_ofGroups 176 = .ok (.goto 4, 3) := by decide +kernel
theorem dL_ofGroups_179 : decode cL_ofGroups 179 = .ok (.iconst 0, 1) := by decide +kernel
theorem dL_ofGroups_180 : decode cL_ofGroups 180 = .ok (.istore 8, 2) := by decide +kernel
theorem dL_ofGroups_182 : decode cL_ofGroups 182 = .ok (.aload_n 1, 1) := by decide +kernel
theorem dL_ofGroups_183 : decode cL_ofGroups 183 = .ok (.iload 6, 2) := by decide +kernel
theorem dL_ofGroups_185 : decode cL_ofGroups 185 = .ok (.iaload, 1) := by decide +kernel
theorem dL_ofGroups_186 : decode cL_ofGroups 186 = .ok (.iload 5, 2) := by decide +kernel
theorem dL_ofGroups_188 : decode cL_ofGroups 188 = .ok (.invokestatic 172, 3) := by decide +kernel
theorem dL_ofGroups_191 : decode cL_ofGroups 191 = .ok (.istore 9, 2) := by decide +kernel
theorem dL_ofGroups_193 : decode cL_ofGroups 193 = .ok (.iload_n 3, 1) := by decide +kernel
theorem dL_ofGroups_194 : decode cL_ofGroups 194 = .ok (.iconst 4, 1) := by decide +kernel
theorem dL_ofGroups_195 : decode cL_ofGroups 195 = .ok (.if_icmp .ge 7, 3) := by decide +kernel
theorem dL_ofGroups_198 : decode cL_ofGroups 198 = .ok (.iconst 1, 1) := by decide +kernel
theorem dL_ofGroups_199 : decode cL_ofGroups 199 = .ok (.goto 4, 3) := by decide +kernel
theorem dL_ofGroups_202 : decode cL_ofGroups 202 = .ok (.iconst 0, 1) := by decide +kernel
theorem dL_ofGroups_203 : decode cL_ofGroups 203 = .ok (.istore 10, 2) := by decide +kernel
theorem dL_ofGroups_205 : decode cL_ofGroups 205 = .ok (.iload 8, 2) := by decide +kernel
theorem dL_ofGroups_207 : decode cL_ofGroups 207 = .ok (.ifCond .eq 10, 3) := by decide +kernel
theorem dL_ofGroups_210 : decode cL_ofGroups 210 = .ok (.iload 9, 2) := by decide +kernel
theorem dL_ofGroups_212 : decode cL_ofGroups 212 = .ok (.iload 10, 2) := by decide +kernel
theorem dL_ofGroups_214 : decode cL_ofGroups 214 = .ok (.if_icmp .ne 48, 3) := by decide +kernel
theorem dL_ofGroups_217 : decode cL_ofGroups 217 = .ok (.iload 10, 2) := by decide +kernel
theorem dL_ofGroups_219 : decode cL_ofGroups 219 = .ok (.ifCond .eq 14, 3) := by decide +kernel
theorem dL_ofGroups_222 : decode cL_ofGroups 222 = .ok (.aload_n 0, 1) := by decide +kernel
theorem dL_ofGroups_223 : decode cL_ofGroups 223 = .ok (.iload 5, 2) := by decide +kernel
theorem dL_ofGroups_225 : decode cL_ofGroups 225 = .ok (.iload 6, 2) := by decide +kernel
theorem dL_ofGroups_227 : decode cL_ofGroups 227 = .ok (.invokestatic 338, 3) := by decide +kernel
theorem dL_ofGroups_230 : decode cL_ofGroups 230 = .ok (.goto 11, 3) := by decide +kernel
theorem dL_ofGroups_233 : decode cL_ofGroups 233 = .ok (.aload_n 0, 1) := by decide +kernel
theorem dL_ofGroups_234 : decode cL_ofGroups 234 = .ok (.iload 5, 2) := by decide +kernel
theorem dL_ofGroups_236 : decode cL_ofGroups 236 = .ok (.iload 6, 2) := by decide +kernel
theorem dL_ofGroups_238 : decode cL_ofGroups 238 = .ok (.invokestatic 341, 3) := by decide +kernel
theorem dL_ofGroups_241 : decode cL_ofGroups 241 = .ok (.iload 8, 2) := by decide +kernel
theorem dL_ofGroups_243 : decode cL_ofGroups 243 = .ok (.ifCond .eq 8, 3) := by decide +kernel
theorem dL_ofGroups_246 : decode cL_ofGroups 246 = .ok (.bipush (-102), 2) := by decide +kernel
theorem dL_ofGroups_248 : decode cL_ofGroups 248 = .ok (.goto 5, 3) := by decide +kernel
theorem dL_ofGroups_251 : decode cL_ofGroups 251 = .ok (.bipush (-101), 2) := by decide +kernel
theorem dL_ofGroups_253 : decode cL_ofGroups 253 = .ok (.if_icmp .ne 7, 3) := by decide +kernel
theorem dL_ofGroups_256 : decode cL_ofGroups 256 = .ok (.iconst 1, 1) := by decide +kernel
theorem dL_ofGroups_257 : decode cL_ofGroups 257 = .ok (.goto 4, 3) := by decide +kernel
theorem dL_ofGroups_260 : decode cL_ofGroups 260 = .ok (.iconst 0, 1) := by decide +kernel
theorem dL_ofGroups_261 : decode cL_ofGroups 261 = .ok (.ireturn, 1) := by decide +kernel
theorem dL_ofGroups_262 : decode cL_ofGroups 262 = .ok (.aload_n 1, 1) := by decide +kernel
theorem dL_ofGroups_263 : decode cL_ofGroups 263 = .ok (.iload 6, 2) := by decide +kernel
theorem dL_ofGroups_265 : decode cL_ofGroups 265 = .ok (.dup2, 1) := by decide +kernel
theorem dL_ofGroups_266 : decode cL_ofGroups 266 = .ok (.iaload, 1) := by decide +kernel
theorem dL_ofGroups_267 : decode cL_ofGroups 267 = .ok (.iload 10, 2) := by decide +kernel
theorem dL_ofGroups_269 : decode cL_ofGroups 269 = .ok (.ifCond .eq 10, 3) := by decide +kernel
theorem dL_ofGroups_272 : decode cL_ofGroups 272 = .ok (.iconst 1, 1) := by decide +kernel
theorem dL_ofGroups_273 : decode cL_ofGroups 273 = .ok (.iload 5, 2) := by decide +kernel
theorem dL_ofGroups_275 : decode cL_ofGroups 275 = .ok (.ishl, 1) := by decide +kernel
theorem dL_ofGroups_276 : decode cL_ofGroups 276 = .ok (.goto 8, 3) := by decide +kernel
theorem dL_ofGroups_279 : decode cL_ofGroups 279 = .ok (.iconst 1, 1) := by decide +kernel
theorem dL_ofGroups_280 : decode cL_ofGroups 280 = .ok (.iload 5, 2) := by decide +kernel
theorem dL_ofGroups_282 : decode cL_ofGroups 282 = .ok (.ishl, 1) := by decide +kernel
theorem dL_ofGroups_283 : decode cL_ofGroups 283 = .ok (.ineg, 1) := by decide +kernel
theorem dL_ofGroups_284 : decode cL_ofGroups 284 = .ok (.iadd, 1) := by decide +kernel
theorem dL_ofGroups_285 : decode cL_ofGroups 285 = .ok (.iastore, 1) := by decide +kernel
theorem dL_ofGroups_286 : decode cL_ofGroups 286 = .ok (.iload 10, 2) := by decide +kernel
theorem dL_ofGroups_288 : decode cL_ofGroups 288 = .ok (.ifCond .eq 14, 3) := by decide +kernel
theorem dL_ofGroups_291 : decode cL_ofGroups 291 = .ok (.aload_n 0, 1) := by decide +kernel
theorem dL_ofGroups_292 : decode cL_ofGroups 292 = .ok (.iload 5, 2) := by decide +kernel
theorem dL_ofGroups_294 : decode cL_ofGroups 294 = .ok (.iload 6, 2) := by decide +kernel
theorem dL_ofGroups_296 : decode cL_ofGroups 296 = .ok (.invokestatic 338, 3) := by decide +kernel
theorem dL_ofGroups_299 : decode cL_ofGroups 299 = .ok (.goto 11, 3) := by decide +kernel
theorem dL_ofGroups_302 : decode cL_ofGroups 302 = .ok (.aload_n 0, 1) := by decide +kernel
theorem dL_ofGroups_303 : decode cL_ofGroups 303 = .ok (.iload 5, 2) := by decide +kernel
theorem dL_ofGroups_305 : decode cL_ofGroups 305 = .ok (.iload 6, 2) := by decide +kernel
theorem dL_ofGroups_307 : decode cL_ofGroups 307 = .ok (.invokestatic 341, 3) := by decide +kernel
theorem dL_ofGroups_310 : decode cL_ofGroups 310 = .ok (.aload_n 1, 1) := by decide +kernel
theorem dL_ofGroups_311 : decode cL_ofGroups 311 = .ok (.iload 6, 2) := by decide +kernel
theorem dL_ofGroups_313 : decode cL_ofGroups 313 = .ok (.invokestatic 181, 3) := by decide +kernel
theorem dL_ofGroups_316 : decode cL_ofGroups 316 = .ok (.invokestatic 299, 3) := by decide +kernel
theorem dL_ofGroups_319 : decode cL_ofGroups 319 = .ok (.if_icmp .ne 7, 3) := by decide +kernel
theorem dL_ofGroups_322 : decode cL_ofGroups 322 = .ok (.iconst 1, 1) := by decide +kernel
theorem dL_ofGroups_323 : decode cL_ofGroups 323 = .ok (.goto 4, 3) := by decide +kernel
theorem dL_ofGroups_326 : decode cL_ofGroups 326 = .ok (.iconst 0, 1) := by decide +kernel
theorem dL_ofGroups_327 : decode cL_ofGroups 327 = .ok (.ireturn, 1) := by decide +kernel
theorem dL_ofGroups_328 : decode cL_ofGroups 328 = .ok (.iload 6, 2) := by decide +kernel
theorem dL_ofGroups_330 : decode cL_ofGroups 330 = .ok (.aload_n 2, 1) := by decide +kernel
theorem dL_ofGroups_331 : decode cL_ofGroups 331 = .ok (.iconst 1, 1) := by decide +kernel
theorem dL_ofGroups_332 : decode cL_ofGroups 332 = .ok (.iaload, 1) := by decide +kernel
theorem dL_ofGroups_333 : decode cL_ofGroups 333 = .ok (.if_icmp .ge 15, 3) := by decide +kernel
theorem dL_ofGroups_336 : decode cL_ofGroups 336 = .ok (.iload 7, 2) := by decide +kernel
theorem dL_ofGroups_338 : decode cL_ofGroups 338 = .ok (.aload_n 2, 1) := by decide +kernel
theorem dL_ofGroups_339 : decode cL_ofGroups 339 = .ok (.iconst 1, 1) := by decide +kernel
theorem dL_ofGroups_340 : decode cL_ofGroups 340 = .ok (.iaload, 1) := by decide +kernel
theorem dL_ofGroups_341 : decode cL_ofGroups 341 = .ok (.if_icmp .ge 7, 3) := by decide +kernel
theorem dL_ofGroups_344 : decode cL_ofGroups 344 = .ok (.iconst 1, 1) := by decide +kernel
theorem dL_ofGroups_345 : decode cL_ofGroups 345 = .ok (.goto 4, 3) := by decide +kernel
theorem dL_ofGroups_348 : decode cL_ofGroups 348 = .ok (.iconst 0, 1) := by decide +kernel
theorem dL_ofGroups_349 : decode cL_ofGroups 349 = .ok (.istore 8, 2) := by decide +kernel
theorem dL_ofGroups_351 : decode cL_ofGroups 351 = .ok (.aload_n 1, 1) := by decide +kernel
theorem dL_ofGroups_352 : decode cL_ofGroups 352 = .ok (.bipush 8, 2) := by decide +kernel
theorem dL_ofGroups_354 : decode cL_ofGroups 354 = .ok (.iload 7, 2) := by decide +kernel
theorem dL_ofGroups_356 : decode cL_ofGroups 356 = .ok (.iadd, 1) := by decide +kernel
theorem dL_ofGroups_357 : decode cL_ofGroups 357 = .ok (.iaload, 1) := by decide +kernel
theorem dL_ofGroups_358 : decode cL_ofGroups 358 = .ok (.iload 6, 2) := by decide +kernel
theorem dL_ofGroups_360 : decode cL_ofGroups 360 = .ok (.invokestatic 172, 3) := by decide +kernel
theorem dL_ofGroups_363 : decode cL_ofGroups 363 = .ok (.istore 9, 2) := by decide +kernel
theorem dL_ofGroups_365 : decode cL_ofGroups 365 = .ok (.iload_n 3, 1) := by decide +kernel
theorem dL_ofGroups_366 : decode cL_ofGroups 366 = .ok (.bipush 7, 2) := by decide +kernel
theorem dL_ofGroups_368 : decode cL_ofGroups 368 = .ok (.if_icmp .ge 7, 3) := by decide +kernel
theorem dL_ofGroups_371 : decode cL_ofGroups 371 = .ok (.iconst 1, 1) := by decide +kernel
theorem dL_ofGroups_372 : decode cL_ofGroups 372 = .ok (.goto 4, 3) := by decide +kernel
theorem dL_ofGroups_375 : decode cL_ofGroups 375 = .ok (.iconst 0, 1) := by decide +kernel
theorem dL_ofGroups_376 : decode cL_ofGroups 376 = .ok (.istore 10, 2) := by decide +kernel
theorem dL_ofGroups_378 : decode cL_ofGroups 378 = .ok (.iload 10, 2) := by decide +kernel
theorem dL_ofGroups_380 : decode cL_ofGroups 380 = .ok (.ifCond .eq 30, 3) := by decide +kernel
theorem dL_ofGroups_383 : decode cL_ofGroups 383 = .ok (.iload 9, 2) := by decide +kernel
theorem dL_ofGroups_385 : decode cL_ofGroups 385 = .ok (.ifCond .ne 21, 3) := by decide +kernel
theorem dL_ofGroups_388 : decode cL_ofGroups 388 = .ok (.aload_n 1, 1) := by decide +kernel
theorem dL_ofGroups_389 : decode cL_ofGroups 389 = .ok (.iload 6, 2) := by decide +kernel
theorem dL_ofGroups_391 : decode cL_ofGroups 391 = .ok (.invokestatic 177, 3) := by decide +kernel
theorem dL_ofGroups_394 : decode cL_ofGroups 394 = .ok (.iload 7, 2) := by decide +kernel
theorem dL_ofGroups_396 : decode cL_ofGroups 396 = .ok (.invokestatic 172, 3) := by decide +kernel
theorem dL_ofGroups_399 : decode cL_ofGroups 399 = .ok (.ifCond .ne 7, 3) := by decide +kernel
theorem dL_ofGroups_402 : decode cL_ofGroups 402 = .ok (.iconst 1, 1) := by decide +kernel
theorem dL_ofGroups_403 : decode cL_ofGroups 403 = .ok (.goto 9, 3) := by decide +kernel
theorem dL_ofGroups_406 : decode cL_ofGroups 406 = .ok (.iconst 0, 1) := by decide +kernel
theorem dL_ofGroups_407 : decode cL_ofGroups 407 = .ok (.goto 5, 3) := by decide +kernel
theorem dL_ofGroups_410 : decode cL_ofGroups 410 = .ok (.iload 9, 2) := by decide +kernel
theorem dL_ofGroups_412 : decode cL_ofGroups 412 = .ok (.istore 11, 2) := by decide +kernel
theorem dL_ofGroups_414 : decode cL_ofGroups 414 = .ok (.iload 8, 2) := by decide +kernel
theorem dL_ofGroups_416 : decode cL_ofGroups 416 = .ok (.ifCond .eq 8, 3) := by decide +kernel
theorem dL_ofGroups_419 : decode cL_ofGroups 419 = .ok (.iload 11, 2) := by decide +kernel
theorem dL_ofGroups_421 : decode cL_ofGroups 421 = .ok (.ifCond .ne 48, 3) := by decide +kernel
theorem dL_ofGroups_424 : decode cL_ofGroups 424 = .ok (.iload 10, 2) := by decide +kernel
theorem dL_ofGroups_426 : decode cL_ofGroups 426 = .ok (.ifCond .eq 14, 3) := by decide +kernel
theorem dL_ofGroups_429 : decode cL_ofGroups 429 = .ok (.aload_n 0, 1) := by decide +kernel
theorem dL_ofGroups_430 : decode cL_ofGroups 430 = .ok (.iload 6, 2) := by decide +kernel
theorem dL_ofGroups_432 : decode cL_ofGroups 432 = .ok (.iload 7, 2) := by decide +kernel
theorem dL_ofGroups_434 : decode cL_ofGroups 434 = .ok (.invokestatic 344, 3) := by decide +kernel
theorem dL_ofGroups_437 : decode cL_ofGroups 437 = .ok (.goto 11, 3) := by decide +kernel
theorem dL_ofGroups_440 : decode cL_ofGroups 440 = .ok (.aload_n 0, 1) := by decide +kernel
theorem dL_ofGroups_441 : decode cL_ofGroups 441 = .ok (.iload 6, 2) := by decide +kernel
theorem dL_ofGroups_443 : decode cL_ofGroups 443 = .ok (.iload 7, 2) := by decide +kernel
theorem dL_ofGroups_445 : decode cL_ofGroups 445 = .ok (.invokestatic 347, 3) := by decide +kernel
theorem dL_ofGroups_448 : decode cL_ofGroups 448 = .ok (.iload 8, 2) := by decide +kernel
theorem dL_ofGroups_450 : decode cL_ofGroups 450 = .ok (.ifCond .eq 8, 3) := by decide +kernel
theorem dL_ofGroups_453 : decode cL_ofGroups 453 = .ok (.bipush (-102), 2) := by decide +kernel
theorem dL_ofGroups_455 : decode cL_ofGroups 455 = .ok (.goto 5, 3) := by decide +kernel
theorem dL_ofGroups_458 : decode cL_ofGroups 458 = .ok (.bipush (-101), 2) := by decide +kernel
theorem dL_ofGroups_460 : decode cL_ofGroups 460 = .ok (.if_icmp .ne 7, 3) := by decide +kernel
theorem dL_ofGroups_463 : decode cL_ofGroups 463 = .ok (.iconst 1, 1) := by decide +kernel
theorem dL_ofGroups_464 : decode cL_ofGroups 464 = .ok (.goto 4, 3) := by decide +kernel
theorem dL_ofGroups_467 : decode cL_ofGroups 467 = .ok (.iconst 0, 1) := by decide +kernel
theorem dL_ofGroups_468 : decode cL_ofGroups 468 = .ok (.ireturn, 1) := by decide +kernel
theorem dL_ofGroups_469 : decode cL_ofGroups 469 = .ok (.aload_n 1, 1) := by decide +kernel
theorem dL_ofGroups_470 : decode cL_ofGroups 470 = .ok (.bipush 8, 2) := by decide +kernel
theorem dL_ofGroups_472 : decode cL_ofGroups 472 = .ok (.iload 7, 2) := by decide +kernel
theorem dL_ofGroups_474 : decode cL_ofGroups 474 = .ok (.iadd, 1) := by decide +kernel
theorem dL_ofGroups_475 : decode cL_ofGroups 475 = .ok (.dup2, 1) := by decide +kernel
theorem dL_ofGroups_476 : decode cL_ofGroups 476 = .ok (.iaload, 1) := by decide +kernel
theorem dL_ofGroups_477 : decode cL_ofGroups 477 = .ok (.iload 10, 2) := by decide +kernel
theorem dL_ofGroups_479 : decode cL_ofGroups 479 = .ok (.ifCond .eq 10, 3) := by decide +kernel
theorem dL_ofGroups_482 : decode cL_ofGroups 482 = .ok (.iconst 1, 1) := by decide +kernel
theorem dL_ofGroups_483 : decode cL_ofGroups 483 = .ok (.iload 6, 2) := by decide +kernel
theorem dL_ofGroups_485 : decode cL_ofGroups 485 = .ok (.ishl, 1) := by decide +kernel
theorem dL_ofGroups_486 : decode cL_ofGroups 486 = .ok (.goto 8, 3) := by decide +kernel
theorem dL_ofGroups_489 : decode cL_ofGroups 489 = .ok (.iconst 1, 1) := by decide +kernel
theorem dL_ofGroups_490 : decode cL_ofGroups 490 = .ok (.iload 6, 2) := by decide +kernel
theorem dL_ofGroups_492 : decode cL_ofGroups 492 = .ok (.ishl, 1) := by decide +kernel
theorem dL_ofGroups_493 : decode cL_ofGroups 493 = .ok (.ineg, 1) := by decide +kernel
theorem dL_ofGroups_494 : decode cL_ofGroups 494 = .ok (.iadd, 1) := by decide +kernel
theorem dL_ofGroups_495 : decode cL_ofGroups 495 = .ok (.iastore, 1) := by decide +kernel
theorem dL_ofGroups_496 : decode cL_ofGroups 496 = .ok (.iload 10, 2) := by decide +kernel
theorem dL_ofGroups_498 : decode cL_ofGroups 498 = .ok (.ifCond .eq 14, 3) := by decide +kernel
theorem dL_ofGroups_501 : decode cL_ofGroups 501 = .ok (.aload_n 0, 1) := by decide +kernel
theorem dL_ofGroups_502 : decode cL_ofGroups 502 = .ok (.iload 6, 2) := by decide +kernel
theorem dL_ofGroups_504 : decode cL_ofGroups 504 = .ok (.iload 7, 2) := by decide +kernel
theorem dL_ofGroups_506 : decode cL_ofGroups 506 = .ok (.invokestatic 344, 3) := by decide +kernel
theorem dL_ofGroups_509 : decode cL_ofGroups 509 = .ok (.goto 11, 3) := by decide +kernel
theorem dL_ofGroups_512 : decode cL_ofGroups 512 = .ok (.aload_n 0, 1) := by decide +kernel
theorem dL_ofGroups_513 : decode cL_ofGroups 513 = .ok (.iload 6, 2) := by decide +kernel
theorem dL_ofGroups_515 : decode cL_ofGroups 515 = .ok (.iload 7, 2) := by decide +kernel
theorem dL_ofGroups_517 : decode cL_ofGroups 517 = .ok (.invokestatic 347, 3) := by decide +kernel
theorem dL_ofGroups_520 : decode cL_ofGroups 520 = .ok (.aload_n 1, 1) := by decide +kernel
theorem dL_ofGroups_521 : decode cL_ofGroups 521 = .ok (.iload 7, 2) := by decide +kernel
theorem dL_ofGroups_523 : decode cL_ofGroups 523 = .ok (.invokestatic 181, 3) := by decide +kernel
theorem dL_ofGroups_526 : decode cL_ofGroups 526 = .ok (.invokestatic 299, 3) := by decide +kernel
theorem dL_ofGroups_529 : decode cL_ofGroups 529 = .ok (.if_icmp .ne 7, 3) := by decide +kernel
theorem dL_ofGroups_532 : decode cL_ofGroups 532 = .ok (.iconst 1, 1) := by decide +kernel
theorem dL_ofGroups_533 : decode cL_ofGroups 533 = .ok (.goto 4, 3) := by decide +kernel
theorem dL_ofGroups_536 : decode cL_ofGroups 536 = .ok (.iconst 0, 1) := by decide +kernel
theorem dL_ofGroups_537 : decode cL_ofGroups 537 = .ok (.ireturn, 1) := by decide +kernel
theorem dL_ofObjects_0 : decode cL_ofObjects 0 = .ok (.iload 4, 2) := by decide +kernel
theorem dL_ofObjects_2 : decode cL_ofObjects 2 = .ok (.bipush 10, 2) := by decide +kernel
