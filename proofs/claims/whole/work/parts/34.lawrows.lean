theorem d_law_0 : decode code 0 = .ok (.new 8, 3) := by decide +kernel
theorem d_law_3 : decode code 3 = .ok (.dup, 1) := by decide +kernel
theorem d_law_4 : decode code 4 = .ok (.invokespecial 37, 3) := by decide +kernel
theorem d_law_7 : decode code 7 = .ok (.astore_n 1, 1) := by decide +kernel
theorem d_law_8 : decode code 8 = .ok (.new 38, 3) := by decide +kernel
theorem d_law_11 : decode code 11 = .ok (.dup, 1) := by decide +kernel
theorem d_law_12 : decode code 12 = .ok (.invokespecial 40, 3) := by decide +kernel
theorem d_law_15 : decode code 15 = .ok (.astore_n 2, 1) := by decide +kernel
theorem d_law_16 : decode code 16 = .ok (.iconst 1, 1) := by decide +kernel
theorem d_law_17 : decode code 17 = .ok (.newarray .long, 2) := by decide +kernel
theorem d_law_19 : decode code 19 = .ok (.astore_n 3, 1) := by decide +kernel
theorem d_law_20 : decode code 20 = .ok (.iconst 0, 1) := by decide +kernel
theorem d_law_21 : decode code 21 = .ok (.istore 4, 2) := by decide +kernel
theorem d_law_23 : decode code 23 = .ok (.iload 4, 2) := by decide +kernel
theorem d_law_25 : decode code 25 = .ok (.aload_n 0, 1) := by decide +kernel
theorem d_law_26 : decode code 26 = .ok (.arraylength, 1) := by decide +kernel
theorem d_law_27 : decode code 27 = .ok (.bipush 6, 2) := by decide +kernel
theorem d_law_29 : decode code 29 = .ok (.isub, 1) := by decide +kernel
theorem d_law_30 : decode code 30 = .ok (.if_icmp .gt 449, 3) := by decide +kernel
theorem d_law_33 : decode code 33 = .ok (.aload_n 0, 1) := by decide +kernel
theorem d_law_34 : decode code 34 = .ok (.iload 4, 2) := by decide +kernel
theorem d_law_36 : decode code 36 = .ok (.iaload, 1) := by decide +kernel
theorem d_law_37 : decode code 37 = .ok (.bipush 7, 2) := by decide +kernel
theorem d_law_39 : decode code 39 = .ok (.iand, 1) := by decide +kernel
theorem d_law_40 : decode code 40 = .ok (.tableswitch 433 0 7 #[48, 152, 208, 221, 265, 309, 322, 377], 48) := by decide +kernel
theorem d_law_88 : decode code 88 = .ok (.aload_n 1, 1) := by decide +kernel
theorem d_law_89 : decode code 89 = .ok (.aload_n 0, 1) := by decide +kernel
theorem d_law_90 : decode code 90 = .ok (.iload 4, 2) := by decide +kernel
theorem d_law_92 : decode code 92 = .ok (.iconst 1, 1) := by decide +kernel
theorem d_law_93 : decode code 93 = .ok (.iadd, 1) := by decide +kernel
theorem d_law_94 : decode code 94 = .ok (.iaload, 1) := by decide +kernel
theorem d_law_95 : decode code 95 = .ok (.aload_n 0, 1) := by decide +kernel
theorem d_law_96 : decode code 96 = .ok (.iload 4, 2) := by decide +kernel
theorem d_law_98 : decode code 98 = .ok (.iconst 2, 1) := by decide +kernel
theorem d_law_99 : decode code 99 = .ok (.iadd, 1) := by decide +kernel
theorem d_law_100 : decode code 100 = .ok (.iaload, 1) := by decide +kernel
theorem d_law_101 : decode code 101 = .ok (.aload_n 0, 1) := by decide +kernel
theorem d_law_102 : decode code 102 = .ok (.iload 4, 2) := by decide +kernel
theorem d_law_104 : decode code 104 = .ok (.iconst 3, 1) := by decide +kernel
theorem d_law_105 : decode code 105 = .ok (.iadd, 1) := by decide +kernel
theorem d_law_106 : decode code 106 = .ok (.iaload, 1) := by decide +kernel
theorem d_law_107 : decode code 107 = .ok (.aload_n 0, 1) := by decide +kernel
theorem d_law_108 : decode code 108 = .ok (.iload 4, 2) := by decide +kernel
theorem d_law_110 : decode code 110 = .ok (.iconst 4, 1) := by decide +kernel
theorem d_law_111 : decode code 111 = .ok (.iadd, 1) := by decide +kernel
theorem d_law_112 : decode code 112 = .ok (.iaload, 1) := by decide +kernel
theorem d_law_113 : decode code 113 = .ok (.aload_n 0, 1) := by decide +kernel
theorem d_law_114 : decode code 114 = .ok (.iload 4, 2) := by decide +kernel
theorem d_law_116 : decode code 116 = .ok (.iconst 5, 1) := by decide +kernel
theorem d_law_117 : decode code 117 = .ok (.iadd, 1) := by decide +kernel
theorem d_law_118 : decode code 118 = .ok (.iaload, 1) := by decide +kernel
theorem d_law_119 : decode code 119 = .ok (.aload_n 3, 1) := by decide +kernel
theorem d_law_120 : decode code 120 = .ok (.invokestatic 41, 3) := by decide +kernel
theorem d_law_123 : decode code 123 = .ok (.istore 5, 2) := by decide +kernel
theorem d_law_125 : decode code 125 = .ok (.aload_n 2, 1) := by decide +kernel
theorem d_law_126 : decode code 126 = .ok (.aload_n 0, 1) := by decide +kernel
theorem d_law_127 : decode code 127 = .ok (.iload 4, 2) := by decide +kernel
theorem d_law_129 : decode code 129 = .ok (.iconst 1, 1) := by decide +kernel
theorem d_law_130 : decode code 130 = .ok (.iadd, 1) := by decide +kernel
theorem d_law_131 : decode code 131 = .ok (.iaload, 1) := by decide +kernel
theorem d_law_132 : decode code 132 = .ok (.aload_n 0, 1) := by decide +kernel
theorem d_law_133 : decode code 133 = .ok (.iload 4, 2) := by decide +kernel
theorem d_law_135 : decode code 135 = .ok (.iconst 2, 1) := by decide +kernel
theorem d_law_136 : decode code 136 = .ok (.iadd, 1) := by decide +kernel
theorem d_law_137 : decode code 137 = .ok (.iaload, 1) := by decide +kernel
theorem d_law_138 : decode code 138 = .ok (.aload_n 0, 1) := by decide +kernel
theorem d_law_139 : decode code 139 = .ok (.iload 4, 2) := by decide +kernel
theorem d_law_141 : decode code 141 = .ok (.iconst 3, 1) := by decide +kernel
theorem d_law_142 : decode code 142 = .ok (.iadd, 1) := by decide +kernel
theorem d_law_143 : decode code 143 = .ok (.iaload, 1) := by decide +kernel
theorem d_law_144 : decode code 144 = .ok (.aload_n 0, 1) := by decide +kernel
theorem d_law_145 : decode code 145 = .ok (.iload 4, 2) := by decide +kernel
theorem d_law_147 : decode code 147 = .ok (.iconst 4, 1) := by decide +kernel
theorem d_law_148 : decode code 148 = .ok (.iadd, 1) := by decide +kernel
theorem d_law_149 : decode code 149 = .ok (.iaload, 1) := by decide +kernel
theorem d_law_150 : decode code 150 = .ok (.aload_n 0, 1) := by decide +kernel
theorem d_law_151 : decode code 151 = .ok (.iload 4, 2) := by decide +kernel
theorem d_law_153 : decode code 153 = .ok (.iconst 5, 1) := by decide +kernel
theorem d_law_154 : decode code 154 = .ok (.iadd, 1) := by decide +kernel
theorem d_law_155 : decode code 155 = .ok (.iaload, 1) := by decide +kernel
theorem d_law_156 : decode code 156 = .ok (.invokevirtual 46, 3) := by decide +kernel
theorem d_law_159 : decode code 159 = .ok (.istore 6, 2) := by decide +kernel
theorem d_law_161 : decode code 161 = .ok (.aload_n 2, 1) := by decide +kernel
theorem d_law_162 : decode code 162 = .ok (.invokevirtual 47, 3) := by decide +kernel
theorem d_law_165 : decode code 165 = .ok (.iload 5, 2) := by decide +kernel
theorem d_law_167 : decode code 167 = .ok (.if_icmp .eq 5, 3) := by decide +kernel
theorem d_law_170 : decode code 170 = .ok (.iconst 0, 1) := by decide +kernel
theorem d_law_171 : decode code 171 = .ok (.ireturn, 1) := by decide +kernel
theorem d_law_172 : decode code 172 = .ok (.iload 5, 2) := by decide +kernel
theorem d_law_174 : decode code 174 = .ok (.ifCond .ne 15, 3) := by decide +kernel
theorem d_law_177 : decode code 177 = .ok (.aload_n 3, 1) := by decide +kernel
theorem d_law_178 : decode code 178 = .ok (.iconst 0, 1) := by decide +kernel
theorem d_law_179 : decode code 179 = .ok (.laload, 1) := by decide +kernel
theorem d_law_180 : decode code 180 = .ok (.iload 6, 2) := by decide +kernel
theorem d_law_182 : decode code 182 = .ok (.i2l, 1) := by decide +kernel
theorem d_law_183 : decode code 183 = .ok (.lcmp, 1) := by decide +kernel
theorem d_law_184 : decode code 184 = .ok (.ifCond .eq 5, 3) := by decide +kernel
theorem d_law_187 : decode code 187 = .ok (.iconst 0, 1) := by decide +kernel
theorem d_law_188 : decode code 188 = .ok (.ireturn, 1) := by decide +kernel
theorem d_law_189 : decode code 189 = .ok (.goto 284, 3) := by decide +kernel
theorem d_law_192 : decode code 192 = .ok (.aload_n 1, 1) := by decide +kernel
theorem d_law_193 : decode code 193 = .ok (.aload_n 0, 1) := by decide +kernel
theorem d_law_194 : decode code 194 = .ok (.iload 4, 2) := by decide +kernel
theorem d_law_196 : decode code 196 = .ok (.iconst 1, 1) := by decide +kernel
theorem d_law_197 : decode code 197 = .ok (.iadd, 1) := by decide +kernel
theorem d_law_198 : decode code 198 = .ok (.iaload, 1) := by decide +kernel
theorem d_law_199 : decode code 199 = .ok (.aload_n 3, 1) := by decide +kernel
theorem d_law_200 : decode code 200 = .ok (.invokestatic 50, 3) := by decide +kernel
theorem d_law_203 : decode code 203 = .ok (.istore 5, 2) := by decide +kernel
theorem d_law_205 : decode code 205 = .ok (.aload_n 2, 1) := by decide +kernel
theorem d_law_206 : decode code 206 = .ok (.aload_n 0, 1) := by decide +kernel
theorem d_law_207 : decode code 207 = .ok (.iload 4, 2) := by decide +kernel
theorem d_law_209 : decode code 209 = .ok (.iconst 1, 1) := by decide +kernel
theorem d_law_210 : decode code 210 = .ok (.iadd, 1) := by decide +kernel
theorem d_law_211 : decode code 211 = .ok (.iaload, 1) := by decide +kernel
theorem d_law_212 : decode code 212 = .ok (.invokevirtual 53, 3) := by decide +kernel
theorem d_law_215 : decode code 215 = .ok (.istore 6, 2) := by decide +kernel
theorem d_law_217 : decode code 217 = .ok (.aload_n 2, 1) := by decide +kernel
theorem d_law_218 : decode code 218 = .ok (.invokevirtual 47, 3) := by decide +kernel
theorem d_law_221 : decode code 221 = .ok (.iload 5, 2) := by decide +kernel
theorem d_law_223 : decode code 223 = .ok (.if_icmp .eq 5, 3) := by decide +kernel
theorem d_law_226 : decode code 226 = .ok (.iconst 0, 1) := by decide +kernel
theorem d_law_227 : decode code 227 = .ok (.ireturn, 1) := by decide +kernel
theorem d_law_228 : decode code 228 = .ok (.iload 5, 2) := by decide +kernel
theorem d_law_230 : decode code 230 = .ok (.ifCond .ne 15, 3) := by decide +kernel
theorem d_law_233 : decode code 233 = .ok (.aload_n 3, 1) := by decide +kernel
theorem d_law_234 : decode code 234 = .ok (.iconst 0, 1) := by decide +kernel
theorem d_law_235 : decode code 235 = .ok (.laload, 1) := by decide +kernel
theorem d_law_236 : decode code 236 = .ok (.iload 6, 2) := by decide +kernel
theorem d_law_238 : decode code 238 = .ok (.i2l, 1) := by decide +kernel
theorem d_law_239 : decode code 239 = .ok (.lcmp, 1) := by decide +kernel
theorem d_law_240 : decode code 240 = .ok (.ifCond .eq 5, 3) := by decide +kernel
theorem d_law_243 : decode code 243 = .ok (.iconst 0, 1) := by decide +kernel
theorem d_law_244 : decode code 244 = .ok (.ireturn, 1) := by decide +kernel
theorem d_law_245 : decode code 245 = .ok (.goto 228, 3) := by decide +kernel
theorem d_law_248 : decode code 248 = .ok (.aload_n 1, 1) := by decide +kernel
theorem d_law_249 : decode code 249 = .ok (.invokevirtual 54, 3) := by decide +kernel
theorem d_law_252 : decode code 252 = .ok (.aload_n 2, 1) := by decide +kernel
theorem d_law_253 : decode code 253 = .ok (.invokevirtual 57, 3) := by decide +kernel
theorem d_law_256 : decode code 256 = .ok (.if_icmp .eq 217, 3) := by decide +kernel
theorem d_law_259 : decode code 259 = .ok (.iconst 0, 1) := by decide +kernel
theorem d_law_260 : decode code 260 = .ok (.ireturn, 1) := by decide +kernel
theorem d_law_261 : decode code 261 = .ok (.aload_n 1, 1) := by decide +kernel
theorem d_law_262 : decode code 262 = .ok (.aload_n 3, 1) := by decide +kernel
theorem d_law_263 : decode code 263 = .ok (.invokestatic 58, 3) := by decide +kernel
theorem d_law_266 : decode code 266 = .ok (.istore 5, 2) := by decide +kernel
theorem d_law_268 : decode code 268 = .ok (.aload_n 2, 1) := by decide +kernel
theorem d_law_269 : decode code 269 = .ok (.invokevirtual 61, 3) := by decide +kernel
theorem d_law_272 : decode code 272 = .ok (.istore 6, 2) := by decide +kernel
theorem d_law_274 : decode code 274 = .ok (.aload_n 2, 1) := by decide +kernel
theorem d_law_275 : decode code 275 = .ok (.invokevirtual 47, 3) := by decide +kernel
theorem d_law_278 : decode code 278 = .ok (.iload 5, 2) := by decide +kernel
theorem d_law_280 : decode code 280 = .ok (.if_icmp .eq 5, 3) := by decide +kernel
theorem d_law_283 : decode code 283 = .ok (.iconst 0, 1) := by decide +kernel
theorem d_law_284 : decode code 284 = .ok (.ireturn, 1) := by decide +kernel
theorem d_law_285 : decode code 285 = .ok (.iload 5, 2) := by decide +kernel
theorem d_law_287 : decode code 287 = .ok (.ifCond .ne 15, 3) := by decide +kernel
theorem d_law_290 : decode code 290 = .ok (.aload_n 3, 1) := by decide +kernel
theorem d_law_291 : decode code 291 = .ok (.iconst 0, 1) := by decide +kernel
theorem d_law_292 : decode code 292 = .ok (.laload, 1) := by decide +kernel
theorem d_law_293 : decode code 293 = .ok (.iload 6, 2) := by decide +kernel
theorem d_law_295 : decode code 295 = .ok (.i2l, 1) := by decide +kernel
theorem d_law_296 : decode code 296 = .ok (.lcmp, 1) := by decide +kernel
theorem d_law_297 : decode code 297 = .ok (.ifCond .eq 5, 3) := by decide +kernel
theorem d_law_300 : decode code 300 = .ok (.iconst 0, 1) := by decide +kernel
theorem d_law_301 : decode code 301 = .ok (.ireturn, 1) := by decide +kernel
theorem d_law_302 : decode code 302 = .ok (.goto 171, 3) := by decide +kernel
theorem d_law_305 : decode code 305 = .ok (.aload_n 1, 1) := by decide +kernel
theorem d_law_306 : decode code 306 = .ok (.aload_n 3, 1) := by decide +kernel
theorem d_law_307 : decode code 307 = .ok (.invokestatic 62, 3) := by decide +kernel
theorem d_law_310 : decode code 310 = .ok (.istore 5, 2) := by decide +kernel
theorem d_law_312 : decode code 312 = .ok (.aload_n 2, 1) := by decide +kernel
theorem d_law_313 : decode code 313 = .ok (.invokevirtual 64, 3) := by decide +kernel
theorem d_law_316 : decode code 316 = .ok (.istore 6, 2) := by decide +kernel
theorem d_law_318 : decode code 318 = .ok (.aload_n 2, 1) := by decide +kernel
theorem d_law_319 : decode code 319 = .ok (.invokevirtual 47, 3) := by decide +kernel
theorem d_law_322 : decode code 322 = .ok (.iload 5, 2) := by decide +kernel
theorem d_law_324 : decode code 324 = .ok (.if_icmp .eq 5, 3) := by decide +kernel
theorem d_law_327 : decode code 327 = .ok (.iconst 0, 1) := by decide +kernel
theorem d_law_328 : decode code 328 = .ok (.ireturn, 1) := by decide +kernel
theorem d_law_329 : decode code 329 = .ok (.iload 5, 2) := by decide +kernel
theorem d_law_331 : decode code 331 = .ok (.ifCond .ne 15, 3) := by decide +kernel
theorem d_law_334 : decode code 334 = .ok (.aload_n 3, 1) := by decide +kernel
theorem d_law_335 : decode code 335 = .ok (.iconst 0, 1) := by decide +kernel
theorem d_law_336 : decode code 336 = .ok (.laload, 1) := by decide +kernel
theorem d_law_337 : decode code 337 = .ok (.iload 6, 2) := by decide +kernel
theorem d_law_339 : decode code 339 = .ok (.i2l, 1) := by decide +kernel
theorem d_law_340 : decode code 340 = .ok (.lcmp, 1) := by decide +kernel
theorem d_law_341 : decode code 341 = .ok (.ifCond .eq 5, 3) := by decide +kernel
theorem d_law_344 : decode code 344 = .ok (.iconst 0, 1) := by decide +kernel
theorem d_law_345 : decode code 345 = .ok (.ireturn, 1) := by decide +kernel
theorem d_law_346 : decode code 346 = .ok (.goto 127, 3) := by decide +kernel
theorem d_law_349 : decode code 349 = .ok (.aload_n 1, 1) := by decide +kernel
theorem d_law_350 : decode code 350 = .ok (.invokevirtual 65, 3) := by decide +kernel
theorem d_law_353 : decode code 353 = .ok (.aload_n 2, 1) := by decide +kernel
theorem d_law_354 : decode code 354 = .ok (.invokevirtual 68, 3) := by decide +kernel
theorem d_law_357 : decode code 357 = .ok (.if_icmp .eq 116, 3) := by decide +kernel
theorem d_law_360 : decode code 360 = .ok (.iconst 0, 1) := by decide +kernel
theorem d_law_361 : decode code 361 = .ok (.ireturn, 1) := by decide +kernel
theorem d_law_362 : decode code 362 = .ok (.aload_n 1, 1) := by decide +kernel
theorem d_law_363 : decode code 363 = .ok (.aload_n 0, 1) := by decide +kernel
theorem d_law_364 : decode code 364 = .ok (.iload 4, 2) := by decide +kernel
theorem d_law_366 : decode code 366 = .ok (.iconst 1, 1) := by decide +kernel
theorem d_law_367 : decode code 367 = .ok (.iadd, 1) := by decide +kernel
theorem d_law_368 : decode code 368 = .ok (.iaload, 1) := by decide +kernel
theorem d_law_369 : decode code 369 = .ok (.aload_n 3, 1) := by decide +kernel
theorem d_law_370 : decode code 370 = .ok (.invokestatic 69, 3) := by decide +kernel
theorem d_law_373 : decode code 373 = .ok (.istore 5, 2) := by decide +kernel
theorem d_law_375 : decode code 375 = .ok (.aload_n 2, 1) := by decide +kernel
theorem d_law_376 : decode code 376 = .ok (.aload_n 0, 1) := by decide +kernel
theorem d_law_377 : decode code 377 = .ok (.iload 4, 2) := by decide +kernel
theorem d_law_379 : decode code 379 = .ok (.iconst 1, 1) := by decide +kernel
theorem d_law_380 : decode code 380 = .ok (.iadd, 1) := by decide +kernel
theorem d_law_381 : decode code 381 = .ok (.iaload, 1) := by decide +kernel
theorem d_law_382 : decode code 382 = .ok (.invokevirtual 71, 3) := by decide +kernel
theorem d_law_385 : decode code 385 = .ok (.lstore 6, 2) := by decide +kernel
theorem d_law_387 : decode code 387 = .ok (.aload_n 2, 1) := by decide +kernel
theorem d_law_388 : decode code 388 = .ok (.invokevirtual 47, 3) := by decide +kernel
theorem d_law_391 : decode code 391 = .ok (.iload 5, 2) := by decide +kernel
theorem d_law_393 : decode code 393 = .ok (.if_icmp .eq 5, 3) := by decide +kernel
theorem d_law_396 : decode code 396 = .ok (.iconst 0, 1) := by decide +kernel
theorem d_law_397 : decode code 397 = .ok (.ireturn, 1) := by decide +kernel
theorem d_law_398 : decode code 398 = .ok (.iload 5, 2) := by decide +kernel
theorem d_law_400 : decode code 400 = .ok (.ifCond .ne 14, 3) := by decide +kernel
theorem d_law_403 : decode code 403 = .ok (.aload_n 3, 1) := by decide +kernel
theorem d_law_404 : decode code 404 = .ok (.iconst 0, 1) := by decide +kernel
theorem d_law_405 : decode code 405 = .ok (.laload, 1) := by decide +kernel
theorem d_law_406 : decode code 406 = .ok (.lload 6, 2) := by decide +kernel
theorem d_law_408 : decode code 408 = .ok (.lcmp, 1) := by decide +kernel
theorem d_law_409 : decode code 409 = .ok (.ifCond .eq 5, 3) := by decide +kernel
theorem d_law_412 : decode code 412 = .ok (.iconst 0, 1) := by decide +kernel
theorem d_law_413 : decode code 413 = .ok (.ireturn, 1) := by decide +kernel
theorem d_law_414 : decode code 414 = .ok (.goto 59, 3) := by decide +kernel
theorem d_law_417 : decode code 417 = .ok (.aload_n 1, 1) := by decide +kernel
theorem d_law_418 : decode code 418 = .ok (.aload_n 0, 1) := by decide +kernel
theorem d_law_419 : decode code 419 = .ok (.iload 4, 2) := by decide +kernel
theorem d_law_421 : decode code 421 = .ok (.iconst 1, 1) := by decide +kernel
theorem d_law_422 : decode code 422 = .ok (.iadd, 1) := by decide +kernel
theorem d_law_423 : decode code 423 = .ok (.iaload, 1) := by decide +kernel
theorem d_law_424 : decode code 424 = .ok (.aload_n 3, 1) := by decide +kernel
theorem d_law_425 : decode code 425 = .ok (.invokestatic 72, 3) := by decide +kernel
theorem d_law_428 : decode code 428 = .ok (.istore 5, 2) := by decide +kernel
theorem d_law_430 : decode code 430 = .ok (.aload_n 2, 1) := by decide +kernel
theorem d_law_431 : decode code 431 = .ok (.aload_n 0, 1) := by decide +kernel
theorem d_law_432 : decode code 432 = .ok (.iload 4, 2) := by decide +kernel
theorem d_law_434 : decode code 434 = .ok (.iconst 1, 1) := by decide +kernel
theorem d_law_435 : decode code 435 = .ok (.iadd, 1) := by decide +kernel
theorem d_law_436 : decode code 436 = .ok (.iaload, 1) := by decide +kernel
theorem d_law_437 : decode code 437 = .ok (.invokevirtual 74, 3) := by decide +kernel
theorem d_law_440 : decode code 440 = .ok (.istore 6, 2) := by decide +kernel
theorem d_law_442 : decode code 442 = .ok (.aload_n 2, 1) := by decide +kernel
theorem d_law_443 : decode code 443 = .ok (.invokevirtual 47, 3) := by decide +kernel
theorem d_law_446 : decode code 446 = .ok (.iload 5, 2) := by decide +kernel
theorem d_law_448 : decode code 448 = .ok (.if_icmp .eq 5, 3) := by decide +kernel
theorem d_law_451 : decode code 451 = .ok (.iconst 0, 1) := by decide +kernel
theorem d_law_452 : decode code 452 = .ok (.ireturn, 1) := by decide +kernel
theorem d_law_453 : decode code 453 = .ok (.iload 5, 2) := by decide +kernel
theorem d_law_455 : decode code 455 = .ok (.ifCond .ne 15, 3) := by decide +kernel
theorem d_law_458 : decode code 458 = .ok (.aload_n 3, 1) := by decide +kernel
theorem d_law_459 : decode code 459 = .ok (.iconst 0, 1) := by decide +kernel
theorem d_law_460 : decode code 460 = .ok (.laload, 1) := by decide +kernel
theorem d_law_461 : decode code 461 = .ok (.iload 6, 2) := by decide +kernel
theorem d_law_463 : decode code 463 = .ok (.i2l, 1) := by decide +kernel
theorem d_law_464 : decode code 464 = .ok (.lcmp, 1) := by decide +kernel
theorem d_law_465 : decode code 465 = .ok (.ifCond .eq 5, 3) := by decide +kernel
theorem d_law_468 : decode code 468 = .ok (.iconst 0, 1) := by decide +kernel
theorem d_law_469 : decode code 469 = .ok (.ireturn, 1) := by decide +kernel
theorem d_law_470 : decode code 470 = .ok (.goto 3, 3) := by decide +kernel
theorem d_law_473 : decode code 473 = .ok (.iinc 4 6, 3) := by decide +kernel
theorem d_law_476 : decode code 476 = .ok (.goto (-453), 3) := by decide +kernel
theorem d_law_479 : decode code 479 = .ok (.iconst 1, 1) := by decide +kernel
theorem d_law_480 : decode code 480 = .ok (.ireturn, 1) := by decide +kernel
/-! THE CLAIM OUT OF ONE WALK OF THE LAW'S BODY. Your part is whole_start (and what it stands on); all else here is the same for every law, but numbers. -/
def R_law : String := "ZlibBoxLaw"
def lw_P (b : Addr) (xs : List Int32) (args : Array Value) (s : State) : Prop := args = #[.ref b] ∧ s.IntsAt b xs ∧ xs.length ≤ 3072 ∧ (Jvm.Cond.and given_1 narrow_1).before args s = true
def lw_Q (_ : Array Value) (s : State) (o : Outcome) (t : State) : Prop := o = .returned (some (.int 1)) ∧ Framed s o t [] 601024 7293033
def lw_Z (below : List Frame) (a : Array Value) (s : State) : State → Prop := fun t => ∃ o, t.status = .running ∧ Ended t below o ∧ lw_Q a s o t
/-- the law's own end, with 1 on the stack, nothing written that was there before, its room as the claim has it -/
theorem lw_ret {p : Program} {l : Launch} {e : Env} {s : State} {m : MethodId} {below : List Frame} {meth : Method} {c : Code} {b : Nat} (hx : p.tables.exec = Jvm.exec) (hb : c.code = code) (hr : meth.sig.returnType = ret) (hlocks : meth.locks = false) {pc : Nat} {H : Heap} {ls : Array Slot} (hdg : decode code pc = .ok (.ireturn, 1)) : W p l e room_1 s m #[Value.ref b] below meth c H [] 601024 7293033 (lw_Z below #[Value.ref b] s) (F0 m pc ls [.int 1]) := by
  intro T hT X
  obtain ⟨fs, hret, hrun, hended, hW, hframe⟩ := X.leave (v := some (.int 1)) (hlocks := hlocks) (fun h => by rw [hr] at h; cases h)
  have hmeth' : T.vm.method? m = some meth := X.method'
  refine ⟨T.setFrames fs, ?_, .returned (some (.int 1)), hrun, hended, rfl, ⟨_, rfl⟩, hW, hframe⟩
  jvm_step X.here [X.here.top, hx, hb, hdg, hmeth', hr, ret, narrow_b1]
  (try refine ⟨rfl, ?_⟩); (try refine ⟨rfl, ?_⟩)
  first | (intro acts; rw [hret _ acts rfl rfl rfl]) | rw [hret _ _ rfl rfl rfl]
  exact Steps.refl _
/-- what holds at the law's entry: the machine, the code, the tables' words (any of lw_tbl by 'hts w (by decide +kernel)'), the script of L ints xs at the cell b, what the Statement gives of the start (any of its parts by flat_of_before) -/
def lw_At (p : Program) (s : State) (m : MethodId) (meth : Method) (c : Code) (b L : Nat) (xs : Nat → Int32) : Prop :=
  p.tables.exec = Jvm.exec ∧ c.code = code ∧ meth.sig.returnType = ret ∧ c.maxLocals = 8 ∧ s.vm.findClass R_law = some m.cls ∧ (∀ w ∈ lw_tbl, w.before #[Value.ref b] s = true) ∧ va_X b L xs s s.heap ∧ b < s.heap.size ∧ meth.locks = false ∧ (Jvm.Cond.and given_1 narrow_1).before #[Value.ref b] s = true
section ZLAW
variable {G : zg} {l : Launch} {K : zk} {rm : Room} {own : String} {cc : ByteArray} {nl : Nat} {k n pc : Nat} {L L' : List (Nat × Value)} {st : List Value} {ws ws' : va_W}
/-- the script: Ls ints xs at the cell b, which nothing writes -/
def zs (G : zg) (b Ls : Nat) (xs : Nat → Int32) : Prop := match G with
  | (p, l, e, R, s, m, args, below, meth, c, K, A, nL, Q) => va_X b Ls xs s s.heap ∧ b < s.heap.size ∧ ¬ A b
theorem zj_sld (F : zf G l K rm own cc nl) {b Ls : Nat} {xs : Nat → Int32} (B : zs G b Ls xs) {i : Int32} (d : decode cc pc = .ok (.iaload, 1)) (j : Nat) (hi : i = nI j) (hj : j < Ls) (hL : Ls < 2 ^ 31) (kk : zj G k n (pc + 1) L (.int (xs j) :: st) ws) : zj G k n pc L (.int i :: .ref b :: st) ws := by
  obtain ⟨p, l, e, R, s, m, args, below, meth, c, K, A, nL, Q⟩ := G
  obtain ⟨hx, hb, hml, hown, hts, hK, hA, hZ, hlk, hst, rfl, rfl, rfl, rfl⟩ := F
  obtain ⟨hX, hbl, hbA⟩ := B
  intro H locs ls hP hD hS hl
  subst hi
  refine va_sld hx hb hX hbl hbA hS (vp_in_nI hj hL) d ?_
  rw [nI_clamp (by omega)]
  exact kk H locs ls hP hD hS hl
theorem zj_slen (F : zf G l K rm own cc nl) {b Ls : Nat} {xs : Nat → Int32} (B : zs G b Ls xs) (d : decode cc pc = .ok (.arraylength, 1)) (kk : zj G k n (pc + 1) L (.int (nI Ls) :: st) ws) : zj G k n pc L (.ref b :: st) ws := by
  obtain ⟨p, l, e, R, s, m, args, below, meth, c, K, A, nL, Q⟩ := G
  obtain ⟨hx, hb, hml, hown, hts, hK, hA, hZ, hlk, hst, rfl, rfl, rfl, rfl⟩ := F
  obtain ⟨hX, hbl, hbA⟩ := B
  intro H locs ls hP hD hS hl
  exact va_slen hx hb hX hbl hbA hS d (kk H locs ls hP hD hS hl)
theorem zj_tab (F : zf G l K rm own cc nl) {dflt lo hi : Int} {offs : Array Int} {len : Nat} {x : Int32} {off : Int} {tgt : Nat} (d : decode cc pc = .ok (.tableswitch dflt lo hi offs, len)) (h1 : ¬ x.toInt < lo) (h2 : ¬ hi < x.toInt) (ho : offs[(x.toInt - lo).toNat]? = some off) (ht : (pc : Int) + off = (tgt : Int)) (kk : zj G k n tgt L st ws) : zj G k n pc L (.int x :: st) ws := by
  obtain ⟨p, l, e, R, s, m, args, below, meth, c, K, A, nL, Q⟩ := G
  obtain ⟨hx, hb, hml, hown, hts, hK, hA, hZ, hlk, hst, rfl, rfl, rfl, rfl⟩ := F
  intro H locs ls hP hD hS hl
  exact lv_tableIn hx hb d h1 h2 ho ht (kk H locs ls hP hD hS hl)
/-- what the law's end needs -/
def zr (G : zg) : Prop := match G with
  | (p, l, e, R, s, m, args, below, meth, c, K, A, nL, Q) => ∃ b : Nat, R = room_1 ∧ args = #[Value.ref b] ∧ Q = lw_Z below args s ∧ meth.sig.returnType = ret ∧ ∀ q, A q → s.heap.size ≤ q
theorem zj_lawret (F : zf G l K rm own code nl) (Z : zr G) (d : decode code pc = .ok (.ireturn, 1)) (hk : k ≤ 601024) (hn : n ≤ 7293033) : zj G k n pc L [.int (nI 1)] ws := by
  obtain ⟨p, l, e, R, s, m, args, below, meth, c, K, A, nL, Q⟩ := G
  obtain ⟨hx, hb, hml, hown, hts, hK, hA, hZ, hlk, hst, rfl, rfl, rfl, rfl⟩ := F
  obtain ⟨b, rfl, rfl, rfl, hr, hA2⟩ := Z
  intro H locs ls hP hD hS hl
  exact va_forget (fun q hq => hA2 _ (hS.2.2 q hq)) (W.widen hk hn (lw_ret hx hb hr hlk d))
end ZLAW
theorem zI_lm6 {a b : Nat} (ha : a < 2 ^ 30) (hb : b < 2 ^ 30) : nI a - nI 6 < nI b ↔ a < b + 6 := by
  rw [Int32.lt_iff_toInt_lt, nI_toInt (by omega)]
  have h : (nI a - nI 6).toInt = (a : Int) - 6 := by
    rw [Int32.toInt_sub, nI_toInt (by omega), nI_toInt (by omega)]
    rw [Int.bmod_eq_of_le (by omega) (by omega)]
    rfl
  rw [h]
  omega
theorem zI_and7 (x : Int32) : ∃ r, r < 8 ∧ x &&& nI 7 = nI r := by
  refine ⟨(x &&& nI 7).toBitVec.toNat, ?_, (zI_nat _).symm⟩
  show (x.toBitVec &&& (nI 7).toBitVec).toNat < 8
  rw [BitVec.toNat_and]
  have h1 : (nI 7).toBitVec.toNat = 7 := by decide
  rw [h1]
  have := Nat.and_le_right (n := x.toBitVec.toNat) (m := 7)
  omega
