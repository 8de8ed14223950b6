theorem dX12_init_70 : decode cX12_init 70 = .ok (.iconst 4, 1) := by decide +kernel
theorem dX12_init_71 : decode cX12_init 71 = .ok (.ldc2_w 42, 3) := by decide +kernel
theorem dX12_init_74 : decode cX12_init 74 = .ok (.lastore, 1) := by decide +kernel
theorem dX12_init_75 : decode cX12_init 75 = .ok (.dup, 1) := by decide +kernel
theorem dX12_init_76 : decode cX12_init 76 = .ok (.iconst 5, 1) := by decide +kernel
theorem dX12_init_77 : decode cX12_init 77 = .ok (.ldc2_w 44, 3) := by decide +kernel
theorem dX12_init_80 : decode cX12_init 80 = .ok (.lastore, 1) := by decide +kernel
theorem dX12_init_81 : decode cX12_init 81 = .ok (.dup, 1) := by decide +kernel
theorem dX12_init_82 : decode cX12_init 82 = .ok (.bipush 6, 2) := by decide +kernel
theorem dX12_init_84 : decode cX12_init 84 = .ok (.ldc2_w 46, 3) := by decide +kernel
theorem dX12_init_87 : decode cX12_init 87 = .ok (.lastore, 1) := by decide +kernel
theorem dX12_init_88 : decode cX12_init 88 = .ok (.dup, 1) := by decide +kernel
theorem dX12_init_89 : decode cX12_init 89 = .ok (.bipush 7, 2) := by decide +kernel
theorem dX12_init_91 : decode cX12_init 91 = .ok (.ldc2_w 48, 3) := by decide +kernel
theorem dX12_init_94 : decode cX12_init 94 = .ok (.lastore, 1) := by decide +kernel
theorem dX12_init_95 : decode cX12_init 95 = .ok (.dup, 1) := by decide +kernel
theorem dX12_init_96 : decode cX12_init 96 = .ok (.bipush 8, 2) := by decide +kernel
theorem dX12_init_98 : decode cX12_init 98 = .ok (.ldc2_w 50, 3) := by decide +kernel
theorem dX12_init_101 : decode cX12_init 101 = .ok (.lastore, 1) := by decide +kernel
theorem dX12_init_102 : decode cX12_init 102 = .ok (.dup, 1) := by decide +kernel
theorem dX12_init_103 : decode cX12_init 103 = .ok (.bipush 9, 2) := by decide +kernel
theorem dX12_init_105 : decode cX12_init 105 = .ok (.ldc2_w 52, 3) := by decide +kernel
theorem dX12_init_108 : decode cX12_init 108 = .ok (.lastore, 1) := by decide +kernel
theorem dX12_init_109 : decode cX12_init 109 = .ok (.dup, 1) := by decide +kernel
theorem dX12_init_110 : decode cX12_init 110 = .ok (.bipush 10, 2) := by decide +kernel
theorem dX12_init_112 : decode cX12_init 112 = .ok (.ldc2_w 54, 3) := by decide +kernel
theorem dX12_init_115 : decode cX12_init 115 = .ok (.lastore, 1) := by decide +kernel
theorem dX12_init_116 : decode cX12_init 116 = .ok (.dup, 1) := by decide +kernel
theorem dX12_init_117 : decode cX12_init 117 = .ok (.bipush 11, 2) := by decide +kernel
theorem dX12_init_119 : decode cX12_init 119 = .ok (.ldc2_w 56, 3) := by decide +kernel
theorem dX12_init_122 : decode cX12_init 122 = .ok (.lastore, 1) := by decide +kernel
theorem dX12_init_123 : decode cX12_init 123 = .ok (.dup, 1) := by decide +kernel
theorem dX12_init_124 : decode cX12_init 124 = .ok (.bipush 12, 2) := by decide +kernel
theorem dX12_init_126 : decode cX12_init 126 = .ok (.ldc2_w 58, 3) := by decide +kernel
theorem dX12_init_129 : decode cX12_init 129 = .ok (.lastore, 1) := by decide +kernel
theorem dX12_init_130 : decode cX12_init 130 = .ok (.dup, 1) := by decide +kernel
theorem dX12_init_131 : decode cX12_init 131 = .ok (.bipush 13, 2) := by decide +kernel
theorem dX12_init_133 : decode cX12_init 133 = .ok (.ldc2_w 60, 3) := by decide +kernel
theorem dX12_init_136 : decode cX12_init 136 = .ok (.lastore, 1) := by decide +kernel
theorem dX12_init_137 : decode cX12_init 137 = .ok (.dup, 1) := by decide +kernel
theorem dX12_init_138 : decode cX12_init 138 = .ok (.bipush 14, 2) := by decide +kernel
theorem dX12_init_140 : decode cX12_init 140 = .ok (.ldc2_w 62, 3) := by decide +kernel
theorem dX12_init_143 : decode cX12_init 143 = .ok (.lastore, 1) := by decide +kernel
theorem dX12_init_144 : decode cX12_init 144 = .ok (.dup, 1) := by decide +kernel
theorem dX12_init_145 : decode cX12_init 145 = .ok (.bipush 15, 2) := by decide +kernel
theorem dX12_init_147 : decode cX12_init 147 = .ok (.ldc2_w 64, 3) := by decide +kernel
theorem dX12_init_150 : decode cX12_init 150 = .ok (.lastore, 1) := by decide +kernel
theorem dX12_init_151 : decode cX12_init 151 = .ok (.dup, 1) := by decide +kernel
theorem dX12_init_152 : decode cX12_init 152 = .ok (.bipush 16, 2) := by decide +kernel
theorem dX12_init_154 : decode cX12_init 154 = .ok (.ldc2_w 66, 3) := by decide +kernel
theorem dX12_init_157 : decode cX12_init 157 = .ok (.lastore, 1) := by decide +kernel
theorem dX12_init_158 : decode cX12_init 158 = .ok (.dup, 1) := by decide +kernel
theorem dX12_init_159 : decode cX12_init 159 = .ok (.bipush 17, 2) := by decide +kernel
theorem dX12_init_161 : decode cX12_init 161 = .ok (.ldc2_w 68, 3) := by decide +kernel
theorem dX12_init_164 : decode cX12_init 164 = .ok (.lastore, 1) := by decide +kernel
theorem dX12_init_165 : decode cX12_init 165 = .ok (.dup, 1) := by decide +kernel
theorem dX12_init_166 : decode cX12_init 166 = .ok (.bipush 18, 2) := by decide +kernel
theorem dX12_init_168 : decode cX12_init 168 = .ok (.ldc2_w 70, 3) := by decide +kernel
theorem dX12_init_171 : decode cX12_init 171 = .ok (.lastore, 1) := by decide +kernel
theorem dX12_init_172 : decode cX12_init 172 = .ok (.dup, 1) := by decide +kernel
theorem dX12_init_173 : decode cX12_init 173 = .ok (.bipush 19, 2) := by decide +kernel
theorem dX12_init_175 : decode cX12_init 175 = .ok (.ldc2_w 72, 3) := by decide +kernel
theorem dX12_init_178 : decode cX12_init 178 = .ok (.lastore, 1) := by decide +kernel
theorem dX12_init_179 : decode cX12_init 179 = .ok (.dup, 1) := by decide +kernel
theorem dX12_init_180 : decode cX12_init 180 = .ok (.bipush 20, 2) := by decide +kernel
theorem dX12_init_182 : decode cX12_init 182 = .ok (.ldc2_w 74, 3) := by decide +kernel
theorem dX12_init_185 : decode cX12_init 185 = .ok (.lastore, 1) := by decide +kernel
theorem dX12_init_186 : decode cX12_init 186 = .ok (.dup, 1) := by decide +kernel
theorem dX12_init_187 : decode cX12_init 187 = .ok (.bipush 21, 2) := by decide +kernel
theorem dX12_init_189 : decode cX12_init 189 = .ok (.ldc2_w 76, 3) := by decide +kernel
theorem dX12_init_192 : decode cX12_init 192 = .ok (.lastore, 1) := by decide +kernel
theorem dX12_init_193 : decode cX12_init 193 = .ok (.dup, 1) := by decide +kernel
theorem dX12_init_194 : decode cX12_init 194 = .ok (.bipush 22, 2) := by decide +kernel
theorem dX12_init_196 : decode cX12_init 196 = .ok (.ldc2_w 78, 3) := by decide +kernel
theorem dX12_init_199 : decode cX12_init 199 = .ok (.lastore, 1) := by decide +kernel
theorem dX12_init_200 : decode cX12_init 200 = .ok (.dup, 1) := by decide +kernel
theorem dX12_init_201 : decode cX12_init 201 = .ok (.bipush 23, 2) := by decide +kernel
theorem dX12_init_203 : decode cX12_init 203 = .ok (.ldc2_w 80, 3) := by decide +kernel
theorem dX12_init_206 : decode cX12_init 206 = .ok (.lastore, 1) := by decide +kernel
theorem dX12_init_207 : decode cX12_init 207 = .ok (.dup, 1) := by decide +kernel
theorem dX12_init_208 : decode cX12_init 208 = .ok (.bipush 24, 2) := by decide +kernel
theorem dX12_init_210 : decode cX12_init 210 = .ok (.ldc2_w 82, 3) := by decide +kernel
theorem dX12_init_213 : decode cX12_init 213 = .ok (.lastore, 1) := by decide +kernel
theorem dX12_init_214 : decode cX12_init 214 = .ok (.dup, 1) := by decide +kernel
theorem dX12_init_215 : decode cX12_init 215 = .ok (.bipush 25, 2) := by decide +kernel
theorem dX12_init_217 : decode cX12_init 217 = .ok (.ldc2_w 84, 3) := by decide +kernel
theorem dX12_init_220 : decode cX12_init 220 = .ok (.lastore, 1) := by decide +kernel
theorem dX12_init_221 : decode cX12_init 221 = .ok (.dup, 1) := by decide +kernel
theorem dX12_init_222 : decode cX12_init 222 = .ok (.bipush 26, 2) := by decide +kernel
theorem dX12_init_224 : decode cX12_init 224 = .ok (.ldc2_w 86, 3) := by decide +kernel
theorem dX12_init_227 : decode cX12_init 227 = .ok (.lastore, 1) := by decide +kernel
theorem dX12_init_228 : decode cX12_init 228 = .ok (.dup, 1) := by decide +kernel
theorem dX12_init_229 : decode cX12_init 229 = .ok (.bipush 27, 2) := by decide +kernel
theorem dX12_init_231 : decode cX12_init 231 = .ok (.ldc2_w 88, 3) := by decide +kernel
theorem dX12_init_234 : decode cX12_init 234 = .ok (.lastore, 1) := by decide +kernel
theorem dX12_init_235 : decode cX12_init 235 = .ok (.dup, 1) := by decide +kernel
theorem dX12_init_236 : decode cX12_init 236 = .ok (.bipush 28, 2) := by decide +kernel
theorem dX12_init_238 : decode cX12_init 238 = .ok (.ldc2_w 90, 3) := by decide +kernel
theorem dX12_init_241 : decode cX12_init 241 = .ok (.lastore, 1) := by decide +kernel
theorem dX12_init_242 : decode cX12_init 242 = .ok (.dup, 1) := by decide +kernel
theorem dX12_init_243 : decode cX12_init 243 = .ok (.bipush 29, 2) := by decide +kernel
theorem dX12_init_245 : decode cX12_init 245 = .ok (.ldc2_w 92, 3) := by decide +kernel
theorem dX12_init_248 : decode cX12_init 248 = .ok (.lastore, 1) := by decide +kernel
theorem dX12_init_249 : decode cX12_init 249 = .ok (.putfield 94, 3) := by decide +kernel
theorem dX12_init_252 : decode cX12_init 252 = .ok (.aload_n 0, 1) := by decide +kernel
theorem dX12_init_253 : decode cX12_init 253 = .ok (.sipush 160, 3) := by decide +kernel
theorem dX12_init_256 : decode cX12_init 256 = .ok (.newarray .int, 2) := by decide +kernel
theorem dX12_init_258 : decode cX12_init 258 = .ok (.putfield 97, 3) := by decide +kernel
theorem dX12_init_261 : decode cX12_init 261 = .ok (.aload_n 0, 1) := by decide +kernel
theorem dX12_init_262 : decode cX12_init 262 = .ok (.sipush 2200, 3) := by decide +kernel
theorem dX12_init_265 : decode cX12_init 265 = .ok (.newarray .int, 2) := by decide +kernel
theorem dX12_init_267 : decode cX12_init 267 = .ok (.putfield 100, 3) := by decide +kernel
theorem dX12_init_270 : decode cX12_init 270 = .ok (.aload_n 0, 1) := by decide +kernel
theorem dX12_init_271 : decode cX12_init 271 = .ok (.sipush 2200, 3) := by decide +kernel
theorem dX12_init_274 : decode cX12_init 274 = .ok (.newarray .int, 2) := by decide +kernel
theorem dX12_init_276 : decode cX12_init 276 = .ok (.putfield 103, 3) := by decide +kernel
theorem dX12_init_279 : decode cX12_init 279 = .ok (.aload_n 0, 1) := by decide +kernel
theorem dX12_init_280 : decode cX12_init 280 = .ok (.bipush 8, 2) := by decide +kernel
theorem dX12_init_282 : decode cX12_init 282 = .ok (.newarray .long, 2) := by decide +kernel
theorem dX12_init_284 : decode cX12_init 284 = .ok (.putfield 106, 3) := by decide +kernel
theorem dX12_init_287 : decode cX12_init 287 = .ok (.aload_n 0, 1) := by decide +kernel
theorem dX12_init_288 : decode cX12_init 288 = .ok (.bipush 8, 2) := by decide +kernel
theorem dX12_init_290 : decode cX12_init 290 = .ok (.newarray .long, 2) := by decide +kernel
theorem dX12_init_292 : decode cX12_init 292 = .ok (.putfield 109, 3) := by decide +kernel
theorem dX12_init_295 : decode cX12_init 295 = .ok (.aload_n 0, 1) := by decide +kernel
theorem dX12_init_296 : decode cX12_init 296 = .ok (.bipush 8, 2) := by decide +kernel
theorem dX12_init_298 : decode cX12_init 298 = .ok (.newarray .int, 2) := by decide +kernel
theorem dX12_init_300 : decode cX12_init 300 = .ok (.putfield 112, 3) := by decide +kernel
theorem dX12_init_303 : decode cX12_init 303 = .ok (.aload_n 0, 1) := by decide +kernel
theorem dX12_init_304 : decode cX12_init 304 = .ok (.bipush 8, 2) := by decide +kernel
theorem dX12_init_306 : decode cX12_init 306 = .ok (.newarray .int, 2) := by decide +kernel
theorem dX12_init_308 : decode cX12_init 308 = .ok (.putfield 115, 3) := by decide +kernel
theorem dX12_init_311 : decode cX12_init 311 = .ok (.aload_n 0, 1) := by decide +kernel
theorem dX12_init_312 : decode cX12_init 312 = .ok (.bipush 90, 2) := by decide +kernel
theorem dX12_init_314 : decode cX12_init 314 = .ok (.newarray .int, 2) := by decide +kernel
theorem dX12_init_316 : decode cX12_init 316 = .ok (.putfield 118, 3) := by decide +kernel
theorem dX12_init_319 : decode cX12_init 319 = .ok (.aload_n 0, 1) := by decide +kernel
theorem dX12_init_320 : decode cX12_init 320 = .ok (.bipush 16, 2) := by decide +kernel
theorem dX12_init_322 : decode cX12_init 322 = .ok (.newarray .int, 2) := by decide +kernel
theorem dX12_init_324 : decode cX12_init 324 = .ok (.putfield 121, 3) := by decide +kernel
theorem dX12_init_327 : decode cX12_init 327 = .ok (.aload_n 0, 1) := by decide +kernel
theorem dX12_init_328 : decode cX12_init 328 = .ok (.iconst 5, 1) := by decide +kernel
theorem dX12_init_329 : decode cX12_init 329 = .ok (.newarray .int, 2) := by decide +kernel
theorem dX12_init_331 : decode cX12_init 331 = .ok (.putfield 124, 3) := by decide +kernel
theorem dX12_init_334 : decode cX12_init 334 = .ok (.aload_n 0, 1) := by decide +kernel
theorem dX12_init_335 : decode cX12_init 335 = .ok (.sipush 1100, 3) := by decide +kernel
theorem dX12_init_338 : decode cX12_init 338 = .ok (.newarray .int, 2) := by decide +kernel
theorem dX12_init_340 : decode cX12_init 340 = .ok (.putfield 127, 3) := by decide +kernel
theorem dX12_init_343 : decode cX12_init 343 = .ok (.aload_n 0, 1) := by decide +kernel
theorem dX12_init_344 : decode cX12_init 344 = .ok (.sipush 1760, 3) := by decide +kernel
theorem dX12_init_347 : decode cX12_init 347 = .ok (.newarray .int, 2) := by decide +kernel
theorem dX12_init_349 : decode cX12_init 349 = .ok (.putfield 130, 3) := by decide +kernel
theorem dX12_init_352 : decode cX12_init 352 = .ok (.aload_n 0, 1) := by decide +kernel
theorem dX12_init_353 : decode cX12_init 353 = .ok (.iconst 4, 1) := by decide +kernel
theorem dX12_init_354 : decode cX12_init 354 = .ok (.newarray .boolean, 2) := by decide +kernel
theorem dX12_init_356 : decode cX12_init 356 = .ok (.putfield 133, 3) := by decide +kernel
theorem dX12_init_359 : decode cX12_init 359 = .ok (.aload_n 0, 1) := by decide +kernel
theorem dX12_init_360 : decode cX12_init 360 = .ok (.iconst 4, 1) := by decide +kernel
theorem dX12_init_361 : decode cX12_init 361 = .ok (.newarray .int, 2) := by decide +kernel
theorem dX12_init_363 : decode cX12_init 363 = .ok (.putfield 137, 3) := by decide +kernel
theorem dX12_init_366 : decode cX12_init 366 = .ok (.aload_n 0, 1) := by decide +kernel
theorem dX12_init_367 : decode cX12_init 367 = .ok (.bipush 24, 2) := by decide +kernel
theorem dX12_init_369 : decode cX12_init 369 = .ok (.newarray .int, 2) := by decide +kernel
theorem dX12_init_371 : decode cX12_init 371 = .ok (.putfield 140, 3) := by decide +kernel
theorem dX12_init_374 : decode cX12_init 374 = .ok (.aload_n 0, 1) := by decide +kernel
theorem dX12_init_375 : decode cX12_init 375 = .ok (.sipush 384, 3) := by decide +kernel
theorem dX12_init_378 : decode cX12_init 378 = .ok (.newarray .int, 2) := by decide +kernel
theorem dX12_init_380 : decode cX12_init 380 = .ok (.putfield 143, 3) := by decide +kernel
theorem dX12_init_383 : decode cX12_init 383 = .ok (.aload_n 0, 1) := by decide +kernel
theorem dX12_init_384 : decode cX12_init 384 = .ok (.sipush 576, 3) := by decide +kernel
theorem dX12_init_387 : decode cX12_init 387 = .ok (.newarray .int, 2) := by decide +kernel
theorem dX12_init_389 : decode cX12_init 389 = .ok (.putfield 146, 3) := by decide +kernel
theorem dX12_init_392 : decode cX12_init 392 = .ok (.aload_n 0, 1) := by decide +kernel
theorem dX12_init_393 : decode cX12_init 393 = .ok (.iconst 5, 1) := by decide +kernel
theorem dX12_init_394 : decode cX12_init 394 = .ok (.newarray .int, 2) := by decide +kernel
theorem dX12_init_396 : decode cX12_init 396 = .ok (.putfield 149, 3) := by decide +kernel
theorem dX12_init_399 : decode cX12_init 399 = .ok (.aload_n 0, 1) := by decide +kernel
theorem dX12_init_400 : decode cX12_init 400 = .ok (.bipush 20, 2) := by decide +kernel
theorem dX12_init_402 : decode cX12_init 402 = .ok (.newarray .int, 2) := by decide +kernel
theorem dX12_init_404 : decode cX12_init 404 = .ok (.putfield 152, 3) := by decide +kernel
theorem dX12_init_407 : decode cX12_init 407 = .ok (.aload_n 0, 1) := by decide +kernel
theorem dX12_init_408 : decode cX12_init 408 = .ok (.iconst 5, 1) := by decide +kernel
theorem dX12_init_409 : decode cX12_init 409 = .ok (.newarray .int, 2) := by decide +kernel
theorem dX12_init_411 : decode cX12_init 411 = .ok (.putfield 155, 3) := by decide +kernel
theorem dX12_init_414 : decode cX12_init 414 = .ok (.aload_n 0, 1) := by decide +kernel
theorem dX12_init_415 : decode cX12_init 415 = .ok (.iconst 4, 1) := by decide +kernel
theorem dX12_init_416 : decode cX12_init 416 = .ok (.newarray .int, 2) := by decide +kernel
theorem dX12_init_418 : decode cX12_init 418 = .ok (.putfield 158, 3) := by decide +kernel
theorem dX12_init_421 : decode cX12_init 421 = .ok (.aload_n 0, 1) := by decide +kernel
theorem dX12_init_422 : decode cX12_init 422 = .ok (.iconst 5, 1) := by decide +kernel
theorem dX12_init_423 : decode cX12_init 423 = .ok (.newarray .int, 2) := by decide +kernel
theorem dX12_init_425 : decode cX12_init 425 = .ok (.putfield 161, 3) := by decide +kernel
theorem dX12_init_428 : decode cX12_init 428 = .ok (.aload_n 0, 1) := by decide +kernel
theorem dX12_init_429 : decode cX12_init 429 = .ok (.iconst 4, 1) := by decide +kernel
theorem dX12_init_430 : decode cX12_init 430 = .ok (.newarray .int, 2) := by decide +kernel
theorem dX12_init_432 : decode cX12_init 432 = .ok (.putfield 164, 3) := by decide +kernel
theorem dX12_init_435 : decode cX12_init 435 = .ok (.aload_n 0, 1) := by decide +kernel
theorem dX12_init_436 : decode cX12_init 436 = .ok (.bipush 16, 2) := by decide +kernel
theorem dX12_init_438 : decode cX12_init 438 = .ok (.newarray .int, 2) := by decide +kernel
theorem dX12_init_440 : decode cX12_init 440 = .ok (.putfield 167, 3) := by decide +kernel
theorem dX12_init_443 : decode cX12_init 443 = .ok (.aload_n 0, 1) := by decide +kernel
theorem dX12_init_444 : decode cX12_init 444 = .ok (.bipush 40, 2) := by decide +kernel
theorem dX12_init_446 : decode cX12_init 446 = .ok (.newarray .int, 2) := by decide +kernel
theorem dX12_init_448 : decode cX12_init 448 = .ok (.putfield 170, 3) := by decide +kernel
theorem dX12_init_451 : decode cX12_init 451 = .ok (.aload_n 0, 1) := by decide +kernel
theorem dX12_init_452 : decode cX12_init 452 = .ok (.iconst 4, 1) := by decide +kernel
theorem dX12_init_453 : decode cX12_init 453 = .ok (.newarray .int, 2) := by decide +kernel
theorem dX12_init_455 : decode cX12_init 455 = .ok (.putfield 173, 3) := by decide +kernel
theorem dX12_init_458 : decode cX12_init 458 = .ok (.aload_n 0, 1) := by decide +kernel
theorem dX12_init_459 : decode cX12_init 459 = .ok (.iconst 4, 1) := by decide +kernel
theorem dX12_init_460 : decode cX12_init 460 = .ok (.newarray .int, 2) := by decide +kernel
theorem dX12_init_462 : decode cX12_init 462 = .ok (.putfield 176, 3) := by decide +kernel
theorem dX12_init_465 : decode cX12_init 465 = .ok (.aload_n 0, 1) := by decide +kernel
theorem dX12_init_466 : decode cX12_init 466 = .ok (.iconst 5, 1) := by decide +kernel
theorem dX12_init_467 : decode cX12_init 467 = .ok (.newarray .int, 2) := by decide +kernel
theorem dX12_init_469 : decode cX12_init 469 = .ok (.putfield 179, 3) := by decide +kernel
theorem dX12_init_472 : decode cX12_init 472 = .ok (.aload_n 0, 1) := by decide +kernel
theorem dX12_init_473 : decode cX12_init 473 = .ok (.iconst 4, 1) := by decide +kernel
theorem dX12_init_474 : decode cX12_init 474 = .ok (.newarray .int, 2) := by decide +kernel
theorem dX12_init_476 : decode cX12_init 476 = .ok (.putfield 182, 3) := by decide +kernel
theorem dX12_init_479 : decode cX12_init 479 = .ok (.aload_n 0, 1) := by decide +kernel
theorem dX12_init_480 : decode cX12_init 480 = .ok (.iconst 0, 1) := by decide +kernel
theorem dX12_init_481 : decode cX12_init 481 = .ok (.invokevirtual 185, 3) := by decide +kernel
theorem dX12_init_484 : decode cX12_init 484 = .ok (.aload_n 0, 1) := by decide +kernel
theorem dX12_init_485 : decode cX12_init 485 = .ok (.getfield 97, 3) := by decide +kernel
theorem dX12_init_488 : decode cX12_init 488 = .ok (.iconst 0, 1) := by decide +kernel
theorem dX12_init_489 : decode cX12_init 489 = .ok (.iconst 2, 1) := by decide +kernel
theorem dX12_init_490 : decode cX12_init 490 = .ok (.iastore, 1) := by decide +kernel
theorem dX12_init_491 : decode cX12_init 491 = .ok (.aload_n 0, 1) := by decide +kernel
theorem dX12_init_492 : decode cX12_init 492 = .ok (.invokevirtual 189, 3) := by decide +kernel
theorem dX12_init_495 : decode cX12_init 495 = .ok (.return_, 1) := by decide +kernel
theorem dX12_isLetter_0 : decode cX12_isLetter 0 = .ok (.iload_n 0, 1) := by decide +kernel
theorem dX12_isLetter_1 : decode cX12_isLetter 1 = .ok (.bipush 97, 2) := by decide +kernel
theorem dX12_isLetter_3 : decode cX12_isLetter 3 = .ok (.if_icmp .lt 13, 3) := by decide +kernel
theorem dX12_isLetter_6 : decode cX12_isLetter 6 = .ok (.iload_n 0, 1) := by decide +kernel
theorem dX12_isLetter_7 : decode cX12_isLetter 7 = .ok (.bipush 122, 2) := by decide +kernel
theorem dX12_isLetter_9 : decode cX12_isLetter 9 = .ok (.if_icmp .gt 7, 3) := by decide +kernel
theorem dX12_isLetter_12 : decode cX12_isLetter 12 = .ok (.iconst 1, 1) := by decide +kernel
theorem dX12_isLetter_13 : decode cX12_isLetter 13 = .ok (.goto 4, 3) := by decide +kernel
theorem dX12_isLetter_16 : decode cX12_isLetter 16 = .ok (.iconst 0, 1) := by decide +kernel
theorem dX12_isLetter_17 : decode cX12_isLetter 17 = .ok (.ireturn, 1) := by decide +kernel
theorem dX12_isDigit_0 : decode cX12_isDigit 0 = .ok (.iload_n 0, 1) := by decide +kernel
theorem dX12_isDigit_1 : decode cX12_isDigit 1 = .ok (.bipush 48, 2) := by decide +kernel
theorem dX12_isDigit_3 : decode cX12_isDigit 3 = .ok (.if_icmp .lt 13, 3) := by decide +kernel
theorem dX12_isDigit_6 : decode cX12_isDigit 6 = .ok (.iload_n 0, 1) := by decide +kernel
theorem dX12_isDigit_7 : decode cX12_isDigit 7 = .ok (.bipush 57, 2) := by decide +kernel
theorem dX12_isDigit_9 : decode cX12_isDigit 9 = .ok (.if_icmp .gt 7, 3) := by decide +kernel
theorem dX12_isDigit_12 : decode cX12_isDigit 12 = .ok (.iconst 1, 1) := by decide +kernel
theorem dX12_isDigit_13 : decode cX12_isDigit 13 = .ok (.goto 4, 3) := by decide +kernel
theorem dX12_isDigit_16 : decode cX12_isDigit 16 = .ok (.iconst 0, 1) := by decide +kernel
theorem dX12_isDigit_17 : decode cX12_isDigit 17 = .ok (.ireturn, 1) := by decide +kernel
theorem dX12_rank_0 : decode cX12_rank 0 = .ok (.iload_n 0, 1) := by decide +kernel
theorem dX12_rank_1 : decode cX12_rank 1 = .ok (.invokestatic 192, 3) := by decide +kernel
theorem dX12_rank_4 : decode cX12_rank 4 = .ok (.ifCond .eq 10, 3) := by decide +kernel
theorem dX12_rank_7 : decode cX12_rank 7 = .ok (.iload_n 0, 1) := by decide +kernel
theorem dX12_rank_8 : decode cX12_rank 8 = .ok (.bipush 96, 2) := by decide +kernel
theorem dX12_rank_10 : decode cX12_rank 10 = .ok (.isub, 1) := by decide +kernel
theorem dX12_rank_11 : decode cX12_rank 11 = .ok (.goto 7, 3) := by decide +kernel
theorem dX12_rank_14 : decode cX12_rank 14 = .ok (.iload_n 0, 1) := by decide +kernel
theorem dX12_rank_15 : decode cX12_rank 15 = .ok (.bipush 21, 2) := by decide +kernel
theorem dX12_rank_17 : decode cX12_rank 17 = .ok (.isub, 1) := by decide +kernel
theorem dX12_rank_18 : decode cX12_rank 18 = .ok (.ireturn, 1) := by decide +kernel
theorem dX12_isSignOf_0 : decode cX12_isSignOf 0 = .ok (.iload_n 0, 1) := by decide +kernel
theorem dX12_isSignOf_1 : decode cX12_isSignOf 1 = .ok (.bipush 40, 2) := by decide +kernel
theorem dX12_isSignOf_3 : decode cX12_isSignOf 3 = .ok (.if_icmp .eq 45, 3) := by decide +kernel
theorem dX12_isSignOf_6 : decode cX12_isSignOf 6 = .ok (.iload_n 0, 1) := by decide +kernel
theorem dX12_isSignOf_7 : decode cX12_isSignOf 7 = .ok (.bipush 41, 2) := by decide +kernel
theorem dX12_isSignOf_9 : decode cX12_isSignOf 9 = .ok (.if_icmp .eq 39, 3) := by decide +kernel
theorem dX12_isSignOf_12 : decode cX12_isSignOf 12 = .ok (.iload_n 0, 1) := by decide +kernel
theorem dX12_isSignOf_13 : decode cX12_isSignOf 13 = .ok (.bipush 59, 2) := by decide +kernel
theorem dX12_isSignOf_15 : decode cX12_isSignOf 15 = .ok (.if_icmp .eq 33, 3) := by decide +kernel
theorem dX12_isSignOf_18 : decode cX12_isSignOf 18 = .ok (.iload_n 0, 1) := by decide +kernel
theorem dX12_isSignOf_19 : decode cX12_isSignOf 19 = .ok (.bipush 61, 2) := by decide +kernel
theorem dX12_isSignOf_21 : decode cX12_isSignOf 21 = .ok (.if_icmp .eq 27, 3) := by decide +kernel
theorem dX12_isSignOf_24 : decode cX12_isSignOf 24 = .ok (.iload_n 0, 1) := by decide +kernel
theorem dX12_isSignOf_25 : decode cX12_isSignOf 25 = .ok (.bipush 60, 2) := by decide +kernel
theorem dX12_isSignOf_27 : decode cX12_isSignOf 27 = .ok (.if_icmp .eq 21, 3) := by decide +kernel
theorem dX12_isSignOf_30 : decode cX12_isSignOf 30 = .ok (.iload_n 0, 1) := by decide +kernel
theorem dX12_isSignOf_31 : decode cX12_isSignOf 31 = .ok (.bipush 43, 2) := by decide +kernel
theorem dX12_isSignOf_33 : decode cX12_isSignOf 33 = .ok (.if_icmp .eq 15, 3) := by decide +kernel
theorem dX12_isSignOf_36 : decode cX12_isSignOf 36 = .ok (.iload_n 0, 1) := by decide +kernel
theorem dX12_isSignOf_37 : decode cX12_isSignOf 37 = .ok (.bipush 45, 2) := by decide +kernel
theorem dX12_isSignOf_39 : decode cX12_isSignOf 39 = .ok (.if_icmp .eq 9, 3) := by decide +kernel
theorem dX12_isSignOf_42 : decode cX12_isSignOf 42 = .ok (.iload_n 0, 1) := by decide +kernel
theorem dX12_isSignOf_43 : decode cX12_isSignOf 43 = .ok (.bipush 42, 2) := by decide +kernel
theorem dX12_isSignOf_45 : decode cX12_isSignOf 45 = .ok (.if_icmp .ne 7, 3) := by decide +kernel
theorem dX12_isSignOf_48 : decode cX12_isSignOf 48 = .ok (.iconst 1, 1) := by decide +kernel
theorem dX12_isSignOf_49 : decode cX12_isSignOf 49 = .ok (.goto 4, 3) := by decide +kernel
theorem dX12_isSignOf_52 : decode cX12_isSignOf 52 = .ok (.iconst 0, 1) := by decide +kernel
theorem dX12_isSignOf_53 : decode cX12_isSignOf 53 = .ok (.ireturn, 1) := by decide +kernel
theorem dX12_cutAll_0 : decode cX12_cutAll 0 = .ok (.aload_n 0, 1) := by decide +kernel
theorem dX12_cutAll_1 : decode cX12_cutAll 1 = .ok (.aload_n 0, 1) := by decide +kernel
theorem dX12_cutAll_2 : decode cX12_cutAll 2 = .ok (.getfield 11, 3) := by decide +kernel
theorem dX12_cutAll_5 : decode cX12_cutAll 5 = .ok (.putfield 196, 3) := by decide +kernel
theorem dX12_cutAll_8 : decode cX12_cutAll 8 = .ok (.aload_n 0, 1) := by decide +kernel
theorem dX12_cutAll_9 : decode cX12_cutAll 9 = .ok (.iconst 0, 1) := by decide +kernel
theorem dX12_cutAll_10 : decode cX12_cutAll 10 = .ok (.putfield 11, 3) := by decide +kernel
theorem dX12_cutAll_13 : decode cX12_cutAll 13 = .ok (.iconst 0, 1) := by decide +kernel
theorem dX12_cutAll_14 : decode cX12_cutAll 14 = .ok (.istore_n 1, 1) := by decide +kernel
theorem dX12_cutAll_15 : decode cX12_cutAll 15 = .ok (.iconst 0, 1) := by decide +kernel
theorem dX12_cutAll_16 : decode cX12_cutAll 16 = .ok (.istore_n 2, 1) := by decide +kernel
theorem dX12_cutAll_17 : decode cX12_cutAll 17 = .ok (.iload_n 2, 1) := by decide +kernel
theorem dX12_cutAll_18 : decode cX12_cutAll 18 = .ok (.aload_n 0, 1) := by decide +kernel
theorem dX12_cutAll_19 : decode cX12_cutAll 19 = .ok (.getfield 196, 3) := by decide +kernel
theorem dX12_cutAll_22 : decode cX12_cutAll 22 = .ok (.if_icmp .ge 257, 3) := by decide +kernel
theorem dX12_cutAll_25 : decode cX12_cutAll 25 = .ok (.aload_n 0, 1) := by decide +kernel
theorem dX12_cutAll_26 : decode cX12_cutAll 26 = .ok (.getfield 14, 3) := by decide +kernel
theorem dX12_cutAll_29 : decode cX12_cutAll 29 = .ok (.iload_n 2, 1) := by decide +kernel
theorem dX12_cutAll_30 : decode cX12_cutAll 30 = .ok (.iaload, 1) := by decide +kernel
theorem dX12_cutAll_31 : decode cX12_cutAll 31 = .ok (.istore_n 3, 1) := by decide +kernel
theorem dX12_cutAll_32 : decode cX12_cutAll 32 = .ok (.iload_n 3, 1) := by decide +kernel
theorem dX12_cutAll_33 : decode cX12_cutAll 33 = .ok (.bipush 10, 2) := by decide +kernel
theorem dX12_cutAll_35 : decode cX12_cutAll 35 = .ok (.if_icmp .eq 9, 3) := by decide +kernel
theorem dX12_cutAll_38 : decode cX12_cutAll 38 = .ok (.iload_n 3, 1) := by decide +kernel
theorem dX12_cutAll_39 : decode cX12_cutAll 39 = .ok (.bipush 32, 2) := by decide +kernel
theorem dX12_cutAll_41 : decode cX12_cutAll 41 = .ok (.if_icmp .ne 9, 3) := by decide +kernel
theorem dX12_cutAll_44 : decode cX12_cutAll 44 = .ok (.iinc 2 1, 3) := by decide +kernel
theorem dX12_cutAll_47 : decode cX12_cutAll 47 = .ok (.goto (-30), 3) := by decide +kernel
theorem dX12_cutAll_50 : decode cX12_cutAll 50 = .ok (.iload_n 2, 1) := by decide +kernel
theorem dX12_cutAll_51 : decode cX12_cutAll 51 = .ok (.istore 4, 2) := by decide +kernel
theorem dX12_cutAll_53 : decode cX12_cutAll 53 = .ok (.lconst 0, 1) := by decide +kernel
theorem dX12_cutAll_54 : decode cX12_cutAll 54 = .ok (.lstore 5, 2) := by decide +kernel
theorem dX12_cutAll_56 : decode cX12_cutAll 56 = .ok (.aload_n 0, 1) := by decide +kernel
theorem dX12_cutAll_57 : decode cX12_cutAll 57 = .ok (.getfield 27, 3) := by decide +kernel
theorem dX12_cutAll_60 : decode cX12_cutAll 60 = .ok (.iload_n 1, 1) := by decide +kernel
theorem dX12_cutAll_61 : decode cX12_cutAll 61 = .ok (.iload_n 2, 1) := by decide +kernel
theorem dX12_cutAll_62 : decode cX12_cutAll 62 = .ok (.iastore, 1) := by decide +kernel
theorem dX12_cutAll_63 : decode cX12_cutAll 63 = .ok (.iload_n 3, 1) := by decide +kernel
theorem dX12_cutAll_64 : decode cX12_cutAll 64 = .ok (.invokestatic 192, 3) := by decide +kernel
theorem dX12_cutAll_67 : decode cX12_cutAll 67 = .ok (.ifCond .eq 85, 3) := by decide +kernel
theorem dX12_cutAll_70 : decode cX12_cutAll 70 = .ok (.iload_n 2, 1) := by decide +kernel
theorem dX12_cutAll_71 : decode cX12_cutAll 71 = .ok (.aload_n 0, 1) := by decide +kernel
theorem dX12_cutAll_72 : decode cX12_cutAll 72 = .ok (.getfield 196, 3) := by decide +kernel
theorem dX12_cutAll_75 : decode cX12_cutAll 75 = .ok (.if_icmp .ge 54, 3) := by decide +kernel
theorem dX12_cutAll_78 : decode cX12_cutAll 78 = .ok (.aload_n 0, 1) := by decide +kernel
theorem dX12_cutAll_79 : decode cX12_cutAll 79 = .ok (.getfield 14, 3) := by decide +kernel
theorem dX12_cutAll_82 : decode cX12_cutAll 82 = .ok (.iload_n 2, 1) := by decide +kernel
theorem dX12_cutAll_83 : decode cX12_cutAll 83 = .ok (.iaload, 1) := by decide +kernel
theorem dX12_cutAll_84 : decode cX12_cutAll 84 = .ok (.invokestatic 192, 3) := by decide +kernel
theorem dX12_cutAll_87 : decode cX12_cutAll 87 = .ok (.ifCond .eq 42, 3) := by decide +kernel
theorem dX12_cutAll_90 : decode cX12_cutAll 90 = .ok (.iload_n 2, 1) := by decide +kernel
theorem dX12_cutAll_91 : decode cX12_cutAll 91 = .ok (.iload 4, 2) := by decide +kernel
theorem dX12_cutAll_93 : decode cX12_cutAll 93 = .ok (.isub, 1) := by decide +kernel
theorem dX12_cutAll_94 : decode cX12_cutAll 94 = .ok (.bipush 8, 2) := by decide +kernel
theorem dX12_cutAll_96 : decode cX12_cutAll 96 = .ok (.if_icmp .ge 23, 3) := by decide +kernel
theorem dX12_cutAll_99 : decode cX12_cutAll 99 = .ok (.ldc2_w 199, 3) := by decide +kernel
theorem dX12_cutAll_102 : decode cX12_cutAll 102 = .ok (.lload 5, 2) := by decide +kernel
theorem dX12_cutAll_104 : decode cX12_cutAll 104 = .ok (.lmul, 1) := by decide +kernel
theorem dX12_cutAll_105 : decode cX12_cutAll 105 = .ok (.aload_n 0, 1) := by decide +kernel
theorem dX12_cutAll_106 : decode cX12_cutAll 106 = .ok (.getfield 14, 3) := by decide +kernel
theorem dX12_cutAll_109 : decode cX12_cutAll 109 = .ok (.iload_n 2, 1) := by decide +kernel
theorem dX12_cutAll_110 : decode cX12_cutAll 110 = .ok (.iaload, 1) := by decide +kernel
theorem dX12_cutAll_111 : decode cX12_cutAll 111 = .ok (.invokestatic 201, 3) := by decide +kernel
theorem dX12_cutAll_114 : decode cX12_cutAll 114 = .ok (.i2l, 1) := by decide +kernel
theorem dX12_cutAll_115 : decode cX12_cutAll 115 = .ok (.ladd, 1) := by decide +kernel
theorem dX12_cutAll_116 : decode cX12_cutAll 116 = .ok (.goto 5, 3) := by decide +kernel
theorem dX12_cutAll_119 : decode cX12_cutAll 119 = .ok (.lload 5, 2) := by decide +kernel
theorem dX12_cutAll_121 : decode cX12_cutAll 121 = .ok (.lstore 5, 2) := by decide +kernel
theorem dX12_cutAll_123 : decode cX12_cutAll 123 = .ok (.iinc 2 1, 3) := by decide +kernel
theorem dX12_cutAll_126 : decode cX12_cutAll 126 = .ok (.goto (-56), 3) := by decide +kernel
theorem dX12_cutAll_129 : decode cX12_cutAll 129 = .ok (.aload_n 0, 1) := by decide +kernel
theorem dX12_cutAll_130 : decode cX12_cutAll 130 = .ok (.getfield 24, 3) := by decide +kernel
theorem dX12_cutAll_133 : decode cX12_cutAll 133 = .ok (.iload_n 1, 1) := by decide +kernel
theorem dX12_cutAll_134 : decode cX12_cutAll 134 = .ok (.iload_n 2, 1) := by decide +kernel
theorem dX12_cutAll_135 : decode cX12_cutAll 135 = .ok (.iload 4, 2) := by decide +kernel
theorem dX12_cutAll_137 : decode cX12_cutAll 137 = .ok (.isub, 1) := by decide +kernel
theorem dX12_cutAll_138 : decode cX12_cutAll 138 = .ok (.bipush 8, 2) := by decide +kernel
theorem dX12_cutAll_140 : decode cX12_cutAll 140 = .ok (.if_icmp .le 7, 3) := by decide +kernel
theorem dX12_cutAll_143 : decode cX12_cutAll 143 = .ok (.iconst 4, 1) := by decide +kernel
theorem dX12_cutAll_144 : decode cX12_cutAll 144 = .ok (.goto 4, 3) := by decide +kernel
theorem dX12_cutAll_147 : decode cX12_cutAll 147 = .ok (.iconst 1, 1) := by decide +kernel
theorem dX12_cutAll_148 : decode cX12_cutAll 148 = .ok (.iastore, 1) := by decide +kernel
theorem dX12_cutAll_149 : decode cX12_cutAll 149 = .ok (.goto 116, 3) := by decide +kernel
theorem dX12_cutAll_152 : decode cX12_cutAll 152 = .ok (.iload_n 3, 1) := by decide +kernel
theorem dX12_cutAll_153 : decode cX12_cutAll 153 = .ok (.invokestatic 205, 3) := by decide +kernel
theorem dX12_cutAll_156 : decode cX12_cutAll 156 = .ok (.ifCond .eq 84, 3) := by decide +kernel
theorem dX12_cutAll_159 : decode cX12_cutAll 159 = .ok (.iload_n 2, 1) := by decide +kernel
theorem dX12_cutAll_160 : decode cX12_cutAll 160 = .ok (.aload_n 0, 1) := by decide +kernel
theorem dX12_cutAll_161 : decode cX12_cutAll 161 = .ok (.getfield 196, 3) := by decide +kernel
theorem dX12_cutAll_164 : decode cX12_cutAll 164 = .ok (.if_icmp .ge 54, 3) := by decide +kernel
theorem dX12_cutAll_167 : decode cX12_cutAll 167 = .ok (.aload_n 0, 1) := by decide +kernel
theorem dX12_cutAll_168 : decode cX12_cutAll 168 = .ok (.getfield 14, 3) := by decide +kernel
theorem dX12_cutAll_171 : decode cX12_cutAll 171 = .ok (.iload_n 2, 1) := by decide +kernel
theorem dX12_cutAll_172 : decode cX12_cutAll 172 = .ok (.iaload, 1) := by decide +kernel
theorem dX12_cutAll_173 : decode cX12_cutAll 173 = .ok (.invokestatic 205, 3) := by decide +kernel
theorem dX12_cutAll_176 : decode cX12_cutAll 176 = .ok (.ifCond .eq 42, 3) := by decide +kernel
theorem dX12_cutAll_179 : decode cX12_cutAll 179 = .ok (.iload_n 2, 1) := by decide +kernel
theorem dX12_cutAll_180 : decode cX12_cutAll 180 = .ok (.iload 4, 2) := by decide +kernel
theorem dX12_cutAll_182 : decode cX12_cutAll 182 = .ok (.isub, 1) := by decide +kernel
theorem dX12_cutAll_183 : decode cX12_cutAll 183 = .ok (.iconst 4, 1) := by decide +kernel
theorem dX12_cutAll_184 : decode cX12_cutAll 184 = .ok (.if_icmp .ge 24, 3) := by decide +kernel
theorem dX12_cutAll_187 : decode cX12_cutAll 187 = .ok (.ldc2_w 208, 3) := by decide +kernel
theorem dX12_cutAll_190 : decode cX12_cutAll 190 = .ok (.lload 5, 2) := by decide +kernel
theorem dX12_cutAll_192 : decode cX12_cutAll 192 = .ok (.lmul, 1) := by decide +kernel
theorem dX12_cutAll_193 : decode cX12_cutAll 193 = .ok (.aload_n 0, 1) := by decide +kernel
theorem dX12_cutAll_194 : decode cX12_cutAll 194 = .ok (.getfield 14, 3) := by decide +kernel
theorem dX12_cutAll_197 : decode cX12_cutAll 197 = .ok (.iload_n 2, 1) := by decide +kernel
theorem dX12_cutAll_198 : decode cX12_cutAll 198 = .ok (.iaload, 1) := by decide +kernel
theorem dX12_cutAll_199 : decode cX12_cutAll 199 = .ok (.i2l, 1) := by decide +kernel
theorem dX12_cutAll_200 : decode cX12_cutAll 200 = .ok (.ladd, 1) := by decide +kernel
theorem dX12_cutAll_201 : decode cX12_cutAll 201 = .ok (.ldc2_w 210, 3) := by decide +kernel
theorem dX12_cutAll_204 : decode cX12_cutAll 204 = .ok (.lsub, 1) := by decide +kernel
theorem dX12_cutAll_205 : decode cX12_cutAll 205 = .ok (.goto 5, 3) := by decide +kernel
theorem dX12_cutAll_208 : decode cX12_cutAll 208 = .ok (.lload 5, 2) := by decide +kernel
theorem dX12_cutAll_210 : decode cX12_cutAll 210 = .ok (.lstore 5, 2) := by decide +kernel
theorem dX12_cutAll_212 : decode cX12_cutAll 212 = .ok (.iinc 2 1, 3) := by decide +kernel
theorem dX12_cutAll_215 : decode cX12_cutAll 215 = .ok (.goto (-56), 3) := by decide +kernel
theorem dX12_cutAll_218 : decode cX12_cutAll 218 = .ok (.aload_n 0, 1) := by decide +kernel
theorem dX12_cutAll_219 : decode cX12_cutAll 219 = .ok (.getfield 24, 3) := by decide +kernel
theorem dX12_cutAll_222 : decode cX12_cutAll 222 = .ok (.iload_n 1, 1) := by decide +kernel
theorem dX12_cutAll_223 : decode cX12_cutAll 223 = .ok (.iload_n 2, 1) := by decide +kernel
theorem dX12_cutAll_224 : decode cX12_cutAll 224 = .ok (.iload 4, 2) := by decide +kernel
theorem dX12_cutAll_226 : decode cX12_cutAll 226 = .ok (.isub, 1) := by decide +kernel
theorem dX12_cutAll_227 : decode cX12_cutAll 227 = .ok (.iconst 4, 1) := by decide +kernel
theorem dX12_cutAll_228 : decode cX12_cutAll 228 = .ok (.if_icmp .le 7, 3) := by decide +kernel
theorem dX12_cutAll_231 : decode cX12_cutAll 231 = .ok (.iconst 4, 1) := by decide +kernel
theorem dX12_cutAll_232 : decode cX12_cutAll 232 = .ok (.goto 4, 3) := by decide +kernel
theorem dX12_cutAll_235 : decode cX12_cutAll 235 = .ok (.iconst 2, 1) := by decide +kernel
theorem dX12_cutAll_236 : decode cX12_cutAll 236 = .ok (.iastore, 1) := by decide +kernel
theorem dX12_cutAll_237 : decode cX12_cutAll 237 = .ok (.goto 28, 3) := by decide +kernel
theorem dX12_cutAll_240 : decode cX12_cutAll 240 = .ok (.iload_n 3, 1) := by decide +kernel
theorem dX12_cutAll_241 : decode cX12_cutAll 241 = .ok (.i2l, 1) := by decide +kernel
theorem dX12_cutAll_242 : decode cX12_cutAll 242 = .ok (.lstore 5, 2) := by decide +kernel
theorem dX12_cutAll_244 : decode cX12_cutAll 244 = .ok (.aload_n 0, 1) := by decide +kernel
theorem dX12_cutAll_245 : decode cX12_cutAll 245 = .ok (.getfield 24, 3) := by decide +kernel
theorem dX12_cutAll_248 : decode cX12_cutAll 248 = .ok (.iload_n 1, 1) := by decide +kernel
theorem dX12_cutAll_249 : decode cX12_cutAll 249 = .ok (.iload_n 3, 1) := by decide +kernel
theorem dX12_cutAll_250 : decode cX12_cutAll 250 = .ok (.invokestatic 212, 3) := by decide +kernel
theorem dX12_cutAll_253 : decode cX12_cutAll 253 = .ok (.ifCond .eq 7, 3) := by decide +kernel
theorem dX12_cutAll_256 : decode cX12_cutAll 256 = .ok (.iconst 3, 1) := by decide +kernel
theorem dX12_cutAll_257 : decode cX12_cutAll 257 = .ok (.goto 4, 3) := by decide +kernel
theorem dX12_cutAll_260 : decode cX12_cutAll 260 = .ok (.iconst 4, 1) := by decide +kernel
theorem dX12_cutAll_261 : decode cX12_cutAll 261 = .ok (.iastore, 1) := by decide +kernel
theorem dX12_cutAll_262 : decode cX12_cutAll 262 = .ok (.iinc 2 1, 3) := by decide +kernel
theorem dX12_cutAll_265 : decode cX12_cutAll 265 = .ok (.aload_n 0, 1) := by decide +kernel
theorem dX12_cutAll_266 : decode cX12_cutAll 266 = .ok (.getfield 30, 3) := by decide +kernel
theorem dX12_cutAll_269 : decode cX12_cutAll 269 = .ok (.iload_n 1, 1) := by decide +kernel
theorem dX12_cutAll_270 : decode cX12_cutAll 270 = .ok (.lload 5, 2) := by decide +kernel
theorem dX12_cutAll_272 : decode cX12_cutAll 272 = .ok (.lastore, 1) := by decide +kernel
theorem dX12_cutAll_273 : decode cX12_cutAll 273 = .ok (.iinc 1 1, 3) := by decide +kernel
theorem dX12_cutAll_276 : decode cX12_cutAll 276 = .ok (.goto (-259), 3) := by decide +kernel
theorem dX12_cutAll_279 : decode cX12_cutAll 279 = .ok (.aload_n 0, 1) := by decide +kernel
theorem dX12_cutAll_280 : decode cX12_cutAll 280 = .ok (.getfield 24, 3) := by decide +kernel
theorem dX12_cutAll_283 : decode cX12_cutAll 283 = .ok (.iload_n 1, 1) := by decide +kernel
theorem dX12_cutAll_284 : decode cX12_cutAll 284 = .ok (.iconst 0, 1) := by decide +kernel
theorem dX12_cutAll_285 : decode cX12_cutAll 285 = .ok (.iastore, 1) := by decide +kernel
theorem dX12_cutAll_286 : decode cX12_cutAll 286 = .ok (.aload_n 0, 1) := by decide +kernel
theorem dX12_cutAll_287 : decode cX12_cutAll 287 = .ok (.getfield 27, 3) := by decide +kernel
theorem dX12_cutAll_290 : decode cX12_cutAll 290 = .ok (.iload_n 1, 1) := by decide +kernel
theorem dX12_cutAll_291 : decode cX12_cutAll 291 = .ok (.aload_n 0, 1) := by decide +kernel
theorem dX12_cutAll_292 : decode cX12_cutAll 292 = .ok (.getfield 196, 3) := by decide +kernel
theorem dX12_cutAll_295 : decode cX12_cutAll 295 = .ok (.iastore, 1) := by decide +kernel
theorem dX12_cutAll_296 : decode cX12_cutAll 296 = .ok (.aload_n 0, 1) := by decide +kernel
theorem dX12_cutAll_297 : decode cX12_cutAll 297 = .ok (.iconst 0, 1) := by decide +kernel
theorem dX12_cutAll_298 : decode cX12_cutAll 298 = .ok (.putfield 215, 3) := by decide +kernel
theorem dX12_cutAll_301 : decode cX12_cutAll 301 = .ok (.aload_n 0, 1) := by decide +kernel
theorem dX12_cutAll_302 : decode cX12_cutAll 302 = .ok (.iconst 0, 1) := by decide +kernel
theorem dX12_cutAll_303 : decode cX12_cutAll 303 = .ok (.putfield 218, 3) := by decide +kernel
theorem dX12_cutAll_306 : decode cX12_cutAll 306 = .ok (.return_, 1) := by decide +kernel
theorem dX12_wrong_0 : decode cX12_wrong 0 = .ok (.aload_n 0, 1) := by decide +kernel
theorem dX12_wrong_1 : decode cX12_wrong 1 = .ok (.getfield 218, 3) := by decide +kernel
theorem dX12_wrong_4 : decode cX12_wrong 4 = .ok (.ifCond .ne 21, 3) := by decide +kernel
theorem dX12_wrong_7 : decode cX12_wrong 7 = .ok (.aload_n 0, 1) := by decide +kernel
theorem dX12_wrong_8 : decode cX12_wrong 8 = .ok (.iload_n 1, 1) := by decide +kernel
theorem dX12_wrong_9 : decode cX12_wrong 9 = .ok (.bipush 16, 2) := by decide +kernel
theorem dX12_wrong_11 : decode cX12_wrong 11 = .ok (.aload_n 0, 1) := by decide +kernel
theorem dX12_wrong_12 : decode cX12_wrong 12 = .ok (.getfield 27, 3) := by decide +kernel
theorem dX12_wrong_15 : decode cX12_wrong 15 = .ok (.aload_n 0, 1) := by decide +kernel
theorem dX12_wrong_16 : decode cX12_wrong 16 = .ok (.getfield 215, 3) := by decide +kernel
theorem dX12_wrong_19 : decode cX12_wrong 19 = .ok (.iaload, 1) := by decide +kernel
theorem dX12_wrong_20 : decode cX12_wrong 20 = .ok (.imul, 1) := by decide +kernel
theorem dX12_wrong_21 : decode cX12_wrong 21 = .ok (.iadd, 1) := by decide +kernel
theorem dX12_wrong_22 : decode cX12_wrong 22 = .ok (.putfield 218, 3) := by decide +kernel
theorem dX12_wrong_25 : decode cX12_wrong 25 = .ok (.return_, 1) := by decide +kernel
theorem dX12_isSign_0 : decode cX12_isSign 0 = .ok (.aload_n 0, 1) := by decide +kernel
theorem dX12_isSign_1 : decode cX12_isSign 1 = .ok (.getfield 218, 3) := by decide +kernel
theorem dX12_isSign_4 : decode cX12_isSign 4 = .ok (.ifCond .ne 35, 3) := by decide +kernel
theorem dX12_isSign_7 : decode cX12_isSign 7 = .ok (.aload_n 0, 1) := by decide +kernel
theorem dX12_isSign_8 : decode cX12_isSign 8 = .ok (.getfield 24, 3) := by decide +kernel
theorem dX12_isSign_11 : decode cX12_isSign 11 = .ok (.aload_n 0, 1) := by decide +kernel
theorem dX12_isSign_12 : decode cX12_isSign 12 = .ok (.getfield 215, 3) := by decide +kernel
theorem dX12_isSign_15 : decode cX12_isSign 15 = .ok (.iaload, 1) := by decide +kernel
theorem dX12_isSign_16 : decode cX12_isSign 16 = .ok (.iconst 3, 1) := by decide +kernel
theorem dX12_isSign_17 : decode cX12_isSign 17 = .ok (.if_icmp .ne 22, 3) := by decide +kernel
theorem dX12_isSign_20 : decode cX12_isSign 20 = .ok (.aload_n 0, 1) := by decide +kernel
theorem dX12_isSign_21 : decode cX12_isSign 21 = .ok (.getfield 30, 3) := by decide +kernel
theorem dX12_isSign_24 : decode cX12_isSign 24 = .ok (.aload_n 0, 1) := by decide +kernel
theorem dX12_isSign_25 : decode cX12_isSign 25 = .ok (.getfield 215, 3) := by decide +kernel
theorem dX12_isSign_28 : decode cX12_isSign 28 = .ok (.laload, 1) := by decide +kernel
theorem dX12_isSign_29 : decode cX12_isSign 29 = .ok (.iload_n 1, 1) := by decide +kernel
theorem dX12_isSign_30 : decode cX12_isSign 30 = .ok (.i2l, 1) := by decide +kernel
theorem dX12_isSign_31 : decode cX12_isSign 31 = .ok (.lcmp, 1) := by decide +kernel
theorem dX12_isSign_32 : decode cX12_isSign 32 = .ok (.ifCond .ne 7, 3) := by decide +kernel
theorem dX12_isSign_35 : decode cX12_isSign 35 = .ok (.iconst 1, 1) := by decide +kernel
theorem dX12_isSign_36 : decode cX12_isSign 36 = .ok (.goto 4, 3) := by decide +kernel
theorem dX12_isSign_39 : decode cX12_isSign 39 = .ok (.iconst 0, 1) := by decide +kernel
theorem dX12_isSign_40 : decode cX12_isSign 40 = .ok (.ireturn, 1) := by decide +kernel
theorem dX12_isWord_0 : decode cX12_isWord 0 = .ok (.aload_n 0, 1) := by decide +kernel
theorem dX12_isWord_1 : decode cX12_isWord 1 = .ok (.getfield 218, 3) := by decide +kernel
theorem dX12_isWord_4 : decode cX12_isWord 4 = .ok (.ifCond .ne 39, 3) := by decide +kernel
theorem dX12_isWord_7 : decode cX12_isWord 7 = .ok (.aload_n 0, 1) := by decide +kernel
theorem dX12_isWord_8 : decode cX12_isWord 8 = .ok (.getfield 24, 3) := by decide +kernel
theorem dX12_isWord_11 : decode cX12_isWord 11 = .ok (.aload_n 0, 1) := by decide +kernel
theorem dX12_isWord_12 : decode cX12_isWord 12 = .ok (.getfield 215, 3) := by decide +kernel
theorem dX12_isWord_15 : decode cX12_isWord 15 = .ok (.iaload, 1) := by decide +kernel
theorem dX12_isWord_16 : decode cX12_isWord 16 = .ok (.iconst 1, 1) := by decide +kernel
theorem dX12_isWord_17 : decode cX12_isWord 17 = .ok (.if_icmp .ne 26, 3) := by decide +kernel
theorem dX12_isWord_20 : decode cX12_isWord 20 = .ok (.aload_n 0, 1) := by decide +kernel
theorem dX12_isWord_21 : decode cX12_isWord 21 = .ok (.getfield 30, 3) := by decide +kernel
theorem dX12_isWord_24 : decode cX12_isWord 24 = .ok (.aload_n 0, 1) := by decide +kernel
theorem dX12_isWord_25 : decode cX12_isWord 25 = .ok (.getfield 215, 3) := by decide +kernel
theorem dX12_isWord_28 : decode cX12_isWord 28 = .ok (.laload, 1) := by decide +kernel
theorem dX12_isWord_29 : decode cX12_isWord 29 = .ok (.aload_n 0, 1) := by decide +kernel
theorem dX12_isWord_30 : decode cX12_isWord 30 = .ok (.getfield 94, 3) := by decide +kernel
theorem dX12_isWord_33 : decode cX12_isWord 33 = .ok (.iload_n 1, 1) := by decide +kernel
theorem dX12_isWord_34 : decode cX12_isWord 34 = .ok (.laload, 1) := by decide +kernel
theorem dX12_isWord_35 : decode cX12_isWord 35 = .ok (.lcmp, 1) := by decide +kernel
theorem dX12_isWord_36 : decode cX12_isWord 36 = .ok (.ifCond .ne 7, 3) := by decide +kernel
theorem dX12_isWord_39 : decode cX12_isWord 39 = .ok (.iconst 1, 1) := by decide +kernel
theorem dX12_isWord_40 : decode cX12_isWord 40 = .ok (.goto 4, 3) := by decide +kernel
theorem dX12_isWord_43 : decode cX12_isWord 43 = .ok (.iconst 0, 1) := by decide +kernel
theorem dX12_isWord_44 : decode cX12_isWord 44 = .ok (.ireturn, 1) := by decide +kernel
theorem dX12_takeSign_0 : decode cX12_takeSign 0 = .ok (.aload_n 0, 1) := by decide +kernel
theorem dX12_takeSign_1 : decode cX12_takeSign 1 = .ok (.iload_n 1, 1) := by decide +kernel
theorem dX12_takeSign_2 : decode cX12_takeSign 2 = .ok (.invokevirtual 221, 3) := by decide +kernel
theorem dX12_takeSign_5 : decode cX12_takeSign 5 = .ok (.ifCond .eq 16, 3) := by decide +kernel
theorem dX12_takeSign_8 : decode cX12_takeSign 8 = .ok (.aload_n 0, 1) := by decide +kernel
theorem dX12_takeSign_9 : decode cX12_takeSign 9 = .ok (.dup, 1) := by decide +kernel
theorem dX12_takeSign_10 : decode cX12_takeSign 10 = .ok (.getfield 215, 3) := by decide +kernel
theorem dX12_takeSign_13 : decode cX12_takeSign 13 = .ok (.iconst 1, 1) := by decide +kernel
theorem dX12_takeSign_14 : decode cX12_takeSign 14 = .ok (.iadd, 1) := by decide +kernel
theorem dX12_takeSign_15 : decode cX12_takeSign 15 = .ok (.putfield 215, 3) := by decide +kernel
theorem dX12_takeSign_18 : decode cX12_takeSign 18 = .ok (.goto 8, 3) := by decide +kernel
theorem dX12_takeSign_21 : decode cX12_takeSign 21 = .ok (.aload_n 0, 1) := by decide +kernel
theorem dX12_takeSign_22 : decode cX12_takeSign 22 = .ok (.iconst 1, 1) := by decide +kernel
theorem dX12_takeSign_23 : decode cX12_takeSign 23 = .ok (.invokevirtual 224, 3) := by decide +kernel
theorem dX12_takeSign_26 : decode cX12_takeSign 26 = .ok (.return_, 1) := by decide +kernel
theorem dX12_hasSign_0 : decode cX12_hasSign 0 = .ok (.aload_n 0, 1) := by decide +kernel
theorem dX12_hasSign_1 : decode cX12_hasSign 1 = .ok (.iload_n 1, 1) := by decide +kernel
theorem dX12_hasSign_2 : decode cX12_hasSign 2 = .ok (.invokevirtual 221, 3) := by decide +kernel
theorem dX12_hasSign_5 : decode cX12_hasSign 5 = .ok (.istore_n 2, 1) := by decide +kernel
theorem dX12_hasSign_6 : decode cX12_hasSign 6 = .ok (.aload_n 0, 1) := by decide +kernel
theorem dX12_hasSign_7 : decode cX12_hasSign 7 = .ok (.dup, 1) := by decide +kernel
theorem dX12_hasSign_8 : decode cX12_hasSign 8 = .ok (.getfield 215, 3) := by decide +kernel
theorem dX12_hasSign_11 : decode cX12_hasSign 11 = .ok (.iload_n 2, 1) := by decide +kernel
theorem dX12_hasSign_12 : decode cX12_hasSign 12 = .ok (.ifCond .eq 7, 3) := by decide +kernel
theorem dX12_hasSign_15 : decode cX12_hasSign 15 = .ok (.iconst 1, 1) := by decide +kernel
theorem dX12_hasSign_16 : decode cX12_hasSign 16 = .ok (.goto 4, 3) := by decide +kernel
theorem dX12_hasSign_19 : decode cX12_hasSign 19 = .ok (.iconst 0, 1) := by decide +kernel
theorem dX12_hasSign_20 : decode cX12_hasSign 20 = .ok (.iadd, 1) := by decide +kernel
theorem dX12_hasSign_21 : decode cX12_hasSign 21 = .ok (.putfield 215, 3) := by decide +kernel
theorem dX12_hasSign_24 : decode cX12_hasSign 24 = .ok (.iload_n 2, 1) := by decide +kernel
theorem dX12_hasSign_25 : decode cX12_hasSign 25 = .ok (.ireturn, 1) := by decide +kernel
theorem dX12_hasWord_0 : decode cX12_hasWord 0 = .ok (.aload_n 0, 1) := by decide +kernel
theorem dX12_hasWord_1 : decode cX12_hasWord 1 = .ok (.iload_n 1, 1) := by decide +kernel
theorem dX12_hasWord_2 : decode cX12_hasWord 2 = .ok (.invokevirtual 227, 3) := by decide +kernel
theorem dX12_hasWord_5 : decode cX12_hasWord 5 = .ok (.istore_n 2, 1) := by decide +kernel
theorem dX12_hasWord_6 : decode cX12_hasWord 6 = .ok (.aload_n 0, 1) := by decide +kernel
theorem dX12_hasWord_7 : decode cX12_hasWord 7 = .ok (.dup, 1) := by decide +kernel
theorem dX12_hasWord_8 : decode cX12_hasWord 8 = .ok (.getfield 215, 3) := by decide +kernel
theorem dX12_hasWord_11 : decode cX12_hasWord 11 = .ok (.iload_n 2, 1) := by decide +kernel
theorem dX12_hasWord_12 : decode cX12_hasWord 12 = .ok (.ifCond .eq 7, 3) := by decide +kernel
theorem dX12_hasWord_15 : decode cX12_hasWord 15 = .ok (.iconst 1, 1) := by decide +kernel
theorem dX12_hasWord_16 : decode cX12_hasWord 16 = .ok (.goto 4, 3) := by decide +kernel
theorem dX12_hasWord_19 : decode cX12_hasWord 19 = .ok (.iconst 0, 1) := by decide +kernel
theorem dX12_hasWord_20 : decode cX12_hasWord 20 = .ok (.iadd, 1) := by decide +kernel
theorem dX12_hasWord_21 : decode cX12_hasWord 21 = .ok (.putfield 215, 3) := by decide +kernel
theorem dX12_hasWord_24 : decode cX12_hasWord 24 = .ok (.iload_n 2, 1) := by decide +kernel
theorem dX12_hasWord_25 : decode cX12_hasWord 25 = .ok (.ireturn, 1) := by decide +kernel
theorem dX12_takeWord_0 : decode cX12_takeWord 0 = .ok (.aload_n 0, 1) := by decide +kernel
theorem dX12_takeWord_1 : decode cX12_takeWord 1 = .ok (.iload_n 1, 1) := by decide +kernel
theorem dX12_takeWord_2 : decode cX12_takeWord 2 = .ok (.invokevirtual 230, 3) := by decide +kernel
theorem dX12_takeWord_5 : decode cX12_takeWord 5 = .ok (.ifCond .ne 8, 3) := by decide +kernel
theorem dX12_takeWord_8 : decode cX12_takeWord 8 = .ok (.aload_n 0, 1) := by decide +kernel
theorem dX12_takeWord_9 : decode cX12_takeWord 9 = .ok (.iconst 1, 1) := by decide +kernel
theorem dX12_takeWord_10 : decode cX12_takeWord 10 = .ok (.invokevirtual 224, 3) := by decide +kernel
theorem dX12_takeWord_13 : decode cX12_takeWord 13 = .ok (.return_, 1) := by decide +kernel
theorem dX12_within_0 : decode cX12_within 0 = .ok (.iload_n 0, 1) := by decide +kernel
theorem dX12_within_1 : decode cX12_within 1 = .ok (.iload_n 1, 1) := by decide +kernel
theorem dX12_within_2 : decode cX12_within 2 = .ok (.if_icmp .lt 12, 3) := by decide +kernel
theorem dX12_within_5 : decode cX12_within 5 = .ok (.iload_n 0, 1) := by decide +kernel
theorem dX12_within_6 : decode cX12_within 6 = .ok (.iload_n 2, 1) := by decide +kernel
theorem dX12_within_7 : decode cX12_within 7 = .ok (.if_icmp .gt 7, 3) := by decide +kernel
theorem dX12_within_10 : decode cX12_within 10 = .ok (.iconst 1, 1) := by decide +kernel
theorem dX12_within_11 : decode cX12_within 11 = .ok (.goto 4, 3) := by decide +kernel
theorem dX12_within_14 : decode cX12_within 14 = .ok (.iconst 0, 1) := by decide +kernel
theorem dX12_within_15 : decode cX12_within 15 = .ok (.ireturn, 1) := by decide +kernel
theorem dX12_standsAsAlways_0 : decode cX12_standsAsAlways 0 = .ok (.iconst 0, 1) := by decide +kernel
theorem dX12_standsAsAlways_1 : decode cX12_standsAsAlways 1 = .ok (.istore_n 2, 1) := by decide +kernel
theorem dX12_standsAsAlways_2 : decode cX12_standsAsAlways 2 = .ok (.iload_n 2, 1) := by decide +kernel
theorem dX12_standsAsAlways_3 : decode cX12_standsAsAlways 3 = .ok (.bipush 80, 2) := by decide +kernel
theorem dX12_standsAsAlways_5 : decode cX12_standsAsAlways 5 = .ok (.if_icmp .ge 18, 3) := by decide +kernel
theorem dX12_standsAsAlways_8 : decode cX12_standsAsAlways 8 = .ok (.aload_n 0, 1) := by decide +kernel
theorem dX12_standsAsAlways_9 : decode cX12_standsAsAlways 9 = .ok (.getfield 97, 3) := by decide +kernel
theorem dX12_standsAsAlways_12 : decode cX12_standsAsAlways 12 = .ok (.iload_n 1, 1) := by decide +kernel
theorem dX12_standsAsAlways_13 : decode cX12_standsAsAlways 13 = .ok (.iload_n 2, 1) := by decide +kernel
theorem dX12_standsAsAlways_14 : decode cX12_standsAsAlways 14 = .ok (.iadd, 1) := by decide +kernel
theorem dX12_standsAsAlways_15 : decode cX12_standsAsAlways 15 = .ok (.iconst 0, 1) := by decide +kernel
theorem dX12_standsAsAlways_16 : decode cX12_standsAsAlways 16 = .ok (.iastore, 1) := by decide +kernel
theorem dX12_standsAsAlways_17 : decode cX12_standsAsAlways 17 = .ok (.iinc 2 1, 3) := by decide +kernel
theorem dX12_standsAsAlways_20 : decode cX12_standsAsAlways 20 = .ok (.goto (-18), 3) := by decide +kernel
theorem dX12_standsAsAlways_23 : decode cX12_standsAsAlways 23 = .ok (.aload_n 0, 1) := by decide +kernel
theorem dX12_standsAsAlways_24 : decode cX12_standsAsAlways 24 = .ok (.getfield 97, 3) := by decide +kernel
theorem dX12_standsAsAlways_27 : decode cX12_standsAsAlways 27 = .ok (.iload_n 1, 1) := by decide +kernel
theorem dX12_standsAsAlways_28 : decode cX12_standsAsAlways 28 = .ok (.iconst 5, 1) := by decide +kernel
theorem dX12_standsAsAlways_29 : decode cX12_standsAsAlways 29 = .ok (.iadd, 1) := by decide +kernel
theorem dX12_standsAsAlways_30 : decode cX12_standsAsAlways 30 = .ok (.iconst (-1), 1) := by decide +kernel
theorem dX12_standsAsAlways_31 : decode cX12_standsAsAlways 31 = .ok (.iastore, 1) := by decide +kernel
theorem dX12_standsAsAlways_32 : decode cX12_standsAsAlways 32 = .ok (.return_, 1) := by decide +kernel
theorem dX12_takeNumber_0 : decode cX12_takeNumber 0 = .ok (.aload_n 0, 1) := by decide +kernel
theorem dX12_takeNumber_1 : decode cX12_takeNumber 1 = .ok (.getfield 218, 3) := by decide +kernel
theorem dX12_takeNumber_4 : decode cX12_takeNumber 4 = .ok (.ifCond .ne 24, 3) := by decide +kernel
theorem dX12_takeNumber_7 : decode cX12_takeNumber 7 = .ok (.aload_n 0, 1) := by decide +kernel
theorem dX12_takeNumber_8 : decode cX12_takeNumber 8 = .ok (.getfield 24, 3) := by decide +kernel
theorem dX12_takeNumber_11 : decode cX12_takeNumber 11 = .ok (.aload_n 0, 1) := by decide +kernel
theorem dX12_takeNumber_12 : decode cX12_takeNumber 12 = .ok (.getfield 215, 3) := by decide +kernel
theorem dX12_takeNumber_15 : decode cX12_takeNumber 15 = .ok (.iaload, 1) := by decide +kernel
theorem dX12_takeNumber_16 : decode cX12_takeNumber 16 = .ok (.iconst 2, 1) := by decide +kernel
theorem dX12_takeNumber_17 : decode cX12_takeNumber 17 = .ok (.if_icmp .eq 11, 3) := by decide +kernel
theorem dX12_takeNumber_20 : decode cX12_takeNumber 20 = .ok (.aload_n 0, 1) := by decide +kernel
theorem dX12_takeNumber_21 : decode cX12_takeNumber 21 = .ok (.iconst 1, 1) := by decide +kernel
theorem dX12_takeNumber_22 : decode cX12_takeNumber 22 = .ok (.invokevirtual 224, 3) := by decide +kernel
theorem dX12_takeNumber_25 : decode cX12_takeNumber 25 = .ok (.goto 45, 3) := by decide +kernel
theorem dX12_takeNumber_28 : decode cX12_takeNumber 28 = .ok (.aload_n 0, 1) := by decide +kernel
theorem dX12_takeNumber_29 : decode cX12_takeNumber 29 = .ok (.getfield 218, 3) := by decide +kernel
theorem dX12_takeNumber_32 : decode cX12_takeNumber 32 = .ok (.ifCond .ne 38, 3) := by decide +kernel
theorem dX12_takeNumber_35 : decode cX12_takeNumber 35 = .ok (.aload_n 0, 1) := by decide +kernel
theorem dX12_takeNumber_36 : decode cX12_takeNumber 36 = .ok (.getfield 30, 3) := by decide +kernel
theorem dX12_takeNumber_39 : decode cX12_takeNumber 39 = .ok (.aload_n 0, 1) := by decide +kernel
theorem dX12_takeNumber_40 : decode cX12_takeNumber 40 = .ok (.getfield 215, 3) := by decide +kernel
theorem dX12_takeNumber_43 : decode cX12_takeNumber 43 = .ok (.laload, 1) := by decide +kernel
theorem dX12_takeNumber_44 : decode cX12_takeNumber 44 = .ok (.iload_n 1, 1) := by decide +kernel
theorem dX12_takeNumber_45 : decode cX12_takeNumber 45 = .ok (.i2l, 1) := by decide +kernel
theorem dX12_takeNumber_46 : decode cX12_takeNumber 46 = .ok (.lcmp, 1) := by decide +kernel
theorem dX12_takeNumber_47 : decode cX12_takeNumber 47 = .ok (.ifCond .lt 18, 3) := by decide +kernel
theorem dX12_takeNumber_50 : decode cX12_takeNumber 50 = .ok (.aload_n 0, 1) := by decide +kernel
theorem dX12_takeNumber_51 : decode cX12_takeNumber 51 = .ok (.getfield 30, 3) := by decide +kernel
theorem dX12_takeNumber_54 : decode cX12_takeNumber 54 = .ok (.aload_n 0, 1) := by decide +kernel
theorem dX12_takeNumber_55 : decode cX12_takeNumber 55 = .ok (.getfield 215, 3) := by decide +kernel
theorem dX12_takeNumber_58 : decode cX12_takeNumber 58 = .ok (.laload, 1) := by decide +kernel
theorem dX12_takeNumber_59 : decode cX12_takeNumber 59 = .ok (.iload_n 2, 1) := by decide +kernel
theorem dX12_takeNumber_60 : decode cX12_takeNumber 60 = .ok (.i2l, 1) := by decide +kernel
theorem dX12_takeNumber_61 : decode cX12_takeNumber 61 = .ok (.lcmp, 1) := by decide +kernel
theorem dX12_takeNumber_62 : decode cX12_takeNumber 62 = .ok (.ifCond .le 8, 3) := by decide +kernel
theorem dX12_takeNumber_65 : decode cX12_takeNumber 65 = .ok (.aload_n 0, 1) := by decide +kernel
theorem dX12_takeNumber_66 : decode cX12_takeNumber 66 = .ok (.iconst 4, 1) := by decide +kernel
theorem dX12_takeNumber_67 : decode cX12_takeNumber 67 = .ok (.invokevirtual 224, 3) := by decide +kernel
theorem dX12_takeNumber_70 : decode cX12_takeNumber 70 = .ok (.aload_n 0, 1) := by decide +kernel
theorem dX12_takeNumber_71 : decode cX12_takeNumber 71 = .ok (.getfield 218, 3) := by decide +kernel
theorem dX12_takeNumber_74 : decode cX12_takeNumber 74 = .ok (.ifCond .le 5, 3) := by decide +kernel
theorem dX12_takeNumber_77 : decode cX12_takeNumber 77 = .ok (.iconst 0, 1) := by decide +kernel
theorem dX12_takeNumber_78 : decode cX12_takeNumber 78 = .ok (.ireturn, 1) := by decide +kernel
theorem dX12_takeNumber_79 : decode cX12_takeNumber 79 = .ok (.aload_n 0, 1) := by decide +kernel
theorem dX12_takeNumber_80 : decode cX12_takeNumber 80 = .ok (.dup, 1) := by decide +kernel
theorem dX12_takeNumber_81 : decode cX12_takeNumber 81 = .ok (.getfield 215, 3) := by decide +kernel
theorem dX12_takeNumber_84 : decode cX12_takeNumber 84 = .ok (.iconst 1, 1) := by decide +kernel
theorem dX12_takeNumber_85 : decode cX12_takeNumber 85 = .ok (.iadd, 1) := by decide +kernel
theorem dX12_takeNumber_86 : decode cX12_takeNumber 86 = .ok (.putfield 215, 3) := by decide +kernel
theorem dX12_takeNumber_89 : decode cX12_takeNumber 89 = .ok (.aload_n 0, 1) := by decide +kernel
theorem dX12_takeNumber_90 : decode cX12_takeNumber 90 = .ok (.getfield 30, 3) := by decide +kernel
theorem dX12_takeNumber_93 : decode cX12_takeNumber 93 = .ok (.aload_n 0, 1) := by decide +kernel
theorem dX12_takeNumber_94 : decode cX12_takeNumber 94 = .ok (.getfield 215, 3) := by decide +kernel
theorem dX12_takeNumber_97 : decode cX12_takeNumber 97 = .ok (.iconst 1, 1) := by decide +kernel
theorem dX12_takeNumber_98 : decode cX12_takeNumber 98 = .ok (.isub, 1) := by decide +kernel
theorem dX12_takeNumber_99 : decode cX12_takeNumber 99 = .ok (.laload, 1) := by decide +kernel
theorem dX12_takeNumber_100 : decode cX12_takeNumber 100 = .ok (.l2i, 1) := by decide +kernel
theorem dX12_takeNumber_101 : decode cX12_takeNumber 101 = .ok (.ireturn, 1) := by decide +kernel
theorem dX12_takeAfter_0 : decode cX12_takeAfter 0 = .ok (.aload_n 0, 1) := by decide +kernel
theorem dX12_takeAfter_1 : decode cX12_takeAfter 1 = .ok (.iload_n 1, 1) := by decide +kernel
theorem dX12_takeAfter_2 : decode cX12_takeAfter 2 = .ok (.invokevirtual 233, 3) := by decide +kernel
theorem dX12_takeAfter_5 : decode cX12_takeAfter 5 = .ok (.aload_n 0, 1) := by decide +kernel
theorem dX12_takeAfter_6 : decode cX12_takeAfter 6 = .ok (.iload_n 2, 1) := by decide +kernel
theorem dX12_takeAfter_7 : decode cX12_takeAfter 7 = .ok (.iload_n 3, 1) := by decide +kernel
theorem dX12_takeAfter_8 : decode cX12_takeAfter 8 = .ok (.invokevirtual 236, 3) := by decide +kernel
theorem dX12_takeAfter_11 : decode cX12_takeAfter 11 = .ok (.ireturn, 1) := by decide +kernel
theorem dX12_wordHere_0 : decode cX12_wordHere 0 = .ok (.iconst (-1), 1) := by decide +kernel
theorem dX12_wordHere_1 : decode cX12_wordHere 1 = .ok (.istore_n 3, 1) := by decide +kernel
theorem dX12_wordHere_2 : decode cX12_wordHere 2 = .ok (.iconst 0, 1) := by decide +kernel
theorem dX12_wordHere_3 : decode cX12_wordHere 3 = .ok (.istore 4, 2) := by decide +kernel
theorem dX12_wordHere_5 : decode cX12_wordHere 5 = .ok (.iload 4, 2) := by decide +kernel
theorem dX12_wordHere_7 : decode cX12_wordHere 7 = .ok (.iload_n 2, 1) := by decide +kernel
theorem dX12_wordHere_8 : decode cX12_wordHere 8 = .ok (.if_icmp .ge 27, 3) := by decide +kernel
theorem dX12_wordHere_11 : decode cX12_wordHere 11 = .ok (.aload_n 0, 1) := by decide +kernel
theorem dX12_wordHere_12 : decode cX12_wordHere 12 = .ok (.iload_n 1, 1) := by decide +kernel
theorem dX12_wordHere_13 : decode cX12_wordHere 13 = .ok (.iload 4, 2) := by decide +kernel
theorem dX12_wordHere_15 : decode cX12_wordHere 15 = .ok (.iadd, 1) := by decide +kernel
theorem dX12_wordHere_16 : decode cX12_wordHere 16 = .ok (.invokevirtual 227, 3) := by decide +kernel
theorem dX12_wordHere_19 : decode cX12_wordHere 19 = .ok (.ifCond .eq 8, 3) := by decide +kernel
theorem dX12_wordHere_22 : decode cX12_wordHere 22 = .ok (.iload 4, 2) := by decide +kernel
theorem dX12_wordHere_24 : decode cX12_wordHere 24 = .ok (.goto 4, 3) := by decide +kernel
theorem dX12_wordHere_27 : decode cX12_wordHere 27 = .ok (.iload_n 3, 1) := by decide +kernel
theorem dX12_wordHere_28 : decode cX12_wordHere 28 = .ok (.istore_n 3, 1) := by decide +kernel
theorem dX12_wordHere_29 : decode cX12_wordHere 29 = .ok (.iinc 4 1, 3) := by decide +kernel
theorem dX12_wordHere_32 : decode cX12_wordHere 32 = .ok (.goto (-27), 3) := by decide +kernel
theorem dX12_wordHere_35 : decode cX12_wordHere 35 = .ok (.iload_n 3, 1) := by decide +kernel
theorem dX12_wordHere_36 : decode cX12_wordHere 36 = .ok (.ireturn, 1) := by decide +kernel
theorem dX12_isName_0 : decode cX12_isName 0 = .ok (.aload_n 0, 1) := by decide +kernel
theorem dX12_isName_1 : decode cX12_isName 1 = .ok (.getfield 218, 3) := by decide +kernel
theorem dX12_isName_4 : decode cX12_isName 4 = .ok (.ifCond .ne 30, 3) := by decide +kernel
theorem dX12_isName_7 : decode cX12_isName 7 = .ok (.aload_n 0, 1) := by decide +kernel
theorem dX12_isName_8 : decode cX12_isName 8 = .ok (.getfield 24, 3) := by decide +kernel
theorem dX12_isName_11 : decode cX12_isName 11 = .ok (.aload_n 0, 1) := by decide +kernel
theorem dX12_isName_12 : decode cX12_isName 12 = .ok (.getfield 215, 3) := by decide +kernel
theorem dX12_isName_15 : decode cX12_isName 15 = .ok (.iaload, 1) := by decide +kernel
theorem dX12_isName_16 : decode cX12_isName 16 = .ok (.iconst 1, 1) := by decide +kernel
theorem dX12_isName_17 : decode cX12_isName 17 = .ok (.if_icmp .ne 17, 3) := by decide +kernel
theorem dX12_isName_20 : decode cX12_isName 20 = .ok (.aload_n 0, 1) := by decide +kernel
theorem dX12_isName_21 : decode cX12_isName 21 = .ok (.iconst 0, 1) := by decide +kernel
theorem dX12_isName_22 : decode cX12_isName 22 = .ok (.bipush 22, 2) := by decide +kernel
theorem dX12_isName_24 : decode cX12_isName 24 = .ok (.invokevirtual 240, 3) := by decide +kernel
theorem dX12_isName_27 : decode cX12_isName 27 = .ok (.ifCond .ge 7, 3) := by decide +kernel
theorem dX12_isName_30 : decode cX12_isName 30 = .ok (.iconst 1, 1) := by decide +kernel
theorem dX12_isName_31 : decode cX12_isName 31 = .ok (.goto 4, 3) := by decide +kernel
theorem dX12_isName_34 : decode cX12_isName 34 = .ok (.iconst 0, 1) := by decide +kernel
theorem dX12_isName_35 : decode cX12_isName 35 = .ok (.ireturn, 1) := by decide +kernel
theorem dX12_find_0 : decode cX12_find 0 = .ok (.iconst 0, 1) := by decide +kernel
theorem dX12_find_1 : decode cX12_find 1 = .ok (.istore_n 2, 1) := by decide +kernel
theorem dX12_find_2 : decode cX12_find 2 = .ok (.iload_n 2, 1) := by decide +kernel
theorem dX12_find_3 : decode cX12_find 3 = .ok (.iload_n 1, 1) := by decide +kernel
theorem dX12_find_4 : decode cX12_find 4 = .ok (.ifCond .eq 10, 3) := by decide +kernel
theorem dX12_find_7 : decode cX12_find 7 = .ok (.aload_n 0, 1) := by decide +kernel
theorem dX12_find_8 : decode cX12_find 8 = .ok (.getfield 243, 3) := by decide +kernel
theorem dX12_find_11 : decode cX12_find 11 = .ok (.goto 7, 3) := by decide +kernel
theorem dX12_find_14 : decode cX12_find 14 = .ok (.aload_n 0, 1) := by decide +kernel
theorem dX12_find_15 : decode cX12_find 15 = .ok (.getfield 246, 3) := by decide +kernel
theorem dX12_find_18 : decode cX12_find 18 = .ok (.if_icmp .ge 61, 3) := by decide +kernel
theorem dX12_find_21 : decode cX12_find 21 = .ok (.iload_n 1, 1) := by decide +kernel
theorem dX12_find_22 : decode cX12_find 22 = .ok (.ifCond .eq 12, 3) := by decide +kernel
theorem dX12_find_25 : decode cX12_find 25 = .ok (.aload_n 0, 1) := by decide +kernel
theorem dX12_find_26 : decode cX12_find 26 = .ok (.getfield 109, 3) := by decide +kernel
theorem dX12_find_29 : decode cX12_find 29 = .ok (.iload_n 2, 1) := by decide +kernel
theorem dX12_find_30 : decode cX12_find 30 = .ok (.laload, 1) := by decide +kernel
theorem dX12_find_31 : decode cX12_find 31 = .ok (.goto 9, 3) := by decide +kernel
theorem dX12_find_34 : decode cX12_find 34 = .ok (.aload_n 0, 1) := by decide +kernel
theorem dX12_find_35 : decode cX12_find 35 = .ok (.getfield 106, 3) := by decide +kernel
theorem dX12_find_38 : decode cX12_find 38 = .ok (.iload_n 2, 1) := by decide +kernel
theorem dX12_find_39 : decode cX12_find 39 = .ok (.laload, 1) := by decide +kernel
theorem dX12_find_40 : decode cX12_find 40 = .ok (.aload_n 0, 1) := by decide +kernel
theorem dX12_find_41 : decode cX12_find 41 = .ok (.getfield 30, 3) := by decide +kernel
theorem dX12_find_44 : decode cX12_find 44 = .ok (.aload_n 0, 1) := by decide +kernel
theorem dX12_find_45 : decode cX12_find 45 = .ok (.getfield 215, 3) := by decide +kernel
theorem dX12_find_48 : decode cX12_find 48 = .ok (.laload, 1) := by decide +kernel
theorem dX12_find_49 : decode cX12_find 49 = .ok (.lcmp, 1) := by decide +kernel
theorem dX12_find_50 : decode cX12_find 50 = .ok (.ifCond .ne 23, 3) := by decide +kernel
theorem dX12_find_53 : decode cX12_find 53 = .ok (.iload_n 1, 1) := by decide +kernel
theorem dX12_find_54 : decode cX12_find 54 = .ok (.ifCond .eq 12, 3) := by decide +kernel
theorem dX12_find_57 : decode cX12_find 57 = .ok (.aload_n 0, 1) := by decide +kernel
theorem dX12_find_58 : decode cX12_find 58 = .ok (.getfield 115, 3) := by decide +kernel
theorem dX12_find_61 : decode cX12_find 61 = .ok (.iload_n 2, 1) := by decide +kernel
theorem dX12_find_62 : decode cX12_find 62 = .ok (.iaload, 1) := by decide +kernel
theorem dX12_find_63 : decode cX12_find 63 = .ok (.goto 9, 3) := by decide +kernel
theorem dX12_find_66 : decode cX12_find 66 = .ok (.aload_n 0, 1) := by decide +kernel
theorem dX12_find_67 : decode cX12_find 67 = .ok (.getfield 112, 3) := by decide +kernel
theorem dX12_find_70 : decode cX12_find 70 = .ok (.iload_n 2, 1) := by decide +kernel
theorem dX12_find_71 : decode cX12_find 71 = .ok (.iaload, 1) := by decide +kernel
theorem dX12_find_72 : decode cX12_find 72 = .ok (.ireturn, 1) := by decide +kernel
theorem dX12_find_73 : decode cX12_find 73 = .ok (.iinc 2 1, 3) := by decide +kernel
theorem dX12_find_76 : decode cX12_find 76 = .ok (.goto (-74), 3) := by decide +kernel
theorem dX12_find_79 : decode cX12_find 79 = .ok (.iconst (-1), 1) := by decide +kernel
theorem dX12_find_80 : decode cX12_find 80 = .ok (.ireturn, 1) := by decide +kernel
theorem dX12_road_0 : decode cX12_road 0 = .ok (.aload_n 0, 1) := by decide +kernel
theorem dX12_road_1 : decode cX12_road 1 = .ok (.iconst 0, 1) := by decide +kernel
theorem dX12_road_2 : decode cX12_road 2 = .ok (.putfield 1, 3) := by decide +kernel
theorem dX12_road_5 : decode cX12_road 5 = .ok (.aload_n 0, 1) := by decide +kernel
theorem dX12_road_6 : decode cX12_road 6 = .ok (.invokevirtual 249, 3) := by decide +kernel
theorem dX12_road_9 : decode cX12_road 9 = .ok (.aload_n 0, 1) := by decide +kernel
theorem dX12_road_10 : decode cX12_road 10 = .ok (.iconst 0, 1) := by decide +kernel
theorem dX12_road_11 : decode cX12_road 11 = .ok (.putfield 252, 3) := by decide +kernel
theorem dX12_road_14 : decode cX12_road 14 = .ok (.aload_n 0, 1) := by decide +kernel
theorem dX12_road_15 : decode cX12_road 15 = .ok (.iconst 0, 1) := by decide +kernel
theorem dX12_road_16 : decode cX12_road 16 = .ok (.putfield 243, 3) := by decide +kernel
theorem dX12_road_19 : decode cX12_road 19 = .ok (.aload_n 0, 1) := by decide +kernel
theorem dX12_road_20 : decode cX12_road 20 = .ok (.iconst 0, 1) := by decide +kernel
theorem dX12_road_21 : decode cX12_road 21 = .ok (.putfield 255, 3) := by decide +kernel
theorem dX12_road_24 : decode cX12_road 24 = .ok (.aload_n 0, 1) := by decide +kernel
theorem dX12_road_25 : decode cX12_road 25 = .ok (.bipush 80, 2) := by decide +kernel
theorem dX12_road_27 : decode cX12_road 27 = .ok (.invokevirtual 185, 3) := by decide +kernel
theorem dX12_road_30 : decode cX12_road 30 = .ok (.aload_n 0, 1) := by decide +kernel
theorem dX12_road_31 : decode cX12_road 31 = .ok (.iconst 0, 1) := by decide +kernel
theorem dX12_road_32 : decode cX12_road 32 = .ok (.invokevirtual 233, 3) := by decide +kernel
theorem dX12_road_35 : decode cX12_road 35 = .ok (.aload_n 0, 1) := by decide +kernel
theorem dX12_road_36 : decode cX12_road 36 = .ok (.getfield 97, 3) := by decide +kernel
theorem dX12_road_39 : decode cX12_road 39 = .ok (.bipush 80, 2) := by decide +kernel
theorem dX12_road_41 : decode cX12_road 41 = .ok (.aload_n 0, 1) := by decide +kernel
theorem dX12_road_42 : decode cX12_road 42 = .ok (.iconst 2, 1) := by decide +kernel
theorem dX12_road_43 : decode cX12_road 43 = .ok (.iconst 4, 1) := by decide +kernel
theorem dX12_road_44 : decode cX12_road 44 = .ok (.invokevirtual 236, 3) := by decide +kernel
theorem dX12_road_47 : decode cX12_road 47 = .ok (.iastore, 1) := by decide +kernel
theorem dX12_road_48 : decode cX12_road 48 = .ok (.aload_n 0, 1) := by decide +kernel
theorem dX12_road_49 : decode cX12_road 49 = .ok (.bipush 59, 2) := by decide +kernel
theorem dX12_road_51 : decode cX12_road 51 = .ok (.invokevirtual 259, 3) := by decide +kernel
theorem dX12_road_54 : decode cX12_road 54 = .ok (.aload_n 0, 1) := by decide +kernel
theorem dX12_road_55 : decode cX12_road 55 = .ok (.getfield 218, 3) := by decide +kernel
theorem dX12_road_58 : decode cX12_road 58 = .ok (.ifCond .ne 28, 3) := by decide +kernel
theorem dX12_road_61 : decode cX12_road 61 = .ok (.aload_n 0, 1) := by decide +kernel
theorem dX12_road_62 : decode cX12_road 62 = .ok (.getfield 24, 3) := by decide +kernel
theorem dX12_road_65 : decode cX12_road 65 = .ok (.aload_n 0, 1) := by decide +kernel
theorem dX12_road_66 : decode cX12_road 66 = .ok (.getfield 215, 3) := by decide +kernel
theorem dX12_road_69 : decode cX12_road 69 = .ok (.iaload, 1) := by decide +kernel
theorem dX12_road_70 : decode cX12_road 70 = .ok (.ifCond .eq 16, 3) := by decide +kernel
theorem dX12_road_73 : decode cX12_road 73 = .ok (.aload_n 0, 1) := by decide +kernel
theorem dX12_road_74 : decode cX12_road 74 = .ok (.invokevirtual 262, 3) := by decide +kernel
theorem dX12_road_77 : decode cX12_road 77 = .ok (.aload_n 0, 1) := by decide +kernel
theorem dX12_road_78 : decode cX12_road 78 = .ok (.bipush 59, 2) := by decide +kernel
theorem dX12_road_80 : decode cX12_road 80 = .ok (.invokevirtual 259, 3) := by decide +kernel
theorem dX12_road_83 : decode cX12_road 83 = .ok (.goto (-29), 3) := by decide +kernel
theorem dX12_road_86 : decode cX12_road 86 = .ok (.aload_n 0, 1) := by decide +kernel
theorem dX12_road_87 : decode cX12_road 87 = .ok (.getfield 218, 3) := by decide +kernel
theorem dX12_road_90 : decode cX12_road 90 = .ok (.ifCond .le 8, 3) := by decide +kernel
theorem dX12_road_93 : decode cX12_road 93 = .ok (.aload_n 0, 1) := by decide +kernel
theorem dX12_road_94 : decode cX12_road 94 = .ok (.getfield 218, 3) := by decide +kernel
theorem dX12_road_97 : decode cX12_road 97 = .ok (.ireturn, 1) := by decide +kernel
theorem dX12_road_98 : decode cX12_road 98 = .ok (.iconst 0, 1) := by decide +kernel
theorem dX12_road_99 : decode cX12_road 99 = .ok (.istore_n 1, 1) := by decide +kernel
theorem dX12_road_100 : decode cX12_road 100 = .ok (.iload_n 1, 1) := by decide +kernel
theorem dX12_road_101 : decode cX12_road 101 = .ok (.bipush 80, 2) := by decide +kernel
theorem dX12_road_103 : decode cX12_road 103 = .ok (.if_icmp .ge 24, 3) := by decide +kernel
theorem dX12_road_106 : decode cX12_road 106 = .ok (.aload_n 0, 1) := by decide +kernel
theorem dX12_road_107 : decode cX12_road 107 = .ok (.getfield 97, 3) := by decide +kernel
theorem dX12_road_110 : decode cX12_road 110 = .ok (.iload_n 1, 1) := by decide +kernel
theorem dX12_road_111 : decode cX12_road 111 = .ok (.aload_n 0, 1) := by decide +kernel
theorem dX12_road_112 : decode cX12_road 112 = .ok (.getfield 97, 3) := by decide +kernel
theorem dX12_road_115 : decode cX12_road 115 = .ok (.bipush 80, 2) := by decide +kernel
theorem dX12_road_117 : decode cX12_road 117 = .ok (.iload_n 1, 1) := by decide +kernel
theorem dX12_road_118 : decode cX12_road 118 = .ok (.iadd, 1) := by decide +kernel
theorem dX12_road_119 : decode cX12_road 119 = .ok (.iaload, 1) := by decide +kernel
theorem dX12_road_120 : decode cX12_road 120 = .ok (.iastore, 1) := by decide +kernel
theorem dX12_road_121 : decode cX12_road 121 = .ok (.iinc 1 1, 3) := by decide +kernel
theorem dX12_road_124 : decode cX12_road 124 = .ok (.goto (-24), 3) := by decide +kernel
theorem dX12_road_127 : decode cX12_road 127 = .ok (.iconst 0, 1) := by decide +kernel
theorem dX12_road_128 : decode cX12_road 128 = .ok (.istore_n 1, 1) := by decide +kernel
theorem dX12_road_129 : decode cX12_road 129 = .ok (.iload_n 1, 1) := by decide +kernel
theorem dX12_road_130 : decode cX12_road 130 = .ok (.aload_n 0, 1) := by decide +kernel
theorem dX12_road_131 : decode cX12_road 131 = .ok (.getfield 252, 3) := by decide +kernel
theorem dX12_road_134 : decode cX12_road 134 = .ok (.if_icmp .ge 41, 3) := by decide +kernel
theorem dX12_road_137 : decode cX12_road 137 = .ok (.aload_n 0, 1) := by decide +kernel
theorem dX12_road_138 : decode cX12_road 138 = .ok (.getfield 100, 3) := by decide +kernel
theorem dX12_road_141 : decode cX12_road 141 = .ok (.iload_n 1, 1) := by decide +kernel
theorem dX12_road_142 : decode cX12_road 142 = .ok (.aload_n 0, 1) := by decide +kernel
theorem dX12_road_143 : decode cX12_road 143 = .ok (.getfield 100, 3) := by decide +kernel
theorem dX12_road_146 : decode cX12_road 146 = .ok (.sipush 1100, 3) := by decide +kernel
theorem dX12_road_149 : decode cX12_road 149 = .ok (.iload_n 1, 1) := by decide +kernel
theorem dX12_road_150 : decode cX12_road 150 = .ok (.iadd, 1) := by decide +kernel
theorem dX12_road_151 : decode cX12_road 151 = .ok (.iaload, 1) := by decide +kernel
theorem dX12_road_152 : decode cX12_road 152 = .ok (.iastore, 1) := by decide +kernel
theorem dX12_road_153 : decode cX12_road 153 = .ok (.aload_n 0, 1) := by decide +kernel
theorem dX12_road_154 : decode cX12_road 154 = .ok (.getfield 103, 3) := by decide +kernel
theorem dX12_road_157 : decode cX12_road 157 = .ok (.iload_n 1, 1) := by decide +kernel
theorem dX12_road_158 : decode cX12_road 158 = .ok (.aload_n 0, 1) := by decide +kernel
theorem dX12_road_159 : decode cX12_road 159 = .ok (.getfield 103, 3) := by decide +kernel
theorem dX12_road_162 : decode cX12_road 162 = .ok (.sipush 1100, 3) := by decide +kernel
theorem dX12_road_165 : decode cX12_road 165 = .ok (.iload_n 1, 1) := by decide +kernel
theorem dX12_road_166 : decode cX12_road 166 = .ok (.iadd, 1) := by decide +kernel
theorem dX12_road_167 : decode cX12_road 167 = .ok (.iaload, 1) := by decide +kernel
theorem dX12_road_168 : decode cX12_road 168 = .ok (.iastore, 1) := by decide +kernel
theorem dX12_road_169 : decode cX12_road 169 = .ok (.iinc 1 1, 3) := by decide +kernel
theorem dX12_road_172 : decode cX12_road 172 = .ok (.goto (-43), 3) := by decide +kernel
theorem dX12_road_175 : decode cX12_road 175 = .ok (.iconst 0, 1) := by decide +kernel
theorem dX12_road_176 : decode cX12_road 176 = .ok (.istore_n 1, 1) := by decide +kernel
theorem dX12_road_177 : decode cX12_road 177 = .ok (.iload_n 1, 1) := by decide +kernel
theorem dX12_road_178 : decode cX12_road 178 = .ok (.aload_n 0, 1) := by decide +kernel
theorem dX12_road_179 : decode cX12_road 179 = .ok (.getfield 243, 3) := by decide +kernel
theorem dX12_road_182 : decode cX12_road 182 = .ok (.if_icmp .ge 33, 3) := by decide +kernel
theorem dX12_road_185 : decode cX12_road 185 = .ok (.aload_n 0, 1) := by decide +kernel
theorem dX12_road_186 : decode cX12_road 186 = .ok (.getfield 106, 3) := by decide +kernel
theorem dX12_road_189 : decode cX12_road 189 = .ok (.iload_n 1, 1) := by decide +kernel
theorem dX12_road_190 : decode cX12_road 190 = .ok (.aload_n 0, 1) := by decide +kernel
theorem dX12_road_191 : decode cX12_road 191 = .ok (.getfield 109, 3) := by decide +kernel
theorem dX12_road_194 : decode cX12_road 194 = .ok (.iload_n 1, 1) := by decide +kernel
theorem dX12_road_195 : decode cX12_road 195 = .ok (.laload, 1) := by decide +kernel
theorem dX12_road_196 : decode cX12_road 196 = .ok (.lastore, 1) := by decide +kernel
theorem dX12_road_197 : decode cX12_road 197 = .ok (.aload_n 0, 1) := by decide +kernel
theorem dX12_road_198 : decode cX12_road 198 = .ok (.getfield 112, 3) := by decide +kernel
theorem dX12_road_201 : decode cX12_road 201 = .ok (.iload_n 1, 1) := by decide +kernel
theorem dX12_road_202 : decode cX12_road 202 = .ok (.aload_n 0, 1) := by decide +kernel
theorem dX12_road_203 : decode cX12_road 203 = .ok (.getfield 115, 3) := by decide +kernel
theorem dX12_road_206 : decode cX12_road 206 = .ok (.iload_n 1, 1) := by decide +kernel
theorem dX12_road_207 : decode cX12_road 207 = .ok (.iaload, 1) := by decide +kernel
theorem dX12_road_208 : decode cX12_road 208 = .ok (.iastore, 1) := by decide +kernel
theorem dX12_road_209 : decode cX12_road 209 = .ok (.iinc 1 1, 3) := by decide +kernel
theorem dX12_road_212 : decode cX12_road 212 = .ok (.goto (-35), 3) := by decide +kernel
theorem dX12_road_215 : decode cX12_road 215 = .ok (.aload_n 0, 1) := by decide +kernel
theorem dX12_road_216 : decode cX12_road 216 = .ok (.aload_n 0, 1) := by decide +kernel
theorem dX12_road_217 : decode cX12_road 217 = .ok (.getfield 243, 3) := by decide +kernel
theorem dX12_road_220 : decode cX12_road 220 = .ok (.putfield 246, 3) := by decide +kernel
theorem dX12_road_223 : decode cX12_road 223 = .ok (.aload_n 0, 1) := by decide +kernel
theorem dX12_road_224 : decode cX12_road 224 = .ok (.invokevirtual 189, 3) := by decide +kernel
theorem dX12_road_227 : decode cX12_road 227 = .ok (.iconst 0, 1) := by decide +kernel
theorem dX12_road_228 : decode cX12_road 228 = .ok (.ireturn, 1) := by decide +kernel
theorem dX12_readLine_0 : decode cX12_readLine 0 = .ok (.aload_n 0, 1) := by decide +kernel
theorem dX12_readLine_1 : decode cX12_readLine 1 = .ok (.iconst 1, 1) := by decide +kernel
theorem dX12_readLine_2 : decode cX12_readLine 2 = .ok (.invokevirtual 227, 3) := by decide +kernel
theorem dX12_readLine_5 : decode cX12_readLine 5 = .ok (.ifCond .eq 10, 3) := by decide +kernel
theorem dX12_readLine_8 : decode cX12_readLine 8 = .ok (.aload_n 0, 1) := by decide +kernel
theorem dX12_readLine_9 : decode cX12_readLine 9 = .ok (.invokevirtual 265, 3) := by decide +kernel
theorem dX12_readLine_12 : decode cX12_readLine 12 = .ok (.goto 119, 3) := by decide +kernel
theorem dX12_readLine_15 : decode cX12_readLine 15 = .ok (.aload_n 0, 1) := by decide +kernel
theorem dX12_readLine_16 : decode cX12_readLine 16 = .ok (.iconst 3, 1) := by decide +kernel
theorem dX12_readLine_17 : decode cX12_readLine 17 = .ok (.invokevirtual 227, 3) := by decide +kernel
theorem dX12_readLine_20 : decode cX12_readLine 20 = .ok (.ifCond .eq 10, 3) := by decide +kernel
theorem dX12_readLine_23 : decode cX12_readLine 23 = .ok (.aload_n 0, 1) := by decide +kernel
theorem dX12_readLine_24 : decode cX12_readLine 24 = .ok (.invokevirtual 268, 3) := by decide +kernel
theorem dX12_readLine_27 : decode cX12_readLine 27 = .ok (.goto 104, 3) := by decide +kernel
theorem dX12_readLine_30 : decode cX12_readLine 30 = .ok (.aload_n 0, 1) := by decide +kernel
theorem dX12_readLine_31 : decode cX12_readLine 31 = .ok (.bipush 6, 2) := by decide +kernel
theorem dX12_readLine_33 : decode cX12_readLine 33 = .ok (.invokevirtual 227, 3) := by decide +kernel
theorem dX12_readLine_36 : decode cX12_readLine 36 = .ok (.ifCond .eq 10, 3) := by decide +kernel
theorem dX12_readLine_39 : decode cX12_readLine 39 = .ok (.aload_n 0, 1) := by decide +kernel
theorem dX12_readLine_40 : decode cX12_readLine 40 = .ok (.invokevirtual 271, 3) := by decide +kernel
theorem dX12_readLine_43 : decode cX12_readLine 43 = .ok (.goto 88, 3) := by decide +kernel
theorem dX12_readLine_46 : decode cX12_readLine 46 = .ok (.aload_n 0, 1) := by decide +kernel
theorem dX12_readLine_47 : decode cX12_readLine 47 = .ok (.bipush 7, 2) := by decide +kernel
theorem dX12_readLine_49 : decode cX12_readLine 49 = .ok (.invokevirtual 227, 3) := by decide +kernel
theorem dX12_readLine_52 : decode cX12_readLine 52 = .ok (.ifCond .eq 10, 3) := by decide +kernel
theorem dX12_readLine_55 : decode cX12_readLine 55 = .ok (.aload_n 0, 1) := by decide +kernel
theorem dX12_readLine_56 : decode cX12_readLine 56 = .ok (.invokevirtual 274, 3) := by decide +kernel
theorem dX12_readLine_59 : decode cX12_readLine 59 = .ok (.goto 72, 3) := by decide +kernel
theorem dX12_readLine_62 : decode cX12_readLine 62 = .ok (.aload_n 0, 1) := by decide +kernel
theorem dX12_readLine_63 : decode cX12_readLine 63 = .ok (.bipush 8, 2) := by decide +kernel
theorem dX12_readLine_65 : decode cX12_readLine 65 = .ok (.invokevirtual 227, 3) := by decide +kernel
theorem dX12_readLine_68 : decode cX12_readLine 68 = .ok (.ifCond .eq 10, 3) := by decide +kernel
theorem dX12_readLine_71 : decode cX12_readLine 71 = .ok (.aload_n 0, 1) := by decide +kernel
theorem dX12_readLine_72 : decode cX12_readLine 72 = .ok (.invokevirtual 277, 3) := by decide +kernel
theorem dX12_readLine_75 : decode cX12_readLine 75 = .ok (.goto 56, 3) := by decide +kernel
theorem dX12_readLine_78 : decode cX12_readLine 78 = .ok (.aload_n 0, 1) := by decide +kernel
theorem dX12_readLine_79 : decode cX12_readLine 79 = .ok (.bipush 9, 2) := by decide +kernel
theorem dX12_readLine_81 : decode cX12_readLine 81 = .ok (.invokevirtual 227, 3) := by decide +kernel
theorem dX12_readLine_84 : decode cX12_readLine 84 = .ok (.ifCond .eq 10, 3) := by decide +kernel
theorem dX12_readLine_87 : decode cX12_readLine 87 = .ok (.aload_n 0, 1) := by decide +kernel
theorem dX12_readLine_88 : decode cX12_readLine 88 = .ok (.invokevirtual 280, 3) := by decide +kernel
theorem dX12_readLine_91 : decode cX12_readLine 91 = .ok (.goto 40, 3) := by decide +kernel
theorem dX12_readLine_94 : decode cX12_readLine 94 = .ok (.aload_n 0, 1) := by decide +kernel
theorem dX12_readLine_95 : decode cX12_readLine 95 = .ok (.bipush 10, 2) := by decide +kernel
theorem dX12_readLine_97 : decode cX12_readLine 97 = .ok (.invokevirtual 227, 3) := by decide +kernel
theorem dX12_readLine_100 : decode cX12_readLine 100 = .ok (.ifCond .eq 10, 3) := by decide +kernel
theorem dX12_readLine_103 : decode cX12_readLine 103 = .ok (.aload_n 0, 1) := by decide +kernel
theorem dX12_readLine_104 : decode cX12_readLine 104 = .ok (.invokevirtual 283, 3) := by decide +kernel
theorem dX12_readLine_107 : decode cX12_readLine 107 = .ok (.goto 24, 3) := by decide +kernel
theorem dX12_readLine_110 : decode cX12_readLine 110 = .ok (.aload_n 0, 1) := by decide +kernel
theorem dX12_readLine_111 : decode cX12_readLine 111 = .ok (.bipush 11, 2) := by decide +kernel
theorem dX12_readLine_113 : decode cX12_readLine 113 = .ok (.invokevirtual 227, 3) := by decide +kernel
theorem dX12_readLine_116 : decode cX12_readLine 116 = .ok (.ifCond .eq 10, 3) := by decide +kernel
theorem dX12_readLine_119 : decode cX12_readLine 119 = .ok (.aload_n 0, 1) := by decide +kernel
theorem dX12_readLine_120 : decode cX12_readLine 120 = .ok (.invokevirtual 286, 3) := by decide +kernel
theorem dX12_readLine_123 : decode cX12_readLine 123 = .ok (.goto 8, 3) := by decide +kernel
theorem dX12_readLine_126 : decode cX12_readLine 126 = .ok (.aload_n 0, 1) := by decide +kernel
theorem dX12_readLine_127 : decode cX12_readLine 127 = .ok (.iconst 1, 1) := by decide +kernel
theorem dX12_readLine_128 : decode cX12_readLine 128 = .ok (.invokevirtual 224, 3) := by decide +kernel
theorem dX12_readLine_131 : decode cX12_readLine 131 = .ok (.return_, 1) := by decide +kernel
theorem dX12_readName_0 : decode cX12_readName 0 = .ok (.aload_n 0, 1) := by decide +kernel
theorem dX12_readName_1 : decode cX12_readName 1 = .ok (.dup, 1) := by decide +kernel
theorem dX12_readName_2 : decode cX12_readName 2 = .ok (.getfield 215, 3) := by decide +kernel
theorem dX12_readName_5 : decode cX12_readName 5 = .ok (.iconst 1, 1) := by decide +kernel
theorem dX12_readName_6 : decode cX12_readName 6 = .ok (.iadd, 1) := by decide +kernel
theorem dX12_readName_7 : decode cX12_readName 7 = .ok (.putfield 215, 3) := by decide +kernel
theorem dX12_readName_10 : decode cX12_readName 10 = .ok (.aload_n 0, 1) := by decide +kernel
theorem dX12_readName_11 : decode cX12_readName 11 = .ok (.invokevirtual 289, 3) := by decide +kernel
theorem dX12_readName_14 : decode cX12_readName 14 = .ok (.ifCond .ne 11, 3) := by decide +kernel
theorem dX12_readName_17 : decode cX12_readName 17 = .ok (.aload_n 0, 1) := by decide +kernel
theorem dX12_readName_18 : decode cX12_readName 18 = .ok (.iconst 1, 1) := by decide +kernel
theorem dX12_readName_19 : decode cX12_readName 19 = .ok (.invokevirtual 224, 3) := by decide +kernel
theorem dX12_readName_22 : decode cX12_readName 22 = .ok (.goto 16, 3) := by decide +kernel
theorem dX12_readName_25 : decode cX12_readName 25 = .ok (.aload_n 0, 1) := by decide +kernel
theorem dX12_readName_26 : decode cX12_readName 26 = .ok (.iconst 1, 1) := by decide +kernel
theorem dX12_readName_27 : decode cX12_readName 27 = .ok (.invokevirtual 293, 3) := by decide +kernel
theorem dX12_readName_30 : decode cX12_readName 30 = .ok (.ifCond .lt 8, 3) := by decide +kernel
theorem dX12_readName_33 : decode cX12_readName 33 = .ok (.aload_n 0, 1) := by decide +kernel
theorem dX12_readName_34 : decode cX12_readName 34 = .ok (.iconst 3, 1) := by decide +kernel
theorem dX12_readName_35 : decode cX12_readName 35 = .ok (.invokevirtual 224, 3) := by decide +kernel
theorem dX12_readName_38 : decode cX12_readName 38 = .ok (.aload_n 0, 1) := by decide +kernel
theorem dX12_readName_39 : decode cX12_readName 39 = .ok (.getfield 218, 3) := by decide +kernel
theorem dX12_readName_42 : decode cX12_readName 42 = .ok (.ifCond .ne 51, 3) := by decide +kernel
theorem dX12_readName_45 : decode cX12_readName 45 = .ok (.aload_n 0, 1) := by decide +kernel
theorem dX12_readName_46 : decode cX12_readName 46 = .ok (.getfield 109, 3) := by decide +kernel
theorem dX12_readName_49 : decode cX12_readName 49 = .ok (.aload_n 0, 1) := by decide +kernel
theorem dX12_readName_50 : decode cX12_readName 50 = .ok (.getfield 243, 3) := by decide +kernel
theorem dX12_readName_53 : decode cX12_readName 53 = .ok (.aload_n 0, 1) := by decide +kernel
theorem dX12_readName_54 : decode cX12_readName 54 = .ok (.getfield 30, 3) := by decide +kernel
theorem dX12_readName_57 : decode cX12_readName 57 = .ok (.aload_n 0, 1) := by decide +kernel
theorem dX12_readName_58 : decode cX12_readName 58 = .ok (.getfield 215, 3) := by decide +kernel
theorem dX12_readName_61 : decode cX12_readName 61 = .ok (.laload, 1) := by decide +kernel
theorem dX12_readName_62 : decode cX12_readName 62 = .ok (.lastore, 1) := by decide +kernel
theorem dX12_readName_63 : decode cX12_readName 63 = .ok (.aload_n 0, 1) := by decide +kernel
theorem dX12_readName_64 : decode cX12_readName 64 = .ok (.getfield 115, 3) := by decide +kernel
theorem dX12_readName_67 : decode cX12_readName 67 = .ok (.aload_n 0, 1) := by decide +kernel
theorem dX12_readName_68 : decode cX12_readName 68 = .ok (.getfield 243, 3) := by decide +kernel
theorem dX12_readName_71 : decode cX12_readName 71 = .ok (.iload_n 1, 1) := by decide +kernel
theorem dX12_readName_72 : decode cX12_readName 72 = .ok (.iastore, 1) := by decide +kernel
theorem dX12_readName_73 : decode cX12_readName 73 = .ok (.aload_n 0, 1) := by decide +kernel
theorem dX12_readName_74 : decode cX12_readName 74 = .ok (.dup, 1) := by decide +kernel
theorem dX12_readName_75 : decode cX12_readName 75 = .ok (.getfield 243, 3) := by decide +kernel
theorem dX12_readName_78 : decode cX12_readName 78 = .ok (.iconst 1, 1) := by decide +kernel
theorem dX12_readName_79 : decode cX12_readName 79 = .ok (.iadd, 1) := by decide +kernel
theorem dX12_readName_80 : decode cX12_readName 80 = .ok (.putfield 243, 3) := by decide +kernel
theorem dX12_readName_83 : decode cX12_readName 83 = .ok (.aload_n 0, 1) := by decide +kernel
theorem dX12_readName_84 : decode cX12_readName 84 = .ok (.dup, 1) := by decide +kernel
theorem dX12_readName_85 : decode cX12_readName 85 = .ok (.getfield 215, 3) := by decide +kernel
theorem dX12_readName_88 : decode cX12_readName 88 = .ok (.iconst 1, 1) := by decide +kernel
theorem dX12_readName_89 : decode cX12_readName 89 = .ok (.iadd, 1) := by decide +kernel
theorem dX12_readName_90 : decode cX12_readName 90 = .ok (.putfield 215, 3) := by decide +kernel
theorem dX12_readName_93 : decode cX12_readName 93 = .ok (.return_, 1) := by decide +kernel
theorem dX12_readSeats_0 : decode cX12_readSeats 0 = .ok (.aload_n 0, 1) := by decide +kernel
theorem dX12_readSeats_1 : decode cX12_readSeats 1 = .ok (.getfield 97, 3) := by decide +kernel
theorem dX12_readSeats_4 : decode cX12_readSeats 4 = .ok (.bipush 80, 2) := by decide +kernel
theorem dX12_readSeats_6 : decode cX12_readSeats 6 = .ok (.iaload, 1) := by decide +kernel
theorem dX12_readSeats_7 : decode cX12_readSeats 7 = .ok (.ireturn, 1) := by decide +kernel
theorem dX12_readStretch_0 : decode cX12_readStretch 0 = .ok (.aload_n 0, 1) := by decide +kernel
theorem dX12_readStretch_1 : decode cX12_readStretch 1 = .ok (.getfield 97, 3) := by decide +kernel
theorem dX12_readStretch_4 : decode cX12_readStretch 4 = .ok (.bipush 81, 2) := by decide +kernel
theorem dX12_readStretch_6 : decode cX12_readStretch 6 = .ok (.iaload, 1) := by decide +kernel
theorem dX12_readStretch_7 : decode cX12_readStretch 7 = .ok (.istore_n 1, 1) := by decide +kernel
theorem dX12_readStretch_8 : decode cX12_readStretch 8 = .ok (.iload_n 1, 1) := by decide +kernel
theorem dX12_readStretch_9 : decode cX12_readStretch 9 = .ok (.iconst 4, 1) := by decide +kernel
theorem dX12_readStretch_10 : decode cX12_readStretch 10 = .ok (.if_icmp .ne 9, 3) := by decide +kernel
theorem dX12_readStretch_13 : decode cX12_readStretch 13 = .ok (.aload_n 0, 1) := by decide +kernel
theorem dX12_readStretch_14 : decode cX12_readStretch 14 = .ok (.iconst 5, 1) := by decide +kernel
theorem dX12_readStretch_15 : decode cX12_readStretch 15 = .ok (.invokevirtual 224, 3) := by decide +kernel
theorem dX12_readStretch_18 : decode cX12_readStretch 18 = .ok (.return_, 1) := by decide +kernel
theorem dX12_readStretch_19 : decode cX12_readStretch 19 = .ok (.aload_n 0, 1) := by decide +kernel
theorem dX12_readStretch_20 : decode cX12_readStretch 20 = .ok (.dup, 1) := by decide +kernel
theorem dX12_readStretch_21 : decode cX12_readStretch 21 = .ok (.getfield 215, 3) := by decide +kernel
theorem dX12_readStretch_24 : decode cX12_readStretch 24 = .ok (.iconst 1, 1) := by decide +kernel
theorem dX12_readStretch_25 : decode cX12_readStretch 25 = .ok (.iadd, 1) := by decide +kernel
theorem dX12_readStretch_26 : decode cX12_readStretch 26 = .ok (.putfield 215, 3) := by decide +kernel
theorem dX12_readStretch_29 : decode cX12_readStretch 29 = .ok (.bipush 91, 2) := by decide +kernel
theorem dX12_readStretch_31 : decode cX12_readStretch 31 = .ok (.iconst 5, 1) := by decide +kernel
theorem dX12_readStretch_32 : decode cX12_readStretch 32 = .ok (.iload_n 1, 1) := by decide +kernel
theorem dX12_readStretch_33 : decode cX12_readStretch 33 = .ok (.imul, 1) := by decide +kernel
theorem dX12_readStretch_34 : decode cX12_readStretch 34 = .ok (.iadd, 1) := by decide +kernel
theorem dX12_readStretch_35 : decode cX12_readStretch 35 = .ok (.istore_n 2, 1) := by decide +kernel
theorem dX12_readStretch_36 : decode cX12_readStretch 36 = .ok (.aload_n 0, 1) := by decide +kernel
theorem dX12_readStretch_37 : decode cX12_readStretch 37 = .ok (.getfield 97, 3) := by decide +kernel
theorem dX12_readStretch_40 : decode cX12_readStretch 40 = .ok (.iload_n 2, 1) := by decide +kernel
theorem dX12_readStretch_41 : decode cX12_readStretch 41 = .ok (.aload_n 0, 1) := by decide +kernel
theorem dX12_readStretch_42 : decode cX12_readStretch 42 = .ok (.iconst 1, 1) := by decide +kernel
theorem dX12_readStretch_43 : decode cX12_readStretch 43 = .ok (.bipush 99, 2) := by decide +kernel
theorem dX12_readStretch_45 : decode cX12_readStretch 45 = .ok (.invokevirtual 236, 3) := by decide +kernel
theorem dX12_readStretch_48 : decode cX12_readStretch 48 = .ok (.iastore, 1) := by decide +kernel
theorem dX12_readStretch_49 : decode cX12_readStretch 49 = .ok (.aload_n 0, 1) := by decide +kernel
theorem dX12_readStretch_50 : decode cX12_readStretch 50 = .ok (.iconst 2, 1) := by decide +kernel
theorem dX12_readStretch_51 : decode cX12_readStretch 51 = .ok (.invokevirtual 233, 3) := by decide +kernel
theorem dX12_readStretch_54 : decode cX12_readStretch 54 = .ok (.iconst 0, 1) := by decide +kernel
theorem dX12_readStretch_55 : decode cX12_readStretch 55 = .ok (.istore_n 3, 1) := by decide +kernel
theorem dX12_readStretch_56 : decode cX12_readStretch 56 = .ok (.iload_n 3, 1) := by decide +kernel
theorem dX12_readStretch_57 : decode cX12_readStretch 57 = .ok (.aload_n 0, 1) := by decide +kernel
theorem dX12_readStretch_58 : decode cX12_readStretch 58 = .ok (.invokevirtual 297, 3) := by decide +kernel
theorem dX12_readStretch_61 : decode cX12_readStretch 61 = .ok (.if_icmp .ge 33, 3) := by decide +kernel
theorem dX12_readStretch_64 : decode cX12_readStretch 64 = .ok (.aload_n 0, 1) := by decide +kernel
theorem dX12_readStretch_65 : decode cX12_readStretch 65 = .ok (.getfield 218, 3) := by decide +kernel
theorem dX12_readStretch_68 : decode cX12_readStretch 68 = .ok (.ifCond .ne 26, 3) := by decide +kernel
theorem dX12_readStretch_71 : decode cX12_readStretch 71 = .ok (.aload_n 0, 1) := by decide +kernel
theorem dX12_readStretch_72 : decode cX12_readStretch 72 = .ok (.getfield 97, 3) := by decide +kernel
theorem dX12_readStretch_75 : decode cX12_readStretch 75 = .ok (.iload_n 2, 1) := by decide +kernel
theorem dX12_readStretch_76 : decode cX12_readStretch 76 = .ok (.iconst 1, 1) := by decide +kernel
theorem dX12_readStretch_77 : decode cX12_readStretch 77 = .ok (.iadd, 1) := by decide +kernel
theorem dX12_readStretch_78 : decode cX12_readStretch 78 = .ok (.iload_n 3, 1) := by decide +kernel
theorem dX12_readStretch_79 : decode cX12_readStretch 79 = .ok (.iadd, 1) := by decide +kernel
theorem dX12_readStretch_80 : decode cX12_readStretch 80 = .ok (.aload_n 0, 1) := by decide +kernel
theorem dX12_readStretch_81 : decode cX12_readStretch 81 = .ok (.iconst 0, 1) := by decide +kernel
theorem dX12_readStretch_82 : decode cX12_readStretch 82 = .ok (.bipush 9, 2) := by decide +kernel
theorem dX12_readStretch_84 : decode cX12_readStretch 84 = .ok (.invokevirtual 236, 3) := by decide +kernel
theorem dX12_readStretch_87 : decode cX12_readStretch 87 = .ok (.iastore, 1) := by decide +kernel
theorem dX12_readStretch_88 : decode cX12_readStretch 88 = .ok (.iinc 3 1, 3) := by decide +kernel
theorem dX12_readStretch_91 : decode cX12_readStretch 91 = .ok (.goto (-35), 3) := by decide +kernel
theorem dX12_readStretch_94 : decode cX12_readStretch 94 = .ok (.aload_n 0, 1) := by decide +kernel
theorem dX12_readStretch_95 : decode cX12_readStretch 95 = .ok (.getfield 97, 3) := by decide +kernel
theorem dX12_readStretch_98 : decode cX12_readStretch 98 = .ok (.bipush 81, 2) := by decide +kernel
theorem dX12_readStretch_100 : decode cX12_readStretch 100 = .ok (.dup2, 1) := by decide +kernel
theorem dX12_readStretch_101 : decode cX12_readStretch 101 = .ok (.iaload, 1) := by decide +kernel
theorem dX12_readStretch_102 : decode cX12_readStretch 102 = .ok (.iconst 1, 1) := by decide +kernel
theorem dX12_readStretch_103 : decode cX12_readStretch 103 = .ok (.iadd, 1) := by decide +kernel
theorem dX12_readStretch_104 : decode cX12_readStretch 104 = .ok (.iastore, 1) := by decide +kernel
theorem dX12_readStretch_105 : decode cX12_readStretch 105 = .ok (.return_, 1) := by decide +kernel
theorem dX12_readRider_0 : decode cX12_readRider 0 = .ok (.aload_n 0, 1) := by decide +kernel
theorem dX12_readRider_1 : decode cX12_readRider 1 = .ok (.getfield 97, 3) := by decide +kernel
theorem dX12_readRider_4 : decode cX12_readRider 4 = .ok (.bipush 82, 2) := by decide +kernel
theorem dX12_readRider_6 : decode cX12_readRider 6 = .ok (.iaload, 1) := by decide +kernel
theorem dX12_readRider_7 : decode cX12_readRider 7 = .ok (.istore_n 1, 1) := by decide +kernel
theorem dX12_readRider_8 : decode cX12_readRider 8 = .ok (.iload_n 1, 1) := by decide +kernel
theorem dX12_readRider_9 : decode cX12_readRider 9 = .ok (.aload_n 0, 1) := by decide +kernel
theorem dX12_readRider_10 : decode cX12_readRider 10 = .ok (.invokevirtual 297, 3) := by decide +kernel
theorem dX12_readRider_13 : decode cX12_readRider 13 = .ok (.if_icmp .ne 9, 3) := by decide +kernel
theorem dX12_readRider_16 : decode cX12_readRider 16 = .ok (.aload_n 0, 1) := by decide +kernel
theorem dX12_readRider_17 : decode cX12_readRider 17 = .ok (.iconst 5, 1) := by decide +kernel
theorem dX12_readRider_18 : decode cX12_readRider 18 = .ok (.invokevirtual 224, 3) := by decide +kernel
theorem dX12_readRider_21 : decode cX12_readRider 21 = .ok (.return_, 1) := by decide +kernel
theorem dX12_readRider_22 : decode cX12_readRider 22 = .ok (.aload_n 0, 1) := by decide +kernel
theorem dX12_readRider_23 : decode cX12_readRider 23 = .ok (.iload_n 1, 1) := by decide +kernel
theorem dX12_readRider_24 : decode cX12_readRider 24 = .ok (.invokevirtual 301, 3) := by decide +kernel
theorem dX12_readRider_27 : decode cX12_readRider 27 = .ok (.aload_n 0, 1) := by decide +kernel
theorem dX12_readRider_28 : decode cX12_readRider 28 = .ok (.getfield 218, 3) := by decide +kernel
theorem dX12_readRider_31 : decode cX12_readRider 31 = .ok (.ifCond .le 7, 3) := by decide +kernel
theorem dX12_readRider_34 : decode cX12_readRider 34 = .ok (.iconst (-1), 1) := by decide +kernel
theorem dX12_readRider_35 : decode cX12_readRider 35 = .ok (.goto 10, 3) := by decide +kernel
theorem dX12_readRider_38 : decode cX12_readRider 38 = .ok (.aload_n 0, 1) := by decide +kernel
theorem dX12_readRider_39 : decode cX12_readRider 39 = .ok (.bipush 15, 2) := by decide +kernel
theorem dX12_readRider_41 : decode cX12_readRider 41 = .ok (.iconst 4, 1) := by decide +kernel
theorem dX12_readRider_42 : decode cX12_readRider 42 = .ok (.invokevirtual 240, 3) := by decide +kernel
theorem dX12_readRider_45 : decode cX12_readRider 45 = .ok (.istore_n 2, 1) := by decide +kernel
theorem dX12_readRider_46 : decode cX12_readRider 46 = .ok (.iload_n 2, 1) := by decide +kernel
theorem dX12_readRider_47 : decode cX12_readRider 47 = .ok (.ifCond .ge 9, 3) := by decide +kernel
theorem dX12_readRider_50 : decode cX12_readRider 50 = .ok (.aload_n 0, 1) := by decide +kernel
theorem dX12_readRider_51 : decode cX12_readRider 51 = .ok (.iconst 1, 1) := by decide +kernel
theorem dX12_readRider_52 : decode cX12_readRider 52 = .ok (.invokevirtual 224, 3) := by decide +kernel
theorem dX12_readRider_55 : decode cX12_readRider 55 = .ok (.return_, 1) := by decide +kernel
theorem dX12_readRider_56 : decode cX12_readRider 56 = .ok (.aload_n 0, 1) := by decide +kernel
theorem dX12_readRider_57 : decode cX12_readRider 57 = .ok (.dup, 1) := by decide +kernel
theorem dX12_readRider_58 : decode cX12_readRider 58 = .ok (.getfield 215, 3) := by decide +kernel
theorem dX12_readRider_61 : decode cX12_readRider 61 = .ok (.iconst 1, 1) := by decide +kernel
theorem dX12_readRider_62 : decode cX12_readRider 62 = .ok (.iadd, 1) := by decide +kernel
theorem dX12_readRider_63 : decode cX12_readRider 63 = .ok (.putfield 215, 3) := by decide +kernel
theorem dX12_readRider_66 : decode cX12_readRider 66 = .ok (.bipush 111, 2) := by decide +kernel
theorem dX12_readRider_68 : decode cX12_readRider 68 = .ok (.iconst 4, 1) := by decide +kernel
theorem dX12_readRider_69 : decode cX12_readRider 69 = .ok (.iload_n 1, 1) := by decide +kernel
theorem dX12_readRider_70 : decode cX12_readRider 70 = .ok (.imul, 1) := by decide +kernel
theorem dX12_readRider_71 : decode cX12_readRider 71 = .ok (.iadd, 1) := by decide +kernel
theorem dX12_readRider_72 : decode cX12_readRider 72 = .ok (.istore_n 3, 1) := by decide +kernel
theorem dX12_readRider_73 : decode cX12_readRider 73 = .ok (.aload_n 0, 1) := by decide +kernel
theorem dX12_readRider_74 : decode cX12_readRider 74 = .ok (.getfield 97, 3) := by decide +kernel
theorem dX12_readRider_77 : decode cX12_readRider 77 = .ok (.iload_n 3, 1) := by decide +kernel
theorem dX12_readRider_78 : decode cX12_readRider 78 = .ok (.iload_n 2, 1) := by decide +kernel
theorem dX12_readRider_79 : decode cX12_readRider 79 = .ok (.iastore, 1) := by decide +kernel
theorem dX12_readRider_80 : decode cX12_readRider 80 = .ok (.aload_n 0, 1) := by decide +kernel
theorem dX12_readRider_81 : decode cX12_readRider 81 = .ok (.getfield 97, 3) := by decide +kernel
theorem dX12_readRider_84 : decode cX12_readRider 84 = .ok (.iload_n 3, 1) := by decide +kernel
theorem dX12_readRider_85 : decode cX12_readRider 85 = .ok (.iconst 1, 1) := by decide +kernel
theorem dX12_readRider_86 : decode cX12_readRider 86 = .ok (.iadd, 1) := by decide +kernel
theorem dX12_readRider_87 : decode cX12_readRider 87 = .ok (.aload_n 0, 1) := by decide +kernel
theorem dX12_readRider_88 : decode cX12_readRider 88 = .ok (.iconst 4, 1) := by decide +kernel
theorem dX12_readRider_89 : decode cX12_readRider 89 = .ok (.iconst 1, 1) := by decide +kernel
theorem dX12_readRider_90 : decode cX12_readRider 90 = .ok (.bipush 9, 2) := by decide +kernel
theorem dX12_readRider_92 : decode cX12_readRider 92 = .ok (.invokevirtual 304, 3) := by decide +kernel
theorem dX12_readRider_95 : decode cX12_readRider 95 = .ok (.iastore, 1) := by decide +kernel
theorem dX12_readRider_96 : decode cX12_readRider 96 = .ok (.aload_n 0, 1) := by decide +kernel
theorem dX12_readRider_97 : decode cX12_readRider 97 = .ok (.getfield 97, 3) := by decide +kernel
theorem dX12_readRider_100 : decode cX12_readRider 100 = .ok (.iload_n 3, 1) := by decide +kernel
theorem dX12_readRider_101 : decode cX12_readRider 101 = .ok (.iconst 2, 1) := by decide +kernel
theorem dX12_readRider_102 : decode cX12_readRider 102 = .ok (.iadd, 1) := by decide +kernel
theorem dX12_readRider_103 : decode cX12_readRider 103 = .ok (.aload_n 0, 1) := by decide +kernel
theorem dX12_readRider_104 : decode cX12_readRider 104 = .ok (.iconst 5, 1) := by decide +kernel
theorem dX12_readRider_105 : decode cX12_readRider 105 = .ok (.iconst 0, 1) := by decide +kernel
theorem dX12_readRider_106 : decode cX12_readRider 106 = .ok (.sipush 9999, 3) := by decide +kernel
theorem dX12_readRider_109 : decode cX12_readRider 109 = .ok (.invokevirtual 304, 3) := by decide +kernel
theorem dX12_readRider_112 : decode cX12_readRider 112 = .ok (.iastore, 1) := by decide +kernel
theorem dX12_readRider_113 : decode cX12_readRider 113 = .ok (.aload_n 0, 1) := by decide +kernel
theorem dX12_readRider_114 : decode cX12_readRider 114 = .ok (.getfield 97, 3) := by decide +kernel
theorem dX12_readRider_117 : decode cX12_readRider 117 = .ok (.bipush 82, 2) := by decide +kernel
theorem dX12_readRider_119 : decode cX12_readRider 119 = .ok (.dup2, 1) := by decide +kernel
theorem dX12_readRider_120 : decode cX12_readRider 120 = .ok (.iaload, 1) := by decide +kernel
theorem dX12_readRider_121 : decode cX12_readRider 121 = .ok (.iconst 1, 1) := by decide +kernel
theorem dX12_readRider_122 : decode cX12_readRider 122 = .ok (.iadd, 1) := by decide +kernel
theorem dX12_readRider_123 : decode cX12_readRider 123 = .ok (.iastore, 1) := by decide +kernel
theorem dX12_readRider_124 : decode cX12_readRider 124 = .ok (.return_, 1) := by decide +kernel
theorem dX12_riderHere_0 : decode cX12_riderHere 0 = .ok (.aload_n 0, 1) := by decide +kernel
theorem dX12_riderHere_1 : decode cX12_riderHere 1 = .ok (.getfield 218, 3) := by decide +kernel
theorem dX12_riderHere_4 : decode cX12_riderHere 4 = .ok (.ifCond .ne 15, 3) := by decide +kernel
theorem dX12_riderHere_7 : decode cX12_riderHere 7 = .ok (.aload_n 0, 1) := by decide +kernel
theorem dX12_riderHere_8 : decode cX12_riderHere 8 = .ok (.invokevirtual 289, 3) := by decide +kernel
theorem dX12_riderHere_11 : decode cX12_riderHere 11 = .ok (.ifCond .ne 8, 3) := by decide +kernel
theorem dX12_riderHere_14 : decode cX12_riderHere 14 = .ok (.aload_n 0, 1) := by decide +kernel
theorem dX12_riderHere_15 : decode cX12_riderHere 15 = .ok (.iconst 1, 1) := by decide +kernel
theorem dX12_riderHere_16 : decode cX12_riderHere 16 = .ok (.invokevirtual 224, 3) := by decide +kernel
theorem dX12_riderHere_19 : decode cX12_riderHere 19 = .ok (.aload_n 0, 1) := by decide +kernel
theorem dX12_riderHere_20 : decode cX12_riderHere 20 = .ok (.getfield 218, 3) := by decide +kernel
theorem dX12_riderHere_23 : decode cX12_riderHere 23 = .ok (.ifCond .le 7, 3) := by decide +kernel
theorem dX12_riderHere_26 : decode cX12_riderHere 26 = .ok (.iconst (-1), 1) := by decide +kernel
theorem dX12_riderHere_27 : decode cX12_riderHere 27 = .ok (.goto 8, 3) := by decide +kernel
theorem dX12_riderHere_30 : decode cX12_riderHere 30 = .ok (.aload_n 0, 1) := by decide +kernel
theorem dX12_riderHere_31 : decode cX12_riderHere 31 = .ok (.iload_n 1, 1) := by decide +kernel
theorem dX12_riderHere_32 : decode cX12_riderHere 32 = .ok (.invokevirtual 293, 3) := by decide +kernel
theorem dX12_riderHere_35 : decode cX12_riderHere 35 = .ok (.istore_n 2, 1) := by decide +kernel
theorem dX12_riderHere_36 : decode cX12_riderHere 36 = .ok (.aload_n 0, 1) := by decide +kernel
theorem dX12_riderHere_37 : decode cX12_riderHere 37 = .ok (.getfield 218, 3) := by decide +kernel
theorem dX12_riderHere_40 : decode cX12_riderHere 40 = .ok (.ifCond .ne 17, 3) := by decide +kernel
theorem dX12_riderHere_43 : decode cX12_riderHere 43 = .ok (.iload_n 2, 1) := by decide +kernel
theorem dX12_riderHere_44 : decode cX12_riderHere 44 = .ok (.iconst 0, 1) := by decide +kernel
theorem dX12_riderHere_45 : decode cX12_riderHere 45 = .ok (.iconst 3, 1) := by decide +kernel
theorem dX12_riderHere_46 : decode cX12_riderHere 46 = .ok (.invokestatic 308, 3) := by decide +kernel
theorem dX12_riderHere_49 : decode cX12_riderHere 49 = .ok (.ifCond .ne 8, 3) := by decide +kernel
theorem dX12_riderHere_52 : decode cX12_riderHere 52 = .ok (.aload_n 0, 1) := by decide +kernel
theorem dX12_riderHere_53 : decode cX12_riderHere 53 = .ok (.iconst 2, 1) := by decide +kernel
theorem dX12_riderHere_54 : decode cX12_riderHere 54 = .ok (.invokevirtual 224, 3) := by decide +kernel
theorem dX12_riderHere_57 : decode cX12_riderHere 57 = .ok (.iload_n 2, 1) := by decide +kernel
theorem dX12_riderHere_58 : decode cX12_riderHere 58 = .ok (.ireturn, 1) := by decide +kernel
theorem dX12_readApart_0 : decode cX12_readApart 0 = .ok (.aload_n 0, 1) := by decide +kernel
theorem dX12_readApart_1 : decode cX12_readApart 1 = .ok (.dup, 1) := by decide +kernel
theorem dX12_readApart_2 : decode cX12_readApart 2 = .ok (.getfield 215, 3) := by decide +kernel
theorem dX12_readApart_5 : decode cX12_readApart 5 = .ok (.iconst 1, 1) := by decide +kernel
theorem dX12_readApart_6 : decode cX12_readApart 6 = .ok (.iadd, 1) := by decide +kernel
theorem dX12_readApart_7 : decode cX12_readApart 7 = .ok (.putfield 215, 3) := by decide +kernel
theorem dX12_readApart_10 : decode cX12_readApart 10 = .ok (.aload_n 0, 1) := by decide +kernel
theorem dX12_readApart_11 : decode cX12_readApart 11 = .ok (.iconst 1, 1) := by decide +kernel
theorem dX12_readApart_12 : decode cX12_readApart 12 = .ok (.invokevirtual 312, 3) := by decide +kernel
theorem dX12_readApart_15 : decode cX12_readApart 15 = .ok (.istore_n 1, 1) := by decide +kernel
theorem dX12_readApart_16 : decode cX12_readApart 16 = .ok (.aload_n 0, 1) := by decide +kernel
theorem dX12_readApart_17 : decode cX12_readApart 17 = .ok (.dup, 1) := by decide +kernel
theorem dX12_readApart_18 : decode cX12_readApart 18 = .ok (.getfield 215, 3) := by decide +kernel
theorem dX12_readApart_21 : decode cX12_readApart 21 = .ok (.aload_n 0, 1) := by decide +kernel
theorem dX12_readApart_22 : decode cX12_readApart 22 = .ok (.getfield 218, 3) := by decide +kernel
theorem dX12_readApart_25 : decode cX12_readApart 25 = .ok (.ifCond .le 7, 3) := by decide +kernel
theorem dX12_readApart_28 : decode cX12_readApart 28 = .ok (.iconst 0, 1) := by decide +kernel
theorem dX12_readApart_29 : decode cX12_readApart 29 = .ok (.goto 4, 3) := by decide +kernel
theorem dX12_readApart_32 : decode cX12_readApart 32 = .ok (.iconst 1, 1) := by decide +kernel
theorem dX12_readApart_33 : decode cX12_readApart 33 = .ok (.iadd, 1) := by decide +kernel
theorem dX12_readApart_34 : decode cX12_readApart 34 = .ok (.putfield 215, 3) := by decide +kernel
theorem dX12_readApart_37 : decode cX12_readApart 37 = .ok (.aload_n 0, 1) := by decide +kernel
theorem dX12_readApart_38 : decode cX12_readApart 38 = .ok (.iconst 1, 1) := by decide +kernel
theorem dX12_readApart_39 : decode cX12_readApart 39 = .ok (.invokevirtual 312, 3) := by decide +kernel
theorem dX12_readApart_42 : decode cX12_readApart 42 = .ok (.istore_n 2, 1) := by decide +kernel
theorem dX12_readApart_43 : decode cX12_readApart 43 = .ok (.aload_n 0, 1) := by decide +kernel
theorem dX12_readApart_44 : decode cX12_readApart 44 = .ok (.getfield 218, 3) := by decide +kernel
theorem dX12_readApart_47 : decode cX12_readApart 47 = .ok (.ifCond .ne 30, 3) := by decide +kernel
theorem dX12_readApart_50 : decode cX12_readApart 50 = .ok (.iload_n 1, 1) := by decide +kernel
theorem dX12_readApart_51 : decode cX12_readApart 51 = .ok (.iload_n 2, 1) := by decide +kernel
theorem dX12_readApart_52 : decode cX12_readApart 52 = .ok (.if_icmp .eq 20, 3) := by decide +kernel
theorem dX12_readApart_55 : decode cX12_readApart 55 = .ok (.aload_n 0, 1) := by decide +kernel
theorem dX12_readApart_56 : decode cX12_readApart 56 = .ok (.getfield 97, 3) := by decide +kernel
theorem dX12_readApart_59 : decode cX12_readApart 59 = .ok (.bipush 127, 2) := by decide +kernel
theorem dX12_readApart_61 : decode cX12_readApart 61 = .ok (.iconst 4, 1) := by decide +kernel
theorem dX12_readApart_62 : decode cX12_readApart 62 = .ok (.iload_n 1, 1) := by decide +kernel
theorem dX12_readApart_63 : decode cX12_readApart 63 = .ok (.imul, 1) := by decide +kernel
theorem dX12_readApart_64 : decode cX12_readApart 64 = .ok (.iadd, 1) := by decide +kernel
theorem dX12_readApart_65 : decode cX12_readApart 65 = .ok (.iload_n 2, 1) := by decide +kernel
theorem dX12_readApart_66 : decode cX12_readApart 66 = .ok (.iadd, 1) := by decide +kernel
theorem dX12_readApart_67 : decode cX12_readApart 67 = .ok (.iaload, 1) := by decide +kernel
theorem dX12_readApart_68 : decode cX12_readApart 68 = .ok (.iconst 1, 1) := by decide +kernel
theorem dX12_readApart_69 : decode cX12_readApart 69 = .ok (.if_icmp .ne 8, 3) := by decide +kernel
theorem dX12_readApart_72 : decode cX12_readApart 72 = .ok (.aload_n 0, 1) := by decide +kernel
theorem dX12_readApart_73 : decode cX12_readApart 73 = .ok (.iconst 3, 1) := by decide +kernel
theorem dX12_readApart_74 : decode cX12_readApart 74 = .ok (.invokevirtual 224, 3) := by decide +kernel
theorem dX12_readApart_77 : decode cX12_readApart 77 = .ok (.aload_n 0, 1) := by decide +kernel
theorem dX12_readApart_78 : decode cX12_readApart 78 = .ok (.getfield 218, 3) := by decide +kernel
theorem dX12_readApart_81 : decode cX12_readApart 81 = .ok (.ifCond .ne 41, 3) := by decide +kernel
theorem dX12_readApart_84 : decode cX12_readApart 84 = .ok (.aload_n 0, 1) := by decide +kernel
theorem dX12_readApart_85 : decode cX12_readApart 85 = .ok (.dup, 1) := by decide +kernel
theorem dX12_readApart_86 : decode cX12_readApart 86 = .ok (.getfield 215, 3) := by decide +kernel
theorem dX12_readApart_89 : decode cX12_readApart 89 = .ok (.iconst 1, 1) := by decide +kernel
theorem dX12_readApart_90 : decode cX12_readApart 90 = .ok (.iadd, 1) := by decide +kernel
theorem dX12_readApart_91 : decode cX12_readApart 91 = .ok (.putfield 215, 3) := by decide +kernel
theorem dX12_readApart_94 : decode cX12_readApart 94 = .ok (.aload_n 0, 1) := by decide +kernel
theorem dX12_readApart_95 : decode cX12_readApart 95 = .ok (.getfield 97, 3) := by decide +kernel
theorem dX12_readApart_98 : decode cX12_readApart 98 = .ok (.bipush 127, 2) := by decide +kernel
theorem dX12_readApart_100 : decode cX12_readApart 100 = .ok (.iconst 4, 1) := by decide +kernel
theorem dX12_readApart_101 : decode cX12_readApart 101 = .ok (.iload_n 1, 1) := by decide +kernel
theorem dX12_readApart_102 : decode cX12_readApart 102 = .ok (.imul, 1) := by decide +kernel
theorem dX12_readApart_103 : decode cX12_readApart 103 = .ok (.iadd, 1) := by decide +kernel
theorem dX12_readApart_104 : decode cX12_readApart 104 = .ok (.iload_n 2, 1) := by decide +kernel
theorem dX12_readApart_105 : decode cX12_readApart 105 = .ok (.iadd, 1) := by decide +kernel
theorem dX12_readApart_106 : decode cX12_readApart 106 = .ok (.iconst 1, 1) := by decide +kernel
theorem dX12_readApart_107 : decode cX12_readApart 107 = .ok (.iastore, 1) := by decide +kernel
theorem dX12_readApart_108 : decode cX12_readApart 108 = .ok (.aload_n 0, 1) := by decide +kernel
theorem dX12_readApart_109 : decode cX12_readApart 109 = .ok (.getfield 97, 3) := by decide +kernel
theorem dX12_readApart_112 : decode cX12_readApart 112 = .ok (.bipush 127, 2) := by decide +kernel
theorem dX12_readApart_114 : decode cX12_readApart 114 = .ok (.iconst 4, 1) := by decide +kernel
theorem dX12_readApart_115 : decode cX12_readApart 115 = .ok (.iload_n 2, 1) := by decide +kernel
theorem dX12_readApart_116 : decode cX12_readApart 116 = .ok (.imul, 1) := by decide +kernel
theorem dX12_readApart_117 : decode cX12_readApart 117 = .ok (.iadd, 1) := by decide +kernel
theorem dX12_readApart_118 : decode cX12_readApart 118 = .ok (.iload_n 1, 1) := by decide +kernel
theorem dX12_readApart_119 : decode cX12_readApart 119 = .ok (.iadd, 1) := by decide +kernel
theorem dX12_readApart_120 : decode cX12_readApart 120 = .ok (.iconst 1, 1) := by decide +kernel
theorem dX12_readApart_121 : decode cX12_readApart 121 = .ok (.iastore, 1) := by decide +kernel
theorem dX12_readApart_122 : decode cX12_readApart 122 = .ok (.return_, 1) := by decide +kernel
theorem dX12_readNever_0 : decode cX12_readNever 0 = .ok (.aload_n 0, 1) := by decide +kernel
theorem dX12_readNever_1 : decode cX12_readNever 1 = .ok (.dup, 1) := by decide +kernel
theorem dX12_readNever_2 : decode cX12_readNever 2 = .ok (.getfield 215, 3) := by decide +kernel
theorem dX12_readNever_5 : decode cX12_readNever 5 = .ok (.iconst 1, 1) := by decide +kernel
theorem dX12_readNever_6 : decode cX12_readNever 6 = .ok (.iadd, 1) := by decide +kernel
theorem dX12_readNever_7 : decode cX12_readNever 7 = .ok (.putfield 215, 3) := by decide +kernel
theorem dX12_readNever_10 : decode cX12_readNever 10 = .ok (.aload_n 0, 1) := by decide +kernel
theorem dX12_readNever_11 : decode cX12_readNever 11 = .ok (.iconst 1, 1) := by decide +kernel
theorem dX12_readNever_12 : decode cX12_readNever 12 = .ok (.invokevirtual 312, 3) := by decide +kernel
theorem dX12_readNever_15 : decode cX12_readNever 15 = .ok (.istore_n 1, 1) := by decide +kernel
theorem dX12_readNever_16 : decode cX12_readNever 16 = .ok (.aload_n 0, 1) := by decide +kernel
theorem dX12_readNever_17 : decode cX12_readNever 17 = .ok (.dup, 1) := by decide +kernel
theorem dX12_readNever_18 : decode cX12_readNever 18 = .ok (.getfield 215, 3) := by decide +kernel
theorem dX12_readNever_21 : decode cX12_readNever 21 = .ok (.aload_n 0, 1) := by decide +kernel
theorem dX12_readNever_22 : decode cX12_readNever 22 = .ok (.getfield 218, 3) := by decide +kernel
theorem dX12_readNever_25 : decode cX12_readNever 25 = .ok (.ifCond .le 7, 3) := by decide +kernel
theorem dX12_readNever_28 : decode cX12_readNever 28 = .ok (.iconst 0, 1) := by decide +kernel
theorem dX12_readNever_29 : decode cX12_readNever 29 = .ok (.goto 4, 3) := by decide +kernel
theorem dX12_readNever_32 : decode cX12_readNever 32 = .ok (.iconst 1, 1) := by decide +kernel
theorem dX12_readNever_33 : decode cX12_readNever 33 = .ok (.iadd, 1) := by decide +kernel
theorem dX12_readNever_34 : decode cX12_readNever 34 = .ok (.putfield 215, 3) := by decide +kernel
theorem dX12_readNever_37 : decode cX12_readNever 37 = .ok (.aload_n 0, 1) := by decide +kernel
theorem dX12_readNever_38 : decode cX12_readNever 38 = .ok (.iconst 0, 1) := by decide +kernel
theorem dX12_readNever_39 : decode cX12_readNever 39 = .ok (.aload_n 0, 1) := by decide +kernel
theorem dX12_readNever_40 : decode cX12_readNever 40 = .ok (.invokevirtual 297, 3) := by decide +kernel
theorem dX12_readNever_43 : decode cX12_readNever 43 = .ok (.iconst 1, 1) := by decide +kernel
theorem dX12_readNever_44 : decode cX12_readNever 44 = .ok (.isub, 1) := by decide +kernel
theorem dX12_readNever_45 : decode cX12_readNever 45 = .ok (.invokevirtual 236, 3) := by decide +kernel
theorem dX12_readNever_48 : decode cX12_readNever 48 = .ok (.istore_n 2, 1) := by decide +kernel
theorem dX12_readNever_49 : decode cX12_readNever 49 = .ok (.bipush 111, 2) := by decide +kernel
theorem dX12_readNever_51 : decode cX12_readNever 51 = .ok (.iconst 4, 1) := by decide +kernel
theorem dX12_readNever_52 : decode cX12_readNever 52 = .ok (.iload_n 1, 1) := by decide +kernel
theorem dX12_readNever_53 : decode cX12_readNever 53 = .ok (.imul, 1) := by decide +kernel
theorem dX12_readNever_54 : decode cX12_readNever 54 = .ok (.iadd, 1) := by decide +kernel
theorem dX12_readNever_55 : decode cX12_readNever 55 = .ok (.iconst 3, 1) := by decide +kernel
theorem dX12_readNever_56 : decode cX12_readNever 56 = .ok (.iadd, 1) := by decide +kernel
theorem dX12_readNever_57 : decode cX12_readNever 57 = .ok (.istore_n 3, 1) := by decide +kernel
theorem dX12_readNever_58 : decode cX12_readNever 58 = .ok (.aload_n 0, 1) := by decide +kernel
theorem dX12_readNever_59 : decode cX12_readNever 59 = .ok (.getfield 218, 3) := by decide +kernel
theorem dX12_readNever_62 : decode cX12_readNever 62 = .ok (.ifCond .ne 32, 3) := by decide +kernel
theorem dX12_readNever_65 : decode cX12_readNever 65 = .ok (.aload_n 0, 1) := by decide +kernel
theorem dX12_readNever_66 : decode cX12_readNever 66 = .ok (.getfield 97, 3) := by decide +kernel
theorem dX12_readNever_69 : decode cX12_readNever 69 = .ok (.iload_n 3, 1) := by decide +kernel
theorem dX12_readNever_70 : decode cX12_readNever 70 = .ok (.iaload, 1) := by decide +kernel
theorem dX12_readNever_71 : decode cX12_readNever 71 = .ok (.iload_n 2, 1) := by decide +kernel
theorem dX12_readNever_72 : decode cX12_readNever 72 = .ok (.ishr, 1) := by decide +kernel
theorem dX12_readNever_73 : decode cX12_readNever 73 = .ok (.iconst 1, 1) := by decide +kernel
theorem dX12_readNever_74 : decode cX12_readNever 74 = .ok (.iand, 1) := by decide +kernel
theorem dX12_readNever_75 : decode cX12_readNever 75 = .ok (.iconst 1, 1) := by decide +kernel
theorem dX12_readNever_76 : decode cX12_readNever 76 = .ok (.if_icmp .ne 18, 3) := by decide +kernel
theorem dX12_readNever_79 : decode cX12_readNever 79 = .ok (.aload_n 0, 1) := by decide +kernel
theorem dX12_readNever_80 : decode cX12_readNever 80 = .ok (.dup, 1) := by decide +kernel
theorem dX12_readNever_81 : decode cX12_readNever 81 = .ok (.getfield 215, 3) := by decide +kernel
theorem dX12_readNever_84 : decode cX12_readNever 84 = .ok (.iconst 1, 1) := by decide +kernel
theorem dX12_readNever_85 : decode cX12_readNever 85 = .ok (.isub, 1) := by decide +kernel
theorem dX12_readNever_86 : decode cX12_readNever 86 = .ok (.putfield 215, 3) := by decide +kernel
theorem dX12_readNever_89 : decode cX12_readNever 89 = .ok (.aload_n 0, 1) := by decide +kernel
theorem dX12_readNever_90 : decode cX12_readNever 90 = .ok (.iconst 3, 1) := by decide +kernel
theorem dX12_readNever_91 : decode cX12_readNever 91 = .ok (.invokevirtual 224, 3) := by decide +kernel
theorem dX12_readNever_94 : decode cX12_readNever 94 = .ok (.aload_n 0, 1) := by decide +kernel
theorem dX12_readNever_95 : decode cX12_readNever 95 = .ok (.getfield 218, 3) := by decide +kernel
theorem dX12_readNever_98 : decode cX12_readNever 98 = .ok (.ifCond .ne 15, 3) := by decide +kernel
theorem dX12_readNever_101 : decode cX12_readNever 101 = .ok (.aload_n 0, 1) := by decide +kernel
theorem dX12_readNever_102 : decode cX12_readNever 102 = .ok (.getfield 97, 3) := by decide +kernel
theorem dX12_readNever_105 : decode cX12_readNever 105 = .ok (.iload_n 3, 1) := by decide +kernel
theorem dX12_readNever_106 : decode cX12_readNever 106 = .ok (.dup2, 1) := by decide +kernel
theorem dX12_readNever_107 : decode cX12_readNever 107 = .ok (.iaload, 1) := by decide +kernel
theorem dX12_readNever_108 : decode cX12_readNever 108 = .ok (.iconst 1, 1) := by decide +kernel
theorem dX12_readNever_109 : decode cX12_readNever 109 = .ok (.iload_n 2, 1) := by decide +kernel
theorem dX12_readNever_110 : decode cX12_readNever 110 = .ok (.ishl, 1) := by decide +kernel
theorem dX12_readNever_111 : decode cX12_readNever 111 = .ok (.ior, 1) := by decide +kernel
theorem dX12_readNever_112 : decode cX12_readNever 112 = .ok (.iastore, 1) := by decide +kernel
theorem dX12_readNever_113 : decode cX12_readNever 113 = .ok (.return_, 1) := by decide +kernel
theorem dX12_readGap_0 : decode cX12_readGap 0 = .ok (.aload_n 0, 1) := by decide +kernel
theorem dX12_readGap_1 : decode cX12_readGap 1 = .ok (.dup, 1) := by decide +kernel
theorem dX12_readGap_2 : decode cX12_readGap 2 = .ok (.getfield 215, 3) := by decide +kernel
theorem dX12_readGap_5 : decode cX12_readGap 5 = .ok (.iconst 1, 1) := by decide +kernel
theorem dX12_readGap_6 : decode cX12_readGap 6 = .ok (.iadd, 1) := by decide +kernel
theorem dX12_readGap_7 : decode cX12_readGap 7 = .ok (.putfield 215, 3) := by decide +kernel
theorem dX12_readGap_10 : decode cX12_readGap 10 = .ok (.aload_n 0, 1) := by decide +kernel
theorem dX12_readGap_11 : decode cX12_readGap 11 = .ok (.iconst 0, 1) := by decide +kernel
theorem dX12_readGap_12 : decode cX12_readGap 12 = .ok (.aload_n 0, 1) := by decide +kernel
theorem dX12_readGap_13 : decode cX12_readGap 13 = .ok (.invokevirtual 297, 3) := by decide +kernel
theorem dX12_readGap_16 : decode cX12_readGap 16 = .ok (.iconst 2, 1) := by decide +kernel
theorem dX12_readGap_17 : decode cX12_readGap 17 = .ok (.isub, 1) := by decide +kernel
theorem dX12_readGap_18 : decode cX12_readGap 18 = .ok (.invokevirtual 236, 3) := by decide +kernel
theorem dX12_readGap_21 : decode cX12_readGap 21 = .ok (.istore_n 1, 1) := by decide +kernel
theorem dX12_readGap_22 : decode cX12_readGap 22 = .ok (.aload_n 0, 1) := by decide +kernel
theorem dX12_readGap_23 : decode cX12_readGap 23 = .ok (.getfield 218, 3) := by decide +kernel
theorem dX12_readGap_26 : decode cX12_readGap 26 = .ok (.ifCond .ne 33, 3) := by decide +kernel
theorem dX12_readGap_29 : decode cX12_readGap 29 = .ok (.aload_n 0, 1) := by decide +kernel
theorem dX12_readGap_30 : decode cX12_readGap 30 = .ok (.getfield 97, 3) := by decide +kernel
theorem dX12_readGap_33 : decode cX12_readGap 33 = .ok (.bipush 90, 2) := by decide +kernel
theorem dX12_readGap_35 : decode cX12_readGap 35 = .ok (.iaload, 1) := by decide +kernel
theorem dX12_readGap_36 : decode cX12_readGap 36 = .ok (.iload_n 1, 1) := by decide +kernel
theorem dX12_readGap_37 : decode cX12_readGap 37 = .ok (.ishr, 1) := by decide +kernel
theorem dX12_readGap_38 : decode cX12_readGap 38 = .ok (.iconst 1, 1) := by decide +kernel
theorem dX12_readGap_39 : decode cX12_readGap 39 = .ok (.iand, 1) := by decide +kernel
theorem dX12_readGap_40 : decode cX12_readGap 40 = .ok (.iconst 1, 1) := by decide +kernel
theorem dX12_readGap_41 : decode cX12_readGap 41 = .ok (.if_icmp .ne 18, 3) := by decide +kernel
theorem dX12_readGap_44 : decode cX12_readGap 44 = .ok (.aload_n 0, 1) := by decide +kernel
theorem dX12_readGap_45 : decode cX12_readGap 45 = .ok (.dup, 1) := by decide +kernel
theorem dX12_readGap_46 : decode cX12_readGap 46 = .ok (.getfield 215, 3) := by decide +kernel
theorem dX12_readGap_49 : decode cX12_readGap 49 = .ok (.iconst 1, 1) := by decide +kernel
theorem dX12_readGap_50 : decode cX12_readGap 50 = .ok (.isub, 1) := by decide +kernel
theorem dX12_readGap_51 : decode cX12_readGap 51 = .ok (.putfield 215, 3) := by decide +kernel
theorem dX12_readGap_54 : decode cX12_readGap 54 = .ok (.aload_n 0, 1) := by decide +kernel
theorem dX12_readGap_55 : decode cX12_readGap 55 = .ok (.iconst 3, 1) := by decide +kernel
theorem dX12_readGap_56 : decode cX12_readGap 56 = .ok (.invokevirtual 224, 3) := by decide +kernel
theorem dX12_readGap_59 : decode cX12_readGap 59 = .ok (.aload_n 0, 1) := by decide +kernel
theorem dX12_readGap_60 : decode cX12_readGap 60 = .ok (.getfield 218, 3) := by decide +kernel
theorem dX12_readGap_63 : decode cX12_readGap 63 = .ok (.ifCond .ne 16, 3) := by decide +kernel
theorem dX12_readGap_66 : decode cX12_readGap 66 = .ok (.aload_n 0, 1) := by decide +kernel
theorem dX12_readGap_67 : decode cX12_readGap 67 = .ok (.getfield 97, 3) := by decide +kernel
theorem dX12_readGap_70 : decode cX12_readGap 70 = .ok (.bipush 90, 2) := by decide +kernel
theorem dX12_readGap_72 : decode cX12_readGap 72 = .ok (.dup2, 1) := by decide +kernel
theorem dX12_readGap_73 : decode cX12_readGap 73 = .ok (.iaload, 1) := by decide +kernel
theorem dX12_readGap_74 : decode cX12_readGap 74 = .ok (.iconst 1, 1) := by decide +kernel
theorem dX12_readGap_75 : decode cX12_readGap 75 = .ok (.iload_n 1, 1) := by decide +kernel
theorem dX12_readGap_76 : decode cX12_readGap 76 = .ok (.ishl, 1) := by decide +kernel
theorem dX12_readGap_77 : decode cX12_readGap 77 = .ok (.ior, 1) := by decide +kernel
theorem dX12_readGap_78 : decode cX12_readGap 78 = .ok (.iastore, 1) := by decide +kernel
theorem dX12_readGap_79 : decode cX12_readGap 79 = .ok (.return_, 1) := by decide +kernel
theorem dX12_readFight_0 : decode cX12_readFight 0 = .ok (.aload_n 0, 1) := by decide +kernel
theorem dX12_readFight_1 : decode cX12_readFight 1 = .ok (.getfield 255, 3) := by decide +kernel
theorem dX12_readFight_4 : decode cX12_readFight 4 = .ok (.ifCond .eq 9, 3) := by decide +kernel
theorem dX12_readFight_7 : decode cX12_readFight 7 = .ok (.aload_n 0, 1) := by decide +kernel
theorem dX12_readFight_8 : decode cX12_readFight 8 = .ok (.iconst 3, 1) := by decide +kernel
theorem dX12_readFight_9 : decode cX12_readFight 9 = .ok (.invokevirtual 224, 3) := by decide +kernel
theorem dX12_readFight_12 : decode cX12_readFight 12 = .ok (.return_, 1) := by decide +kernel
theorem dX12_readFight_13 : decode cX12_readFight 13 = .ok (.aload_n 0, 1) := by decide +kernel
theorem dX12_readFight_14 : decode cX12_readFight 14 = .ok (.iconst 1, 1) := by decide +kernel
theorem dX12_readFight_15 : decode cX12_readFight 15 = .ok (.putfield 255, 3) := by decide +kernel
theorem dX12_readFight_18 : decode cX12_readFight 18 = .ok (.aload_n 0, 1) := by decide +kernel
theorem dX12_readFight_19 : decode cX12_readFight 19 = .ok (.dup, 1) := by decide +kernel
theorem dX12_readFight_20 : decode cX12_readFight 20 = .ok (.getfield 215, 3) := by decide +kernel
theorem dX12_readFight_23 : decode cX12_readFight 23 = .ok (.iconst 1, 1) := by decide +kernel
theorem dX12_readFight_24 : decode cX12_readFight 24 = .ok (.iadd, 1) := by decide +kernel
theorem dX12_readFight_25 : decode cX12_readFight 25 = .ok (.putfield 215, 3) := by decide +kernel
theorem dX12_readFight_28 : decode cX12_readFight 28 = .ok (.aload_n 0, 1) := by decide +kernel
theorem dX12_readFight_29 : decode cX12_readFight 29 = .ok (.getfield 97, 3) := by decide +kernel
theorem dX12_readFight_32 : decode cX12_readFight 32 = .ok (.bipush 84, 2) := by decide +kernel
theorem dX12_readFight_34 : decode cX12_readFight 34 = .ok (.aload_n 0, 1) := by decide +kernel
theorem dX12_readFight_35 : decode cX12_readFight 35 = .ok (.iconst 0, 1) := by decide +kernel
theorem dX12_readFight_36 : decode cX12_readFight 36 = .ok (.bipush 99, 2) := by decide +kernel
theorem dX12_readFight_38 : decode cX12_readFight 38 = .ok (.invokevirtual 236, 3) := by decide +kernel
theorem dX12_readFight_41 : decode cX12_readFight 41 = .ok (.iastore, 1) := by decide +kernel
theorem dX12_readFight_42 : decode cX12_readFight 42 = .ok (.return_, 1) := by decide +kernel
theorem dX12_readLaw_0 : decode cX12_readLaw 0 = .ok (.aload_n 0, 1) := by decide +kernel
theorem dX12_readLaw_1 : decode cX12_readLaw 1 = .ok (.iload_n 1, 1) := by decide +kernel
theorem dX12_readLaw_2 : decode cX12_readLaw 2 = .ok (.putfield 315, 3) := by decide +kernel
theorem dX12_readLaw_5 : decode cX12_readLaw 5 = .ok (.aload_n 0, 1) := by decide +kernel
theorem dX12_readLaw_6 : decode cX12_readLaw 6 = .ok (.iload_n 2, 1) := by decide +kernel
theorem dX12_readLaw_7 : decode cX12_readLaw 7 = .ok (.putfield 318, 3) := by decide +kernel
theorem dX12_readLaw_10 : decode cX12_readLaw 10 = .ok (.aload_n 0, 1) := by decide +kernel
theorem dX12_readLaw_11 : decode cX12_readLaw 11 = .ok (.iconst 0, 1) := by decide +kernel
theorem dX12_readLaw_12 : decode cX12_readLaw 12 = .ok (.invokevirtual 321, 3) := by decide +kernel
theorem dX12_readLaw_15 : decode cX12_readLaw 15 = .ok (.aload_n 0, 1) := by decide +kernel
theorem dX12_readLaw_16 : decode cX12_readLaw 16 = .ok (.iconst 0, 1) := by decide +kernel
theorem dX12_readLaw_17 : decode cX12_readLaw 17 = .ok (.iconst 0, 1) := by decide +kernel
theorem dX12_readLaw_18 : decode cX12_readLaw 18 = .ok (.invokevirtual 324, 3) := by decide +kernel
theorem dX12_readLaw_21 : decode cX12_readLaw 21 = .ok (.return_, 1) := by decide +kernel
theorem dX12_readWorth_0 : decode cX12_readWorth 0 = .ok (.aload_n 0, 1) := by decide +kernel
theorem dX12_readWorth_1 : decode cX12_readWorth 1 = .ok (.getfield 97, 3) := by decide +kernel
theorem dX12_readWorth_4 : decode cX12_readWorth 4 = .ok (.bipush 85, 2) := by decide +kernel
theorem dX12_readWorth_6 : decode cX12_readWorth 6 = .ok (.iaload, 1) := by decide +kernel
theorem dX12_readWorth_7 : decode cX12_readWorth 7 = .ok (.ifCond .lt 9, 3) := by decide +kernel
theorem dX12_readWorth_10 : decode cX12_readWorth 10 = .ok (.aload_n 0, 1) := by decide +kernel
theorem dX12_readWorth_11 : decode cX12_readWorth 11 = .ok (.iconst 3, 1) := by decide +kernel
theorem dX12_readWorth_12 : decode cX12_readWorth 12 = .ok (.invokevirtual 224, 3) := by decide +kernel
theorem dX12_readWorth_15 : decode cX12_readWorth 15 = .ok (.return_, 1) := by decide +kernel
theorem dX12_readWorth_16 : decode cX12_readWorth 16 = .ok (.aload_n 0, 1) := by decide +kernel
theorem dX12_readWorth_17 : decode cX12_readWorth 17 = .ok (.dup, 1) := by decide +kernel
theorem dX12_readWorth_18 : decode cX12_readWorth 18 = .ok (.getfield 215, 3) := by decide +kernel
theorem dX12_readWorth_21 : decode cX12_readWorth 21 = .ok (.iconst 1, 1) := by decide +kernel
theorem dX12_readWorth_22 : decode cX12_readWorth 22 = .ok (.iadd, 1) := by decide +kernel
theorem dX12_readWorth_23 : decode cX12_readWorth 23 = .ok (.putfield 215, 3) := by decide +kernel
theorem dX12_readWorth_26 : decode cX12_readWorth 26 = .ok (.aload_n 0, 1) := by decide +kernel
theorem dX12_readWorth_27 : decode cX12_readWorth 27 = .ok (.getfield 97, 3) := by decide +kernel
theorem dX12_readWorth_30 : decode cX12_readWorth 30 = .ok (.bipush 85, 2) := by decide +kernel
theorem dX12_readWorth_32 : decode cX12_readWorth 32 = .ok (.aload_n 0, 1) := by decide +kernel
theorem dX12_readWorth_33 : decode cX12_readWorth 33 = .ok (.getfield 252, 3) := by decide +kernel
theorem dX12_readWorth_36 : decode cX12_readWorth 36 = .ok (.iastore, 1) := by decide +kernel
theorem dX12_readWorth_37 : decode cX12_readWorth 37 = .ok (.aload_n 0, 1) := by decide +kernel
theorem dX12_readWorth_38 : decode cX12_readWorth 38 = .ok (.bipush 22, 2) := by decide +kernel
theorem dX12_readWorth_40 : decode cX12_readWorth 40 = .ok (.iconst 5, 1) := by decide +kernel
theorem dX12_readWorth_41 : decode cX12_readWorth 41 = .ok (.invokevirtual 328, 3) := by decide +kernel
theorem dX12_readWorth_44 : decode cX12_readWorth 44 = .ok (.return_, 1) := by decide +kernel
theorem dX12_readRule_0 : decode cX12_readRule 0 = .ok (.aload_n 0, 1) := by decide +kernel
theorem dX12_readRule_1 : decode cX12_readRule 1 = .ok (.getfield 97, 3) := by decide +kernel
theorem dX12_readRule_4 : decode cX12_readRule 4 = .ok (.bipush 83, 2) := by decide +kernel
theorem dX12_readRule_6 : decode cX12_readRule 6 = .ok (.iaload, 1) := by decide +kernel
theorem dX12_readRule_7 : decode cX12_readRule 7 = .ok (.istore_n 1, 1) := by decide +kernel
theorem dX12_readRule_8 : decode cX12_readRule 8 = .ok (.iload_n 1, 1) := by decide +kernel
theorem dX12_readRule_9 : decode cX12_readRule 9 = .ok (.iconst 4, 1) := by decide +kernel
theorem dX12_readRule_10 : decode cX12_readRule 10 = .ok (.if_icmp .ne 9, 3) := by decide +kernel
theorem dX12_readRule_13 : decode cX12_readRule 13 = .ok (.aload_n 0, 1) := by decide +kernel
theorem dX12_readRule_14 : decode cX12_readRule 14 = .ok (.iconst 5, 1) := by decide +kernel
theorem dX12_readRule_15 : decode cX12_readRule 15 = .ok (.invokevirtual 224, 3) := by decide +kernel
theorem dX12_readRule_18 : decode cX12_readRule 18 = .ok (.return_, 1) := by decide +kernel
theorem dX12_readRule_19 : decode cX12_readRule 19 = .ok (.aload_n 0, 1) := by decide +kernel
theorem dX12_readRule_20 : decode cX12_readRule 20 = .ok (.bipush 20, 2) := by decide +kernel
theorem dX12_readRule_22 : decode cX12_readRule 22 = .ok (.invokevirtual 301, 3) := by decide +kernel
theorem dX12_readRule_25 : decode cX12_readRule 25 = .ok (.aload_n 0, 1) := by decide +kernel
theorem dX12_readRule_26 : decode cX12_readRule 26 = .ok (.getfield 218, 3) := by decide +kernel
theorem dX12_readRule_29 : decode cX12_readRule 29 = .ok (.ifCond .le 4, 3) := by decide +kernel
theorem dX12_readRule_32 : decode cX12_readRule 32 = .ok (.return_, 1) := by decide +kernel
theorem dX12_readRule_33 : decode cX12_readRule 33 = .ok (.aload_n 0, 1) := by decide +kernel
theorem dX12_readRule_34 : decode cX12_readRule 34 = .ok (.getfield 97, 3) := by decide +kernel
theorem dX12_readRule_37 : decode cX12_readRule 37 = .ok (.bipush 86, 2) := by decide +kernel
theorem dX12_readRule_39 : decode cX12_readRule 39 = .ok (.iload_n 1, 1) := by decide +kernel
theorem dX12_readRule_40 : decode cX12_readRule 40 = .ok (.iadd, 1) := by decide +kernel
theorem dX12_readRule_41 : decode cX12_readRule 41 = .ok (.aload_n 0, 1) := by decide +kernel
theorem dX12_readRule_42 : decode cX12_readRule 42 = .ok (.getfield 252, 3) := by decide +kernel
theorem dX12_readRule_45 : decode cX12_readRule 45 = .ok (.iastore, 1) := by decide +kernel
theorem dX12_readRule_46 : decode cX12_readRule 46 = .ok (.aload_n 0, 1) := by decide +kernel
theorem dX12_readRule_47 : decode cX12_readRule 47 = .ok (.bipush 27, 2) := by decide +kernel
theorem dX12_readRule_49 : decode cX12_readRule 49 = .ok (.iconst 3, 1) := by decide +kernel
theorem dX12_readRule_50 : decode cX12_readRule 50 = .ok (.invokevirtual 328, 3) := by decide +kernel
theorem dX12_readRule_53 : decode cX12_readRule 53 = .ok (.aload_n 0, 1) := by decide +kernel
theorem dX12_readRule_54 : decode cX12_readRule 54 = .ok (.getfield 97, 3) := by decide +kernel
theorem dX12_readRule_57 : decode cX12_readRule 57 = .ok (.bipush 83, 2) := by decide +kernel
theorem dX12_readRule_59 : decode cX12_readRule 59 = .ok (.dup2, 1) := by decide +kernel
theorem dX12_readRule_60 : decode cX12_readRule 60 = .ok (.iaload, 1) := by decide +kernel
theorem dX12_readRule_61 : decode cX12_readRule 61 = .ok (.iconst 1, 1) := by decide +kernel
theorem dX12_readRule_62 : decode cX12_readRule 62 = .ok (.iadd, 1) := by decide +kernel
theorem dX12_readRule_63 : decode cX12_readRule 63 = .ok (.iastore, 1) := by decide +kernel
theorem dX12_readRule_64 : decode cX12_readRule 64 = .ok (.return_, 1) := by decide +kernel
theorem dX12_journey_0 : decode cX12_journey 0 = .ok (.aload_n 0, 1) := by decide +kernel
theorem dX12_journey_1 : decode cX12_journey 1 = .ok (.iconst 0, 1) := by decide +kernel
theorem dX12_journey_2 : decode cX12_journey 2 = .ok (.putfield 1, 3) := by decide +kernel
theorem dX12_journey_5 : decode cX12_journey 5 = .ok (.aload_n 0, 1) := by decide +kernel
theorem dX12_journey_6 : decode cX12_journey 6 = .ok (.invokevirtual 249, 3) := by decide +kernel
theorem dX12_journey_9 : decode cX12_journey 9 = .ok (.iconst 0, 1) := by decide +kernel
theorem dX12_journey_10 : decode cX12_journey 10 = .ok (.istore_n 1, 1) := by decide +kernel
theorem dX12_journey_11 : decode cX12_journey 11 = .ok (.aload_n 0, 1) := by decide +kernel
theorem dX12_journey_12 : decode cX12_journey 12 = .ok (.getfield 218, 3) := by decide +kernel
theorem dX12_journey_15 : decode cX12_journey 15 = .ok (.ifCond .ne 179, 3) := by decide +kernel
theorem dX12_journey_18 : decode cX12_journey 18 = .ok (.aload_n 0, 1) := by decide +kernel
theorem dX12_journey_19 : decode cX12_journey 19 = .ok (.getfield 24, 3) := by decide +kernel
theorem dX12_journey_22 : decode cX12_journey 22 = .ok (.aload_n 0, 1) := by decide +kernel
theorem dX12_journey_23 : decode cX12_journey 23 = .ok (.getfield 215, 3) := by decide +kernel
theorem dX12_journey_26 : decode cX12_journey 26 = .ok (.iaload, 1) := by decide +kernel
theorem dX12_journey_27 : decode cX12_journey 27 = .ok (.ifCond .eq 167, 3) := by decide +kernel
theorem dX12_journey_30 : decode cX12_journey 30 = .ok (.aload_n 0, 1) := by decide +kernel
theorem dX12_journey_31 : decode cX12_journey 31 = .ok (.bipush 12, 2) := by decide +kernel
theorem dX12_journey_33 : decode cX12_journey 33 = .ok (.invokevirtual 227, 3) := by decide +kernel
theorem dX12_journey_36 : decode cX12_journey 36 = .ok (.istore_n 2, 1) := by decide +kernel
theorem dX12_journey_37 : decode cX12_journey 37 = .ok (.iload_n 2, 1) := by decide +kernel
theorem dX12_journey_38 : decode cX12_journey 38 = .ok (.ifCond .ne 20, 3) := by decide +kernel
theorem dX12_journey_41 : decode cX12_journey 41 = .ok (.aload_n 0, 1) := by decide +kernel
theorem dX12_journey_42 : decode cX12_journey 42 = .ok (.bipush 13, 2) := by decide +kernel
theorem dX12_journey_44 : decode cX12_journey 44 = .ok (.invokevirtual 227, 3) := by decide +kernel
theorem dX12_journey_47 : decode cX12_journey 47 = .ok (.ifCond .ne 11, 3) := by decide +kernel
theorem dX12_journey_50 : decode cX12_journey 50 = .ok (.aload_n 0, 1) := by decide +kernel
theorem dX12_journey_51 : decode cX12_journey 51 = .ok (.iconst 1, 1) := by decide +kernel
theorem dX12_journey_52 : decode cX12_journey 52 = .ok (.invokevirtual 224, 3) := by decide +kernel
theorem dX12_journey_55 : decode cX12_journey 55 = .ok (.goto 14, 3) := by decide +kernel
theorem dX12_journey_58 : decode cX12_journey 58 = .ok (.iload_n 1, 1) := by decide +kernel
theorem dX12_journey_59 : decode cX12_journey 59 = .ok (.bipush 20, 2) := by decide +kernel
theorem dX12_journey_61 : decode cX12_journey 61 = .ok (.if_icmp .ne 8, 3) := by decide +kernel
theorem dX12_journey_64 : decode cX12_journey 64 = .ok (.aload_n 0, 1) := by decide +kernel
theorem dX12_journey_65 : decode cX12_journey 65 = .ok (.iconst 5, 1) := by decide +kernel
theorem dX12_journey_66 : decode cX12_journey 66 = .ok (.invokevirtual 224, 3) := by decide +kernel
theorem dX12_journey_69 : decode cX12_journey 69 = .ok (.aload_n 0, 1) := by decide +kernel
theorem dX12_journey_70 : decode cX12_journey 70 = .ok (.dup, 1) := by decide +kernel
theorem dX12_journey_71 : decode cX12_journey 71 = .ok (.getfield 215, 3) := by decide +kernel
theorem dX12_journey_74 : decode cX12_journey 74 = .ok (.aload_n 0, 1) := by decide +kernel
theorem dX12_journey_75 : decode cX12_journey 75 = .ok (.getfield 218, 3) := by decide +kernel
theorem dX12_journey_78 : decode cX12_journey 78 = .ok (.ifCond .le 7, 3) := by decide +kernel
theorem dX12_journey_81 : decode cX12_journey 81 = .ok (.iconst 0, 1) := by decide +kernel
theorem dX12_journey_82 : decode cX12_journey 82 = .ok (.goto 4, 3) := by decide +kernel
theorem dX12_journey_85 : decode cX12_journey 85 = .ok (.iconst 1, 1) := by decide +kernel
theorem dX12_journey_86 : decode cX12_journey 86 = .ok (.iadd, 1) := by decide +kernel
theorem dX12_journey_87 : decode cX12_journey 87 = .ok (.putfield 215, 3) := by decide +kernel
theorem dX12_journey_90 : decode cX12_journey 90 = .ok (.iload_n 2, 1) := by decide +kernel
theorem dX12_journey_91 : decode cX12_journey 91 = .ok (.ifCond .eq 11, 3) := by decide +kernel
theorem dX12_journey_94 : decode cX12_journey 94 = .ok (.aload_n 0, 1) := by decide +kernel
theorem dX12_journey_95 : decode cX12_journey 95 = .ok (.iconst 0, 1) := by decide +kernel
theorem dX12_journey_96 : decode cX12_journey 96 = .ok (.invokevirtual 312, 3) := by decide +kernel
theorem dX12_journey_99 : decode cX12_journey 99 = .ok (.goto 4, 3) := by decide +kernel
theorem dX12_journey_102 : decode cX12_journey 102 = .ok (.iconst (-1), 1) := by decide +kernel
theorem dX12_journey_103 : decode cX12_journey 103 = .ok (.istore_n 3, 1) := by decide +kernel
theorem dX12_journey_104 : decode cX12_journey 104 = .ok (.aload_n 0, 1) := by decide +kernel
theorem dX12_journey_105 : decode cX12_journey 105 = .ok (.dup, 1) := by decide +kernel
theorem dX12_journey_106 : decode cX12_journey 106 = .ok (.getfield 215, 3) := by decide +kernel
theorem dX12_journey_109 : decode cX12_journey 109 = .ok (.aload_n 0, 1) := by decide +kernel
theorem dX12_journey_110 : decode cX12_journey 110 = .ok (.getfield 218, 3) := by decide +kernel
theorem dX12_journey_113 : decode cX12_journey 113 = .ok (.ifCond .gt 7, 3) := by decide +kernel
theorem dX12_journey_116 : decode cX12_journey 116 = .ok (.iload_n 2, 1) := by decide +kernel
theorem dX12_journey_117 : decode cX12_journey 117 = .ok (.ifCond .ne 7, 3) := by decide +kernel
theorem dX12_journey_120 : decode cX12_journey 120 = .ok (.iconst 0, 1) := by decide +kernel
theorem dX12_journey_121 : decode cX12_journey 121 = .ok (.goto 4, 3) := by decide +kernel
theorem dX12_journey_124 : decode cX12_journey 124 = .ok (.iconst 1, 1) := by decide +kernel
theorem dX12_journey_125 : decode cX12_journey 125 = .ok (.iadd, 1) := by decide +kernel
theorem dX12_journey_126 : decode cX12_journey 126 = .ok (.putfield 215, 3) := by decide +kernel
theorem dX12_journey_129 : decode cX12_journey 129 = .ok (.iload_n 2, 1) := by decide +kernel
theorem dX12_journey_130 : decode cX12_journey 130 = .ok (.ifCond .eq 17, 3) := by decide +kernel
theorem dX12_journey_133 : decode cX12_journey 133 = .ok (.aload_n 0, 1) := by decide +kernel
theorem dX12_journey_134 : decode cX12_journey 134 = .ok (.iconst 0, 1) := by decide +kernel
theorem dX12_journey_135 : decode cX12_journey 135 = .ok (.aload_n 0, 1) := by decide +kernel
theorem dX12_journey_136 : decode cX12_journey 136 = .ok (.invokevirtual 331, 3) := by decide +kernel
theorem dX12_journey_139 : decode cX12_journey 139 = .ok (.iconst 1, 1) := by decide +kernel
theorem dX12_journey_140 : decode cX12_journey 140 = .ok (.isub, 1) := by decide +kernel
theorem dX12_journey_141 : decode cX12_journey 141 = .ok (.invokevirtual 236, 3) := by decide +kernel
theorem dX12_journey_144 : decode cX12_journey 144 = .ok (.goto 4, 3) := by decide +kernel
theorem dX12_journey_147 : decode cX12_journey 147 = .ok (.iconst (-1), 1) := by decide +kernel
theorem dX12_journey_148 : decode cX12_journey 148 = .ok (.istore 4, 2) := by decide +kernel
theorem dX12_journey_150 : decode cX12_journey 150 = .ok (.aload_n 0, 1) := by decide +kernel
theorem dX12_journey_151 : decode cX12_journey 151 = .ok (.getfield 218, 3) := by decide +kernel
theorem dX12_journey_154 : decode cX12_journey 154 = .ok (.ifCond .ne 31, 3) := by decide +kernel
theorem dX12_journey_157 : decode cX12_journey 157 = .ok (.aload_n 0, 1) := by decide +kernel
theorem dX12_journey_158 : decode cX12_journey 158 = .ok (.getfield 118, 3) := by decide +kernel
theorem dX12_journey_161 : decode cX12_journey 161 = .ok (.bipush 45, 2) := by decide +kernel
theorem dX12_journey_163 : decode cX12_journey 163 = .ok (.iconst 2, 1) := by decide +kernel
theorem dX12_journey_164 : decode cX12_journey 164 = .ok (.iload_n 1, 1) := by decide +kernel
theorem dX12_journey_165 : decode cX12_journey 165 = .ok (.imul, 1) := by decide +kernel
theorem dX12_journey_166 : decode cX12_journey 166 = .ok (.iadd, 1) := by decide +kernel
theorem dX12_journey_167 : decode cX12_journey 167 = .ok (.iload_n 3, 1) := by decide +kernel
theorem dX12_journey_168 : decode cX12_journey 168 = .ok (.iastore, 1) := by decide +kernel
theorem dX12_journey_169 : decode cX12_journey 169 = .ok (.aload_n 0, 1) := by decide +kernel
theorem dX12_journey_170 : decode cX12_journey 170 = .ok (.getfield 118, 3) := by decide +kernel
theorem dX12_journey_173 : decode cX12_journey 173 = .ok (.bipush 46, 2) := by decide +kernel
theorem dX12_journey_175 : decode cX12_journey 175 = .ok (.iconst 2, 1) := by decide +kernel
theorem dX12_journey_176 : decode cX12_journey 176 = .ok (.iload_n 1, 1) := by decide +kernel
theorem dX12_journey_177 : decode cX12_journey 177 = .ok (.imul, 1) := by decide +kernel
theorem dX12_journey_178 : decode cX12_journey 178 = .ok (.iadd, 1) := by decide +kernel
theorem dX12_journey_179 : decode cX12_journey 179 = .ok (.iload 4, 2) := by decide +kernel
theorem dX12_journey_181 : decode cX12_journey 181 = .ok (.iastore, 1) := by decide +kernel
theorem dX12_journey_182 : decode cX12_journey 182 = .ok (.iinc 1 1, 3) := by decide +kernel
theorem dX12_journey_185 : decode cX12_journey 185 = .ok (.aload_n 0, 1) := by decide +kernel
theorem dX12_journey_186 : decode cX12_journey 186 = .ok (.bipush 59, 2) := by decide +kernel
theorem dX12_journey_188 : decode cX12_journey 188 = .ok (.invokevirtual 259, 3) := by decide +kernel
theorem dX12_journey_191 : decode cX12_journey 191 = .ok (.goto (-180), 3) := by decide +kernel
theorem dX12_journey_194 : decode cX12_journey 194 = .ok (.aload_n 0, 1) := by decide +kernel
theorem dX12_journey_195 : decode cX12_journey 195 = .ok (.getfield 218, 3) := by decide +kernel
theorem dX12_journey_198 : decode cX12_journey 198 = .ok (.ifCond .le 8, 3) := by decide +kernel
theorem dX12_journey_201 : decode cX12_journey 201 = .ok (.aload_n 0, 1) := by decide +kernel
theorem dX12_journey_202 : decode cX12_journey 202 = .ok (.getfield 218, 3) := by decide +kernel
theorem dX12_journey_205 : decode cX12_journey 205 = .ok (.ireturn, 1) := by decide +kernel
theorem dX12_journey_206 : decode cX12_journey 206 = .ok (.aload_n 0, 1) := by decide +kernel
theorem dX12_journey_207 : decode cX12_journey 207 = .ok (.getfield 118, 3) := by decide +kernel
theorem dX12_journey_210 : decode cX12_journey 210 = .ok (.iconst 0, 1) := by decide +kernel
theorem dX12_journey_211 : decode cX12_journey 211 = .ok (.iload_n 1, 1) := by decide +kernel
theorem dX12_journey_212 : decode cX12_journey 212 = .ok (.iastore, 1) := by decide +kernel
theorem dX12_journey_213 : decode cX12_journey 213 = .ok (.iconst 0, 1) := by decide +kernel
theorem dX12_journey_214 : decode cX12_journey 214 = .ok (.istore_n 2, 1) := by decide +kernel
theorem dX12_journey_215 : decode cX12_journey 215 = .ok (.iload_n 2, 1) := by decide +kernel
theorem dX12_journey_216 : decode cX12_journey 216 = .ok (.iconst 2, 1) := by decide +kernel
theorem dX12_journey_217 : decode cX12_journey 217 = .ok (.iload_n 1, 1) := by decide +kernel
theorem dX12_journey_218 : decode cX12_journey 218 = .ok (.imul, 1) := by decide +kernel
theorem dX12_journey_219 : decode cX12_journey 219 = .ok (.if_icmp .ge 26, 3) := by decide +kernel
theorem dX12_journey_222 : decode cX12_journey 222 = .ok (.aload_n 0, 1) := by decide +kernel
theorem dX12_journey_223 : decode cX12_journey 223 = .ok (.getfield 118, 3) := by decide +kernel
theorem dX12_journey_226 : decode cX12_journey 226 = .ok (.iconst 1, 1) := by decide +kernel
theorem dX12_journey_227 : decode cX12_journey 227 = .ok (.iload_n 2, 1) := by decide +kernel
theorem dX12_journey_228 : decode cX12_journey 228 = .ok (.iadd, 1) := by decide +kernel
theorem dX12_journey_229 : decode cX12_journey 229 = .ok (.aload_n 0, 1) := by decide +kernel
theorem dX12_journey_230 : decode cX12_journey 230 = .ok (.getfield 118, 3) := by decide +kernel
theorem dX12_journey_233 : decode cX12_journey 233 = .ok (.bipush 45, 2) := by decide +kernel
theorem dX12_journey_235 : decode cX12_journey 235 = .ok (.iload_n 2, 1) := by decide +kernel
theorem dX12_journey_236 : decode cX12_journey 236 = .ok (.iadd, 1) := by decide +kernel
theorem dX12_journey_237 : decode cX12_journey 237 = .ok (.iaload, 1) := by decide +kernel
theorem dX12_journey_238 : decode cX12_journey 238 = .ok (.iastore, 1) := by decide +kernel
theorem dX12_journey_239 : decode cX12_journey 239 = .ok (.iinc 2 1, 3) := by decide +kernel
theorem dX12_journey_242 : decode cX12_journey 242 = .ok (.goto (-27), 3) := by decide +kernel
theorem dX12_journey_245 : decode cX12_journey 245 = .ok (.iconst 0, 1) := by decide +kernel
theorem dX12_journey_246 : decode cX12_journey 246 = .ok (.ireturn, 1) := by decide +kernel
theorem dX12_shares_0 : decode cX12_shares 0 = .ok (.aload_n 0, 1) := by decide +kernel
theorem dX12_shares_1 : decode cX12_shares 1 = .ok (.iconst 0, 1) := by decide +kernel
theorem dX12_shares_2 : decode cX12_shares 2 = .ok (.putfield 1, 3) := by decide +kernel
theorem dX12_shares_5 : decode cX12_shares 5 = .ok (.aload_n 0, 1) := by decide +kernel
theorem dX12_shares_6 : decode cX12_shares 6 = .ok (.invokevirtual 249, 3) := by decide +kernel
theorem dX12_shares_9 : decode cX12_shares 9 = .ok (.iconst 0, 1) := by decide +kernel
theorem dX12_shares_10 : decode cX12_shares 10 = .ok (.istore_n 1, 1) := by decide +kernel
theorem dX12_shares_11 : decode cX12_shares 11 = .ok (.iload_n 1, 1) := by decide +kernel
theorem dX12_shares_12 : decode cX12_shares 12 = .ok (.aload_n 0, 1) := by decide +kernel
theorem dX12_shares_13 : decode cX12_shares 13 = .ok (.invokevirtual 334, 3) := by decide +kernel
theorem dX12_shares_16 : decode cX12_shares 16 = .ok (.if_icmp .ge 68, 3) := by decide +kernel
theorem dX12_shares_19 : decode cX12_shares 19 = .ok (.aload_n 0, 1) := by decide +kernel
theorem dX12_shares_20 : decode cX12_shares 20 = .ok (.getfield 218, 3) := by decide +kernel
theorem dX12_shares_23 : decode cX12_shares 23 = .ok (.ifCond .ne 61, 3) := by decide +kernel
theorem dX12_shares_26 : decode cX12_shares 26 = .ok (.aload_n 0, 1) := by decide +kernel
theorem dX12_shares_27 : decode cX12_shares 27 = .ok (.bipush 14, 2) := by decide +kernel
theorem dX12_shares_29 : decode cX12_shares 29 = .ok (.invokevirtual 233, 3) := by decide +kernel
theorem dX12_shares_32 : decode cX12_shares 32 = .ok (.iconst 0, 1) := by decide +kernel
theorem dX12_shares_33 : decode cX12_shares 33 = .ok (.istore_n 2, 1) := by decide +kernel
theorem dX12_shares_34 : decode cX12_shares 34 = .ok (.iload_n 2, 1) := by decide +kernel
theorem dX12_shares_35 : decode cX12_shares 35 = .ok (.aload_n 0, 1) := by decide +kernel
theorem dX12_shares_36 : decode cX12_shares 36 = .ok (.invokevirtual 331, 3) := by decide +kernel
theorem dX12_shares_39 : decode cX12_shares 39 = .ok (.if_icmp .ge 33, 3) := by decide +kernel
theorem dX12_shares_42 : decode cX12_shares 42 = .ok (.aload_n 0, 1) := by decide +kernel
theorem dX12_shares_43 : decode cX12_shares 43 = .ok (.getfield 218, 3) := by decide +kernel
theorem dX12_shares_46 : decode cX12_shares 46 = .ok (.ifCond .ne 26, 3) := by decide +kernel
theorem dX12_shares_49 : decode cX12_shares 49 = .ok (.aload_n 0, 1) := by decide +kernel
theorem dX12_shares_50 : decode cX12_shares 50 = .ok (.getfield 121, 3) := by decide +kernel
theorem dX12_shares_53 : decode cX12_shares 53 = .ok (.iconst 4, 1) := by decide +kernel
theorem dX12_shares_54 : decode cX12_shares 54 = .ok (.iload_n 1, 1) := by decide +kernel
theorem dX12_shares_55 : decode cX12_shares 55 = .ok (.imul, 1) := by decide +kernel
theorem dX12_shares_56 : decode cX12_shares 56 = .ok (.iload_n 2, 1) := by decide +kernel
theorem dX12_shares_57 : decode cX12_shares 57 = .ok (.iadd, 1) := by decide +kernel
theorem dX12_shares_58 : decode cX12_shares 58 = .ok (.aload_n 0, 1) := by decide +kernel
theorem dX12_shares_59 : decode cX12_shares 59 = .ok (.iconst 0, 1) := by decide +kernel
theorem dX12_shares_60 : decode cX12_shares 60 = .ok (.bipush 99, 2) := by decide +kernel
theorem dX12_shares_62 : decode cX12_shares 62 = .ok (.invokevirtual 236, 3) := by decide +kernel
theorem dX12_shares_65 : decode cX12_shares 65 = .ok (.iastore, 1) := by decide +kernel
theorem dX12_shares_66 : decode cX12_shares 66 = .ok (.iinc 2 1, 3) := by decide +kernel
theorem dX12_shares_69 : decode cX12_shares 69 = .ok (.goto (-35), 3) := by decide +kernel
theorem dX12_shares_72 : decode cX12_shares 72 = .ok (.aload_n 0, 1) := by decide +kernel
theorem dX12_shares_73 : decode cX12_shares 73 = .ok (.bipush 59, 2) := by decide +kernel
theorem dX12_shares_75 : decode cX12_shares 75 = .ok (.invokevirtual 259, 3) := by decide +kernel
theorem dX12_shares_78 : decode cX12_shares 78 = .ok (.iinc 1 1, 3) := by decide +kernel
theorem dX12_shares_81 : decode cX12_shares 81 = .ok (.goto (-70), 3) := by decide +kernel
theorem dX12_shares_84 : decode cX12_shares 84 = .ok (.aload_n 0, 1) := by decide +kernel
theorem dX12_shares_85 : decode cX12_shares 85 = .ok (.getfield 218, 3) := by decide +kernel
theorem dX12_shares_88 : decode cX12_shares 88 = .ok (.ifCond .ne 20, 3) := by decide +kernel
theorem dX12_shares_91 : decode cX12_shares 91 = .ok (.aload_n 0, 1) := by decide +kernel
theorem dX12_shares_92 : decode cX12_shares 92 = .ok (.getfield 24, 3) := by decide +kernel
theorem dX12_shares_95 : decode cX12_shares 95 = .ok (.aload_n 0, 1) := by decide +kernel
theorem dX12_shares_96 : decode cX12_shares 96 = .ok (.getfield 215, 3) := by decide +kernel
theorem dX12_shares_99 : decode cX12_shares 99 = .ok (.iaload, 1) := by decide +kernel
theorem dX12_shares_100 : decode cX12_shares 100 = .ok (.ifCond .eq 8, 3) := by decide +kernel
theorem dX12_shares_103 : decode cX12_shares 103 = .ok (.aload_n 0, 1) := by decide +kernel
theorem dX12_shares_104 : decode cX12_shares 104 = .ok (.iconst 1, 1) := by decide +kernel
theorem dX12_shares_105 : decode cX12_shares 105 = .ok (.invokevirtual 224, 3) := by decide +kernel
theorem dX12_shares_108 : decode cX12_shares 108 = .ok (.aload_n 0, 1) := by decide +kernel
theorem dX12_shares_109 : decode cX12_shares 109 = .ok (.getfield 218, 3) := by decide +kernel
theorem dX12_shares_112 : decode cX12_shares 112 = .ok (.ifCond .le 8, 3) := by decide +kernel
theorem dX12_shares_115 : decode cX12_shares 115 = .ok (.aload_n 0, 1) := by decide +kernel
theorem dX12_shares_116 : decode cX12_shares 116 = .ok (.getfield 218, 3) := by decide +kernel
theorem dX12_shares_119 : decode cX12_shares 119 = .ok (.ireturn, 1) := by decide +kernel
theorem dX12_shares_120 : decode cX12_shares 120 = .ok (.aload_n 0, 1) := by decide +kernel
theorem dX12_shares_121 : decode cX12_shares 121 = .ok (.getfield 130, 3) := by decide +kernel
theorem dX12_shares_124 : decode cX12_shares 124 = .ok (.bipush 13, 2) := by decide +kernel
theorem dX12_shares_126 : decode cX12_shares 126 = .ok (.iconst 1, 1) := by decide +kernel
theorem dX12_shares_127 : decode cX12_shares 127 = .ok (.iastore, 1) := by decide +kernel
theorem dX12_shares_128 : decode cX12_shares 128 = .ok (.iconst 0, 1) := by decide +kernel
theorem dX12_shares_129 : decode cX12_shares 129 = .ok (.istore_n 1, 1) := by decide +kernel
theorem dX12_shares_130 : decode cX12_shares 130 = .ok (.iload_n 1, 1) := by decide +kernel
theorem dX12_shares_131 : decode cX12_shares 131 = .ok (.bipush 16, 2) := by decide +kernel
theorem dX12_shares_133 : decode cX12_shares 133 = .ok (.if_icmp .ge 24, 3) := by decide +kernel
theorem dX12_shares_136 : decode cX12_shares 136 = .ok (.aload_n 0, 1) := by decide +kernel
theorem dX12_shares_137 : decode cX12_shares 137 = .ok (.getfield 130, 3) := by decide +kernel
theorem dX12_shares_140 : decode cX12_shares 140 = .ok (.bipush 14, 2) := by decide +kernel
theorem dX12_shares_142 : decode cX12_shares 142 = .ok (.iload_n 1, 1) := by decide +kernel
theorem dX12_shares_143 : decode cX12_shares 143 = .ok (.iadd, 1) := by decide +kernel
theorem dX12_shares_144 : decode cX12_shares 144 = .ok (.aload_n 0, 1) := by decide +kernel
theorem dX12_shares_145 : decode cX12_shares 145 = .ok (.getfield 121, 3) := by decide +kernel
theorem dX12_shares_148 : decode cX12_shares 148 = .ok (.iload_n 1, 1) := by decide +kernel
theorem dX12_shares_149 : decode cX12_shares 149 = .ok (.iaload, 1) := by decide +kernel
theorem dX12_shares_150 : decode cX12_shares 150 = .ok (.iastore, 1) := by decide +kernel
theorem dX12_shares_151 : decode cX12_shares 151 = .ok (.iinc 1 1, 3) := by decide +kernel
theorem dX12_shares_154 : decode cX12_shares 154 = .ok (.goto (-24), 3) := by decide +kernel
theorem dX12_shares_157 : decode cX12_shares 157 = .ok (.iconst 0, 1) := by decide +kernel
theorem dX12_shares_158 : decode cX12_shares 158 = .ok (.ireturn, 1) := by decide +kernel
theorem dX12_emit_0 : decode cX12_emit 0 = .ok (.aload_n 0, 1) := by decide +kernel
theorem dX12_emit_1 : decode cX12_emit 1 = .ok (.getfield 100, 3) := by decide +kernel
theorem dX12_emit_4 : decode cX12_emit 4 = .ok (.sipush 1100, 3) := by decide +kernel
theorem dX12_emit_7 : decode cX12_emit 7 = .ok (.aload_n 0, 1) := by decide +kernel
theorem dX12_emit_8 : decode cX12_emit 8 = .ok (.getfield 252, 3) := by decide +kernel
theorem dX12_emit_11 : decode cX12_emit 11 = .ok (.iadd, 1) := by decide +kernel
theorem dX12_emit_12 : decode cX12_emit 12 = .ok (.iload_n 1, 1) := by decide +kernel
theorem dX12_emit_13 : decode cX12_emit 13 = .ok (.iastore, 1) := by decide +kernel
theorem dX12_emit_14 : decode cX12_emit 14 = .ok (.aload_n 0, 1) := by decide +kernel
theorem dX12_emit_15 : decode cX12_emit 15 = .ok (.getfield 103, 3) := by decide +kernel
theorem dX12_emit_18 : decode cX12_emit 18 = .ok (.sipush 1100, 3) := by decide +kernel
theorem dX12_emit_21 : decode cX12_emit 21 = .ok (.aload_n 0, 1) := by decide +kernel
theorem dX12_emit_22 : decode cX12_emit 22 = .ok (.getfield 252, 3) := by decide +kernel
theorem dX12_emit_25 : decode cX12_emit 25 = .ok (.iadd, 1) := by decide +kernel
theorem dX12_emit_26 : decode cX12_emit 26 = .ok (.iload_n 2, 1) := by decide +kernel
theorem dX12_emit_27 : decode cX12_emit 27 = .ok (.iastore, 1) := by decide +kernel
theorem dX12_emit_28 : decode cX12_emit 28 = .ok (.aload_n 0, 1) := by decide +kernel
theorem dX12_emit_29 : decode cX12_emit 29 = .ok (.dup, 1) := by decide +kernel
theorem dX12_emit_30 : decode cX12_emit 30 = .ok (.getfield 252, 3) := by decide +kernel
theorem dX12_emit_33 : decode cX12_emit 33 = .ok (.iconst 1, 1) := by decide +kernel
theorem dX12_emit_34 : decode cX12_emit 34 = .ok (.iadd, 1) := by decide +kernel
theorem dX12_emit_35 : decode cX12_emit 35 = .ok (.putfield 252, 3) := by decide +kernel
theorem dX12_emit_38 : decode cX12_emit 38 = .ok (.return_, 1) := by decide +kernel
theorem dX12_all_0 : decode cX12_all 0 = .ok (.aload_n 0, 1) := by decide +kernel
theorem dX12_all_1 : decode cX12_all 1 = .ok (.iload_n 1, 1) := by decide +kernel
theorem dX12_all_2 : decode cX12_all 2 = .ok (.invokevirtual 337, 3) := by decide +kernel
theorem dX12_all_5 : decode cX12_all 5 = .ok (.aload_n 0, 1) := by decide +kernel
theorem dX12_all_6 : decode cX12_all 6 = .ok (.bipush 20, 2) := by decide +kernel
theorem dX12_all_8 : decode cX12_all 8 = .ok (.invokevirtual 227, 3) := by decide +kernel
theorem dX12_all_11 : decode cX12_all 11 = .ok (.ifCond .ne 12, 3) := by decide +kernel
theorem dX12_all_14 : decode cX12_all 14 = .ok (.aload_n 0, 1) := by decide +kernel
theorem dX12_all_15 : decode cX12_all 15 = .ok (.bipush 21, 2) := by decide +kernel
theorem dX12_all_17 : decode cX12_all 17 = .ok (.invokevirtual 227, 3) := by decide +kernel
theorem dX12_all_20 : decode cX12_all 20 = .ok (.ifCond .eq 44, 3) := by decide +kernel
theorem dX12_all_23 : decode cX12_all 23 = .ok (.aload_n 0, 1) := by decide +kernel
theorem dX12_all_24 : decode cX12_all 24 = .ok (.bipush 20, 2) := by decide +kernel
theorem dX12_all_26 : decode cX12_all 26 = .ok (.invokevirtual 227, 3) := by decide +kernel
theorem dX12_all_29 : decode cX12_all 29 = .ok (.istore_n 2, 1) := by decide +kernel
theorem dX12_all_30 : decode cX12_all 30 = .ok (.aload_n 0, 1) := by decide +kernel
theorem dX12_all_31 : decode cX12_all 31 = .ok (.dup, 1) := by decide +kernel
theorem dX12_all_32 : decode cX12_all 32 = .ok (.getfield 215, 3) := by decide +kernel
theorem dX12_all_35 : decode cX12_all 35 = .ok (.iconst 1, 1) := by decide +kernel
theorem dX12_all_36 : decode cX12_all 36 = .ok (.iadd, 1) := by decide +kernel
theorem dX12_all_37 : decode cX12_all 37 = .ok (.putfield 215, 3) := by decide +kernel
theorem dX12_all_40 : decode cX12_all 40 = .ok (.aload_n 0, 1) := by decide +kernel
theorem dX12_all_41 : decode cX12_all 41 = .ok (.iload_n 1, 1) := by decide +kernel
theorem dX12_all_42 : decode cX12_all 42 = .ok (.invokevirtual 337, 3) := by decide +kernel
theorem dX12_all_45 : decode cX12_all 45 = .ok (.aload_n 0, 1) := by decide +kernel
theorem dX12_all_46 : decode cX12_all 46 = .ok (.iload_n 2, 1) := by decide +kernel
theorem dX12_all_47 : decode cX12_all 47 = .ok (.ifCond .eq 8, 3) := by decide +kernel
theorem dX12_all_50 : decode cX12_all 50 = .ok (.bipush 9, 2) := by decide +kernel
theorem dX12_all_52 : decode cX12_all 52 = .ok (.goto 5, 3) := by decide +kernel
theorem dX12_all_55 : decode cX12_all 55 = .ok (.bipush 10, 2) := by decide +kernel
theorem dX12_all_57 : decode cX12_all 57 = .ok (.iconst 0, 1) := by decide +kernel
theorem dX12_all_58 : decode cX12_all 58 = .ok (.invokevirtual 324, 3) := by decide +kernel
theorem dX12_all_61 : decode cX12_all 61 = .ok (.goto (-56), 3) := by decide +kernel
theorem dX12_all_64 : decode cX12_all 64 = .ok (.return_, 1) := by decide +kernel
theorem dX12_test_0 : decode cX12_test 0 = .ok (.aload_n 0, 1) := by decide +kernel
theorem dX12_test_1 : decode cX12_test 1 = .ok (.iload_n 1, 1) := by decide +kernel
theorem dX12_test_2 : decode cX12_test 2 = .ok (.invokevirtual 340, 3) := by decide +kernel
theorem dX12_test_5 : decode cX12_test 5 = .ok (.aload_n 0, 1) := by decide +kernel
theorem dX12_test_6 : decode cX12_test 6 = .ok (.bipush 60, 2) := by decide +kernel
theorem dX12_test_8 : decode cX12_test 8 = .ok (.invokevirtual 221, 3) := by decide +kernel
theorem dX12_test_11 : decode cX12_test 11 = .ok (.istore_n 2, 1) := by decide +kernel
theorem dX12_test_12 : decode cX12_test 12 = .ok (.aload_n 0, 1) := by decide +kernel
theorem dX12_test_13 : decode cX12_test 13 = .ok (.bipush 60, 2) := by decide +kernel
theorem dX12_test_15 : decode cX12_test 15 = .ok (.invokevirtual 343, 3) := by decide +kernel
theorem dX12_test_18 : decode cX12_test 18 = .ok (.ifCond .ne 12, 3) := by decide +kernel
theorem dX12_test_21 : decode cX12_test 21 = .ok (.aload_n 0, 1) := by decide +kernel
theorem dX12_test_22 : decode cX12_test 22 = .ok (.bipush 61, 2) := by decide +kernel
theorem dX12_test_24 : decode cX12_test 24 = .ok (.invokevirtual 343, 3) := by decide +kernel
theorem dX12_test_27 : decode cX12_test 27 = .ok (.ifCond .eq 24, 3) := by decide +kernel
theorem dX12_test_30 : decode cX12_test 30 = .ok (.aload_n 0, 1) := by decide +kernel
theorem dX12_test_31 : decode cX12_test 31 = .ok (.iload_n 1, 1) := by decide +kernel
theorem dX12_test_32 : decode cX12_test 32 = .ok (.invokevirtual 340, 3) := by decide +kernel
theorem dX12_test_35 : decode cX12_test 35 = .ok (.aload_n 0, 1) := by decide +kernel
theorem dX12_test_36 : decode cX12_test 36 = .ok (.iload_n 2, 1) := by decide +kernel
theorem dX12_test_37 : decode cX12_test 37 = .ok (.ifCond .eq 8, 3) := by decide +kernel
theorem dX12_test_40 : decode cX12_test 40 = .ok (.bipush 7, 2) := by decide +kernel
theorem dX12_test_42 : decode cX12_test 42 = .ok (.goto 5, 3) := by decide +kernel
theorem dX12_test_45 : decode cX12_test 45 = .ok (.bipush 8, 2) := by decide +kernel
theorem dX12_test_47 : decode cX12_test 47 = .ok (.iconst 0, 1) := by decide +kernel
theorem dX12_test_48 : decode cX12_test 48 = .ok (.invokevirtual 324, 3) := by decide +kernel
theorem dX12_test_51 : decode cX12_test 51 = .ok (.return_, 1) := by decide +kernel
theorem dX12_sums_0 : decode cX12_sums 0 = .ok (.aload_n 0, 1) := by decide +kernel
theorem dX12_sums_1 : decode cX12_sums 1 = .ok (.iload_n 1, 1) := by decide +kernel
theorem dX12_sums_2 : decode cX12_sums 2 = .ok (.invokevirtual 346, 3) := by decide +kernel
theorem dX12_sums_5 : decode cX12_sums 5 = .ok (.aload_n 0, 1) := by decide +kernel
theorem dX12_sums_6 : decode cX12_sums 6 = .ok (.bipush 43, 2) := by decide +kernel
theorem dX12_sums_8 : decode cX12_sums 8 = .ok (.invokevirtual 221, 3) := by decide +kernel
theorem dX12_sums_11 : decode cX12_sums 11 = .ok (.ifCond .ne 12, 3) := by decide +kernel
theorem dX12_sums_14 : decode cX12_sums 14 = .ok (.aload_n 0, 1) := by decide +kernel
theorem dX12_sums_15 : decode cX12_sums 15 = .ok (.bipush 45, 2) := by decide +kernel
theorem dX12_sums_17 : decode cX12_sums 17 = .ok (.invokevirtual 221, 3) := by decide +kernel
theorem dX12_sums_20 : decode cX12_sums 20 = .ok (.ifCond .eq 42, 3) := by decide +kernel
theorem dX12_sums_23 : decode cX12_sums 23 = .ok (.aload_n 0, 1) := by decide +kernel
theorem dX12_sums_24 : decode cX12_sums 24 = .ok (.bipush 43, 2) := by decide +kernel
theorem dX12_sums_26 : decode cX12_sums 26 = .ok (.invokevirtual 221, 3) := by decide +kernel
theorem dX12_sums_29 : decode cX12_sums 29 = .ok (.istore_n 2, 1) := by decide +kernel
theorem dX12_sums_30 : decode cX12_sums 30 = .ok (.aload_n 0, 1) := by decide +kernel
theorem dX12_sums_31 : decode cX12_sums 31 = .ok (.dup, 1) := by decide +kernel
theorem dX12_sums_32 : decode cX12_sums 32 = .ok (.getfield 215, 3) := by decide +kernel
theorem dX12_sums_35 : decode cX12_sums 35 = .ok (.iconst 1, 1) := by decide +kernel
theorem dX12_sums_36 : decode cX12_sums 36 = .ok (.iadd, 1) := by decide +kernel
theorem dX12_sums_37 : decode cX12_sums 37 = .ok (.putfield 215, 3) := by decide +kernel
theorem dX12_sums_40 : decode cX12_sums 40 = .ok (.aload_n 0, 1) := by decide +kernel
theorem dX12_sums_41 : decode cX12_sums 41 = .ok (.iload_n 1, 1) := by decide +kernel
theorem dX12_sums_42 : decode cX12_sums 42 = .ok (.invokevirtual 346, 3) := by decide +kernel
theorem dX12_sums_45 : decode cX12_sums 45 = .ok (.aload_n 0, 1) := by decide +kernel
theorem dX12_sums_46 : decode cX12_sums 46 = .ok (.iload_n 2, 1) := by decide +kernel
theorem dX12_sums_47 : decode cX12_sums 47 = .ok (.ifCond .eq 7, 3) := by decide +kernel
theorem dX12_sums_50 : decode cX12_sums 50 = .ok (.iconst 4, 1) := by decide +kernel
theorem dX12_sums_51 : decode cX12_sums 51 = .ok (.goto 4, 3) := by decide +kernel
theorem dX12_sums_54 : decode cX12_sums 54 = .ok (.iconst 5, 1) := by decide +kernel
theorem dX12_sums_55 : decode cX12_sums 55 = .ok (.iconst 0, 1) := by decide +kernel
theorem dX12_sums_56 : decode cX12_sums 56 = .ok (.invokevirtual 324, 3) := by decide +kernel
theorem dX12_sums_59 : decode cX12_sums 59 = .ok (.goto (-54), 3) := by decide +kernel
theorem dX12_sums_62 : decode cX12_sums 62 = .ok (.return_, 1) := by decide +kernel
theorem dX12_products_0 : decode cX12_products 0 = .ok (.aload_n 0, 1) := by decide +kernel
theorem dX12_products_1 : decode cX12_products 1 = .ok (.iload_n 1, 1) := by decide +kernel
theorem dX12_products_2 : decode cX12_products 2 = .ok (.invokevirtual 349, 3) := by decide +kernel
theorem dX12_products_5 : decode cX12_products 5 = .ok (.aload_n 0, 1) := by decide +kernel
theorem dX12_products_6 : decode cX12_products 6 = .ok (.bipush 42, 2) := by decide +kernel
theorem dX12_products_8 : decode cX12_products 8 = .ok (.invokevirtual 343, 3) := by decide +kernel
theorem dX12_products_11 : decode cX12_products 11 = .ok (.ifCond .eq 18, 3) := by decide +kernel
theorem dX12_products_14 : decode cX12_products 14 = .ok (.aload_n 0, 1) := by decide +kernel
theorem dX12_products_15 : decode cX12_products 15 = .ok (.iload_n 1, 1) := by decide +kernel
theorem dX12_products_16 : decode cX12_products 16 = .ok (.invokevirtual 349, 3) := by decide +kernel
theorem dX12_products_19 : decode cX12_products 19 = .ok (.aload_n 0, 1) := by decide +kernel
theorem dX12_products_20 : decode cX12_products 20 = .ok (.bipush 6, 2) := by decide +kernel
theorem dX12_products_22 : decode cX12_products 22 = .ok (.iconst 0, 1) := by decide +kernel
theorem dX12_products_23 : decode cX12_products 23 = .ok (.invokevirtual 324, 3) := by decide +kernel
theorem dX12_products_26 : decode cX12_products 26 = .ok (.goto (-21), 3) := by decide +kernel
theorem dX12_products_29 : decode cX12_products 29 = .ok (.return_, 1) := by decide +kernel
theorem dX12_takePart_0 : decode cX12_takePart 0 = .ok (.aload_n 0, 1) := by decide +kernel
theorem dX12_takePart_1 : decode cX12_takePart 1 = .ok (.getfield 218, 3) := by decide +kernel
theorem dX12_takePart_4 : decode cX12_takePart 4 = .ok (.ifCond .le 4, 3) := by decide +kernel
theorem dX12_takePart_7 : decode cX12_takePart 7 = .ok (.return_, 1) := by decide +kernel
theorem dX12_takePart_8 : decode cX12_takePart 8 = .ok (.aload_n 0, 1) := by decide +kernel
theorem dX12_takePart_9 : decode cX12_takePart 9 = .ok (.getfield 24, 3) := by decide +kernel
theorem dX12_takePart_12 : decode cX12_takePart 12 = .ok (.aload_n 0, 1) := by decide +kernel
theorem dX12_takePart_13 : decode cX12_takePart 13 = .ok (.getfield 215, 3) := by decide +kernel
theorem dX12_takePart_16 : decode cX12_takePart 16 = .ok (.iaload, 1) := by decide +kernel
theorem dX12_takePart_17 : decode cX12_takePart 17 = .ok (.iconst 2, 1) := by decide +kernel
theorem dX12_takePart_18 : decode cX12_takePart 18 = .ok (.if_icmp .ne 7, 3) := by decide +kernel
theorem dX12_takePart_21 : decode cX12_takePart 21 = .ok (.iconst 1, 1) := by decide +kernel
theorem dX12_takePart_22 : decode cX12_takePart 22 = .ok (.goto 4, 3) := by decide +kernel
theorem dX12_takePart_25 : decode cX12_takePart 25 = .ok (.iconst 0, 1) := by decide +kernel
theorem dX12_takePart_26 : decode cX12_takePart 26 = .ok (.istore_n 2, 1) := by decide +kernel
theorem dX12_takePart_27 : decode cX12_takePart 27 = .ok (.aload_n 0, 1) := by decide +kernel
theorem dX12_takePart_28 : decode cX12_takePart 28 = .ok (.aload_n 0, 1) := by decide +kernel
theorem dX12_takePart_29 : decode cX12_takePart 29 = .ok (.getfield 315, 3) := by decide +kernel
theorem dX12_takePart_32 : decode cX12_takePart 32 = .ok (.aload_n 0, 1) := by decide +kernel
theorem dX12_takePart_33 : decode cX12_takePart 33 = .ok (.getfield 318, 3) := by decide +kernel
theorem dX12_takePart_36 : decode cX12_takePart 36 = .ok (.invokevirtual 240, 3) := by decide +kernel
theorem dX12_takePart_39 : decode cX12_takePart 39 = .ok (.istore_n 3, 1) := by decide +kernel
theorem dX12_takePart_40 : decode cX12_takePart 40 = .ok (.iload_n 3, 1) := by decide +kernel
theorem dX12_takePart_41 : decode cX12_takePart 41 = .ok (.ifCond .ge 33, 3) := by decide +kernel
theorem dX12_takePart_44 : decode cX12_takePart 44 = .ok (.iload_n 2, 1) := by decide +kernel
theorem dX12_takePart_45 : decode cX12_takePart 45 = .ok (.ifCond .ne 29, 3) := by decide +kernel
theorem dX12_takePart_48 : decode cX12_takePart 48 = .ok (.aload_n 0, 1) := by decide +kernel
theorem dX12_takePart_49 : decode cX12_takePart 49 = .ok (.bipush 40, 2) := by decide +kernel
theorem dX12_takePart_51 : decode cX12_takePart 51 = .ok (.invokevirtual 221, 3) := by decide +kernel
theorem dX12_takePart_54 : decode cX12_takePart 54 = .ok (.ifCond .ne 20, 3) := by decide +kernel
theorem dX12_takePart_57 : decode cX12_takePart 57 = .ok (.aload_n 0, 1) := by decide +kernel
theorem dX12_takePart_58 : decode cX12_takePart 58 = .ok (.bipush 19, 2) := by decide +kernel
theorem dX12_takePart_60 : decode cX12_takePart 60 = .ok (.invokevirtual 227, 3) := by decide +kernel
theorem dX12_takePart_63 : decode cX12_takePart 63 = .ok (.ifCond .ne 11, 3) := by decide +kernel
theorem dX12_takePart_66 : decode cX12_takePart 66 = .ok (.aload_n 0, 1) := by decide +kernel
theorem dX12_takePart_67 : decode cX12_takePart 67 = .ok (.iconst 1, 1) := by decide +kernel
theorem dX12_takePart_68 : decode cX12_takePart 68 = .ok (.invokevirtual 224, 3) := by decide +kernel
theorem dX12_takePart_71 : decode cX12_takePart 71 = .ok (.goto 13, 3) := by decide +kernel
theorem dX12_takePart_74 : decode cX12_takePart 74 = .ok (.iload_n 1, 1) := by decide +kernel
theorem dX12_takePart_75 : decode cX12_takePart 75 = .ok (.iconst 5, 1) := by decide +kernel
theorem dX12_takePart_76 : decode cX12_takePart 76 = .ok (.if_icmp .ne 8, 3) := by decide +kernel
theorem dX12_takePart_79 : decode cX12_takePart 79 = .ok (.aload_n 0, 1) := by decide +kernel
theorem dX12_takePart_80 : decode cX12_takePart 80 = .ok (.iconst 5, 1) := by decide +kernel
theorem dX12_takePart_81 : decode cX12_takePart 81 = .ok (.invokevirtual 224, 3) := by decide +kernel
theorem dX12_takePart_84 : decode cX12_takePart 84 = .ok (.aload_n 0, 1) := by decide +kernel
theorem dX12_takePart_85 : decode cX12_takePart 85 = .ok (.getfield 218, 3) := by decide +kernel
theorem dX12_takePart_88 : decode cX12_takePart 88 = .ok (.ifCond .le 4, 3) := by decide +kernel
theorem dX12_takePart_91 : decode cX12_takePart 91 = .ok (.return_, 1) := by decide +kernel
theorem dX12_takePart_92 : decode cX12_takePart 92 = .ok (.aload_n 0, 1) := by decide +kernel
theorem dX12_takePart_93 : decode cX12_takePart 93 = .ok (.bipush 19, 2) := by decide +kernel
theorem dX12_takePart_95 : decode cX12_takePart 95 = .ok (.invokevirtual 230, 3) := by decide +kernel
theorem dX12_takePart_98 : decode cX12_takePart 98 = .ok (.ifCond .eq 19, 3) := by decide +kernel
theorem dX12_takePart_101 : decode cX12_takePart 101 = .ok (.aload_n 0, 1) := by decide +kernel
theorem dX12_takePart_102 : decode cX12_takePart 102 = .ok (.iload_n 1, 1) := by decide +kernel
theorem dX12_takePart_103 : decode cX12_takePart 103 = .ok (.iconst 1, 1) := by decide +kernel
theorem dX12_takePart_104 : decode cX12_takePart 104 = .ok (.iadd, 1) := by decide +kernel
theorem dX12_takePart_105 : decode cX12_takePart 105 = .ok (.invokevirtual 349, 3) := by decide +kernel
theorem dX12_takePart_108 : decode cX12_takePart 108 = .ok (.aload_n 0, 1) := by decide +kernel
theorem dX12_takePart_109 : decode cX12_takePart 109 = .ok (.iconst 3, 1) := by decide +kernel
theorem dX12_takePart_110 : decode cX12_takePart 110 = .ok (.iconst 0, 1) := by decide +kernel
theorem dX12_takePart_111 : decode cX12_takePart 111 = .ok (.invokevirtual 324, 3) := by decide +kernel
theorem dX12_takePart_114 : decode cX12_takePart 114 = .ok (.goto 69, 3) := by decide +kernel
theorem dX12_takePart_117 : decode cX12_takePart 117 = .ok (.aload_n 0, 1) := by decide +kernel
theorem dX12_takePart_118 : decode cX12_takePart 118 = .ok (.bipush 40, 2) := by decide +kernel
theorem dX12_takePart_120 : decode cX12_takePart 120 = .ok (.invokevirtual 343, 3) := by decide +kernel
theorem dX12_takePart_123 : decode cX12_takePart 123 = .ok (.ifCond .eq 19, 3) := by decide +kernel
theorem dX12_takePart_126 : decode cX12_takePart 126 = .ok (.aload_n 0, 1) := by decide +kernel
theorem dX12_takePart_127 : decode cX12_takePart 127 = .ok (.iload_n 1, 1) := by decide +kernel
theorem dX12_takePart_128 : decode cX12_takePart 128 = .ok (.iconst 1, 1) := by decide +kernel
theorem dX12_takePart_129 : decode cX12_takePart 129 = .ok (.iadd, 1) := by decide +kernel
theorem dX12_takePart_130 : decode cX12_takePart 130 = .ok (.invokevirtual 321, 3) := by decide +kernel
theorem dX12_takePart_133 : decode cX12_takePart 133 = .ok (.aload_n 0, 1) := by decide +kernel
theorem dX12_takePart_134 : decode cX12_takePart 134 = .ok (.bipush 41, 2) := by decide +kernel
theorem dX12_takePart_136 : decode cX12_takePart 136 = .ok (.invokevirtual 259, 3) := by decide +kernel
theorem dX12_takePart_139 : decode cX12_takePart 139 = .ok (.goto 44, 3) := by decide +kernel
theorem dX12_takePart_142 : decode cX12_takePart 142 = .ok (.aload_n 0, 1) := by decide +kernel
theorem dX12_takePart_143 : decode cX12_takePart 143 = .ok (.iload_n 2, 1) := by decide +kernel
theorem dX12_takePart_144 : decode cX12_takePart 144 = .ok (.ifCond .eq 7, 3) := by decide +kernel
theorem dX12_takePart_147 : decode cX12_takePart 147 = .ok (.iconst 1, 1) := by decide +kernel
theorem dX12_takePart_148 : decode cX12_takePart 148 = .ok (.goto 4, 3) := by decide +kernel
theorem dX12_takePart_151 : decode cX12_takePart 151 = .ok (.iconst 2, 1) := by decide +kernel
theorem dX12_takePart_152 : decode cX12_takePart 152 = .ok (.iload_n 2, 1) := by decide +kernel
theorem dX12_takePart_153 : decode cX12_takePart 153 = .ok (.ifCond .eq 16, 3) := by decide +kernel
theorem dX12_takePart_156 : decode cX12_takePart 156 = .ok (.aload_n 0, 1) := by decide +kernel
theorem dX12_takePart_157 : decode cX12_takePart 157 = .ok (.getfield 30, 3) := by decide +kernel
theorem dX12_takePart_160 : decode cX12_takePart 160 = .ok (.aload_n 0, 1) := by decide +kernel
theorem dX12_takePart_161 : decode cX12_takePart 161 = .ok (.getfield 215, 3) := by decide +kernel
theorem dX12_takePart_164 : decode cX12_takePart 164 = .ok (.laload, 1) := by decide +kernel
theorem dX12_takePart_165 : decode cX12_takePart 165 = .ok (.l2i, 1) := by decide +kernel
theorem dX12_takePart_166 : decode cX12_takePart 166 = .ok (.goto 4, 3) := by decide +kernel
theorem dX12_takePart_169 : decode cX12_takePart 169 = .ok (.iload_n 3, 1) := by decide +kernel
theorem dX12_takePart_170 : decode cX12_takePart 170 = .ok (.invokevirtual 324, 3) := by decide +kernel
theorem dX12_takePart_173 : decode cX12_takePart 173 = .ok (.aload_n 0, 1) := by decide +kernel
theorem dX12_takePart_174 : decode cX12_takePart 174 = .ok (.dup, 1) := by decide +kernel
theorem dX12_takePart_175 : decode cX12_takePart 175 = .ok (.getfield 215, 3) := by decide +kernel
theorem dX12_takePart_178 : decode cX12_takePart 178 = .ok (.iconst 1, 1) := by decide +kernel
theorem dX12_takePart_179 : decode cX12_takePart 179 = .ok (.iadd, 1) := by decide +kernel
theorem dX12_takePart_180 : decode cX12_takePart 180 = .ok (.putfield 215, 3) := by decide +kernel
theorem dX12_takePart_183 : decode cX12_takePart 183 = .ok (.return_, 1) := by decide +kernel
theorem dX12_worthAt_0 : decode cX12_worthAt 0 = .ok (.iconst 0, 1) := by decide +kernel
theorem dX12_worthAt_1 : decode cX12_worthAt 1 = .ok (.istore_n 2, 1) := by decide +kernel
theorem dX12_worthAt_2 : decode cX12_worthAt 2 = .ok (.iload_n 1, 1) := by decide +kernel
theorem dX12_worthAt_3 : decode cX12_worthAt 3 = .ok (.istore_n 3, 1) := by decide +kernel
theorem dX12_worthAt_4 : decode cX12_worthAt 4 = .ok (.aload_n 0, 1) := by decide +kernel
theorem dX12_worthAt_5 : decode cX12_worthAt 5 = .ok (.getfield 100, 3) := by decide +kernel
theorem dX12_worthAt_8 : decode cX12_worthAt 8 = .ok (.iload_n 3, 1) := by decide +kernel
theorem dX12_worthAt_9 : decode cX12_worthAt 9 = .ok (.iaload, 1) := by decide +kernel
theorem dX12_worthAt_10 : decode cX12_worthAt 10 = .ok (.ifCond .eq 130, 3) := by decide +kernel
theorem dX12_worthAt_13 : decode cX12_worthAt 13 = .ok (.aload_n 0, 1) := by decide +kernel
theorem dX12_worthAt_14 : decode cX12_worthAt 14 = .ok (.getfield 100, 3) := by decide +kernel
theorem dX12_worthAt_17 : decode cX12_worthAt 17 = .ok (.iload_n 3, 1) := by decide +kernel
theorem dX12_worthAt_18 : decode cX12_worthAt 18 = .ok (.iaload, 1) := by decide +kernel
theorem dX12_worthAt_19 : decode cX12_worthAt 19 = .ok (.istore 4, 2) := by decide +kernel
theorem dX12_worthAt_21 : decode cX12_worthAt 21 = .ok (.iload 4, 2) := by decide +kernel
theorem dX12_worthAt_23 : decode cX12_worthAt 23 = .ok (.iconst 1, 1) := by decide +kernel
theorem dX12_worthAt_24 : decode cX12_worthAt 24 = .ok (.if_icmp .eq 9, 3) := by decide +kernel
theorem dX12_worthAt_27 : decode cX12_worthAt 27 = .ok (.iload 4, 2) := by decide +kernel
theorem dX12_worthAt_29 : decode cX12_worthAt 29 = .ok (.iconst 2, 1) := by decide +kernel
theorem dX12_worthAt_30 : decode cX12_worthAt 30 = .ok (.if_icmp .ne 41, 3) := by decide +kernel
theorem dX12_worthAt_33 : decode cX12_worthAt 33 = .ok (.aload_n 0, 1) := by decide +kernel
theorem dX12_worthAt_34 : decode cX12_worthAt 34 = .ok (.getfield 127, 3) := by decide +kernel
theorem dX12_worthAt_37 : decode cX12_worthAt 37 = .ok (.iload_n 2, 1) := by decide +kernel
theorem dX12_worthAt_38 : decode cX12_worthAt 38 = .ok (.iload 4, 2) := by decide +kernel
theorem dX12_worthAt_40 : decode cX12_worthAt 40 = .ok (.iconst 1, 1) := by decide +kernel
theorem dX12_worthAt_41 : decode cX12_worthAt 41 = .ok (.if_icmp .ne 12, 3) := by decide +kernel
theorem dX12_worthAt_44 : decode cX12_worthAt 44 = .ok (.aload_n 0, 1) := by decide +kernel
theorem dX12_worthAt_45 : decode cX12_worthAt 45 = .ok (.getfield 103, 3) := by decide +kernel
theorem dX12_worthAt_48 : decode cX12_worthAt 48 = .ok (.iload_n 3, 1) := by decide +kernel
theorem dX12_worthAt_49 : decode cX12_worthAt 49 = .ok (.iaload, 1) := by decide +kernel
theorem dX12_worthAt_50 : decode cX12_worthAt 50 = .ok (.goto 14, 3) := by decide +kernel
theorem dX12_worthAt_53 : decode cX12_worthAt 53 = .ok (.aload_n 0, 1) := by decide +kernel
theorem dX12_worthAt_54 : decode cX12_worthAt 54 = .ok (.getfield 124, 3) := by decide +kernel
theorem dX12_worthAt_57 : decode cX12_worthAt 57 = .ok (.aload_n 0, 1) := by decide +kernel
theorem dX12_worthAt_58 : decode cX12_worthAt 58 = .ok (.getfield 103, 3) := by decide +kernel
theorem dX12_worthAt_61 : decode cX12_worthAt 61 = .ok (.iload_n 3, 1) := by decide +kernel
theorem dX12_worthAt_62 : decode cX12_worthAt 62 = .ok (.iaload, 1) := by decide +kernel
theorem dX12_worthAt_63 : decode cX12_worthAt 63 = .ok (.iaload, 1) := by decide +kernel
theorem dX12_worthAt_64 : decode cX12_worthAt 64 = .ok (.iastore, 1) := by decide +kernel
theorem dX12_worthAt_65 : decode cX12_worthAt 65 = .ok (.iinc 2 1, 3) := by decide +kernel
theorem dX12_worthAt_68 : decode cX12_worthAt 68 = .ok (.goto 66, 3) := by decide +kernel
theorem dX12_worthAt_71 : decode cX12_worthAt 71 = .ok (.iload 4, 2) := by decide +kernel
theorem dX12_worthAt_73 : decode cX12_worthAt 73 = .ok (.iconst 3, 1) := by decide +kernel
theorem dX12_worthAt_74 : decode cX12_worthAt 74 = .ok (.if_icmp .ne 30, 3) := by decide +kernel
theorem dX12_worthAt_77 : decode cX12_worthAt 77 = .ok (.aload_n 0, 1) := by decide +kernel
theorem dX12_worthAt_78 : decode cX12_worthAt 78 = .ok (.getfield 127, 3) := by decide +kernel
theorem dX12_worthAt_81 : decode cX12_worthAt 81 = .ok (.iload_n 2, 1) := by decide +kernel
theorem dX12_worthAt_82 : decode cX12_worthAt 82 = .ok (.iconst 1, 1) := by decide +kernel
theorem dX12_worthAt_83 : decode cX12_worthAt 83 = .ok (.isub, 1) := by decide +kernel
theorem dX12_worthAt_84 : decode cX12_worthAt 84 = .ok (.aload_n 0, 1) := by decide +kernel
theorem dX12_worthAt_85 : decode cX12_worthAt 85 = .ok (.getfield 127, 3) := by decide +kernel
theorem dX12_worthAt_88 : decode cX12_worthAt 88 = .ok (.iload_n 2, 1) := by decide +kernel
theorem dX12_worthAt_89 : decode cX12_worthAt 89 = .ok (.iconst 1, 1) := by decide +kernel
theorem dX12_worthAt_90 : decode cX12_worthAt 90 = .ok (.isub, 1) := by decide +kernel
theorem dX12_worthAt_91 : decode cX12_worthAt 91 = .ok (.iaload, 1) := by decide +kernel
theorem dX12_worthAt_92 : decode cX12_worthAt 92 = .ok (.ifCond .ne 7, 3) := by decide +kernel
theorem dX12_worthAt_95 : decode cX12_worthAt 95 = .ok (.iconst 1, 1) := by decide +kernel
theorem dX12_worthAt_96 : decode cX12_worthAt 96 = .ok (.goto 4, 3) := by decide +kernel
theorem dX12_worthAt_99 : decode cX12_worthAt 99 = .ok (.iconst 0, 1) := by decide +kernel
theorem dX12_worthAt_100 : decode cX12_worthAt 100 = .ok (.iastore, 1) := by decide +kernel
theorem dX12_worthAt_101 : decode cX12_worthAt 101 = .ok (.goto 33, 3) := by decide +kernel
theorem dX12_worthAt_104 : decode cX12_worthAt 104 = .ok (.iinc 2 (-1), 3) := by decide +kernel
theorem dX12_worthAt_107 : decode cX12_worthAt 107 = .ok (.aload_n 0, 1) := by decide +kernel
theorem dX12_worthAt_108 : decode cX12_worthAt 108 = .ok (.getfield 127, 3) := by decide +kernel
theorem dX12_worthAt_111 : decode cX12_worthAt 111 = .ok (.iload_n 2, 1) := by decide +kernel
theorem dX12_worthAt_112 : decode cX12_worthAt 112 = .ok (.iconst 1, 1) := by decide +kernel
theorem dX12_worthAt_113 : decode cX12_worthAt 113 = .ok (.isub, 1) := by decide +kernel
theorem dX12_worthAt_114 : decode cX12_worthAt 114 = .ok (.iload 4, 2) := by decide +kernel
theorem dX12_worthAt_116 : decode cX12_worthAt 116 = .ok (.aload_n 0, 1) := by decide +kernel
theorem dX12_worthAt_117 : decode cX12_worthAt 117 = .ok (.getfield 127, 3) := by decide +kernel
theorem dX12_worthAt_120 : decode cX12_worthAt 120 = .ok (.iload_n 2, 1) := by decide +kernel
theorem dX12_worthAt_121 : decode cX12_worthAt 121 = .ok (.iconst 1, 1) := by decide +kernel
theorem dX12_worthAt_122 : decode cX12_worthAt 122 = .ok (.isub, 1) := by decide +kernel
theorem dX12_worthAt_123 : decode cX12_worthAt 123 = .ok (.iaload, 1) := by decide +kernel
theorem dX12_worthAt_124 : decode cX12_worthAt 124 = .ok (.aload_n 0, 1) := by decide +kernel
theorem dX12_worthAt_125 : decode cX12_worthAt 125 = .ok (.getfield 127, 3) := by decide +kernel
theorem dX12_worthAt_128 : decode cX12_worthAt 128 = .ok (.iload_n 2, 1) := by decide +kernel
theorem dX12_worthAt_129 : decode cX12_worthAt 129 = .ok (.iaload, 1) := by decide +kernel
theorem dX12_worthAt_130 : decode cX12_worthAt 130 = .ok (.invokestatic 352, 3) := by decide +kernel
theorem dX12_worthAt_133 : decode cX12_worthAt 133 = .ok (.iastore, 1) := by decide +kernel
theorem dX12_worthAt_134 : decode cX12_worthAt 134 = .ok (.iinc 3 1, 3) := by decide +kernel
theorem dX12_worthAt_137 : decode cX12_worthAt 137 = .ok (.goto (-133), 3) := by decide +kernel
theorem dX12_worthAt_140 : decode cX12_worthAt 140 = .ok (.aload_n 0, 1) := by decide +kernel
theorem dX12_worthAt_141 : decode cX12_worthAt 141 = .ok (.getfield 127, 3) := by decide +kernel
theorem dX12_worthAt_144 : decode cX12_worthAt 144 = .ok (.iconst 0, 1) := by decide +kernel
theorem dX12_worthAt_145 : decode cX12_worthAt 145 = .ok (.iaload, 1) := by decide +kernel
theorem dX12_worthAt_146 : decode cX12_worthAt 146 = .ok (.ireturn, 1) := by decide +kernel
theorem dX12_both_0 : decode cX12_both 0 = .ok (.iload_n 0, 1) := by decide +kernel
theorem dX12_both_1 : decode cX12_both 1 = .ok (.tableswitch 87 4 9 #[39, 43, 47, 51, 62, 73], 39) := by decide +kernel
theorem dX12_both_40 : decode cX12_both 40 = .ok (.iload_n 1, 1) := by decide +kernel
theorem dX12_both_41 : decode cX12_both 41 = .ok (.iload_n 2, 1) := by decide +kernel
theorem dX12_both_42 : decode cX12_both 42 = .ok (.iadd, 1) := by decide +kernel
theorem dX12_both_43 : decode cX12_both 43 = .ok (.ireturn, 1) := by decide +kernel
theorem dX12_both_44 : decode cX12_both 44 = .ok (.iload_n 1, 1) := by decide +kernel
theorem dX12_both_45 : decode cX12_both 45 = .ok (.iload_n 2, 1) := by decide +kernel
theorem dX12_both_46 : decode cX12_both 46 = .ok (.isub, 1) := by decide +kernel
theorem dX12_both_47 : decode cX12_both 47 = .ok (.ireturn, 1) := by decide +kernel
theorem dX12_both_48 : decode cX12_both 48 = .ok (.iload_n 1, 1) := by decide +kernel
theorem dX12_both_49 : decode cX12_both 49 = .ok (.iload_n 2, 1) := by decide +kernel
theorem dX12_both_50 : decode cX12_both 50 = .ok (.imul, 1) := by decide +kernel
theorem dX12_both_51 : decode cX12_both 51 = .ok (.ireturn, 1) := by decide +kernel
theorem dX12_both_52 : decode cX12_both 52 = .ok (.iload_n 1, 1) := by decide +kernel
theorem dX12_both_53 : decode cX12_both 53 = .ok (.iload_n 2, 1) := by decide +kernel
theorem dX12_both_54 : decode cX12_both 54 = .ok (.if_icmp .ge 7, 3) := by decide +kernel
theorem dX12_both_57 : decode cX12_both 57 = .ok (.iconst 1, 1) := by decide +kernel
theorem dX12_both_58 : decode cX12_both 58 = .ok (.goto 4, 3) := by decide +kernel
theorem dX12_both_61 : decode cX12_both 61 = .ok (.iconst 0, 1) := by decide +kernel
theorem dX12_both_62 : decode cX12_both 62 = .ok (.ireturn, 1) := by decide +kernel
theorem dX12_both_63 : decode cX12_both 63 = .ok (.iload_n 1, 1) := by decide +kernel
theorem dX12_both_64 : decode cX12_both 64 = .ok (.iload_n 2, 1) := by decide +kernel
theorem dX12_both_65 : decode cX12_both 65 = .ok (.if_icmp .ne 7, 3) := by decide +kernel
theorem dX12_both_68 : decode cX12_both 68 = .ok (.iconst 1, 1) := by decide +kernel
theorem dX12_both_69 : decode cX12_both 69 = .ok (.goto 4, 3) := by decide +kernel
theorem dX12_both_72 : decode cX12_both 72 = .ok (.iconst 0, 1) := by decide +kernel
theorem dX12_both_73 : decode cX12_both 73 = .ok (.ireturn, 1) := by decide +kernel
theorem dX12_both_74 : decode cX12_both 74 = .ok (.iload_n 1, 1) := by decide +kernel
theorem dX12_both_75 : decode cX12_both 75 = .ok (.ifCond .eq 11, 3) := by decide +kernel
theorem dX12_both_78 : decode cX12_both 78 = .ok (.iload_n 2, 1) := by decide +kernel
theorem dX12_both_79 : decode cX12_both 79 = .ok (.ifCond .eq 7, 3) := by decide +kernel
theorem dX12_both_82 : decode cX12_both 82 = .ok (.iconst 1, 1) := by decide +kernel
theorem dX12_both_83 : decode cX12_both 83 = .ok (.goto 4, 3) := by decide +kernel
theorem dX12_both_86 : decode cX12_both 86 = .ok (.iconst 0, 1) := by decide +kernel
theorem dX12_both_87 : decode cX12_both 87 = .ok (.ireturn, 1) := by decide +kernel
theorem dX12_both_88 : decode cX12_both 88 = .ok (.iload_n 1, 1) := by decide +kernel
theorem dX12_both_89 : decode cX12_both 89 = .ok (.ifCond .ne 7, 3) := by decide +kernel
theorem dX12_both_92 : decode cX12_both 92 = .ok (.iload_n 2, 1) := by decide +kernel
theorem dX12_both_93 : decode cX12_both 93 = .ok (.ifCond .eq 7, 3) := by decide +kernel
theorem dX12_both_96 : decode cX12_both 96 = .ok (.iconst 1, 1) := by decide +kernel
theorem dX12_both_97 : decode cX12_both 97 = .ok (.goto 4, 3) := by decide +kernel
theorem dX12_both_100 : decode cX12_both 100 = .ok (.iconst 0, 1) := by decide +kernel
theorem dX12_both_101 : decode cX12_both 101 = .ok (.ireturn, 1) := by decide +kernel
theorem dX12_copies_0 : decode cX12_copies 0 = .ok (.iconst 0, 1) := by decide +kernel
theorem dX12_copies_1 : decode cX12_copies 1 = .ok (.istore 4, 2) := by decide +kernel
theorem dX12_copies_3 : decode cX12_copies 3 = .ok (.iload 4, 2) := by decide +kernel
theorem dX12_copies_5 : decode cX12_copies 5 = .ok (.iload_n 3, 1) := by decide +kernel
theorem dX12_copies_6 : decode cX12_copies 6 = .ok (.if_icmp .ge 27, 3) := by decide +kernel
theorem dX12_copies_9 : decode cX12_copies 9 = .ok (.aload_n 0, 1) := by decide +kernel
theorem dX12_copies_10 : decode cX12_copies 10 = .ok (.getfield 130, 3) := by decide +kernel
theorem dX12_copies_13 : decode cX12_copies 13 = .ok (.iload_n 2, 1) := by decide +kernel
theorem dX12_copies_14 : decode cX12_copies 14 = .ok (.iload 4, 2) := by decide +kernel
theorem dX12_copies_16 : decode cX12_copies 16 = .ok (.iadd, 1) := by decide +kernel
theorem dX12_copies_17 : decode cX12_copies 17 = .ok (.aload_n 0, 1) := by decide +kernel
theorem dX12_copies_18 : decode cX12_copies 18 = .ok (.getfield 130, 3) := by decide +kernel
theorem dX12_copies_21 : decode cX12_copies 21 = .ok (.iload_n 1, 1) := by decide +kernel
theorem dX12_copies_22 : decode cX12_copies 22 = .ok (.iload 4, 2) := by decide +kernel
theorem dX12_copies_24 : decode cX12_copies 24 = .ok (.iadd, 1) := by decide +kernel
theorem dX12_copies_25 : decode cX12_copies 25 = .ok (.iaload, 1) := by decide +kernel
theorem dX12_copies_26 : decode cX12_copies 26 = .ok (.iastore, 1) := by decide +kernel
theorem dX12_copies_27 : decode cX12_copies 27 = .ok (.iinc 4 1, 3) := by decide +kernel
theorem dX12_copies_30 : decode cX12_copies 30 = .ok (.goto (-27), 3) := by decide +kernel
theorem dX12_copies_33 : decode cX12_copies 33 = .ok (.return_, 1) := by decide +kernel
theorem dX12_starts_0 : decode cX12_starts 0 = .ok (.aload_n 0, 1) := by decide +kernel
theorem dX12_starts_1 : decode cX12_starts 1 = .ok (.getfield 130, 3) := by decide +kernel
theorem dX12_starts_4 : decode cX12_starts 4 = .ok (.iload_n 1, 1) := by decide +kernel
theorem dX12_starts_5 : decode cX12_starts 5 = .ok (.iconst 0, 1) := by decide +kernel
theorem dX12_starts_6 : decode cX12_starts 6 = .ok (.iadd, 1) := by decide +kernel
theorem dX12_starts_7 : decode cX12_starts 7 = .ok (.iconst 0, 1) := by decide +kernel
theorem dX12_starts_8 : decode cX12_starts 8 = .ok (.iastore, 1) := by decide +kernel
theorem dX12_starts_9 : decode cX12_starts 9 = .ok (.iconst 0, 1) := by decide +kernel
theorem dX12_starts_10 : decode cX12_starts 10 = .ok (.istore_n 2, 1) := by decide +kernel
theorem dX12_starts_11 : decode cX12_starts 11 = .ok (.iload_n 2, 1) := by decide +kernel
theorem dX12_starts_12 : decode cX12_starts 12 = .ok (.iconst 4, 1) := by decide +kernel
theorem dX12_starts_13 : decode cX12_starts 13 = .ok (.if_icmp .ge 48, 3) := by decide +kernel
theorem dX12_starts_16 : decode cX12_starts 16 = .ok (.aload_n 0, 1) := by decide +kernel
theorem dX12_starts_17 : decode cX12_starts 17 = .ok (.getfield 130, 3) := by decide +kernel
theorem dX12_starts_20 : decode cX12_starts 20 = .ok (.iload_n 1, 1) := by decide +kernel
theorem dX12_starts_21 : decode cX12_starts 21 = .ok (.iconst 1, 1) := by decide +kernel
theorem dX12_starts_22 : decode cX12_starts 22 = .ok (.iadd, 1) := by decide +kernel
theorem dX12_starts_23 : decode cX12_starts 23 = .ok (.iload_n 2, 1) := by decide +kernel
theorem dX12_starts_24 : decode cX12_starts 24 = .ok (.iadd, 1) := by decide +kernel
theorem dX12_starts_25 : decode cX12_starts 25 = .ok (.iconst (-1), 1) := by decide +kernel
theorem dX12_starts_26 : decode cX12_starts 26 = .ok (.iastore, 1) := by decide +kernel
theorem dX12_starts_27 : decode cX12_starts 27 = .ok (.aload_n 0, 1) := by decide +kernel
theorem dX12_starts_28 : decode cX12_starts 28 = .ok (.getfield 130, 3) := by decide +kernel
theorem dX12_starts_31 : decode cX12_starts 31 = .ok (.iload_n 1, 1) := by decide +kernel
theorem dX12_starts_32 : decode cX12_starts 32 = .ok (.iconst 5, 1) := by decide +kernel
theorem dX12_starts_33 : decode cX12_starts 33 = .ok (.iadd, 1) := by decide +kernel
theorem dX12_starts_34 : decode cX12_starts 34 = .ok (.iload_n 2, 1) := by decide +kernel
theorem dX12_starts_35 : decode cX12_starts 35 = .ok (.iadd, 1) := by decide +kernel
theorem dX12_starts_36 : decode cX12_starts 36 = .ok (.iconst (-1), 1) := by decide +kernel
theorem dX12_starts_37 : decode cX12_starts 37 = .ok (.iastore, 1) := by decide +kernel
theorem dX12_starts_38 : decode cX12_starts 38 = .ok (.aload_n 0, 1) := by decide +kernel
theorem dX12_starts_39 : decode cX12_starts 39 = .ok (.getfield 130, 3) := by decide +kernel
theorem dX12_starts_42 : decode cX12_starts 42 = .ok (.iload_n 1, 1) := by decide +kernel
theorem dX12_starts_43 : decode cX12_starts 43 = .ok (.bipush 9, 2) := by decide +kernel
theorem dX12_starts_45 : decode cX12_starts 45 = .ok (.iadd, 1) := by decide +kernel
theorem dX12_starts_46 : decode cX12_starts 46 = .ok (.iload_n 2, 1) := by decide +kernel
theorem dX12_starts_47 : decode cX12_starts 47 = .ok (.iadd, 1) := by decide +kernel
theorem dX12_starts_48 : decode cX12_starts 48 = .ok (.aload_n 0, 1) := by decide +kernel
theorem dX12_starts_49 : decode cX12_starts 49 = .ok (.iload_n 2, 1) := by decide +kernel
theorem dX12_starts_50 : decode cX12_starts 50 = .ok (.iconst 2, 1) := by decide +kernel
theorem dX12_starts_51 : decode cX12_starts 51 = .ok (.invokevirtual 355, 3) := by decide +kernel
theorem dX12_starts_54 : decode cX12_starts 54 = .ok (.iastore, 1) := by decide +kernel
theorem dX12_starts_55 : decode cX12_starts 55 = .ok (.iinc 2 1, 3) := by decide +kernel
theorem dX12_starts_58 : decode cX12_starts 58 = .ok (.goto (-47), 3) := by decide +kernel
theorem dX12_starts_61 : decode cX12_starts 61 = .ok (.return_, 1) := by decide +kernel
theorem dX12_begins_0 : decode cX12_begins 0 = .ok (.aload_n 0, 1) := by decide +kernel
theorem dX12_begins_1 : decode cX12_begins 1 = .ok (.iconst 0, 1) := by decide +kernel
theorem dX12_begins_2 : decode cX12_begins 2 = .ok (.invokevirtual 358, 3) := by decide +kernel
theorem dX12_begins_5 : decode cX12_begins 5 = .ok (.aload_n 0, 1) := by decide +kernel
theorem dX12_begins_6 : decode cX12_begins 6 = .ok (.getfield 130, 3) := by decide +kernel
theorem dX12_begins_9 : decode cX12_begins 9 = .ok (.bipush 13, 2) := by decide +kernel
theorem dX12_begins_11 : decode cX12_begins 11 = .ok (.iconst 0, 1) := by decide +kernel
theorem dX12_begins_12 : decode cX12_begins 12 = .ok (.iastore, 1) := by decide +kernel
theorem dX12_begins_13 : decode cX12_begins 13 = .ok (.aload_n 0, 1) := by decide +kernel
theorem dX12_begins_14 : decode cX12_begins 14 = .ok (.getfield 130, 3) := by decide +kernel
theorem dX12_begins_17 : decode cX12_begins 17 = .ok (.bipush 30, 2) := by decide +kernel
theorem dX12_begins_19 : decode cX12_begins 19 = .ok (.iconst 0, 1) := by decide +kernel
theorem dX12_begins_20 : decode cX12_begins 20 = .ok (.iastore, 1) := by decide +kernel
theorem dX12_begins_21 : decode cX12_begins 21 = .ok (.aload_n 0, 1) := by decide +kernel
theorem dX12_begins_22 : decode cX12_begins 22 = .ok (.getfield 118, 3) := by decide +kernel
theorem dX12_begins_25 : decode cX12_begins 25 = .ok (.iconst 0, 1) := by decide +kernel
theorem dX12_begins_26 : decode cX12_begins 26 = .ok (.iconst 0, 1) := by decide +kernel
theorem dX12_begins_27 : decode cX12_begins 27 = .ok (.iastore, 1) := by decide +kernel
theorem dX12_begins_28 : decode cX12_begins 28 = .ok (.aload_n 0, 1) := by decide +kernel
theorem dX12_begins_29 : decode cX12_begins 29 = .ok (.iconst 0, 1) := by decide +kernel
theorem dX12_begins_30 : decode cX12_begins 30 = .ok (.putfield 361, 3) := by decide +kernel
theorem dX12_begins_33 : decode cX12_begins 33 = .ok (.iconst 0, 1) := by decide +kernel
theorem dX12_begins_34 : decode cX12_begins 34 = .ok (.istore_n 1, 1) := by decide +kernel
theorem dX12_begins_35 : decode cX12_begins 35 = .ok (.iload_n 1, 1) := by decide +kernel
theorem dX12_begins_36 : decode cX12_begins 36 = .ok (.iconst 4, 1) := by decide +kernel
theorem dX12_begins_37 : decode cX12_begins 37 = .ok (.if_icmp .ge 16, 3) := by decide +kernel
theorem dX12_begins_40 : decode cX12_begins 40 = .ok (.aload_n 0, 1) := by decide +kernel
theorem dX12_begins_41 : decode cX12_begins 41 = .ok (.getfield 133, 3) := by decide +kernel
theorem dX12_begins_44 : decode cX12_begins 44 = .ok (.iload_n 1, 1) := by decide +kernel
theorem dX12_begins_45 : decode cX12_begins 45 = .ok (.iconst 0, 1) := by decide +kernel
theorem dX12_begins_46 : decode cX12_begins 46 = .ok (.bastore, 1) := by decide +kernel
theorem dX12_begins_47 : decode cX12_begins 47 = .ok (.iinc 1 1, 3) := by decide +kernel
theorem dX12_begins_50 : decode cX12_begins 50 = .ok (.goto (-15), 3) := by decide +kernel
theorem dX12_begins_53 : decode cX12_begins 53 = .ok (.return_, 1) := by decide +kernel
theorem dX12_keeps_0 : decode cX12_keeps 0 = .ok (.aload_n 0, 1) := by decide +kernel
theorem dX12_keeps_1 : decode cX12_keeps 1 = .ok (.getfield 361, 3) := by decide +kernel
theorem dX12_keeps_4 : decode cX12_keeps 4 = .ok (.bipush 16, 2) := by decide +kernel
theorem dX12_keeps_6 : decode cX12_keeps 6 = .ok (.if_icmp .ne 47, 3) := by decide +kernel
theorem dX12_keeps_9 : decode cX12_keeps 9 = .ok (.iconst 1, 1) := by decide +kernel
theorem dX12_keeps_10 : decode cX12_keeps 10 = .ok (.istore_n 1, 1) := by decide +kernel
theorem dX12_keeps_11 : decode cX12_keeps 11 = .ok (.iload_n 1, 1) := by decide +kernel
theorem dX12_keeps_12 : decode cX12_keeps 12 = .ok (.bipush 16, 2) := by decide +kernel
theorem dX12_keeps_14 : decode cX12_keeps 14 = .ok (.if_icmp .ge 29, 3) := by decide +kernel
theorem dX12_keeps_17 : decode cX12_keeps 17 = .ok (.aload_n 0, 1) := by decide +kernel
theorem dX12_keeps_18 : decode cX12_keeps 18 = .ok (.bipush 80, 2) := by decide +kernel
theorem dX12_keeps_20 : decode cX12_keeps 20 = .ok (.iconst 5, 1) := by decide +kernel
theorem dX12_keeps_21 : decode cX12_keeps 21 = .ok (.iload_n 1, 1) := by decide +kernel
theorem dX12_keeps_22 : decode cX12_keeps 22 = .ok (.iadd, 1) := by decide +kernel
theorem dX12_keeps_23 : decode cX12_keeps 23 = .ok (.imul, 1) := by decide +kernel
theorem dX12_keeps_24 : decode cX12_keeps 24 = .ok (.bipush 80, 2) := by decide +kernel
theorem dX12_keeps_26 : decode cX12_keeps 26 = .ok (.iconst 5, 1) := by decide +kernel
theorem dX12_keeps_27 : decode cX12_keeps 27 = .ok (.iload_n 1, 1) := by decide +kernel
theorem dX12_keeps_28 : decode cX12_keeps 28 = .ok (.iadd, 1) := by decide +kernel
theorem dX12_keeps_29 : decode cX12_keeps 29 = .ok (.iconst 1, 1) := by decide +kernel
theorem dX12_keeps_30 : decode cX12_keeps 30 = .ok (.isub, 1) := by decide +kernel
theorem dX12_keeps_31 : decode cX12_keeps 31 = .ok (.imul, 1) := by decide +kernel
theorem dX12_keeps_32 : decode cX12_keeps 32 = .ok (.bipush 13, 2) := by decide +kernel
theorem dX12_keeps_34 : decode cX12_keeps 34 = .ok (.invokevirtual 364, 3) := by decide +kernel
theorem dX12_keeps_37 : decode cX12_keeps 37 = .ok (.iinc 1 1, 3) := by decide +kernel
theorem dX12_keeps_40 : decode cX12_keeps 40 = .ok (.goto (-29), 3) := by decide +kernel
theorem dX12_keeps_43 : decode cX12_keeps 43 = .ok (.aload_n 0, 1) := by decide +kernel
theorem dX12_keeps_44 : decode cX12_keeps 44 = .ok (.dup, 1) := by decide +kernel
theorem dX12_keeps_45 : decode cX12_keeps 45 = .ok (.getfield 361, 3) := by decide +kernel
theorem dX12_keeps_48 : decode cX12_keeps 48 = .ok (.iconst 1, 1) := by decide +kernel
theorem dX12_keeps_49 : decode cX12_keeps 49 = .ok (.isub, 1) := by decide +kernel
theorem dX12_keeps_50 : decode cX12_keeps 50 = .ok (.putfield 361, 3) := by decide +kernel
theorem dX12_keeps_53 : decode cX12_keeps 53 = .ok (.aload_n 0, 1) := by decide +kernel
theorem dX12_keeps_54 : decode cX12_keeps 54 = .ok (.iconst 0, 1) := by decide +kernel
theorem dX12_keeps_55 : decode cX12_keeps 55 = .ok (.bipush 80, 2) := by decide +kernel
theorem dX12_keeps_57 : decode cX12_keeps 57 = .ok (.iconst 5, 1) := by decide +kernel
theorem dX12_keeps_58 : decode cX12_keeps 58 = .ok (.aload_n 0, 1) := by decide +kernel
theorem dX12_keeps_59 : decode cX12_keeps 59 = .ok (.getfield 361, 3) := by decide +kernel
theorem dX12_keeps_62 : decode cX12_keeps 62 = .ok (.iadd, 1) := by decide +kernel
theorem dX12_keeps_63 : decode cX12_keeps 63 = .ok (.imul, 1) := by decide +kernel
theorem dX12_keeps_64 : decode cX12_keeps 64 = .ok (.bipush 13, 2) := by decide +kernel
theorem dX12_keeps_66 : decode cX12_keeps 66 = .ok (.invokevirtual 364, 3) := by decide +kernel
theorem dX12_keeps_69 : decode cX12_keeps 69 = .ok (.aload_n 0, 1) := by decide +kernel
theorem dX12_keeps_70 : decode cX12_keeps 70 = .ok (.dup, 1) := by decide +kernel
theorem dX12_keeps_71 : decode cX12_keeps 71 = .ok (.getfield 361, 3) := by decide +kernel
theorem dX12_keeps_74 : decode cX12_keeps 74 = .ok (.iconst 1, 1) := by decide +kernel
theorem dX12_keeps_75 : decode cX12_keeps 75 = .ok (.iadd, 1) := by decide +kernel
theorem dX12_keeps_76 : decode cX12_keeps 76 = .ok (.putfield 361, 3) := by decide +kernel
theorem dX12_keeps_79 : decode cX12_keeps 79 = .ok (.return_, 1) := by decide +kernel
theorem dX12_seats_0 : decode cX12_seats 0 = .ok (.aload_n 0, 1) := by decide +kernel
theorem dX12_seats_1 : decode cX12_seats 1 = .ok (.getfield 97, 3) := by decide +kernel
theorem dX12_seats_4 : decode cX12_seats 4 = .ok (.iconst 0, 1) := by decide +kernel
theorem dX12_seats_5 : decode cX12_seats 5 = .ok (.iaload, 1) := by decide +kernel
theorem dX12_seats_6 : decode cX12_seats 6 = .ok (.ireturn, 1) := by decide +kernel
theorem dX12_stretches_0 : decode cX12_stretches 0 = .ok (.aload_n 0, 1) := by decide +kernel
theorem dX12_stretches_1 : decode cX12_stretches 1 = .ok (.getfield 97, 3) := by decide +kernel
theorem dX12_stretches_4 : decode cX12_stretches 4 = .ok (.iconst 1, 1) := by decide +kernel
theorem dX12_stretches_5 : decode cX12_stretches 5 = .ok (.iaload, 1) := by decide +kernel
theorem dX12_stretches_6 : decode cX12_stretches 6 = .ok (.ireturn, 1) := by decide +kernel
theorem dX12_riders_0 : decode cX12_riders 0 = .ok (.aload_n 0, 1) := by decide +kernel
theorem dX12_riders_1 : decode cX12_riders 1 = .ok (.getfield 97, 3) := by decide +kernel
theorem dX12_riders_4 : decode cX12_riders 4 = .ok (.iconst 2, 1) := by decide +kernel
theorem dX12_riders_5 : decode cX12_riders 5 = .ok (.iaload, 1) := by decide +kernel
theorem dX12_riders_6 : decode cX12_riders 6 = .ok (.ireturn, 1) := by decide +kernel
theorem dX12_riderOf_0 : decode cX12_riderOf 0 = .ok (.aload_n 0, 1) := by decide +kernel
theorem dX12_riderOf_1 : decode cX12_riderOf 1 = .ok (.getfield 97, 3) := by decide +kernel
theorem dX12_riderOf_4 : decode cX12_riderOf 4 = .ok (.bipush 31, 2) := by decide +kernel
theorem dX12_riderOf_6 : decode cX12_riderOf 6 = .ok (.iconst 4, 1) := by decide +kernel
theorem dX12_riderOf_7 : decode cX12_riderOf 7 = .ok (.iload_n 1, 1) := by decide +kernel
theorem dX12_riderOf_8 : decode cX12_riderOf 8 = .ok (.imul, 1) := by decide +kernel
theorem dX12_riderOf_9 : decode cX12_riderOf 9 = .ok (.iadd, 1) := by decide +kernel
theorem dX12_riderOf_10 : decode cX12_riderOf 10 = .ok (.iload_n 2, 1) := by decide +kernel
theorem dX12_riderOf_11 : decode cX12_riderOf 11 = .ok (.iadd, 1) := by decide +kernel
theorem dX12_riderOf_12 : decode cX12_riderOf 12 = .ok (.iaload, 1) := by decide +kernel
theorem dX12_riderOf_13 : decode cX12_riderOf 13 = .ok (.ireturn, 1) := by decide +kernel
theorem dX12_stretchOf_0 : decode cX12_stretchOf 0 = .ok (.aload_n 0, 1) := by decide +kernel
theorem dX12_stretchOf_1 : decode cX12_stretchOf 1 = .ok (.getfield 97, 3) := by decide +kernel
theorem dX12_stretchOf_4 : decode cX12_stretchOf 4 = .ok (.bipush 11, 2) := by decide +kernel
theorem dX12_stretchOf_6 : decode cX12_stretchOf 6 = .ok (.iconst 5, 1) := by decide +kernel
theorem dX12_stretchOf_7 : decode cX12_stretchOf 7 = .ok (.iload_n 1, 1) := by decide +kernel
theorem dX12_stretchOf_8 : decode cX12_stretchOf 8 = .ok (.imul, 1) := by decide +kernel
theorem dX12_stretchOf_9 : decode cX12_stretchOf 9 = .ok (.iadd, 1) := by decide +kernel
theorem dX12_stretchOf_10 : decode cX12_stretchOf 10 = .ok (.iload_n 2, 1) := by decide +kernel
theorem dX12_stretchOf_11 : decode cX12_stretchOf 11 = .ok (.iadd, 1) := by decide +kernel
theorem dX12_stretchOf_12 : decode cX12_stretchOf 12 = .ok (.iaload, 1) := by decide +kernel
theorem dX12_stretchOf_13 : decode cX12_stretchOf 13 = .ok (.ireturn, 1) := by decide +kernel
theorem dX12_isRider_0 : decode cX12_isRider 0 = .ok (.iload_n 1, 1) := by decide +kernel
theorem dX12_isRider_1 : decode cX12_isRider 1 = .ok (.ifCond .lt 15, 3) := by decide +kernel
theorem dX12_isRider_4 : decode cX12_isRider 4 = .ok (.iload_n 1, 1) := by decide +kernel
theorem dX12_isRider_5 : decode cX12_isRider 5 = .ok (.aload_n 0, 1) := by decide +kernel
theorem dX12_isRider_6 : decode cX12_isRider 6 = .ok (.invokevirtual 334, 3) := by decide +kernel
theorem dX12_isRider_9 : decode cX12_isRider 9 = .ok (.if_icmp .ge 7, 3) := by decide +kernel
theorem dX12_isRider_12 : decode cX12_isRider 12 = .ok (.iconst 1, 1) := by decide +kernel
theorem dX12_isRider_13 : decode cX12_isRider 13 = .ok (.goto 4, 3) := by decide +kernel
theorem dX12_isRider_16 : decode cX12_isRider 16 = .ok (.iconst 0, 1) := by decide +kernel
theorem dX12_isRider_17 : decode cX12_isRider 17 = .ok (.ireturn, 1) := by decide +kernel
theorem dX12_isSeat_0 : decode cX12_isSeat 0 = .ok (.iload_n 1, 1) := by decide +kernel
theorem dX12_isSeat_1 : decode cX12_isSeat 1 = .ok (.ifCond .lt 15, 3) := by decide +kernel
theorem dX12_isSeat_4 : decode cX12_isSeat 4 = .ok (.iload_n 1, 1) := by decide +kernel
theorem dX12_isSeat_5 : decode cX12_isSeat 5 = .ok (.aload_n 0, 1) := by decide +kernel
theorem dX12_isSeat_6 : decode cX12_isSeat 6 = .ok (.invokevirtual 331, 3) := by decide +kernel
theorem dX12_isSeat_9 : decode cX12_isSeat 9 = .ok (.if_icmp .ge 7, 3) := by decide +kernel
theorem dX12_isSeat_12 : decode cX12_isSeat 12 = .ok (.iconst 1, 1) := by decide +kernel
theorem dX12_isSeat_13 : decode cX12_isSeat 13 = .ok (.goto 4, 3) := by decide +kernel
theorem dX12_isSeat_16 : decode cX12_isSeat 16 = .ok (.iconst 0, 1) := by decide +kernel
theorem dX12_isSeat_17 : decode cX12_isSeat 17 = .ok (.ireturn, 1) := by decide +kernel
theorem dX12_isStretch_0 : decode cX12_isStretch 0 = .ok (.iload_n 1, 1) := by decide +kernel
theorem dX12_isStretch_1 : decode cX12_isStretch 1 = .ok (.ifCond .lt 15, 3) := by decide +kernel
theorem dX12_isStretch_4 : decode cX12_isStretch 4 = .ok (.iload_n 1, 1) := by decide +kernel
theorem dX12_isStretch_5 : decode cX12_isStretch 5 = .ok (.aload_n 0, 1) := by decide +kernel
theorem dX12_isStretch_6 : decode cX12_isStretch 6 = .ok (.invokevirtual 368, 3) := by decide +kernel
theorem dX12_isStretch_9 : decode cX12_isStretch 9 = .ok (.if_icmp .ge 7, 3) := by decide +kernel
theorem dX12_isStretch_12 : decode cX12_isStretch 12 = .ok (.iconst 1, 1) := by decide +kernel
theorem dX12_isStretch_13 : decode cX12_isStretch 13 = .ok (.goto 4, 3) := by decide +kernel
theorem dX12_isStretch_16 : decode cX12_isStretch 16 = .ok (.iconst 0, 1) := by decide +kernel
theorem dX12_isStretch_17 : decode cX12_isStretch 17 = .ok (.ireturn, 1) := by decide +kernel
theorem dX12_isEnd_0 : decode cX12_isEnd 0 = .ok (.iload_n 1, 1) := by decide +kernel
theorem dX12_isEnd_1 : decode cX12_isEnd 1 = .ok (.ifCond .eq 13, 3) := by decide +kernel
theorem dX12_isEnd_4 : decode cX12_isEnd 4 = .ok (.iload_n 1, 1) := by decide +kernel
theorem dX12_isEnd_5 : decode cX12_isEnd 5 = .ok (.aload_n 0, 1) := by decide +kernel
theorem dX12_isEnd_6 : decode cX12_isEnd 6 = .ok (.invokevirtual 331, 3) := by decide +kernel
theorem dX12_isEnd_9 : decode cX12_isEnd 9 = .ok (.iconst 1, 1) := by decide +kernel
theorem dX12_isEnd_10 : decode cX12_isEnd 10 = .ok (.isub, 1) := by decide +kernel
theorem dX12_isEnd_11 : decode cX12_isEnd 11 = .ok (.if_icmp .ne 7, 3) := by decide +kernel
theorem dX12_isEnd_14 : decode cX12_isEnd 14 = .ok (.iconst 1, 1) := by decide +kernel
theorem dX12_isEnd_15 : decode cX12_isEnd 15 = .ok (.goto 4, 3) := by decide +kernel
theorem dX12_isEnd_18 : decode cX12_isEnd 18 = .ok (.iconst 0, 1) := by decide +kernel
theorem dX12_isEnd_19 : decode cX12_isEnd 19 = .ok (.ireturn, 1) := by decide +kernel
theorem dX12_areBeside_0 : decode cX12_areBeside 0 = .ok (.iload_n 1, 1) := by decide +kernel
theorem dX12_areBeside_1 : decode cX12_areBeside 1 = .ok (.iload_n 2, 1) := by decide +kernel
theorem dX12_areBeside_2 : decode cX12_areBeside 2 = .ok (.if_icmp .ge 7, 3) := by decide +kernel
theorem dX12_areBeside_5 : decode cX12_areBeside 5 = .ok (.iload_n 1, 1) := by decide +kernel
theorem dX12_areBeside_6 : decode cX12_areBeside 6 = .ok (.goto 4, 3) := by decide +kernel
theorem dX12_areBeside_9 : decode cX12_areBeside 9 = .ok (.iload_n 2, 1) := by decide +kernel
theorem dX12_areBeside_10 : decode cX12_areBeside 10 = .ok (.istore_n 3, 1) := by decide +kernel
theorem dX12_areBeside_11 : decode cX12_areBeside 11 = .ok (.iload_n 1, 1) := by decide +kernel
theorem dX12_areBeside_12 : decode cX12_areBeside 12 = .ok (.iload_n 2, 1) := by decide +kernel
theorem dX12_areBeside_13 : decode cX12_areBeside 13 = .ok (.if_icmp .ge 7, 3) := by decide +kernel
theorem dX12_areBeside_16 : decode cX12_areBeside 16 = .ok (.iload_n 2, 1) := by decide +kernel
theorem dX12_areBeside_17 : decode cX12_areBeside 17 = .ok (.goto 4, 3) := by decide +kernel
theorem dX12_areBeside_20 : decode cX12_areBeside 20 = .ok (.iload_n 1, 1) := by decide +kernel
theorem dX12_areBeside_21 : decode cX12_areBeside 21 = .ok (.istore 4, 2) := by decide +kernel
theorem dX12_areBeside_23 : decode cX12_areBeside 23 = .ok (.iload 4, 2) := by decide +kernel
theorem dX12_areBeside_25 : decode cX12_areBeside 25 = .ok (.iload_n 3, 1) := by decide +kernel
theorem dX12_areBeside_26 : decode cX12_areBeside 26 = .ok (.iconst 1, 1) := by decide +kernel
theorem dX12_areBeside_27 : decode cX12_areBeside 27 = .ok (.iadd, 1) := by decide +kernel
theorem dX12_areBeside_28 : decode cX12_areBeside 28 = .ok (.if_icmp .ne 21, 3) := by decide +kernel
theorem dX12_areBeside_31 : decode cX12_areBeside 31 = .ok (.aload_n 0, 1) := by decide +kernel
theorem dX12_areBeside_32 : decode cX12_areBeside 32 = .ok (.getfield 97, 3) := by decide +kernel
theorem dX12_areBeside_35 : decode cX12_areBeside 35 = .ok (.bipush 10, 2) := by decide +kernel
theorem dX12_areBeside_37 : decode cX12_areBeside 37 = .ok (.iaload, 1) := by decide +kernel
theorem dX12_areBeside_38 : decode cX12_areBeside 38 = .ok (.iload_n 3, 1) := by decide +kernel
theorem dX12_areBeside_39 : decode cX12_areBeside 39 = .ok (.ishr, 1) := by decide +kernel
theorem dX12_areBeside_40 : decode cX12_areBeside 40 = .ok (.iconst 1, 1) := by decide +kernel
theorem dX12_areBeside_41 : decode cX12_areBeside 41 = .ok (.iand, 1) := by decide +kernel
theorem dX12_areBeside_42 : decode cX12_areBeside 42 = .ok (.ifCond .ne 7, 3) := by decide +kernel
theorem dX12_areBeside_45 : decode cX12_areBeside 45 = .ok (.iconst 1, 1) := by decide +kernel
theorem dX12_areBeside_46 : decode cX12_areBeside 46 = .ok (.goto 4, 3) := by decide +kernel
theorem dX12_areBeside_49 : decode cX12_areBeside 49 = .ok (.iconst 0, 1) := by decide +kernel
theorem dX12_areBeside_50 : decode cX12_areBeside 50 = .ok (.ireturn, 1) := by decide +kernel
theorem dX12_reads_0 : decode cX12_reads 0 = .ok (.iload_n 1, 1) := by decide +kernel
theorem dX12_reads_1 : decode cX12_reads 1 = .ok (.istore_n 2, 1) := by decide +kernel
theorem dX12_reads_2 : decode cX12_reads 2 = .ok (.iconst 0, 1) := by decide +kernel
theorem dX12_reads_3 : decode cX12_reads 3 = .ok (.istore_n 3, 1) := by decide +kernel
theorem dX12_reads_4 : decode cX12_reads 4 = .ok (.iload_n 1, 1) := by decide +kernel
theorem dX12_reads_5 : decode cX12_reads 5 = .ok (.ifCond .lt 7, 3) := by decide +kernel
theorem dX12_reads_8 : decode cX12_reads 8 = .ok (.iconst 1, 1) := by decide +kernel
theorem dX12_reads_9 : decode cX12_reads 9 = .ok (.goto 4, 3) := by decide +kernel
theorem dX12_reads_12 : decode cX12_reads 12 = .ok (.iconst 0, 1) := by decide +kernel
theorem dX12_reads_13 : decode cX12_reads 13 = .ok (.istore 4, 2) := by decide +kernel
theorem dX12_reads_15 : decode cX12_reads 15 = .ok (.aload_n 0, 1) := by decide +kernel
theorem dX12_reads_16 : decode cX12_reads 16 = .ok (.invokevirtual 334, 3) := by decide +kernel
theorem dX12_reads_19 : decode cX12_reads 19 = .ok (.iconst 1, 1) := by decide +kernel
theorem dX12_reads_20 : decode cX12_reads 20 = .ok (.isub, 1) := by decide +kernel
theorem dX12_reads_21 : decode cX12_reads 21 = .ok (.istore 5, 2) := by decide +kernel
theorem dX12_reads_23 : decode cX12_reads 23 = .ok (.iload 5, 2) := by decide +kernel
theorem dX12_reads_25 : decode cX12_reads 25 = .ok (.ifCond .lt 75, 3) := by decide +kernel
theorem dX12_reads_28 : decode cX12_reads 28 = .ok (.aload_n 0, 1) := by decide +kernel
theorem dX12_reads_29 : decode cX12_reads 29 = .ok (.getfield 137, 3) := by decide +kernel
theorem dX12_reads_32 : decode cX12_reads 32 = .ok (.iload 5, 2) := by decide +kernel
theorem dX12_reads_34 : decode cX12_reads 34 = .ok (.iload_n 2, 1) := by decide +kernel
theorem dX12_reads_35 : decode cX12_reads 35 = .ok (.iconst 4, 1) := by decide +kernel
theorem dX12_reads_36 : decode cX12_reads 36 = .ok (.irem, 1) := by decide +kernel
theorem dX12_reads_37 : decode cX12_reads 37 = .ok (.iastore, 1) := by decide +kernel
theorem dX12_reads_38 : decode cX12_reads 38 = .ok (.iload_n 2, 1) := by decide +kernel
theorem dX12_reads_39 : decode cX12_reads 39 = .ok (.iconst 4, 1) := by decide +kernel
theorem dX12_reads_40 : decode cX12_reads 40 = .ok (.idiv, 1) := by decide +kernel
theorem dX12_reads_41 : decode cX12_reads 41 = .ok (.istore_n 2, 1) := by decide +kernel
theorem dX12_reads_42 : decode cX12_reads 42 = .ok (.iload 4, 2) := by decide +kernel
theorem dX12_reads_44 : decode cX12_reads 44 = .ok (.ifCond .eq 35, 3) := by decide +kernel
theorem dX12_reads_47 : decode cX12_reads 47 = .ok (.aload_n 0, 1) := by decide +kernel
theorem dX12_reads_48 : decode cX12_reads 48 = .ok (.getfield 137, 3) := by decide +kernel
theorem dX12_reads_51 : decode cX12_reads 51 = .ok (.iload 5, 2) := by decide +kernel
theorem dX12_reads_53 : decode cX12_reads 53 = .ok (.iaload, 1) := by decide +kernel
theorem dX12_reads_54 : decode cX12_reads 54 = .ok (.aload_n 0, 1) := by decide +kernel
theorem dX12_reads_55 : decode cX12_reads 55 = .ok (.invokevirtual 331, 3) := by decide +kernel
theorem dX12_reads_58 : decode cX12_reads 58 = .ok (.if_icmp .ge 21, 3) := by decide +kernel
theorem dX12_reads_61 : decode cX12_reads 61 = .ok (.iload_n 3, 1) := by decide +kernel
theorem dX12_reads_62 : decode cX12_reads 62 = .ok (.aload_n 0, 1) := by decide +kernel
theorem dX12_reads_63 : decode cX12_reads 63 = .ok (.getfield 137, 3) := by decide +kernel
theorem dX12_reads_66 : decode cX12_reads 66 = .ok (.iload 5, 2) := by decide +kernel
theorem dX12_reads_68 : decode cX12_reads 68 = .ok (.iaload, 1) := by decide +kernel
theorem dX12_reads_69 : decode cX12_reads 69 = .ok (.ishr, 1) := by decide +kernel
theorem dX12_reads_70 : decode cX12_reads 70 = .ok (.iconst 1, 1) := by decide +kernel
theorem dX12_reads_71 : decode cX12_reads 71 = .ok (.iand, 1) := by decide +kernel
theorem dX12_reads_72 : decode cX12_reads 72 = .ok (.ifCond .ne 7, 3) := by decide +kernel
theorem dX12_reads_75 : decode cX12_reads 75 = .ok (.iconst 1, 1) := by decide +kernel
theorem dX12_reads_76 : decode cX12_reads 76 = .ok (.goto 4, 3) := by decide +kernel
theorem dX12_reads_79 : decode cX12_reads 79 = .ok (.iconst 0, 1) := by decide +kernel
theorem dX12_reads_80 : decode cX12_reads 80 = .ok (.istore 4, 2) := by decide +kernel
theorem dX12_reads_82 : decode cX12_reads 82 = .ok (.iload_n 3, 1) := by decide +kernel
theorem dX12_reads_83 : decode cX12_reads 83 = .ok (.iconst 1, 1) := by decide +kernel
theorem dX12_reads_84 : decode cX12_reads 84 = .ok (.aload_n 0, 1) := by decide +kernel
theorem dX12_reads_85 : decode cX12_reads 85 = .ok (.getfield 137, 3) := by decide +kernel
theorem dX12_reads_88 : decode cX12_reads 88 = .ok (.iload 5, 2) := by decide +kernel
theorem dX12_reads_90 : decode cX12_reads 90 = .ok (.iaload, 1) := by decide +kernel
theorem dX12_reads_91 : decode cX12_reads 91 = .ok (.ishl, 1) := by decide +kernel
theorem dX12_reads_92 : decode cX12_reads 92 = .ok (.ior, 1) := by decide +kernel
theorem dX12_reads_93 : decode cX12_reads 93 = .ok (.istore_n 3, 1) := by decide +kernel
theorem dX12_reads_94 : decode cX12_reads 94 = .ok (.iinc 5 (-1), 3) := by decide +kernel
theorem dX12_reads_97 : decode cX12_reads 97 = .ok (.goto (-74), 3) := by decide +kernel
theorem dX12_reads_100 : decode cX12_reads 100 = .ok (.iload 4, 2) := by decide +kernel
theorem dX12_reads_102 : decode cX12_reads 102 = .ok (.ifCond .eq 11, 3) := by decide +kernel
theorem dX12_reads_105 : decode cX12_reads 105 = .ok (.iload_n 2, 1) := by decide +kernel
theorem dX12_reads_106 : decode cX12_reads 106 = .ok (.ifCond .ne 7, 3) := by decide +kernel
theorem dX12_reads_109 : decode cX12_reads 109 = .ok (.iconst 1, 1) := by decide +kernel
theorem dX12_reads_110 : decode cX12_reads 110 = .ok (.goto 4, 3) := by decide +kernel
theorem dX12_reads_113 : decode cX12_reads 113 = .ok (.iconst 0, 1) := by decide +kernel
theorem dX12_reads_114 : decode cX12_reads 114 = .ok (.ireturn, 1) := by decide +kernel
theorem dX12_maySit_0 : decode cX12_maySit 0 = .ok (.aload_n 0, 1) := by decide +kernel
theorem dX12_maySit_1 : decode cX12_maySit 1 = .ok (.iload_n 1, 1) := by decide +kernel
theorem dX12_maySit_2 : decode cX12_maySit 2 = .ok (.iconst 3, 1) := by decide +kernel
theorem dX12_maySit_3 : decode cX12_maySit 3 = .ok (.invokevirtual 355, 3) := by decide +kernel
theorem dX12_maySit_6 : decode cX12_maySit 6 = .ok (.iload_n 2, 1) := by decide +kernel
theorem dX12_maySit_7 : decode cX12_maySit 7 = .ok (.ishr, 1) := by decide +kernel
theorem dX12_maySit_8 : decode cX12_maySit 8 = .ok (.iconst 1, 1) := by decide +kernel
theorem dX12_maySit_9 : decode cX12_maySit 9 = .ok (.iand, 1) := by decide +kernel
theorem dX12_maySit_10 : decode cX12_maySit 10 = .ok (.ifCond .ne 25, 3) := by decide +kernel
theorem dX12_maySit_13 : decode cX12_maySit 13 = .ok (.aload_n 0, 1) := by decide +kernel
theorem dX12_maySit_14 : decode cX12_maySit 14 = .ok (.iload_n 1, 1) := by decide +kernel
theorem dX12_maySit_15 : decode cX12_maySit 15 = .ok (.iconst 0, 1) := by decide +kernel
theorem dX12_maySit_16 : decode cX12_maySit 16 = .ok (.invokevirtual 355, 3) := by decide +kernel
theorem dX12_maySit_19 : decode cX12_maySit 19 = .ok (.iconst 1, 1) := by decide +kernel
theorem dX12_maySit_20 : decode cX12_maySit 20 = .ok (.if_icmp .ne 11, 3) := by decide +kernel
theorem dX12_maySit_23 : decode cX12_maySit 23 = .ok (.aload_n 0, 1) := by decide +kernel
theorem dX12_maySit_24 : decode cX12_maySit 24 = .ok (.iload_n 2, 1) := by decide +kernel
theorem dX12_maySit_25 : decode cX12_maySit 25 = .ok (.invokevirtual 371, 3) := by decide +kernel
theorem dX12_maySit_28 : decode cX12_maySit 28 = .ok (.ifCond .eq 7, 3) := by decide +kernel
theorem dX12_maySit_31 : decode cX12_maySit 31 = .ok (.iconst 1, 1) := by decide +kernel
theorem dX12_maySit_32 : decode cX12_maySit 32 = .ok (.goto 4, 3) := by decide +kernel
theorem dX12_maySit_35 : decode cX12_maySit 35 = .ok (.iconst 0, 1) := by decide +kernel
theorem dX12_maySit_36 : decode cX12_maySit 36 = .ok (.ireturn, 1) := by decide +kernel
theorem dX12_isLawful_0 : decode cX12_isLawful 0 = .ok (.iconst 1, 1) := by decide +kernel
theorem dX12_isLawful_1 : decode cX12_isLawful 1 = .ok (.istore_n 1, 1) := by decide +kernel
theorem dX12_isLawful_2 : decode cX12_isLawful 2 = .ok (.iconst 0, 1) := by decide +kernel
theorem dX12_isLawful_3 : decode cX12_isLawful 3 = .ok (.istore_n 2, 1) := by decide +kernel
theorem dX12_isLawful_4 : decode cX12_isLawful 4 = .ok (.iload_n 2, 1) := by decide +kernel
theorem dX12_isLawful_5 : decode cX12_isLawful 5 = .ok (.aload_n 0, 1) := by decide +kernel
theorem dX12_isLawful_6 : decode cX12_isLawful 6 = .ok (.invokevirtual 334, 3) := by decide +kernel
theorem dX12_isLawful_9 : decode cX12_isLawful 9 = .ok (.if_icmp .ge 91, 3) := by decide +kernel
theorem dX12_isLawful_12 : decode cX12_isLawful 12 = .ok (.iload_n 1, 1) := by decide +kernel
theorem dX12_isLawful_13 : decode cX12_isLawful 13 = .ok (.ifCond .eq 21, 3) := by decide +kernel
theorem dX12_isLawful_16 : decode cX12_isLawful 16 = .ok (.aload_n 0, 1) := by decide +kernel
theorem dX12_isLawful_17 : decode cX12_isLawful 17 = .ok (.iload_n 2, 1) := by decide +kernel
theorem dX12_isLawful_18 : decode cX12_isLawful 18 = .ok (.aload_n 0, 1) := by decide +kernel
theorem dX12_isLawful_19 : decode cX12_isLawful 19 = .ok (.getfield 137, 3) := by decide +kernel
theorem dX12_isLawful_22 : decode cX12_isLawful 22 = .ok (.iload_n 2, 1) := by decide +kernel
theorem dX12_isLawful_23 : decode cX12_isLawful 23 = .ok (.iaload, 1) := by decide +kernel
theorem dX12_isLawful_24 : decode cX12_isLawful 24 = .ok (.invokevirtual 374, 3) := by decide +kernel
theorem dX12_isLawful_27 : decode cX12_isLawful 27 = .ok (.ifCond .eq 7, 3) := by decide +kernel
theorem dX12_isLawful_30 : decode cX12_isLawful 30 = .ok (.iconst 1, 1) := by decide +kernel
theorem dX12_isLawful_31 : decode cX12_isLawful 31 = .ok (.goto 4, 3) := by decide +kernel
theorem dX12_isLawful_34 : decode cX12_isLawful 34 = .ok (.iconst 0, 1) := by decide +kernel
theorem dX12_isLawful_35 : decode cX12_isLawful 35 = .ok (.istore_n 1, 1) := by decide +kernel
theorem dX12_isLawful_36 : decode cX12_isLawful 36 = .ok (.iconst 0, 1) := by decide +kernel
theorem dX12_isLawful_37 : decode cX12_isLawful 37 = .ok (.istore_n 3, 1) := by decide +kernel
theorem dX12_isLawful_38 : decode cX12_isLawful 38 = .ok (.iload_n 3, 1) := by decide +kernel
theorem dX12_isLawful_39 : decode cX12_isLawful 39 = .ok (.iload_n 2, 1) := by decide +kernel
theorem dX12_isLawful_40 : decode cX12_isLawful 40 = .ok (.if_icmp .ge 54, 3) := by decide +kernel
theorem dX12_isLawful_43 : decode cX12_isLawful 43 = .ok (.iload_n 1, 1) := by decide +kernel
theorem dX12_isLawful_44 : decode cX12_isLawful 44 = .ok (.ifCond .eq 42, 3) := by decide +kernel
theorem dX12_isLawful_47 : decode cX12_isLawful 47 = .ok (.aload_n 0, 1) := by decide +kernel
theorem dX12_isLawful_48 : decode cX12_isLawful 48 = .ok (.getfield 97, 3) := by decide +kernel
theorem dX12_isLawful_51 : decode cX12_isLawful 51 = .ok (.bipush 47, 2) := by decide +kernel
theorem dX12_isLawful_53 : decode cX12_isLawful 53 = .ok (.iconst 4, 1) := by decide +kernel
theorem dX12_isLawful_54 : decode cX12_isLawful 54 = .ok (.iload_n 2, 1) := by decide +kernel
theorem dX12_isLawful_55 : decode cX12_isLawful 55 = .ok (.imul, 1) := by decide +kernel
theorem dX12_isLawful_56 : decode cX12_isLawful 56 = .ok (.iadd, 1) := by decide +kernel
theorem dX12_isLawful_57 : decode cX12_isLawful 57 = .ok (.iload_n 3, 1) := by decide +kernel
theorem dX12_isLawful_58 : decode cX12_isLawful 58 = .ok (.iadd, 1) := by decide +kernel
theorem dX12_isLawful_59 : decode cX12_isLawful 59 = .ok (.iaload, 1) := by decide +kernel
theorem dX12_isLawful_60 : decode cX12_isLawful 60 = .ok (.ifCond .eq 22, 3) := by decide +kernel
theorem dX12_isLawful_63 : decode cX12_isLawful 63 = .ok (.aload_n 0, 1) := by decide +kernel
theorem dX12_isLawful_64 : decode cX12_isLawful 64 = .ok (.aload_n 0, 1) := by decide +kernel
theorem dX12_isLawful_65 : decode cX12_isLawful 65 = .ok (.getfield 137, 3) := by decide +kernel
theorem dX12_isLawful_68 : decode cX12_isLawful 68 = .ok (.iload_n 2, 1) := by decide +kernel
theorem dX12_isLawful_69 : decode cX12_isLawful 69 = .ok (.iaload, 1) := by decide +kernel
theorem dX12_isLawful_70 : decode cX12_isLawful 70 = .ok (.aload_n 0, 1) := by decide +kernel
theorem dX12_isLawful_71 : decode cX12_isLawful 71 = .ok (.getfield 137, 3) := by decide +kernel
theorem dX12_isLawful_74 : decode cX12_isLawful 74 = .ok (.iload_n 3, 1) := by decide +kernel
theorem dX12_isLawful_75 : decode cX12_isLawful 75 = .ok (.iaload, 1) := by decide +kernel
theorem dX12_isLawful_76 : decode cX12_isLawful 76 = .ok (.invokevirtual 378, 3) := by decide +kernel
theorem dX12_isLawful_79 : decode cX12_isLawful 79 = .ok (.ifCond .ne 7, 3) := by decide +kernel
theorem dX12_isLawful_82 : decode cX12_isLawful 82 = .ok (.iconst 1, 1) := by decide +kernel
theorem dX12_isLawful_83 : decode cX12_isLawful 83 = .ok (.goto 4, 3) := by decide +kernel
theorem dX12_isLawful_86 : decode cX12_isLawful 86 = .ok (.iconst 0, 1) := by decide +kernel
theorem dX12_isLawful_87 : decode cX12_isLawful 87 = .ok (.istore_n 1, 1) := by decide +kernel
theorem dX12_isLawful_88 : decode cX12_isLawful 88 = .ok (.iinc 3 1, 3) := by decide +kernel
theorem dX12_isLawful_91 : decode cX12_isLawful 91 = .ok (.goto (-53), 3) := by decide +kernel
theorem dX12_isLawful_94 : decode cX12_isLawful 94 = .ok (.iinc 2 1, 3) := by decide +kernel
theorem dX12_isLawful_97 : decode cX12_isLawful 97 = .ok (.goto (-93), 3) := by decide +kernel
theorem dX12_isLawful_100 : decode cX12_isLawful 100 = .ok (.iload_n 1, 1) := by decide +kernel
theorem dX12_isLawful_101 : decode cX12_isLawful 101 = .ok (.ireturn, 1) := by decide +kernel
theorem dX12_tipOf_0 : decode cX12_tipOf 0 = .ok (.iconst 0, 1) := by decide +kernel
theorem dX12_tipOf_1 : decode cX12_tipOf 1 = .ok (.istore_n 2, 1) := by decide +kernel
theorem dX12_tipOf_2 : decode cX12_tipOf 2 = .ok (.iconst 0, 1) := by decide +kernel
theorem dX12_tipOf_3 : decode cX12_tipOf 3 = .ok (.istore_n 3, 1) := by decide +kernel
theorem dX12_tipOf_4 : decode cX12_tipOf 4 = .ok (.iload_n 3, 1) := by decide +kernel
theorem dX12_tipOf_5 : decode cX12_tipOf 5 = .ok (.aload_n 0, 1) := by decide +kernel
theorem dX12_tipOf_6 : decode cX12_tipOf 6 = .ok (.invokevirtual 334, 3) := by decide +kernel
theorem dX12_tipOf_9 : decode cX12_tipOf 9 = .ok (.if_icmp .ge 60, 3) := by decide +kernel
theorem dX12_tipOf_12 : decode cX12_tipOf 12 = .ok (.iload_n 2, 1) := by decide +kernel
theorem dX12_tipOf_13 : decode cX12_tipOf 13 = .ok (.iload_n 3, 1) := by decide +kernel
theorem dX12_tipOf_14 : decode cX12_tipOf 14 = .ok (.iload_n 1, 1) := by decide +kernel
theorem dX12_tipOf_15 : decode cX12_tipOf 15 = .ok (.if_icmp .eq 45, 3) := by decide +kernel
theorem dX12_tipOf_18 : decode cX12_tipOf 18 = .ok (.aload_n 0, 1) := by decide +kernel
theorem dX12_tipOf_19 : decode cX12_tipOf 19 = .ok (.iload_n 3, 1) := by decide +kernel
theorem dX12_tipOf_20 : decode cX12_tipOf 20 = .ok (.iconst 0, 1) := by decide +kernel
theorem dX12_tipOf_21 : decode cX12_tipOf 21 = .ok (.invokevirtual 355, 3) := by decide +kernel
theorem dX12_tipOf_24 : decode cX12_tipOf 24 = .ok (.iconst 2, 1) := by decide +kernel
theorem dX12_tipOf_25 : decode cX12_tipOf 25 = .ok (.if_icmp .ne 35, 3) := by decide +kernel
theorem dX12_tipOf_28 : decode cX12_tipOf 28 = .ok (.aload_n 0, 1) := by decide +kernel
theorem dX12_tipOf_29 : decode cX12_tipOf 29 = .ok (.getfield 137, 3) := by decide +kernel
theorem dX12_tipOf_32 : decode cX12_tipOf 32 = .ok (.iload_n 3, 1) := by decide +kernel
theorem dX12_tipOf_33 : decode cX12_tipOf 33 = .ok (.iaload, 1) := by decide +kernel
theorem dX12_tipOf_34 : decode cX12_tipOf 34 = .ok (.ifCond .lt 26, 3) := by decide +kernel
theorem dX12_tipOf_37 : decode cX12_tipOf 37 = .ok (.aload_n 0, 1) := by decide +kernel
theorem dX12_tipOf_38 : decode cX12_tipOf 38 = .ok (.aload_n 0, 1) := by decide +kernel
theorem dX12_tipOf_39 : decode cX12_tipOf 39 = .ok (.getfield 137, 3) := by decide +kernel
theorem dX12_tipOf_42 : decode cX12_tipOf 42 = .ok (.iload_n 1, 1) := by decide +kernel
theorem dX12_tipOf_43 : decode cX12_tipOf 43 = .ok (.iaload, 1) := by decide +kernel
theorem dX12_tipOf_44 : decode cX12_tipOf 44 = .ok (.aload_n 0, 1) := by decide +kernel
theorem dX12_tipOf_45 : decode cX12_tipOf 45 = .ok (.getfield 137, 3) := by decide +kernel
theorem dX12_tipOf_48 : decode cX12_tipOf 48 = .ok (.iload_n 3, 1) := by decide +kernel
theorem dX12_tipOf_49 : decode cX12_tipOf 49 = .ok (.iaload, 1) := by decide +kernel
theorem dX12_tipOf_50 : decode cX12_tipOf 50 = .ok (.invokevirtual 378, 3) := by decide +kernel
theorem dX12_tipOf_53 : decode cX12_tipOf 53 = .ok (.ifCond .eq 7, 3) := by decide +kernel
theorem dX12_tipOf_56 : decode cX12_tipOf 56 = .ok (.iconst 1, 1) := by decide +kernel
theorem dX12_tipOf_57 : decode cX12_tipOf 57 = .ok (.goto 4, 3) := by decide +kernel
theorem dX12_tipOf_60 : decode cX12_tipOf 60 = .ok (.iconst 0, 1) := by decide +kernel
theorem dX12_tipOf_61 : decode cX12_tipOf 61 = .ok (.iadd, 1) := by decide +kernel
theorem dX12_tipOf_62 : decode cX12_tipOf 62 = .ok (.istore_n 2, 1) := by decide +kernel
theorem dX12_tipOf_63 : decode cX12_tipOf 63 = .ok (.iinc 3 1, 3) := by decide +kernel
theorem dX12_tipOf_66 : decode cX12_tipOf 66 = .ok (.goto (-62), 3) := by decide +kernel
theorem dX12_tipOf_69 : decode cX12_tipOf 69 = .ok (.iload_n 2, 1) := by decide +kernel
theorem dX12_tipOf_70 : decode cX12_tipOf 70 = .ok (.ireturn, 1) := by decide +kernel
theorem dX12_worthOn_0 : decode cX12_worthOn 0 = .ok (.aload_n 0, 1) := by decide +kernel
theorem dX12_worthOn_1 : decode cX12_worthOn 1 = .ok (.iload_n 3, 1) := by decide +kernel
theorem dX12_worthOn_2 : decode cX12_worthOn 2 = .ok (.iconst 1, 1) := by decide +kernel
theorem dX12_worthOn_3 : decode cX12_worthOn 3 = .ok (.iload_n 2, 1) := by decide +kernel
theorem dX12_worthOn_4 : decode cX12_worthOn 4 = .ok (.iadd, 1) := by decide +kernel
theorem dX12_worthOn_5 : decode cX12_worthOn 5 = .ok (.invokevirtual 381, 3) := by decide +kernel
theorem dX12_worthOn_8 : decode cX12_worthOn 8 = .ok (.aload_n 0, 1) := by decide +kernel
theorem dX12_worthOn_9 : decode cX12_worthOn 9 = .ok (.iload_n 3, 1) := by decide +kernel
theorem dX12_worthOn_10 : decode cX12_worthOn 10 = .ok (.iconst 0, 1) := by decide +kernel
theorem dX12_worthOn_11 : decode cX12_worthOn 11 = .ok (.invokevirtual 381, 3) := by decide +kernel
theorem dX12_worthOn_14 : decode cX12_worthOn 14 = .ok (.imul, 1) := by decide +kernel
theorem dX12_worthOn_15 : decode cX12_worthOn 15 = .ok (.istore 5, 2) := by decide +kernel
theorem dX12_worthOn_17 : decode cX12_worthOn 17 = .ok (.aload_n 0, 1) := by decide +kernel
theorem dX12_worthOn_18 : decode cX12_worthOn 18 = .ok (.getfield 97, 3) := by decide +kernel
theorem dX12_worthOn_21 : decode cX12_worthOn 21 = .ok (.iconst 5, 1) := by decide +kernel
theorem dX12_worthOn_22 : decode cX12_worthOn 22 = .ok (.iaload, 1) := by decide +kernel
theorem dX12_worthOn_23 : decode cX12_worthOn 23 = .ok (.ifCond .lt 80, 3) := by decide +kernel
theorem dX12_worthOn_26 : decode cX12_worthOn 26 = .ok (.aload_n 0, 1) := by decide +kernel
theorem dX12_worthOn_27 : decode cX12_worthOn 27 = .ok (.getfield 124, 3) := by decide +kernel
theorem dX12_worthOn_30 : decode cX12_worthOn 30 = .ok (.iconst 0, 1) := by decide +kernel
theorem dX12_worthOn_31 : decode cX12_worthOn 31 = .ok (.aload_n 0, 1) := by decide +kernel
theorem dX12_worthOn_32 : decode cX12_worthOn 32 = .ok (.iload_n 3, 1) := by decide +kernel
theorem dX12_worthOn_33 : decode cX12_worthOn 33 = .ok (.iconst 1, 1) := by decide +kernel
theorem dX12_worthOn_34 : decode cX12_worthOn 34 = .ok (.iload_n 2, 1) := by decide +kernel
theorem dX12_worthOn_35 : decode cX12_worthOn 35 = .ok (.iadd, 1) := by decide +kernel
theorem dX12_worthOn_36 : decode cX12_worthOn 36 = .ok (.invokevirtual 381, 3) := by decide +kernel
theorem dX12_worthOn_39 : decode cX12_worthOn 39 = .ok (.iastore, 1) := by decide +kernel
theorem dX12_worthOn_40 : decode cX12_worthOn 40 = .ok (.aload_n 0, 1) := by decide +kernel
theorem dX12_worthOn_41 : decode cX12_worthOn 41 = .ok (.getfield 124, 3) := by decide +kernel
theorem dX12_worthOn_44 : decode cX12_worthOn 44 = .ok (.iconst 1, 1) := by decide +kernel
theorem dX12_worthOn_45 : decode cX12_worthOn 45 = .ok (.aload_n 0, 1) := by decide +kernel
theorem dX12_worthOn_46 : decode cX12_worthOn 46 = .ok (.iload_n 3, 1) := by decide +kernel
theorem dX12_worthOn_47 : decode cX12_worthOn 47 = .ok (.iconst 0, 1) := by decide +kernel
theorem dX12_worthOn_48 : decode cX12_worthOn 48 = .ok (.invokevirtual 381, 3) := by decide +kernel
theorem dX12_worthOn_51 : decode cX12_worthOn 51 = .ok (.iastore, 1) := by decide +kernel
theorem dX12_worthOn_52 : decode cX12_worthOn 52 = .ok (.aload_n 0, 1) := by decide +kernel
theorem dX12_worthOn_53 : decode cX12_worthOn 53 = .ok (.getfield 124, 3) := by decide +kernel
theorem dX12_worthOn_56 : decode cX12_worthOn 56 = .ok (.iconst 2, 1) := by decide +kernel
theorem dX12_worthOn_57 : decode cX12_worthOn 57 = .ok (.aload_n 0, 1) := by decide +kernel
theorem dX12_worthOn_58 : decode cX12_worthOn 58 = .ok (.iload_n 1, 1) := by decide +kernel
theorem dX12_worthOn_59 : decode cX12_worthOn 59 = .ok (.iconst 0, 1) := by decide +kernel
theorem dX12_worthOn_60 : decode cX12_worthOn 60 = .ok (.invokevirtual 355, 3) := by decide +kernel
theorem dX12_worthOn_63 : decode cX12_worthOn 63 = .ok (.iastore, 1) := by decide +kernel
theorem dX12_worthOn_64 : decode cX12_worthOn 64 = .ok (.aload_n 0, 1) := by decide +kernel
theorem dX12_worthOn_65 : decode cX12_worthOn 65 = .ok (.getfield 124, 3) := by decide +kernel
theorem dX12_worthOn_68 : decode cX12_worthOn 68 = .ok (.iconst 3, 1) := by decide +kernel
theorem dX12_worthOn_69 : decode cX12_worthOn 69 = .ok (.aload_n 0, 1) := by decide +kernel
theorem dX12_worthOn_70 : decode cX12_worthOn 70 = .ok (.iload_n 2, 1) := by decide +kernel
theorem dX12_worthOn_71 : decode cX12_worthOn 71 = .ok (.invokevirtual 371, 3) := by decide +kernel
theorem dX12_worthOn_74 : decode cX12_worthOn 74 = .ok (.ifCond .eq 7, 3) := by decide +kernel
theorem dX12_worthOn_77 : decode cX12_worthOn 77 = .ok (.iconst 1, 1) := by decide +kernel
theorem dX12_worthOn_78 : decode cX12_worthOn 78 = .ok (.goto 4, 3) := by decide +kernel
theorem dX12_worthOn_81 : decode cX12_worthOn 81 = .ok (.iconst 0, 1) := by decide +kernel
theorem dX12_worthOn_82 : decode cX12_worthOn 82 = .ok (.iastore, 1) := by decide +kernel
theorem dX12_worthOn_83 : decode cX12_worthOn 83 = .ok (.aload_n 0, 1) := by decide +kernel
theorem dX12_worthOn_84 : decode cX12_worthOn 84 = .ok (.getfield 124, 3) := by decide +kernel
theorem dX12_worthOn_87 : decode cX12_worthOn 87 = .ok (.iconst 4, 1) := by decide +kernel
theorem dX12_worthOn_88 : decode cX12_worthOn 88 = .ok (.iload 4, 2) := by decide +kernel
theorem dX12_worthOn_90 : decode cX12_worthOn 90 = .ok (.iastore, 1) := by decide +kernel
theorem dX12_worthOn_91 : decode cX12_worthOn 91 = .ok (.aload_n 0, 1) := by decide +kernel
theorem dX12_worthOn_92 : decode cX12_worthOn 92 = .ok (.aload_n 0, 1) := by decide +kernel
theorem dX12_worthOn_93 : decode cX12_worthOn 93 = .ok (.getfield 97, 3) := by decide +kernel
theorem dX12_worthOn_96 : decode cX12_worthOn 96 = .ok (.iconst 5, 1) := by decide +kernel
theorem dX12_worthOn_97 : decode cX12_worthOn 97 = .ok (.iaload, 1) := by decide +kernel
theorem dX12_worthOn_98 : decode cX12_worthOn 98 = .ok (.invokevirtual 384, 3) := by decide +kernel
theorem dX12_worthOn_101 : decode cX12_worthOn 101 = .ok (.istore 5, 2) := by decide +kernel
theorem dX12_worthOn_103 : decode cX12_worthOn 103 = .ok (.iload 5, 2) := by decide +kernel
theorem dX12_worthOn_105 : decode cX12_worthOn 105 = .ok (.ifCond .ge 7, 3) := by decide +kernel
theorem dX12_worthOn_108 : decode cX12_worthOn 108 = .ok (.iconst 0, 1) := by decide +kernel
theorem dX12_worthOn_109 : decode cX12_worthOn 109 = .ok (.goto 19, 3) := by decide +kernel
theorem dX12_worthOn_112 : decode cX12_worthOn 112 = .ok (.iload 5, 2) := by decide +kernel
theorem dX12_worthOn_114 : decode cX12_worthOn 114 = .ok (.sipush 999, 3) := by decide +kernel
theorem dX12_worthOn_117 : decode cX12_worthOn 117 = .ok (.if_icmp .le 9, 3) := by decide +kernel
theorem dX12_worthOn_120 : decode cX12_worthOn 120 = .ok (.sipush 999, 3) := by decide +kernel
theorem dX12_worthOn_123 : decode cX12_worthOn 123 = .ok (.goto 5, 3) := by decide +kernel
theorem dX12_worthOn_126 : decode cX12_worthOn 126 = .ok (.iload 5, 2) := by decide +kernel
theorem dX12_worthOn_128 : decode cX12_worthOn 128 = .ok (.ireturn, 1) := by decide +kernel
theorem dX12_rider_0 : decode cX12_rider 0 = .ok (.aload_n 0, 1) := by decide +kernel
theorem dX12_rider_1 : decode cX12_rider 1 = .ok (.aload_n 0, 1) := by decide +kernel
theorem dX12_rider_2 : decode cX12_rider 2 = .ok (.iload_n 1, 1) := by decide +kernel
theorem dX12_rider_3 : decode cX12_rider 3 = .ok (.invokevirtual 387, 3) := by decide +kernel
theorem dX12_rider_6 : decode cX12_rider 6 = .ok (.ifCond .eq 7, 3) := by decide +kernel
theorem dX12_rider_9 : decode cX12_rider 9 = .ok (.iconst 0, 1) := by decide +kernel
theorem dX12_rider_10 : decode cX12_rider 10 = .ok (.goto 4, 3) := by decide +kernel
theorem dX12_rider_13 : decode cX12_rider 13 = .ok (.iconst 1, 1) := by decide +kernel
theorem dX12_rider_14 : decode cX12_rider 14 = .ok (.putfield 1, 3) := by decide +kernel
theorem dX12_rider_17 : decode cX12_rider 17 = .ok (.aload_n 0, 1) := by decide +kernel
theorem dX12_rider_18 : decode cX12_rider 18 = .ok (.getfield 1, 3) := by decide +kernel
theorem dX12_rider_21 : decode cX12_rider 21 = .ok (.ifCond .le 5, 3) := by decide +kernel
theorem dX12_rider_24 : decode cX12_rider 24 = .ok (.iconst 0, 1) := by decide +kernel
theorem dX12_rider_25 : decode cX12_rider 25 = .ok (.ireturn, 1) := by decide +kernel
theorem dX12_rider_26 : decode cX12_rider 26 = .ok (.iload_n 2, 1) := by decide +kernel
theorem dX12_rider_27 : decode cX12_rider 27 = .ok (.iconst 0, 1) := by decide +kernel
theorem dX12_rider_28 : decode cX12_rider 28 = .ok (.iconst 2, 1) := by decide +kernel
theorem dX12_rider_29 : decode cX12_rider 29 = .ok (.invokestatic 308, 3) := by decide +kernel
theorem dX12_rider_32 : decode cX12_rider 32 = .ok (.ifCond .eq 12, 3) := by decide +kernel
theorem dX12_rider_35 : decode cX12_rider 35 = .ok (.aload_n 0, 1) := by decide +kernel
theorem dX12_rider_36 : decode cX12_rider 36 = .ok (.iload_n 1, 1) := by decide +kernel
theorem dX12_rider_37 : decode cX12_rider 37 = .ok (.iload_n 2, 1) := by decide +kernel
theorem dX12_rider_38 : decode cX12_rider 38 = .ok (.invokevirtual 355, 3) := by decide +kernel
theorem dX12_rider_41 : decode cX12_rider 41 = .ok (.goto 37, 3) := by decide +kernel
theorem dX12_rider_44 : decode cX12_rider 44 = .ok (.iload_n 2, 1) := by decide +kernel
theorem dX12_rider_45 : decode cX12_rider 45 = .ok (.iconst 3, 1) := by decide +kernel
theorem dX12_rider_46 : decode cX12_rider 46 = .ok (.if_icmp .ne 14, 3) := by decide +kernel
theorem dX12_rider_49 : decode cX12_rider 49 = .ok (.aload_n 0, 1) := by decide +kernel
theorem dX12_rider_50 : decode cX12_rider 50 = .ok (.getfield 130, 3) := by decide +kernel
theorem dX12_rider_53 : decode cX12_rider 53 = .ok (.iconst 1, 1) := by decide +kernel
theorem dX12_rider_54 : decode cX12_rider 54 = .ok (.iload_n 1, 1) := by decide +kernel
theorem dX12_rider_55 : decode cX12_rider 55 = .ok (.iadd, 1) := by decide +kernel
theorem dX12_rider_56 : decode cX12_rider 56 = .ok (.iaload, 1) := by decide +kernel
theorem dX12_rider_57 : decode cX12_rider 57 = .ok (.goto 21, 3) := by decide +kernel
theorem dX12_rider_60 : decode cX12_rider 60 = .ok (.iload_n 2, 1) := by decide +kernel
theorem dX12_rider_61 : decode cX12_rider 61 = .ok (.iconst 4, 1) := by decide +kernel
theorem dX12_rider_62 : decode cX12_rider 62 = .ok (.if_icmp .ne 15, 3) := by decide +kernel
theorem dX12_rider_65 : decode cX12_rider 65 = .ok (.aload_n 0, 1) := by decide +kernel
theorem dX12_rider_66 : decode cX12_rider 66 = .ok (.getfield 130, 3) := by decide +kernel
theorem dX12_rider_69 : decode cX12_rider 69 = .ok (.bipush 9, 2) := by decide +kernel
theorem dX12_rider_71 : decode cX12_rider 71 = .ok (.iload_n 1, 1) := by decide +kernel
theorem dX12_rider_72 : decode cX12_rider 72 = .ok (.iadd, 1) := by decide +kernel
theorem dX12_rider_73 : decode cX12_rider 73 = .ok (.iaload, 1) := by decide +kernel
theorem dX12_rider_74 : decode cX12_rider 74 = .ok (.goto 4, 3) := by decide +kernel
theorem dX12_rider_77 : decode cX12_rider 77 = .ok (.iconst (-1), 1) := by decide +kernel
theorem dX12_rider_78 : decode cX12_rider 78 = .ok (.ireturn, 1) := by decide +kernel
theorem dX12_stretch_0 : decode cX12_stretch 0 = .ok (.aload_n 0, 1) := by decide +kernel
theorem dX12_stretch_1 : decode cX12_stretch 1 = .ok (.iconst 0, 1) := by decide +kernel
theorem dX12_stretch_2 : decode cX12_stretch 2 = .ok (.putfield 1, 3) := by decide +kernel
theorem dX12_stretch_5 : decode cX12_stretch 5 = .ok (.aload_n 0, 1) := by decide +kernel
theorem dX12_stretch_6 : decode cX12_stretch 6 = .ok (.iload_n 1, 1) := by decide +kernel
theorem dX12_stretch_7 : decode cX12_stretch 7 = .ok (.invokevirtual 390, 3) := by decide +kernel
theorem dX12_stretch_10 : decode cX12_stretch 10 = .ok (.ifCond .eq 24, 3) := by decide +kernel
theorem dX12_stretch_13 : decode cX12_stretch 13 = .ok (.iload_n 2, 1) := by decide +kernel
theorem dX12_stretch_14 : decode cX12_stretch 14 = .ok (.iconst 0, 1) := by decide +kernel
theorem dX12_stretch_15 : decode cX12_stretch 15 = .ok (.aload_n 0, 1) := by decide +kernel
theorem dX12_stretch_16 : decode cX12_stretch 16 = .ok (.invokevirtual 331, 3) := by decide +kernel
theorem dX12_stretch_19 : decode cX12_stretch 19 = .ok (.invokestatic 308, 3) := by decide +kernel
theorem dX12_stretch_22 : decode cX12_stretch 22 = .ok (.ifCond .eq 12, 3) := by decide +kernel
theorem dX12_stretch_25 : decode cX12_stretch 25 = .ok (.aload_n 0, 1) := by decide +kernel
theorem dX12_stretch_26 : decode cX12_stretch 26 = .ok (.iload_n 1, 1) := by decide +kernel
theorem dX12_stretch_27 : decode cX12_stretch 27 = .ok (.iload_n 2, 1) := by decide +kernel
theorem dX12_stretch_28 : decode cX12_stretch 28 = .ok (.invokevirtual 381, 3) := by decide +kernel
theorem dX12_stretch_31 : decode cX12_stretch 31 = .ok (.goto 4, 3) := by decide +kernel
theorem dX12_stretch_34 : decode cX12_stretch 34 = .ok (.iconst (-1), 1) := by decide +kernel
theorem dX12_stretch_35 : decode cX12_stretch 35 = .ok (.ireturn, 1) := by decide +kernel
theorem dX12_lawful_0 : decode cX12_lawful 0 = .ok (.aload_n 0, 1) := by decide +kernel
theorem dX12_lawful_1 : decode cX12_lawful 1 = .ok (.iconst 0, 1) := by decide +kernel
theorem dX12_lawful_2 : decode cX12_lawful 2 = .ok (.putfield 1, 3) := by decide +kernel
theorem dX12_lawful_5 : decode cX12_lawful 5 = .ok (.aload_n 0, 1) := by decide +kernel
theorem dX12_lawful_6 : decode cX12_lawful 6 = .ok (.iload_n 1, 1) := by decide +kernel
theorem dX12_lawful_7 : decode cX12_lawful 7 = .ok (.invokevirtual 393, 3) := by decide +kernel
theorem dX12_lawful_10 : decode cX12_lawful 10 = .ok (.ifCond .ne 7, 3) := by decide +kernel
theorem dX12_lawful_13 : decode cX12_lawful 13 = .ok (.iconst (-1), 1) := by decide +kernel
theorem dX12_lawful_14 : decode cX12_lawful 14 = .ok (.goto 15, 3) := by decide +kernel
theorem dX12_lawful_17 : decode cX12_lawful 17 = .ok (.aload_n 0, 1) := by decide +kernel
theorem dX12_lawful_18 : decode cX12_lawful 18 = .ok (.invokevirtual 396, 3) := by decide +kernel
theorem dX12_lawful_21 : decode cX12_lawful 21 = .ok (.ifCond .eq 7, 3) := by decide +kernel
theorem dX12_lawful_24 : decode cX12_lawful 24 = .ok (.iconst 1, 1) := by decide +kernel
theorem dX12_lawful_25 : decode cX12_lawful 25 = .ok (.goto 4, 3) := by decide +kernel
theorem dX12_lawful_28 : decode cX12_lawful 28 = .ok (.iconst 0, 1) := by decide +kernel
theorem dX12_lawful_29 : decode cX12_lawful 29 = .ok (.ireturn, 1) := by decide +kernel
theorem dX12_worth_0 : decode cX12_worth 0 = .ok (.aload_n 0, 1) := by decide +kernel
theorem dX12_worth_1 : decode cX12_worth 1 = .ok (.iconst 0, 1) := by decide +kernel
theorem dX12_worth_2 : decode cX12_worth 2 = .ok (.putfield 1, 3) := by decide +kernel
theorem dX12_worth_5 : decode cX12_worth 5 = .ok (.aload_n 0, 1) := by decide +kernel
theorem dX12_worth_6 : decode cX12_worth 6 = .ok (.iload_n 1, 1) := by decide +kernel
theorem dX12_worth_7 : decode cX12_worth 7 = .ok (.invokevirtual 393, 3) := by decide +kernel
theorem dX12_worth_10 : decode cX12_worth 10 = .ok (.ifCond .eq 39, 3) := by decide +kernel
theorem dX12_worth_13 : decode cX12_worth 13 = .ok (.aload_n 0, 1) := by decide +kernel
theorem dX12_worth_14 : decode cX12_worth 14 = .ok (.iload_n 2, 1) := by decide +kernel
theorem dX12_worth_15 : decode cX12_worth 15 = .ok (.invokevirtual 387, 3) := by decide +kernel
theorem dX12_worth_18 : decode cX12_worth 18 = .ok (.ifCond .eq 31, 3) := by decide +kernel
theorem dX12_worth_21 : decode cX12_worth 21 = .ok (.aload_n 0, 1) := by decide +kernel
theorem dX12_worth_22 : decode cX12_worth 22 = .ok (.iload_n 3, 1) := by decide +kernel
theorem dX12_worth_23 : decode cX12_worth 23 = .ok (.invokevirtual 390, 3) := by decide +kernel
theorem dX12_worth_26 : decode cX12_worth 26 = .ok (.ifCond .eq 23, 3) := by decide +kernel
theorem dX12_worth_29 : decode cX12_worth 29 = .ok (.aload_n 0, 1) := by decide +kernel
theorem dX12_worth_30 : decode cX12_worth 30 = .ok (.iload_n 2, 1) := by decide +kernel
theorem dX12_worth_31 : decode cX12_worth 31 = .ok (.aload_n 0, 1) := by decide +kernel
theorem dX12_worth_32 : decode cX12_worth 32 = .ok (.getfield 137, 3) := by decide +kernel
theorem dX12_worth_35 : decode cX12_worth 35 = .ok (.iload_n 2, 1) := by decide +kernel
theorem dX12_worth_36 : decode cX12_worth 36 = .ok (.iaload, 1) := by decide +kernel
theorem dX12_worth_37 : decode cX12_worth 37 = .ok (.iload_n 3, 1) := by decide +kernel
theorem dX12_worth_38 : decode cX12_worth 38 = .ok (.aload_n 0, 1) := by decide +kernel
theorem dX12_worth_39 : decode cX12_worth 39 = .ok (.iload_n 2, 1) := by decide +kernel
theorem dX12_worth_40 : decode cX12_worth 40 = .ok (.invokevirtual 399, 3) := by decide +kernel
theorem dX12_worth_43 : decode cX12_worth 43 = .ok (.invokevirtual 402, 3) := by decide +kernel
theorem dX12_worth_46 : decode cX12_worth 46 = .ok (.goto 4, 3) := by decide +kernel
theorem dX12_worth_49 : decode cX12_worth 49 = .ok (.iconst (-1), 1) := by decide +kernel
theorem dX12_worth_50 : decode cX12_worth 50 = .ok (.ireturn, 1) := by decide +kernel
theorem dX12_plans_0 : decode cX12_plans 0 = .ok (.aload_n 0, 1) := by decide +kernel
theorem dX12_plans_1 : decode cX12_plans 1 = .ok (.iconst 0, 1) := by decide +kernel
theorem dX12_plans_2 : decode cX12_plans 2 = .ok (.putfield 1, 3) := by decide +kernel
theorem dX12_plans_5 : decode cX12_plans 5 = .ok (.iconst 0, 1) := by decide +kernel
theorem dX12_plans_6 : decode cX12_plans 6 = .ok (.istore_n 1, 1) := by decide +kernel
theorem dX12_plans_7 : decode cX12_plans 7 = .ok (.iconst 0, 1) := by decide +kernel
theorem dX12_plans_8 : decode cX12_plans 8 = .ok (.istore_n 2, 1) := by decide +kernel
theorem dX12_plans_9 : decode cX12_plans 9 = .ok (.iload_n 2, 1) := by decide +kernel
theorem dX12_plans_10 : decode cX12_plans 10 = .ok (.sipush 256, 3) := by decide +kernel
theorem dX12_plans_13 : decode cX12_plans 13 = .ok (.if_icmp .ge 32, 3) := by decide +kernel
theorem dX12_plans_16 : decode cX12_plans 16 = .ok (.iload_n 1, 1) := by decide +kernel
theorem dX12_plans_17 : decode cX12_plans 17 = .ok (.aload_n 0, 1) := by decide +kernel
theorem dX12_plans_18 : decode cX12_plans 18 = .ok (.iload_n 2, 1) := by decide +kernel
theorem dX12_plans_19 : decode cX12_plans 19 = .ok (.invokevirtual 393, 3) := by decide +kernel
theorem dX12_plans_22 : decode cX12_plans 22 = .ok (.ifCond .eq 14, 3) := by decide +kernel
theorem dX12_plans_25 : decode cX12_plans 25 = .ok (.aload_n 0, 1) := by decide +kernel
theorem dX12_plans_26 : decode cX12_plans 26 = .ok (.invokevirtual 396, 3) := by decide +kernel
theorem dX12_plans_29 : decode cX12_plans 29 = .ok (.ifCond .eq 7, 3) := by decide +kernel
theorem dX12_plans_32 : decode cX12_plans 32 = .ok (.iconst 1, 1) := by decide +kernel
theorem dX12_plans_33 : decode cX12_plans 33 = .ok (.goto 4, 3) := by decide +kernel
theorem dX12_plans_36 : decode cX12_plans 36 = .ok (.iconst 0, 1) := by decide +kernel
theorem dX12_plans_37 : decode cX12_plans 37 = .ok (.iadd, 1) := by decide +kernel
theorem dX12_plans_38 : decode cX12_plans 38 = .ok (.istore_n 1, 1) := by decide +kernel
theorem dX12_plans_39 : decode cX12_plans 39 = .ok (.iinc 2 1, 3) := by decide +kernel
theorem dX12_plans_42 : decode cX12_plans 42 = .ok (.goto (-33), 3) := by decide +kernel
theorem dX12_plans_45 : decode cX12_plans 45 = .ok (.iload_n 1, 1) := by decide +kernel
theorem dX12_plans_46 : decode cX12_plans 46 = .ok (.ireturn, 1) := by decide +kernel
theorem dX12_sitsOn_0 : decode cX12_sitsOn 0 = .ok (.iconst (-1), 1) := by decide +kernel
theorem dX12_sitsOn_1 : decode cX12_sitsOn 1 = .ok (.istore 4, 2) := by decide +kernel
theorem dX12_sitsOn_3 : decode cX12_sitsOn 3 = .ok (.iconst 0, 1) := by decide +kernel
theorem dX12_sitsOn_4 : decode cX12_sitsOn 4 = .ok (.istore 5, 2) := by decide +kernel
theorem dX12_sitsOn_6 : decode cX12_sitsOn 6 = .ok (.iload 5, 2) := by decide +kernel
theorem dX12_sitsOn_8 : decode cX12_sitsOn 8 = .ok (.aload_n 0, 1) := by decide +kernel
theorem dX12_sitsOn_9 : decode cX12_sitsOn 9 = .ok (.invokevirtual 334, 3) := by decide +kernel
theorem dX12_sitsOn_12 : decode cX12_sitsOn 12 = .ok (.if_icmp .ge 33, 3) := by decide +kernel
theorem dX12_sitsOn_15 : decode cX12_sitsOn 15 = .ok (.aload_n 0, 1) := by decide +kernel
theorem dX12_sitsOn_16 : decode cX12_sitsOn 16 = .ok (.getfield 130, 3) := by decide +kernel
theorem dX12_sitsOn_19 : decode cX12_sitsOn 19 = .ok (.iload_n 1, 1) := by decide +kernel
theorem dX12_sitsOn_20 : decode cX12_sitsOn 20 = .ok (.iconst 1, 1) := by decide +kernel
theorem dX12_sitsOn_21 : decode cX12_sitsOn 21 = .ok (.iadd, 1) := by decide +kernel
theorem dX12_sitsOn_22 : decode cX12_sitsOn 22 = .ok (.iload 5, 2) := by decide +kernel
theorem dX12_sitsOn_24 : decode cX12_sitsOn 24 = .ok (.iadd, 1) := by decide +kernel
theorem dX12_sitsOn_25 : decode cX12_sitsOn 25 = .ok (.iaload, 1) := by decide +kernel
theorem dX12_sitsOn_26 : decode cX12_sitsOn 26 = .ok (.iload_n 3, 1) := by decide +kernel
theorem dX12_sitsOn_27 : decode cX12_sitsOn 27 = .ok (.if_icmp .ne 8, 3) := by decide +kernel
theorem dX12_sitsOn_30 : decode cX12_sitsOn 30 = .ok (.iload 5, 2) := by decide +kernel
theorem dX12_sitsOn_32 : decode cX12_sitsOn 32 = .ok (.goto 5, 3) := by decide +kernel
theorem dX12_sitsOn_35 : decode cX12_sitsOn 35 = .ok (.iload 4, 2) := by decide +kernel
theorem dX12_sitsOn_37 : decode cX12_sitsOn 37 = .ok (.istore 4, 2) := by decide +kernel
theorem dX12_sitsOn_39 : decode cX12_sitsOn 39 = .ok (.iinc 5 1, 3) := by decide +kernel
theorem dX12_sitsOn_42 : decode cX12_sitsOn 42 = .ok (.goto (-36), 3) := by decide +kernel
theorem dX12_sitsOn_45 : decode cX12_sitsOn 45 = .ok (.iload 4, 2) := by decide +kernel
theorem dX12_sitsOn_47 : decode cX12_sitsOn 47 = .ok (.ifCond .lt 24, 3) := by decide +kernel
theorem dX12_sitsOn_50 : decode cX12_sitsOn 50 = .ok (.aload_n 0, 1) := by decide +kernel
theorem dX12_sitsOn_51 : decode cX12_sitsOn 51 = .ok (.getfield 130, 3) := by decide +kernel
theorem dX12_sitsOn_54 : decode cX12_sitsOn 54 = .ok (.iload_n 1, 1) := by decide +kernel
theorem dX12_sitsOn_55 : decode cX12_sitsOn 55 = .ok (.iconst 1, 1) := by decide +kernel
theorem dX12_sitsOn_56 : decode cX12_sitsOn 56 = .ok (.iadd, 1) := by decide +kernel
theorem dX12_sitsOn_57 : decode cX12_sitsOn 57 = .ok (.iload 4, 2) := by decide +kernel
theorem dX12_sitsOn_59 : decode cX12_sitsOn 59 = .ok (.iadd, 1) := by decide +kernel
theorem dX12_sitsOn_60 : decode cX12_sitsOn 60 = .ok (.aload_n 0, 1) := by decide +kernel
theorem dX12_sitsOn_61 : decode cX12_sitsOn 61 = .ok (.getfield 130, 3) := by decide +kernel
theorem dX12_sitsOn_64 : decode cX12_sitsOn 64 = .ok (.iload_n 1, 1) := by decide +kernel
theorem dX12_sitsOn_65 : decode cX12_sitsOn 65 = .ok (.iconst 1, 1) := by decide +kernel
theorem dX12_sitsOn_66 : decode cX12_sitsOn 66 = .ok (.iadd, 1) := by decide +kernel
theorem dX12_sitsOn_67 : decode cX12_sitsOn 67 = .ok (.iload_n 2, 1) := by decide +kernel
theorem dX12_sitsOn_68 : decode cX12_sitsOn 68 = .ok (.iadd, 1) := by decide +kernel
theorem dX12_sitsOn_69 : decode cX12_sitsOn 69 = .ok (.iaload, 1) := by decide +kernel
theorem dX12_sitsOn_70 : decode cX12_sitsOn 70 = .ok (.iastore, 1) := by decide +kernel
theorem dX12_sitsOn_71 : decode cX12_sitsOn 71 = .ok (.aload_n 0, 1) := by decide +kernel
theorem dX12_sitsOn_72 : decode cX12_sitsOn 72 = .ok (.getfield 130, 3) := by decide +kernel
theorem dX12_sitsOn_75 : decode cX12_sitsOn 75 = .ok (.iload_n 1, 1) := by decide +kernel
theorem dX12_sitsOn_76 : decode cX12_sitsOn 76 = .ok (.iconst 1, 1) := by decide +kernel
theorem dX12_sitsOn_77 : decode cX12_sitsOn 77 = .ok (.iadd, 1) := by decide +kernel
theorem dX12_sitsOn_78 : decode cX12_sitsOn 78 = .ok (.iload_n 2, 1) := by decide +kernel
theorem dX12_sitsOn_79 : decode cX12_sitsOn 79 = .ok (.iadd, 1) := by decide +kernel
theorem dX12_sitsOn_80 : decode cX12_sitsOn 80 = .ok (.iload_n 3, 1) := by decide +kernel
theorem dX12_sitsOn_81 : decode cX12_sitsOn 81 = .ok (.iastore, 1) := by decide +kernel
theorem dX12_sitsOn_82 : decode cX12_sitsOn 82 = .ok (.iload 4, 2) := by decide +kernel
theorem dX12_sitsOn_84 : decode cX12_sitsOn 84 = .ok (.ireturn, 1) := by decide +kernel
theorem dX12_sit_0 : decode cX12_sit 0 = .ok (.aload_n 0, 1) := by decide +kernel
theorem dX12_sit_1 : decode cX12_sit 1 = .ok (.iconst 0, 1) := by decide +kernel
theorem dX12_sit_2 : decode cX12_sit 2 = .ok (.putfield 1, 3) := by decide +kernel
theorem dX12_sit_5 : decode cX12_sit 5 = .ok (.aload_n 0, 1) := by decide +kernel
theorem dX12_sit_6 : decode cX12_sit 6 = .ok (.iload_n 1, 1) := by decide +kernel
theorem dX12_sit_7 : decode cX12_sit 7 = .ok (.invokevirtual 387, 3) := by decide +kernel
theorem dX12_sit_10 : decode cX12_sit 10 = .ok (.ifCond .eq 23, 3) := by decide +kernel
theorem dX12_sit_13 : decode cX12_sit 13 = .ok (.aload_n 0, 1) := by decide +kernel
theorem dX12_sit_14 : decode cX12_sit 14 = .ok (.iload_n 2, 1) := by decide +kernel
theorem dX12_sit_15 : decode cX12_sit 15 = .ok (.invokevirtual 406, 3) := by decide +kernel
theorem dX12_sit_18 : decode cX12_sit 18 = .ok (.ifCond .eq 15, 3) := by decide +kernel
theorem dX12_sit_21 : decode cX12_sit 21 = .ok (.aload_n 0, 1) := by decide +kernel
theorem dX12_sit_22 : decode cX12_sit 22 = .ok (.getfield 130, 3) := by decide +kernel
theorem dX12_sit_25 : decode cX12_sit 25 = .ok (.iconst 1, 1) := by decide +kernel
theorem dX12_sit_26 : decode cX12_sit 26 = .ok (.iload_n 1, 1) := by decide +kernel
theorem dX12_sit_27 : decode cX12_sit 27 = .ok (.iadd, 1) := by decide +kernel
theorem dX12_sit_28 : decode cX12_sit 28 = .ok (.iaload, 1) := by decide +kernel
theorem dX12_sit_29 : decode cX12_sit 29 = .ok (.iload_n 2, 1) := by decide +kernel
theorem dX12_sit_30 : decode cX12_sit 30 = .ok (.if_icmp .ne 6, 3) := by decide +kernel
theorem dX12_sit_33 : decode cX12_sit 33 = .ok (.bipush (-2), 2) := by decide +kernel
theorem dX12_sit_35 : decode cX12_sit 35 = .ok (.ireturn, 1) := by decide +kernel
theorem dX12_sit_36 : decode cX12_sit 36 = .ok (.aload_n 0, 1) := by decide +kernel
theorem dX12_sit_37 : decode cX12_sit 37 = .ok (.invokevirtual 409, 3) := by decide +kernel
theorem dX12_sit_40 : decode cX12_sit 40 = .ok (.aload_n 0, 1) := by decide +kernel
theorem dX12_sit_41 : decode cX12_sit 41 = .ok (.iconst 0, 1) := by decide +kernel
theorem dX12_sit_42 : decode cX12_sit 42 = .ok (.iload_n 1, 1) := by decide +kernel
theorem dX12_sit_43 : decode cX12_sit 43 = .ok (.iload_n 2, 1) := by decide +kernel
theorem dX12_sit_44 : decode cX12_sit 44 = .ok (.invokevirtual 412, 3) := by decide +kernel
theorem dX12_sit_47 : decode cX12_sit 47 = .ok (.ireturn, 1) := by decide +kernel
theorem dX12_mayDrive_0 : decode cX12_mayDrive 0 = .ok (.aload_n 0, 1) := by decide +kernel
theorem dX12_mayDrive_1 : decode cX12_mayDrive 1 = .ok (.getfield 130, 3) := by decide +kernel
theorem dX12_mayDrive_4 : decode cX12_mayDrive 4 = .ok (.iload_n 1, 1) := by decide +kernel
theorem dX12_mayDrive_5 : decode cX12_mayDrive 5 = .ok (.iconst 0, 1) := by decide +kernel
theorem dX12_mayDrive_6 : decode cX12_mayDrive 6 = .ok (.iadd, 1) := by decide +kernel
theorem dX12_mayDrive_7 : decode cX12_mayDrive 7 = .ok (.iaload, 1) := by decide +kernel
theorem dX12_mayDrive_8 : decode cX12_mayDrive 8 = .ok (.aload_n 0, 1) := by decide +kernel
theorem dX12_mayDrive_9 : decode cX12_mayDrive 9 = .ok (.invokevirtual 368, 3) := by decide +kernel
theorem dX12_mayDrive_12 : decode cX12_mayDrive 12 = .ok (.if_icmp .ge 7, 3) := by decide +kernel
theorem dX12_mayDrive_15 : decode cX12_mayDrive 15 = .ok (.iconst 1, 1) := by decide +kernel
theorem dX12_mayDrive_16 : decode cX12_mayDrive 16 = .ok (.goto 4, 3) := by decide +kernel
theorem dX12_mayDrive_19 : decode cX12_mayDrive 19 = .ok (.iconst 0, 1) := by decide +kernel
theorem dX12_mayDrive_20 : decode cX12_mayDrive 20 = .ok (.istore_n 2, 1) := by decide +kernel
theorem dX12_mayDrive_21 : decode cX12_mayDrive 21 = .ok (.iconst 0, 1) := by decide +kernel
theorem dX12_mayDrive_22 : decode cX12_mayDrive 22 = .ok (.istore_n 3, 1) := by decide +kernel
theorem dX12_mayDrive_23 : decode cX12_mayDrive 23 = .ok (.iload_n 3, 1) := by decide +kernel
theorem dX12_mayDrive_24 : decode cX12_mayDrive 24 = .ok (.aload_n 0, 1) := by decide +kernel
theorem dX12_mayDrive_25 : decode cX12_mayDrive 25 = .ok (.invokevirtual 334, 3) := by decide +kernel
theorem dX12_mayDrive_28 : decode cX12_mayDrive 28 = .ok (.if_icmp .ge 44, 3) := by decide +kernel
theorem dX12_mayDrive_31 : decode cX12_mayDrive 31 = .ok (.aload_n 0, 1) := by decide +kernel
theorem dX12_mayDrive_32 : decode cX12_mayDrive 32 = .ok (.getfield 137, 3) := by decide +kernel
theorem dX12_mayDrive_35 : decode cX12_mayDrive 35 = .ok (.iload_n 3, 1) := by decide +kernel
theorem dX12_mayDrive_36 : decode cX12_mayDrive 36 = .ok (.aload_n 0, 1) := by decide +kernel
theorem dX12_mayDrive_37 : decode cX12_mayDrive 37 = .ok (.getfield 130, 3) := by decide +kernel
theorem dX12_mayDrive_40 : decode cX12_mayDrive 40 = .ok (.iload_n 1, 1) := by decide +kernel
theorem dX12_mayDrive_41 : decode cX12_mayDrive 41 = .ok (.iconst 1, 1) := by decide +kernel
theorem dX12_mayDrive_42 : decode cX12_mayDrive 42 = .ok (.iadd, 1) := by decide +kernel
theorem dX12_mayDrive_43 : decode cX12_mayDrive 43 = .ok (.iload_n 3, 1) := by decide +kernel
theorem dX12_mayDrive_44 : decode cX12_mayDrive 44 = .ok (.iadd, 1) := by decide +kernel
theorem dX12_mayDrive_45 : decode cX12_mayDrive 45 = .ok (.iaload, 1) := by decide +kernel
theorem dX12_mayDrive_46 : decode cX12_mayDrive 46 = .ok (.iastore, 1) := by decide +kernel
theorem dX12_mayDrive_47 : decode cX12_mayDrive 47 = .ok (.iload_n 2, 1) := by decide +kernel
theorem dX12_mayDrive_48 : decode cX12_mayDrive 48 = .ok (.ifCond .eq 16, 3) := by decide +kernel
theorem dX12_mayDrive_51 : decode cX12_mayDrive 51 = .ok (.aload_n 0, 1) := by decide +kernel
theorem dX12_mayDrive_52 : decode cX12_mayDrive 52 = .ok (.getfield 137, 3) := by decide +kernel
theorem dX12_mayDrive_55 : decode cX12_mayDrive 55 = .ok (.iload_n 3, 1) := by decide +kernel
theorem dX12_mayDrive_56 : decode cX12_mayDrive 56 = .ok (.iaload, 1) := by decide +kernel
theorem dX12_mayDrive_57 : decode cX12_mayDrive 57 = .ok (.ifCond .lt 7, 3) := by decide +kernel
theorem dX12_mayDrive_60 : decode cX12_mayDrive 60 = .ok (.iconst 1, 1) := by decide +kernel
theorem dX12_mayDrive_61 : decode cX12_mayDrive 61 = .ok (.goto 4, 3) := by decide +kernel
theorem dX12_mayDrive_64 : decode cX12_mayDrive 64 = .ok (.iconst 0, 1) := by decide +kernel
theorem dX12_mayDrive_65 : decode cX12_mayDrive 65 = .ok (.istore_n 2, 1) := by decide +kernel
theorem dX12_mayDrive_66 : decode cX12_mayDrive 66 = .ok (.iinc 3 1, 3) := by decide +kernel
theorem dX12_mayDrive_69 : decode cX12_mayDrive 69 = .ok (.goto (-46), 3) := by decide +kernel
theorem dX12_mayDrive_72 : decode cX12_mayDrive 72 = .ok (.iload_n 2, 1) := by decide +kernel
theorem dX12_mayDrive_73 : decode cX12_mayDrive 73 = .ok (.ifCond .eq 14, 3) := by decide +kernel
theorem dX12_mayDrive_76 : decode cX12_mayDrive 76 = .ok (.aload_n 0, 1) := by decide +kernel
theorem dX12_mayDrive_77 : decode cX12_mayDrive 77 = .ok (.invokevirtual 396, 3) := by decide +kernel
theorem dX12_mayDrive_80 : decode cX12_mayDrive 80 = .ok (.ifCond .eq 7, 3) := by decide +kernel
theorem dX12_mayDrive_83 : decode cX12_mayDrive 83 = .ok (.iconst 1, 1) := by decide +kernel
theorem dX12_mayDrive_84 : decode cX12_mayDrive 84 = .ok (.goto 4, 3) := by decide +kernel
theorem dX12_mayDrive_87 : decode cX12_mayDrive 87 = .ok (.iconst 0, 1) := by decide +kernel
theorem dX12_mayDrive_88 : decode cX12_mayDrive 88 = .ok (.ireturn, 1) := by decide +kernel
theorem dX12_drives_0 : decode cX12_drives 0 = .ok (.iconst 0, 1) := by decide +kernel
theorem dX12_drives_1 : decode cX12_drives 1 = .ok (.istore_n 2, 1) := by decide +kernel
theorem dX12_drives_2 : decode cX12_drives 2 = .ok (.iload_n 2, 1) := by decide +kernel
theorem dX12_drives_3 : decode cX12_drives 3 = .ok (.aload_n 0, 1) := by decide +kernel
theorem dX12_drives_4 : decode cX12_drives 4 = .ok (.invokevirtual 334, 3) := by decide +kernel
theorem dX12_drives_7 : decode cX12_drives 7 = .ok (.if_icmp .ge 83, 3) := by decide +kernel
theorem dX12_drives_10 : decode cX12_drives 10 = .ok (.aload_n 0, 1) := by decide +kernel
theorem dX12_drives_11 : decode cX12_drives 11 = .ok (.getfield 130, 3) := by decide +kernel
theorem dX12_drives_14 : decode cX12_drives 14 = .ok (.iload_n 1, 1) := by decide +kernel
theorem dX12_drives_15 : decode cX12_drives 15 = .ok (.iconst 5, 1) := by decide +kernel
theorem dX12_drives_16 : decode cX12_drives 16 = .ok (.iadd, 1) := by decide +kernel
theorem dX12_drives_17 : decode cX12_drives 17 = .ok (.iload_n 2, 1) := by decide +kernel
theorem dX12_drives_18 : decode cX12_drives 18 = .ok (.iadd, 1) := by decide +kernel
theorem dX12_drives_19 : decode cX12_drives 19 = .ok (.iaload, 1) := by decide +kernel
theorem dX12_drives_20 : decode cX12_drives 20 = .ok (.istore_n 3, 1) := by decide +kernel
theorem dX12_drives_21 : decode cX12_drives 21 = .ok (.aload_n 0, 1) := by decide +kernel
theorem dX12_drives_22 : decode cX12_drives 22 = .ok (.getfield 130, 3) := by decide +kernel
theorem dX12_drives_25 : decode cX12_drives 25 = .ok (.iload_n 1, 1) := by decide +kernel
theorem dX12_drives_26 : decode cX12_drives 26 = .ok (.bipush 9, 2) := by decide +kernel
theorem dX12_drives_28 : decode cX12_drives 28 = .ok (.iadd, 1) := by decide +kernel
theorem dX12_drives_29 : decode cX12_drives 29 = .ok (.iload_n 2, 1) := by decide +kernel
theorem dX12_drives_30 : decode cX12_drives 30 = .ok (.iadd, 1) := by decide +kernel
theorem dX12_drives_31 : decode cX12_drives 31 = .ok (.dup2, 1) := by decide +kernel
theorem dX12_drives_32 : decode cX12_drives 32 = .ok (.iaload, 1) := by decide +kernel
theorem dX12_drives_33 : decode cX12_drives 33 = .ok (.aload_n 0, 1) := by decide +kernel
theorem dX12_drives_34 : decode cX12_drives 34 = .ok (.iload_n 2, 1) := by decide +kernel
theorem dX12_drives_35 : decode cX12_drives 35 = .ok (.aload_n 0, 1) := by decide +kernel
theorem dX12_drives_36 : decode cX12_drives 36 = .ok (.getfield 137, 3) := by decide +kernel
theorem dX12_drives_39 : decode cX12_drives 39 = .ok (.iload_n 2, 1) := by decide +kernel
theorem dX12_drives_40 : decode cX12_drives 40 = .ok (.iaload, 1) := by decide +kernel
theorem dX12_drives_41 : decode cX12_drives 41 = .ok (.aload_n 0, 1) := by decide +kernel
theorem dX12_drives_42 : decode cX12_drives 42 = .ok (.getfield 130, 3) := by decide +kernel
theorem dX12_drives_45 : decode cX12_drives 45 = .ok (.iload_n 1, 1) := by decide +kernel
theorem dX12_drives_46 : decode cX12_drives 46 = .ok (.iconst 0, 1) := by decide +kernel
theorem dX12_drives_47 : decode cX12_drives 47 = .ok (.iadd, 1) := by decide +kernel
theorem dX12_drives_48 : decode cX12_drives 48 = .ok (.iaload, 1) := by decide +kernel
theorem dX12_drives_49 : decode cX12_drives 49 = .ok (.aload_n 0, 1) := by decide +kernel
theorem dX12_drives_50 : decode cX12_drives 50 = .ok (.iload_n 2, 1) := by decide +kernel
theorem dX12_drives_51 : decode cX12_drives 51 = .ok (.invokevirtual 399, 3) := by decide +kernel
theorem dX12_drives_54 : decode cX12_drives 54 = .ok (.invokevirtual 402, 3) := by decide +kernel
theorem dX12_drives_57 : decode cX12_drives 57 = .ok (.iload_n 3, 1) := by decide +kernel
theorem dX12_drives_58 : decode cX12_drives 58 = .ok (.ifCond .lt 22, 3) := by decide +kernel
theorem dX12_drives_61 : decode cX12_drives 61 = .ok (.iload_n 3, 1) := by decide +kernel
theorem dX12_drives_62 : decode cX12_drives 62 = .ok (.aload_n 0, 1) := by decide +kernel
theorem dX12_drives_63 : decode cX12_drives 63 = .ok (.getfield 137, 3) := by decide +kernel
theorem dX12_drives_66 : decode cX12_drives 66 = .ok (.iload_n 2, 1) := by decide +kernel
theorem dX12_drives_67 : decode cX12_drives 67 = .ok (.iaload, 1) := by decide +kernel
theorem dX12_drives_68 : decode cX12_drives 68 = .ok (.if_icmp .eq 12, 3) := by decide +kernel
theorem dX12_drives_71 : decode cX12_drives 71 = .ok (.aload_n 0, 1) := by decide +kernel
theorem dX12_drives_72 : decode cX12_drives 72 = .ok (.getfield 97, 3) := by decide +kernel
theorem dX12_drives_75 : decode cX12_drives 75 = .ok (.iconst 4, 1) := by decide +kernel
theorem dX12_drives_76 : decode cX12_drives 76 = .ok (.iaload, 1) := by decide +kernel
theorem dX12_drives_77 : decode cX12_drives 77 = .ok (.goto 4, 3) := by decide +kernel
theorem dX12_drives_80 : decode cX12_drives 80 = .ok (.iconst 0, 1) := by decide +kernel
theorem dX12_drives_81 : decode cX12_drives 81 = .ok (.isub, 1) := by decide +kernel
theorem dX12_drives_82 : decode cX12_drives 82 = .ok (.iadd, 1) := by decide +kernel
theorem dX12_drives_83 : decode cX12_drives 83 = .ok (.iastore, 1) := by decide +kernel
theorem dX12_drives_84 : decode cX12_drives 84 = .ok (.iinc 2 1, 3) := by decide +kernel
theorem dX12_drives_87 : decode cX12_drives 87 = .ok (.goto (-85), 3) := by decide +kernel
theorem dX12_drives_90 : decode cX12_drives 90 = .ok (.iconst 0, 1) := by decide +kernel
theorem dX12_drives_91 : decode cX12_drives 91 = .ok (.istore_n 2, 1) := by decide +kernel
theorem dX12_drives_92 : decode cX12_drives 92 = .ok (.iload_n 2, 1) := by decide +kernel
theorem dX12_drives_93 : decode cX12_drives 93 = .ok (.aload_n 0, 1) := by decide +kernel
theorem dX12_drives_94 : decode cX12_drives 94 = .ok (.invokevirtual 334, 3) := by decide +kernel
theorem dX12_drives_97 : decode cX12_drives 97 = .ok (.if_icmp .ge 25, 3) := by decide +kernel
theorem dX12_drives_100 : decode cX12_drives 100 = .ok (.aload_n 0, 1) := by decide +kernel
theorem dX12_drives_101 : decode cX12_drives 101 = .ok (.getfield 130, 3) := by decide +kernel
theorem dX12_drives_104 : decode cX12_drives 104 = .ok (.iload_n 1, 1) := by decide +kernel
theorem dX12_drives_105 : decode cX12_drives 105 = .ok (.iconst 5, 1) := by decide +kernel
theorem dX12_drives_106 : decode cX12_drives 106 = .ok (.iadd, 1) := by decide +kernel
theorem dX12_drives_107 : decode cX12_drives 107 = .ok (.iload_n 2, 1) := by decide +kernel
theorem dX12_drives_108 : decode cX12_drives 108 = .ok (.iadd, 1) := by decide +kernel
theorem dX12_drives_109 : decode cX12_drives 109 = .ok (.aload_n 0, 1) := by decide +kernel
theorem dX12_drives_110 : decode cX12_drives 110 = .ok (.getfield 137, 3) := by decide +kernel
theorem dX12_drives_113 : decode cX12_drives 113 = .ok (.iload_n 2, 1) := by decide +kernel
theorem dX12_drives_114 : decode cX12_drives 114 = .ok (.iaload, 1) := by decide +kernel
theorem dX12_drives_115 : decode cX12_drives 115 = .ok (.iastore, 1) := by decide +kernel
theorem dX12_drives_116 : decode cX12_drives 116 = .ok (.iinc 2 1, 3) := by decide +kernel
theorem dX12_drives_119 : decode cX12_drives 119 = .ok (.goto (-27), 3) := by decide +kernel
theorem dX12_drives_122 : decode cX12_drives 122 = .ok (.aload_n 0, 1) := by decide +kernel
theorem dX12_drives_123 : decode cX12_drives 123 = .ok (.getfield 130, 3) := by decide +kernel
theorem dX12_drives_126 : decode cX12_drives 126 = .ok (.iload_n 1, 1) := by decide +kernel
theorem dX12_drives_127 : decode cX12_drives 127 = .ok (.iconst 0, 1) := by decide +kernel
theorem dX12_drives_128 : decode cX12_drives 128 = .ok (.iadd, 1) := by decide +kernel
theorem dX12_drives_129 : decode cX12_drives 129 = .ok (.dup2, 1) := by decide +kernel
theorem dX12_drives_130 : decode cX12_drives 130 = .ok (.iaload, 1) := by decide +kernel
theorem dX12_drives_131 : decode cX12_drives 131 = .ok (.iconst 1, 1) := by decide +kernel
theorem dX12_drives_132 : decode cX12_drives 132 = .ok (.iadd, 1) := by decide +kernel
theorem dX12_drives_133 : decode cX12_drives 133 = .ok (.iastore, 1) := by decide +kernel
theorem dX12_drives_134 : decode cX12_drives 134 = .ok (.return_, 1) := by decide +kernel
theorem dX12_drive_0 : decode cX12_drive 0 = .ok (.aload_n 0, 1) := by decide +kernel
theorem dX12_drive_1 : decode cX12_drive 1 = .ok (.iconst 0, 1) := by decide +kernel
theorem dX12_drive_2 : decode cX12_drive 2 = .ok (.putfield 1, 3) := by decide +kernel
theorem dX12_drive_5 : decode cX12_drive 5 = .ok (.aload_n 0, 1) := by decide +kernel
theorem dX12_drive_6 : decode cX12_drive 6 = .ok (.iconst 0, 1) := by decide +kernel
theorem dX12_drive_7 : decode cX12_drive 7 = .ok (.invokevirtual 415, 3) := by decide +kernel
theorem dX12_drive_10 : decode cX12_drive 10 = .ok (.ifCond .ne 5, 3) := by decide +kernel
theorem dX12_drive_13 : decode cX12_drive 13 = .ok (.iconst (-1), 1) := by decide +kernel
theorem dX12_drive_14 : decode cX12_drive 14 = .ok (.ireturn, 1) := by decide +kernel
theorem dX12_drive_15 : decode cX12_drive 15 = .ok (.aload_n 0, 1) := by decide +kernel
theorem dX12_drive_16 : decode cX12_drive 16 = .ok (.invokevirtual 409, 3) := by decide +kernel
theorem dX12_drive_19 : decode cX12_drive 19 = .ok (.aload_n 0, 1) := by decide +kernel
theorem dX12_drive_20 : decode cX12_drive 20 = .ok (.iconst 0, 1) := by decide +kernel
theorem dX12_drive_21 : decode cX12_drive 21 = .ok (.invokevirtual 418, 3) := by decide +kernel
theorem dX12_drive_24 : decode cX12_drive 24 = .ok (.aload_n 0, 1) := by decide +kernel
theorem dX12_drive_25 : decode cX12_drive 25 = .ok (.getfield 130, 3) := by decide +kernel
theorem dX12_drive_28 : decode cX12_drive 28 = .ok (.iconst 0, 1) := by decide +kernel
theorem dX12_drive_29 : decode cX12_drive 29 = .ok (.iaload, 1) := by decide +kernel
theorem dX12_drive_30 : decode cX12_drive 30 = .ok (.ireturn, 1) := by decide +kernel
theorem dX12_undo_0 : decode cX12_undo 0 = .ok (.aload_n 0, 1) := by decide +kernel
theorem dX12_undo_1 : decode cX12_undo 1 = .ok (.iconst 0, 1) := by decide +kernel
theorem dX12_undo_2 : decode cX12_undo 2 = .ok (.putfield 1, 3) := by decide +kernel
theorem dX12_undo_5 : decode cX12_undo 5 = .ok (.aload_n 0, 1) := by decide +kernel
theorem dX12_undo_6 : decode cX12_undo 6 = .ok (.getfield 361, 3) := by decide +kernel
