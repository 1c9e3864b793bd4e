theorem dL_areTold_160 : decode cL_areTold 160 = .ok (.iinc 8 1, 3) := by decide +kernel
theorem dL_areTold_163 : decode cL_areTold 163 = .ok (.goto (-62), 3) := by decide +kernel
theorem dL_areTold_166 : decode cL_areTold 166 = .ok (.bipush 10, 2) := by decide +kernel
theorem dL_areTold_168 : decode cL_areTold 168 = .ok (.newarray .int, 2) := by decide +kernel
theorem dL_areTold_170 : decode cL_areTold 170 = .ok (.astore 8, 2) := by decide +kernel
theorem dL_areTold_172 : decode cL_areTold 172 = .ok (.bipush 10, 2) := by decide +kernel
theorem dL_areTold_174 : decode cL_areTold 174 = .ok (.newarray .int, 2) := by decide +kernel
theorem dL_areTold_176 : decode cL_areTold 176 = .ok (.astore 9, 2) := by decide +kernel
theorem dL_areTold_178 : decode cL_areTold 178 = .ok (.iconst 0, 1) := by decide +kernel
theorem dL_areTold_179 : decode cL_areTold 179 = .ok (.istore 10, 2) := by decide +kernel
theorem dL_areTold_181 : decode cL_areTold 181 = .ok (.iload 10, 2) := by decide +kernel
theorem dL_areTold_183 : decode cL_areTold 183 = .ok (.bipush 10, 2) := by decide +kernel
theorem dL_areTold_185 : decode cL_areTold 185 = .ok (.if_icmp .ge 29, 3) := by decide +kernel
theorem dL_areTold_188 : decode cL_areTold 188 = .ok (.aload 8, 2) := by decide +kernel
theorem dL_areTold_190 : decode cL_areTold 190 = .ok (.iload 10, 2) := by decide +kernel
theorem dL_areTold_192 : decode cL_areTold 192 = .ok (.aload 4, 2) := by decide +kernel
theorem dL_areTold_194 : decode cL_areTold 194 = .ok (.iload 10, 2) := by decide +kernel
theorem dL_areTold_196 : decode cL_areTold 196 = .ok (.iaload, 1) := by decide +kernel
theorem dL_areTold_197 : decode cL_areTold 197 = .ok (.iastore, 1) := by decide +kernel
theorem dL_areTold_198 : decode cL_areTold 198 = .ok (.aload 9, 2) := by decide +kernel
theorem dL_areTold_200 : decode cL_areTold 200 = .ok (.iload 10, 2) := by decide +kernel
theorem dL_areTold_202 : decode cL_areTold 202 = .ok (.aload 5, 2) := by decide +kernel
theorem dL_areTold_204 : decode cL_areTold 204 = .ok (.iload 10, 2) := by decide +kernel
theorem dL_areTold_206 : decode cL_areTold 206 = .ok (.iaload, 1) := by decide +kernel
theorem dL_areTold_207 : decode cL_areTold 207 = .ok (.iastore, 1) := by decide +kernel
theorem dL_areTold_208 : decode cL_areTold 208 = .ok (.iinc 10 1, 3) := by decide +kernel
theorem dL_areTold_211 : decode cL_areTold 211 = .ok (.goto (-30), 3) := by decide +kernel
theorem dL_areTold_214 : decode cL_areTold 214 = .ok (.iconst 0, 1) := by decide +kernel
theorem dL_areTold_215 : decode cL_areTold 215 = .ok (.istore 10, 2) := by decide +kernel
theorem dL_areTold_217 : decode cL_areTold 217 = .ok (.iload 10, 2) := by decide +kernel
theorem dL_areTold_219 : decode cL_areTold 219 = .ok (.aload 4, 2) := by decide +kernel
theorem dL_areTold_221 : decode cL_areTold 221 = .ok (.invokestatic 9, 3) := by decide +kernel
theorem dL_areTold_224 : decode cL_areTold 224 = .ok (.if_icmp .ge 75, 3) := by decide +kernel
theorem dL_areTold_227 : decode cL_areTold 227 = .ok (.iload 7, 2) := by decide +kernel
theorem dL_areTold_229 : decode cL_areTold 229 = .ok (.ifCond .eq 70, 3) := by decide +kernel
theorem dL_areTold_232 : decode cL_areTold 232 = .ok (.aload_n 1, 1) := by decide +kernel
theorem dL_areTold_233 : decode cL_areTold 233 = .ok (.aload 8, 2) := by decide +kernel
theorem dL_areTold_235 : decode cL_areTold 235 = .ok (.aload 9, 2) := by decide +kernel
theorem dL_areTold_237 : decode cL_areTold 237 = .ok (.aload 6, 2) := by decide +kernel
theorem dL_areTold_239 : decode cL_areTold 239 = .ok (.iconst (-1), 1) := by decide +kernel
theorem dL_areTold_240 : decode cL_areTold 240 = .ok (.invokestatic 19, 3) := by decide +kernel
theorem dL_areTold_243 : decode cL_areTold 243 = .ok (.istore 11, 2) := by decide +kernel
theorem dL_areTold_245 : decode cL_areTold 245 = .ok (.aload_n 0, 1) := by decide +kernel
theorem dL_areTold_246 : decode cL_areTold 246 = .ok (.iload 11, 2) := by decide +kernel
theorem dL_areTold_248 : decode cL_areTold 248 = .ok (.iconst 5, 1) := by decide +kernel
theorem dL_areTold_249 : decode cL_areTold 249 = .ok (.invokevirtual 56, 3) := by decide +kernel
theorem dL_areTold_252 : decode cL_areTold 252 = .ok (.iload 10, 2) := by decide +kernel
theorem dL_areTold_254 : decode cL_areTold 254 = .ok (.if_icmp .ne 22, 3) := by decide +kernel
theorem dL_areTold_257 : decode cL_areTold 257 = .ok (.aload_n 0, 1) := by decide +kernel
theorem dL_areTold_258 : decode cL_areTold 258 = .ok (.iload 11, 2) := by decide +kernel
theorem dL_areTold_260 : decode cL_areTold 260 = .ok (.iconst 4, 1) := by decide +kernel
theorem dL_areTold_261 : decode cL_areTold 261 = .ok (.invokevirtual 56, 3) := by decide +kernel
theorem dL_areTold_264 : decode cL_areTold 264 = .ok (.aload 6, 2) := by decide +kernel
theorem dL_areTold_266 : decode cL_areTold 266 = .ok (.iload 11, 2) := by decide +kernel
theorem dL_areTold_268 : decode cL_areTold 268 = .ok (.iaload, 1) := by decide +kernel
theorem dL_areTold_269 : decode cL_areTold 269 = .ok (.if_icmp .ne 7, 3) := by decide +kernel
theorem dL_areTold_272 : decode cL_areTold 272 = .ok (.iconst 1, 1) := by decide +kernel
theorem dL_areTold_273 : decode cL_areTold 273 = .ok (.goto 4, 3) := by decide +kernel
theorem dL_areTold_276 : decode cL_areTold 276 = .ok (.iconst 0, 1) := by decide +kernel
theorem dL_areTold_277 : decode cL_areTold 277 = .ok (.istore 7, 2) := by decide +kernel
theorem dL_areTold_279 : decode cL_areTold 279 = .ok (.aload 8, 2) := by decide +kernel
theorem dL_areTold_281 : decode cL_areTold 281 = .ok (.iload 11, 2) := by decide +kernel
theorem dL_areTold_283 : decode cL_areTold 283 = .ok (.invokestatic 27, 3) := by decide +kernel
theorem dL_areTold_286 : decode cL_areTold 286 = .ok (.aload 9, 2) := by decide +kernel
theorem dL_areTold_288 : decode cL_areTold 288 = .ok (.iload 11, 2) := by decide +kernel
theorem dL_areTold_290 : decode cL_areTold 290 = .ok (.invokestatic 27, 3) := by decide +kernel
theorem dL_areTold_293 : decode cL_areTold 293 = .ok (.iinc 10 1, 3) := by decide +kernel
theorem dL_areTold_296 : decode cL_areTold 296 = .ok (.goto (-79), 3) := by decide +kernel
theorem dL_areTold_299 : decode cL_areTold 299 = .ok (.iconst 0, 1) := by decide +kernel
theorem dL_areTold_300 : decode cL_areTold 300 = .ok (.istore 10, 2) := by decide +kernel
theorem dL_areTold_302 : decode cL_areTold 302 = .ok (.iload 10, 2) := by decide +kernel
theorem dL_areTold_304 : decode cL_areTold 304 = .ok (.bipush 10, 2) := by decide +kernel
theorem dL_areTold_306 : decode cL_areTold 306 = .ok (.if_icmp .ge 289, 3) := by decide +kernel
theorem dL_areTold_309 : decode cL_areTold 309 = .ok (.iload 7, 2) := by decide +kernel
theorem dL_areTold_311 : decode cL_areTold 311 = .ok (.ifCond .eq 284, 3) := by decide +kernel
theorem dL_areTold_314 : decode cL_areTold 314 = .ok (.bipush (-4), 2) := by decide +kernel
theorem dL_areTold_316 : decode cL_areTold 316 = .ok (.istore 11, 2) := by decide +kernel
theorem dL_areTold_318 : decode cL_areTold 318 = .ok (.aload_n 1, 1) := by decide +kernel
theorem dL_areTold_319 : decode cL_areTold 319 = .ok (.iconst 5, 1) := by decide +kernel
theorem dL_areTold_320 : decode cL_areTold 320 = .ok (.iaload, 1) := by decide +kernel
theorem dL_areTold_321 : decode cL_areTold 321 = .ok (.iconst 1, 1) := by decide +kernel
theorem dL_areTold_322 : decode cL_areTold 322 = .ok (.isub, 1) := by decide +kernel
theorem dL_areTold_323 : decode cL_areTold 323 = .ok (.istore 12, 2) := by decide +kernel
theorem dL_areTold_325 : decode cL_areTold 325 = .ok (.iload 12, 2) := by decide +kernel
theorem dL_areTold_327 : decode cL_areTold 327 = .ok (.ifCond .lt 57, 3) := by decide +kernel
theorem dL_areTold_330 : decode cL_areTold 330 = .ok (.aload_n 2, 1) := by decide +kernel
theorem dL_areTold_331 : decode cL_areTold 331 = .ok (.iconst 2, 1) := by decide +kernel
theorem dL_areTold_332 : decode cL_areTold 332 = .ok (.iload 12, 2) := by decide +kernel
theorem dL_areTold_334 : decode cL_areTold 334 = .ok (.imul, 1) := by decide +kernel
theorem dL_areTold_335 : decode cL_areTold 335 = .ok (.iaload, 1) := by decide +kernel
theorem dL_areTold_336 : decode cL_areTold 336 = .ok (.iload 10, 2) := by decide +kernel
theorem dL_areTold_338 : decode cL_areTold 338 = .ok (.if_icmp .ne 36, 3) := by decide +kernel
theorem dL_areTold_341 : decode cL_areTold 341 = .ok (.aload_n 2, 1) := by decide +kernel
theorem dL_areTold_342 : decode cL_areTold 342 = .ok (.iconst 2, 1) := by decide +kernel
theorem dL_areTold_343 : decode cL_areTold 343 = .ok (.iload 12, 2) := by decide +kernel
theorem dL_areTold_345 : decode cL_areTold 345 = .ok (.imul, 1) := by decide +kernel
theorem dL_areTold_346 : decode cL_areTold 346 = .ok (.iconst 1, 1) := by decide +kernel
theorem dL_areTold_347 : decode cL_areTold 347 = .ok (.iadd, 1) := by decide +kernel
theorem dL_areTold_348 : decode cL_areTold 348 = .ok (.iaload, 1) := by decide +kernel
theorem dL_areTold_349 : decode cL_areTold 349 = .ok (.aload_n 1, 1) := by decide +kernel
theorem dL_areTold_350 : decode cL_areTold 350 = .ok (.iconst 3, 1) := by decide +kernel
theorem dL_areTold_351 : decode cL_areTold 351 = .ok (.iaload, 1) := by decide +kernel
theorem dL_areTold_352 : decode cL_areTold 352 = .ok (.if_icmp .lt 22, 3) := by decide +kernel
theorem dL_areTold_355 : decode cL_areTold 355 = .ok (.aload_n 2, 1) := by decide +kernel
theorem dL_areTold_356 : decode cL_areTold 356 = .ok (.iconst 2, 1) := by decide +kernel
theorem dL_areTold_357 : decode cL_areTold 357 = .ok (.iload 12, 2) := by decide +kernel
theorem dL_areTold_359 : decode cL_areTold 359 = .ok (.imul, 1) := by decide +kernel
theorem dL_areTold_360 : decode cL_areTold 360 = .ok (.iconst 1, 1) := by decide +kernel
theorem dL_areTold_361 : decode cL_areTold 361 = .ok (.iadd, 1) := by decide +kernel
theorem dL_areTold_362 : decode cL_areTold 362 = .ok (.iaload, 1) := by decide +kernel
theorem dL_areTold_363 : decode cL_areTold 363 = .ok (.aload_n 1, 1) := by decide +kernel
theorem dL_areTold_364 : decode cL_areTold 364 = .ok (.iconst 4, 1) := by decide +kernel
theorem dL_areTold_365 : decode cL_areTold 365 = .ok (.iaload, 1) := by decide +kernel
theorem dL_areTold_366 : decode cL_areTold 366 = .ok (.if_icmp .gt 8, 3) := by decide +kernel
theorem dL_areTold_369 : decode cL_areTold 369 = .ok (.iload 12, 2) := by decide +kernel
theorem dL_areTold_371 : decode cL_areTold 371 = .ok (.goto 5, 3) := by decide +kernel
theorem dL_areTold_374 : decode cL_areTold 374 = .ok (.iload 11, 2) := by decide +kernel
theorem dL_areTold_376 : decode cL_areTold 376 = .ok (.istore 11, 2) := by decide +kernel
theorem dL_areTold_378 : decode cL_areTold 378 = .ok (.iinc 12 (-1), 3) := by decide +kernel
theorem dL_areTold_381 : decode cL_areTold 381 = .ok (.goto (-56), 3) := by decide +kernel
theorem dL_areTold_384 : decode cL_areTold 384 = .ok (.aload_n 1, 1) := by decide +kernel
theorem dL_areTold_385 : decode cL_areTold 385 = .ok (.aload_n 2, 1) := by decide +kernel
theorem dL_areTold_386 : decode cL_areTold 386 = .ok (.iload 10, 2) := by decide +kernel
theorem dL_areTold_388 : decode cL_areTold 388 = .ok (.iconst 0, 1) := by decide +kernel
theorem dL_areTold_389 : decode cL_areTold 389 = .ok (.invokestatic 15, 3) := by decide +kernel
theorem dL_areTold_392 : decode cL_areTold 392 = .ok (.istore 12, 2) := by decide +kernel
theorem dL_areTold_394 : decode cL_areTold 394 = .ok (.aload_n 1, 1) := by decide +kernel
theorem dL_areTold_395 : decode cL_areTold 395 = .ok (.aload_n 2, 1) := by decide +kernel
theorem dL_areTold_396 : decode cL_areTold 396 = .ok (.iload 10, 2) := by decide +kernel
theorem dL_areTold_398 : decode cL_areTold 398 = .ok (.iconst 1, 1) := by decide +kernel
theorem dL_areTold_399 : decode cL_areTold 399 = .ok (.invokestatic 15, 3) := by decide +kernel
theorem dL_areTold_402 : decode cL_areTold 402 = .ok (.istore 13, 2) := by decide +kernel
theorem dL_areTold_404 : decode cL_areTold 404 = .ok (.aload 4, 2) := by decide +kernel
theorem dL_areTold_406 : decode cL_areTold 406 = .ok (.iload 10, 2) := by decide +kernel
theorem dL_areTold_408 : decode cL_areTold 408 = .ok (.invokestatic 31, 3) := by decide +kernel
theorem dL_areTold_411 : decode cL_areTold 411 = .ok (.istore 14, 2) := by decide +kernel
theorem dL_areTold_413 : decode cL_areTold 413 = .ok (.aload_n 0, 1) := by decide +kernel
theorem dL_areTold_414 : decode cL_areTold 414 = .ok (.iload 10, 2) := by decide +kernel
theorem dL_areTold_416 : decode cL_areTold 416 = .ok (.iconst 0, 1) := by decide +kernel
theorem dL_areTold_417 : decode cL_areTold 417 = .ok (.invokevirtual 60, 3) := by decide +kernel
theorem dL_areTold_420 : decode cL_areTold 420 = .ok (.iload 12, 2) := by decide +kernel
theorem dL_areTold_422 : decode cL_areTold 422 = .ok (.iconst 2, 1) := by decide +kernel
theorem dL_areTold_423 : decode cL_areTold 423 = .ok (.isub, 1) := by decide +kernel
theorem dL_areTold_424 : decode cL_areTold 424 = .ok (.if_icmp .ne 162, 3) := by decide +kernel
theorem dL_areTold_427 : decode cL_areTold 427 = .ok (.aload_n 0, 1) := by decide +kernel
theorem dL_areTold_428 : decode cL_areTold 428 = .ok (.iload 10, 2) := by decide +kernel
theorem dL_areTold_430 : decode cL_areTold 430 = .ok (.iconst 1, 1) := by decide +kernel
theorem dL_areTold_431 : decode cL_areTold 431 = .ok (.invokevirtual 60, 3) := by decide +kernel
theorem dL_areTold_434 : decode cL_areTold 434 = .ok (.iload 12, 2) := by decide +kernel
theorem dL_areTold_436 : decode cL_areTold 436 = .ok (.if_icmp .ne 150, 3) := by decide +kernel
theorem dL_areTold_439 : decode cL_areTold 439 = .ok (.aload_n 0, 1) := by decide +kernel
theorem dL_areTold_440 : decode cL_areTold 440 = .ok (.iload 10, 2) := by decide +kernel
theorem dL_areTold_442 : decode cL_areTold 442 = .ok (.iconst 2, 1) := by decide +kernel
theorem dL_areTold_443 : decode cL_areTold 443 = .ok (.invokevirtual 60, 3) := by decide +kernel
theorem dL_areTold_446 : decode cL_areTold 446 = .ok (.iload 13, 2) := by decide +kernel
theorem dL_areTold_448 : decode cL_areTold 448 = .ok (.if_icmp .ne 138, 3) := by decide +kernel
theorem dL_areTold_451 : decode cL_areTold 451 = .ok (.aload_n 0, 1) := by decide +kernel
theorem dL_areTold_452 : decode cL_areTold 452 = .ok (.iload 10, 2) := by decide +kernel
theorem dL_areTold_454 : decode cL_areTold 454 = .ok (.iconst 3, 1) := by decide +kernel
theorem dL_areTold_455 : decode cL_areTold 455 = .ok (.invokevirtual 60, 3) := by decide +kernel
theorem dL_areTold_458 : decode cL_areTold 458 = .ok (.iload 11, 2) := by decide +kernel
theorem dL_areTold_460 : decode cL_areTold 460 = .ok (.if_icmp .ne 126, 3) := by decide +kernel
theorem dL_areTold_463 : decode cL_areTold 463 = .ok (.aload_n 0, 1) := by decide +kernel
theorem dL_areTold_464 : decode cL_areTold 464 = .ok (.iload 10, 2) := by decide +kernel
theorem dL_areTold_466 : decode cL_areTold 466 = .ok (.iconst 0, 1) := by decide +kernel
theorem dL_areTold_467 : decode cL_areTold 467 = .ok (.invokevirtual 56, 3) := by decide +kernel
theorem dL_areTold_470 : decode cL_areTold 470 = .ok (.iload 14, 2) := by decide +kernel
theorem dL_areTold_472 : decode cL_areTold 472 = .ok (.ifCond .eq 10, 3) := by decide +kernel
theorem dL_areTold_475 : decode cL_areTold 475 = .ok (.iload 12, 2) := by decide +kernel
theorem dL_areTold_477 : decode cL_areTold 477 = .ok (.iconst 2, 1) := by decide +kernel
theorem dL_areTold_478 : decode cL_areTold 478 = .ok (.isub, 1) := by decide +kernel
theorem dL_areTold_479 : decode cL_areTold 479 = .ok (.goto 5, 3) := by decide +kernel
theorem dL_areTold_482 : decode cL_areTold 482 = .ok (.bipush (-4), 2) := by decide +kernel
theorem dL_areTold_484 : decode cL_areTold 484 = .ok (.if_icmp .ne 102, 3) := by decide +kernel
theorem dL_areTold_487 : decode cL_areTold 487 = .ok (.aload_n 0, 1) := by decide +kernel
theorem dL_areTold_488 : decode cL_areTold 488 = .ok (.iload 10, 2) := by decide +kernel
theorem dL_areTold_490 : decode cL_areTold 490 = .ok (.iconst 1, 1) := by decide +kernel
theorem dL_areTold_491 : decode cL_areTold 491 = .ok (.invokevirtual 56, 3) := by decide +kernel
theorem dL_areTold_494 : decode cL_areTold 494 = .ok (.iload 14, 2) := by decide +kernel
theorem dL_areTold_496 : decode cL_areTold 496 = .ok (.ifCond .eq 8, 3) := by decide +kernel
theorem dL_areTold_499 : decode cL_areTold 499 = .ok (.iload 12, 2) := by decide +kernel
theorem dL_areTold_501 : decode cL_areTold 501 = .ok (.goto 5, 3) := by decide +kernel
theorem dL_areTold_504 : decode cL_areTold 504 = .ok (.bipush (-4), 2) := by decide +kernel
theorem dL_areTold_506 : decode cL_areTold 506 = .ok (.if_icmp .ne 80, 3) := by decide +kernel
theorem dL_areTold_509 : decode cL_areTold 509 = .ok (.aload_n 0, 1) := by decide +kernel
theorem dL_areTold_510 : decode cL_areTold 510 = .ok (.iload 10, 2) := by decide +kernel
theorem dL_areTold_512 : decode cL_areTold 512 = .ok (.iconst 2, 1) := by decide +kernel
theorem dL_areTold_513 : decode cL_areTold 513 = .ok (.invokevirtual 56, 3) := by decide +kernel
theorem dL_areTold_516 : decode cL_areTold 516 = .ok (.iload 14, 2) := by decide +kernel
theorem dL_areTold_518 : decode cL_areTold 518 = .ok (.ifCond .eq 8, 3) := by decide +kernel
theorem dL_areTold_521 : decode cL_areTold 521 = .ok (.iload 13, 2) := by decide +kernel
theorem dL_areTold_523 : decode cL_areTold 523 = .ok (.goto 5, 3) := by decide +kernel
theorem dL_areTold_526 : decode cL_areTold 526 = .ok (.bipush (-4), 2) := by decide +kernel
theorem dL_areTold_528 : decode cL_areTold 528 = .ok (.if_icmp .ne 58, 3) := by decide +kernel
theorem dL_areTold_531 : decode cL_areTold 531 = .ok (.aload_n 0, 1) := by decide +kernel
theorem dL_areTold_532 : decode cL_areTold 532 = .ok (.iload 10, 2) := by decide +kernel
theorem dL_areTold_534 : decode cL_areTold 534 = .ok (.iconst 3, 1) := by decide +kernel
theorem dL_areTold_535 : decode cL_areTold 535 = .ok (.invokevirtual 56, 3) := by decide +kernel
theorem dL_areTold_538 : decode cL_areTold 538 = .ok (.iload 14, 2) := by decide +kernel
theorem dL_areTold_540 : decode cL_areTold 540 = .ok (.ifCond .eq 8, 3) := by decide +kernel
theorem dL_areTold_543 : decode cL_areTold 543 = .ok (.iload 11, 2) := by decide +kernel
theorem dL_areTold_545 : decode cL_areTold 545 = .ok (.goto 5, 3) := by decide +kernel
theorem dL_areTold_548 : decode cL_areTold 548 = .ok (.bipush (-4), 2) := by decide +kernel
theorem dL_areTold_550 : decode cL_areTold 550 = .ok (.if_icmp .ne 36, 3) := by decide +kernel
theorem dL_areTold_553 : decode cL_areTold 553 = .ok (.iload 14, 2) := by decide +kernel
theorem dL_areTold_555 : decode cL_areTold 555 = .ok (.ifCond .ne 27, 3) := by decide +kernel
theorem dL_areTold_558 : decode cL_areTold 558 = .ok (.aload_n 0, 1) := by decide +kernel
theorem dL_areTold_559 : decode cL_areTold 559 = .ok (.iload 10, 2) := by decide +kernel
theorem dL_areTold_561 : decode cL_areTold 561 = .ok (.iconst 4, 1) := by decide +kernel
theorem dL_areTold_562 : decode cL_areTold 562 = .ok (.invokevirtual 56, 3) := by decide +kernel
theorem dL_areTold_565 : decode cL_areTold 565 = .ok (.bipush (-4), 2) := by decide +kernel
theorem dL_areTold_567 : decode cL_areTold 567 = .ok (.if_icmp .ne 19, 3) := by decide +kernel
theorem dL_areTold_570 : decode cL_areTold 570 = .ok (.aload_n 0, 1) := by decide +kernel
theorem dL_areTold_571 : decode cL_areTold 571 = .ok (.iload 10, 2) := by decide +kernel
theorem dL_areTold_573 : decode cL_areTold 573 = .ok (.iconst 5, 1) := by decide +kernel
theorem dL_areTold_574 : decode cL_areTold 574 = .ok (.invokevirtual 56, 3) := by decide +kernel
theorem dL_areTold_577 : decode cL_areTold 577 = .ok (.bipush (-4), 2) := by decide +kernel
theorem dL_areTold_579 : decode cL_areTold 579 = .ok (.if_icmp .ne 7, 3) := by decide +kernel
theorem dL_areTold_582 : decode cL_areTold 582 = .ok (.iconst 1, 1) := by decide +kernel
theorem dL_areTold_583 : decode cL_areTold 583 = .ok (.goto 4, 3) := by decide +kernel
theorem dL_areTold_586 : decode cL_areTold 586 = .ok (.iconst 0, 1) := by decide +kernel
theorem dL_areTold_587 : decode cL_areTold 587 = .ok (.istore 7, 2) := by decide +kernel
theorem dL_areTold_589 : decode cL_areTold 589 = .ok (.iinc 10 1, 3) := by decide +kernel
theorem dL_areTold_592 : decode cL_areTold 592 = .ok (.goto (-290), 3) := by decide +kernel
theorem dL_areTold_595 : decode cL_areTold 595 = .ok (.iload 7, 2) := by decide +kernel
theorem dL_areTold_597 : decode cL_areTold 597 = .ok (.ireturn, 1) := by decide +kernel
set_option maxRecDepth 20000 in
theorem ggL_areRows_X6_row : GoodIn wsL_areRows wsX6_row := goodIn_r _ [5, 6, 7, 8, 9, 10, 11, 12, 13, 14, 15, 16, 17, 18, 19, 20, 21, 4, 22, 23, 24, 25, 26, 27, 28, 29, 30, 31, 32, 33, 34, 35, 36, 37, 38, 39, 40, 41, 42, 43, 44, 45, 46, 47, 48, 49, 50, 51, 52, 53, 54, 55, 134, 135, 136, 137, 138, 139, 140, 141, 142, 143, 144, 145, 146, 147, 148, 149, 150, 151, 152, 153, 154, 155, 156, 157] (by decide +kernel) (by decide +kernel)
set_option maxRecDepth 20000 in
theorem gL_areRows_X6_row : GoodIn wsL_areRows (wsV RL 63 RX6 yX6_row wsX6_row) := goodIn_app (goodIn_of _ (by decide +kernel)) ggL_areRows_X6_row
set_option maxRecDepth 20000 in
theorem ggL_areRows_X6_answer : GoodIn wsL_areRows wsX6_answer := goodIn_r _ [59, 6, 60, 61, 4, 62, 20, 21, 22, 63, 64, 65, 10, 66, 67, 68, 69, 70, 71, 72, 73, 74, 75, 76, 77, 78, 79, 134, 135, 136, 137, 138, 139, 140, 141, 142, 143, 144, 145, 146, 147, 148, 149, 150, 158, 159, 160] (by decide +kernel) (by decide +kernel)
set_option maxRecDepth 20000 in
theorem gL_areRows_X6_answer : GoodIn wsL_areRows (wsV RL 60 RX6 yX6_answer wsX6_answer) := goodIn_app (goodIn_of _ (by decide +kernel)) ggL_areRows_X6_answer
set_option maxRecDepth 20000 in
theorem ggL_areRows_X6_remembered : GoodIn wsL_areRows wsX6_remembered := goodIn_r _ [83, 6, 60, 61, 4, 62, 20, 21, 22, 84, 85, 86, 10, 87, 37, 88, 40, 41, 42, 43, 44, 89, 90, 91, 92, 93, 94, 95, 96, 50, 97, 98, 99, 100, 101, 102, 103, 104, 105, 106, 63, 64, 65, 66, 67, 68, 69, 70, 71, 72, 73, 74, 75, 76, 77, 78, 79, 134, 135, 136, 137, 138, 139, 140, 141, 142, 143, 144, 145, 146, 147, 148, 149, 150, 154, 155, 156, 157, 158, 159, 160] (by decide +kernel) (by decide +kernel)
set_option maxRecDepth 20000 in
theorem gL_areRows_X6_remembered : GoodIn wsL_areRows (wsV RL 56 RX6 yX6_remembered wsX6_remembered) := goodIn_app (goodIn_of _ (by decide +kernel)) ggL_areRows_X6_remembered
set_option maxRecDepth 20000 in
theorem ggL_areRows_L_has : GoodIn wsL_areRows wsL_has := goodIn_r _ [110] (by decide +kernel) (by decide +kernel)
set_option maxRecDepth 20000 in
theorem gL_areRows_L_has : GoodIn wsL_areRows (va_wsS RL 31 yL_has wsL_has) := goodIn_app (goodIn_of _ (by decide +kernel)) ggL_areRows_L_has
set_option maxRecDepth 20000 in
theorem ggL_areRows_L_weight : GoodIn wsL_areRows wsL_weight := goodIn_r _ [113] (by decide +kernel) (by decide +kernel)
set_option maxRecDepth 20000 in
theorem gL_areRows_L_weight : GoodIn wsL_areRows (va_wsS RL 15 yL_weight wsL_weight) := goodIn_app (goodIn_of _ (by decide +kernel)) ggL_areRows_L_weight
set_option maxRecDepth 20000 in
theorem ggL_areRows_X6_total : GoodIn wsL_areRows wsX6_total := goodIn_r _ [117, 6, 20, 21, 4, 22, 118, 119, 120, 10, 121, 13, 67, 122, 123, 124, 17, 125, 19, 45, 29, 30, 31, 32, 38, 24, 25, 26, 27, 126, 127, 128, 71, 129, 74, 130, 131, 132, 133, 12, 46, 47, 48, 49, 50, 134, 135, 136, 137, 138, 139, 140, 141, 142, 143, 144, 145, 146, 147, 148, 149, 150, 151, 152, 153, 158, 159, 160] (by decide +kernel) (by decide +kernel)
set_option maxRecDepth 20000 in
theorem gL_areRows_X6_total : GoodIn wsL_areRows (wsV RL 67 RX6 yX6_total wsX6_total) := goodIn_app (goodIn_of _ (by decide +kernel)) ggL_areRows_X6_total
theorem dL_areRows_0 : decode cL_areRows 0 = .ok (.aload_n 0, 1) := by decide +kernel
theorem dL_areRows_1 : decode cL_areRows 1 = .ok (.iconst 1, 1) := by decide +kernel
theorem dL_areRows_2 : decode cL_areRows 2 = .ok (.aload_n 1, 1) := by decide +kernel
theorem dL_areRows_3 : decode cL_areRows 3 = .ok (.iconst 5, 1) := by decide +kernel
theorem dL_areRows_4 : decode cL_areRows 4 = .ok (.iaload, 1) := by decide +kernel
theorem dL_areRows_5 : decode cL_areRows 5 = .ok (.iconst 0, 1) := by decide +kernel
theorem dL_areRows_6 : decode cL_areRows 6 = .ok (.invokevirtual 63, 3) := by decide +kernel
theorem dL_areRows_9 : decode cL_areRows 9 = .ok (.iconst (-1), 1) := by decide +kernel
theorem dL_areRows_10 : decode cL_areRows 10 = .ok (.if_icmp .ne 74, 3) := by decide +kernel
theorem dL_areRows_13 : decode cL_areRows 13 = .ok (.aload_n 0, 1) := by decide +kernel
theorem dL_areRows_14 : decode cL_areRows 14 = .ok (.iconst 0, 1) := by decide +kernel
theorem dL_areRows_15 : decode cL_areRows 15 = .ok (.aload_n 1, 1) := by decide +kernel
theorem dL_areRows_16 : decode cL_areRows 16 = .ok (.bipush 6, 2) := by decide +kernel
theorem dL_areRows_18 : decode cL_areRows 18 = .ok (.iaload, 1) := by decide +kernel
theorem dL_areRows_19 : decode cL_areRows 19 = .ok (.iconst 0, 1) := by decide +kernel
theorem dL_areRows_20 : decode cL_areRows 20 = .ok (.invokevirtual 63, 3) := by decide +kernel
theorem dL_areRows_23 : decode cL_areRows 23 = .ok (.iconst (-1), 1) := by decide +kernel
theorem dL_areRows_24 : decode cL_areRows 24 = .ok (.if_icmp .ne 60, 3) := by decide +kernel
theorem dL_areRows_27 : decode cL_areRows 27 = .ok (.aload_n 0, 1) := by decide +kernel
theorem dL_areRows_28 : decode cL_areRows 28 = .ok (.iconst 1, 1) := by decide +kernel
theorem dL_areRows_29 : decode cL_areRows 29 = .ok (.iconst (-1), 1) := by decide +kernel
theorem dL_areRows_30 : decode cL_areRows 30 = .ok (.iconst 0, 1) := by decide +kernel
theorem dL_areRows_31 : decode cL_areRows 31 = .ok (.invokevirtual 63, 3) := by decide +kernel
theorem dL_areRows_34 : decode cL_areRows 34 = .ok (.iconst (-1), 1) := by decide +kernel
theorem dL_areRows_35 : decode cL_areRows 35 = .ok (.if_icmp .ne 49, 3) := by decide +kernel
theorem dL_areRows_38 : decode cL_areRows 38 = .ok (.aload_n 0, 1) := by decide +kernel
theorem dL_areRows_39 : decode cL_areRows 39 = .ok (.bipush 10, 2) := by decide +kernel
theorem dL_areRows_41 : decode cL_areRows 41 = .ok (.iconst 0, 1) := by decide +kernel
theorem dL_areRows_42 : decode cL_areRows 42 = .ok (.invokevirtual 60, 3) := by decide +kernel
theorem dL_areRows_45 : decode cL_areRows 45 = .ok (.iconst (-1), 1) := by decide +kernel
theorem dL_areRows_46 : decode cL_areRows 46 = .ok (.if_icmp .ne 38, 3) := by decide +kernel
theorem dL_areRows_49 : decode cL_areRows 49 = .ok (.aload_n 0, 1) := by decide +kernel
theorem dL_areRows_50 : decode cL_areRows 50 = .ok (.iconst 0, 1) := by decide +kernel
theorem dL_areRows_51 : decode cL_areRows 51 = .ok (.iconst 4, 1) := by decide +kernel
theorem dL_areRows_52 : decode cL_areRows 52 = .ok (.invokevirtual 60, 3) := by decide +kernel
theorem dL_areRows_55 : decode cL_areRows 55 = .ok (.iconst (-1), 1) := by decide +kernel
theorem dL_areRows_56 : decode cL_areRows 56 = .ok (.if_icmp .ne 28, 3) := by decide +kernel
theorem dL_areRows_59 : decode cL_areRows 59 = .ok (.aload_n 0, 1) := by decide +kernel
theorem dL_areRows_60 : decode cL_areRows 60 = .ok (.iconst 0, 1) := by decide +kernel
theorem dL_areRows_61 : decode cL_areRows 61 = .ok (.bipush 6, 2) := by decide +kernel
theorem dL_areRows_63 : decode cL_areRows 63 = .ok (.invokevirtual 56, 3) := by decide +kernel
theorem dL_areRows_66 : decode cL_areRows 66 = .ok (.iconst (-1), 1) := by decide +kernel
theorem dL_areRows_67 : decode cL_areRows 67 = .ok (.if_icmp .ne 17, 3) := by decide +kernel
theorem dL_areRows_70 : decode cL_areRows 70 = .ok (.aload_n 0, 1) := by decide +kernel
theorem dL_areRows_71 : decode cL_areRows 71 = .ok (.iconst (-1), 1) := by decide +kernel
theorem dL_areRows_72 : decode cL_areRows 72 = .ok (.iconst 0, 1) := by decide +kernel
theorem dL_areRows_73 : decode cL_areRows 73 = .ok (.invokevirtual 56, 3) := by decide +kernel
theorem dL_areRows_76 : decode cL_areRows 76 = .ok (.iconst (-1), 1) := by decide +kernel
theorem dL_areRows_77 : decode cL_areRows 77 = .ok (.if_icmp .ne 7, 3) := by decide +kernel
theorem dL_areRows_80 : decode cL_areRows 80 = .ok (.iconst 1, 1) := by decide +kernel
theorem dL_areRows_81 : decode cL_areRows 81 = .ok (.goto 4, 3) := by decide +kernel
theorem dL_areRows_84 : decode cL_areRows 84 = .ok (.iconst 0, 1) := by decide +kernel
theorem dL_areRows_85 : decode cL_areRows 85 = .ok (.istore 5, 2) := by decide +kernel
theorem dL_areRows_87 : decode cL_areRows 87 = .ok (.iconst 0, 1) := by decide +kernel
theorem dL_areRows_88 : decode cL_areRows 88 = .ok (.istore 6, 2) := by decide +kernel
theorem dL_areRows_90 : decode cL_areRows 90 = .ok (.iconst 0, 1) := by decide +kernel
theorem dL_areRows_91 : decode cL_areRows 91 = .ok (.istore 7, 2) := by decide +kernel
theorem dL_areRows_93 : decode cL_areRows 93 = .ok (.iload 7, 2) := by decide +kernel
theorem dL_areRows_95 : decode cL_areRows 95 = .ok (.aload_n 1, 1) := by decide +kernel
theorem dL_areRows_96 : decode cL_areRows 96 = .ok (.iconst 5, 1) := by decide +kernel
theorem dL_areRows_97 : decode cL_areRows 97 = .ok (.iaload, 1) := by decide +kernel
theorem dL_areRows_98 : decode cL_areRows 98 = .ok (.if_icmp .ge 127, 3) := by decide +kernel
theorem dL_areRows_101 : decode cL_areRows 101 = .ok (.aload 4, 2) := by decide +kernel
theorem dL_areRows_103 : decode cL_areRows 103 = .ok (.aload_n 2, 1) := by decide +kernel
theorem dL_areRows_104 : decode cL_areRows 104 = .ok (.iconst 2, 1) := by decide +kernel
theorem dL_areRows_105 : decode cL_areRows 105 = .ok (.iload 7, 2) := by decide +kernel
theorem dL_areRows_107 : decode cL_areRows 107 = .ok (.imul, 1) := by decide +kernel
theorem dL_areRows_108 : decode cL_areRows 108 = .ok (.iaload, 1) := by decide +kernel
theorem dL_areRows_109 : decode cL_areRows 109 = .ok (.invokestatic 31, 3) := by decide +kernel
theorem dL_areRows_112 : decode cL_areRows 112 = .ok (.ifCond .eq 35, 3) := by decide +kernel
theorem dL_areRows_115 : decode cL_areRows 115 = .ok (.aload_n 2, 1) := by decide +kernel
theorem dL_areRows_116 : decode cL_areRows 116 = .ok (.iconst 2, 1) := by decide +kernel
theorem dL_areRows_117 : decode cL_areRows 117 = .ok (.iload 7, 2) := by decide +kernel
theorem dL_areRows_119 : decode cL_areRows 119 = .ok (.imul, 1) := by decide +kernel
theorem dL_areRows_120 : decode cL_areRows 120 = .ok (.iconst 1, 1) := by decide +kernel
theorem dL_areRows_121 : decode cL_areRows 121 = .ok (.iadd, 1) := by decide +kernel
theorem dL_areRows_122 : decode cL_areRows 122 = .ok (.iaload, 1) := by decide +kernel
theorem dL_areRows_123 : decode cL_areRows 123 = .ok (.aload_n 1, 1) := by decide +kernel
theorem dL_areRows_124 : decode cL_areRows 124 = .ok (.iconst 3, 1) := by decide +kernel
theorem dL_areRows_125 : decode cL_areRows 125 = .ok (.iaload, 1) := by decide +kernel
theorem dL_areRows_126 : decode cL_areRows 126 = .ok (.if_icmp .lt 21, 3) := by decide +kernel
theorem dL_areRows_129 : decode cL_areRows 129 = .ok (.aload_n 2, 1) := by decide +kernel
theorem dL_areRows_130 : decode cL_areRows 130 = .ok (.iconst 2, 1) := by decide +kernel
theorem dL_areRows_131 : decode cL_areRows 131 = .ok (.iload 7, 2) := by decide +kernel
theorem dL_areRows_133 : decode cL_areRows 133 = .ok (.imul, 1) := by decide +kernel
theorem dL_areRows_134 : decode cL_areRows 134 = .ok (.iconst 1, 1) := by decide +kernel
theorem dL_areRows_135 : decode cL_areRows 135 = .ok (.iadd, 1) := by decide +kernel
theorem dL_areRows_136 : decode cL_areRows 136 = .ok (.iaload, 1) := by decide +kernel
theorem dL_areRows_137 : decode cL_areRows 137 = .ok (.aload_n 1, 1) := by decide +kernel
theorem dL_areRows_138 : decode cL_areRows 138 = .ok (.iconst 4, 1) := by decide +kernel
theorem dL_areRows_139 : decode cL_areRows 139 = .ok (.iaload, 1) := by decide +kernel
theorem dL_areRows_140 : decode cL_areRows 140 = .ok (.if_icmp .gt 7, 3) := by decide +kernel
theorem dL_areRows_143 : decode cL_areRows 143 = .ok (.iconst 1, 1) := by decide +kernel
theorem dL_areRows_144 : decode cL_areRows 144 = .ok (.goto 4, 3) := by decide +kernel
theorem dL_areRows_147 : decode cL_areRows 147 = .ok (.iconst 0, 1) := by decide +kernel
theorem dL_areRows_148 : decode cL_areRows 148 = .ok (.istore 8, 2) := by decide +kernel
theorem dL_areRows_150 : decode cL_areRows 150 = .ok (.iload 5, 2) := by decide +kernel
theorem dL_areRows_152 : decode cL_areRows 152 = .ok (.ifCond .eq 64, 3) := by decide +kernel
theorem dL_areRows_155 : decode cL_areRows 155 = .ok (.aload_n 0, 1) := by decide +kernel
theorem dL_areRows_156 : decode cL_areRows 156 = .ok (.iconst 1, 1) := by decide +kernel
theorem dL_areRows_157 : decode cL_areRows 157 = .ok (.iload 7, 2) := by decide +kernel
theorem dL_areRows_159 : decode cL_areRows 159 = .ok (.iconst 0, 1) := by decide +kernel
theorem dL_areRows_160 : decode cL_areRows 160 = .ok (.invokevirtual 63, 3) := by decide +kernel
theorem dL_areRows_163 : decode cL_areRows 163 = .ok (.aload_n 2, 1) := by decide +kernel
theorem dL_areRows_164 : decode cL_areRows 164 = .ok (.iconst 2, 1) := by decide +kernel
theorem dL_areRows_165 : decode cL_areRows 165 = .ok (.iload 7, 2) := by decide +kernel
theorem dL_areRows_167 : decode cL_areRows 167 = .ok (.imul, 1) := by decide +kernel
theorem dL_areRows_168 : decode cL_areRows 168 = .ok (.iaload, 1) := by decide +kernel
theorem dL_areRows_169 : decode cL_areRows 169 = .ok (.if_icmp .ne 47, 3) := by decide +kernel
theorem dL_areRows_172 : decode cL_areRows 172 = .ok (.aload_n 0, 1) := by decide +kernel
theorem dL_areRows_173 : decode cL_areRows 173 = .ok (.iconst 1, 1) := by decide +kernel
theorem dL_areRows_174 : decode cL_areRows 174 = .ok (.iload 7, 2) := by decide +kernel
theorem dL_areRows_176 : decode cL_areRows 176 = .ok (.iconst 1, 1) := by decide +kernel
theorem dL_areRows_177 : decode cL_areRows 177 = .ok (.invokevirtual 63, 3) := by decide +kernel
theorem dL_areRows_180 : decode cL_areRows 180 = .ok (.aload_n 2, 1) := by decide +kernel
theorem dL_areRows_181 : decode cL_areRows 181 = .ok (.iconst 2, 1) := by decide +kernel
theorem dL_areRows_182 : decode cL_areRows 182 = .ok (.iload 7, 2) := by decide +kernel
theorem dL_areRows_184 : decode cL_areRows 184 = .ok (.imul, 1) := by decide +kernel
theorem dL_areRows_185 : decode cL_areRows 185 = .ok (.iconst 1, 1) := by decide +kernel
theorem dL_areRows_186 : decode cL_areRows 186 = .ok (.iadd, 1) := by decide +kernel
theorem dL_areRows_187 : decode cL_areRows 187 = .ok (.iaload, 1) := by decide +kernel
theorem dL_areRows_188 : decode cL_areRows 188 = .ok (.if_icmp .ne 28, 3) := by decide +kernel
theorem dL_areRows_191 : decode cL_areRows 191 = .ok (.aload_n 0, 1) := by decide +kernel
theorem dL_areRows_192 : decode cL_areRows 192 = .ok (.iconst 1, 1) := by decide +kernel
theorem dL_areRows_193 : decode cL_areRows 193 = .ok (.iload 7, 2) := by decide +kernel
theorem dL_areRows_195 : decode cL_areRows 195 = .ok (.iconst 2, 1) := by decide +kernel
theorem dL_areRows_196 : decode cL_areRows 196 = .ok (.invokevirtual 63, 3) := by decide +kernel
theorem dL_areRows_199 : decode cL_areRows 199 = .ok (.iload 8, 2) := by decide +kernel
theorem dL_areRows_201 : decode cL_areRows 201 = .ok (.ifCond .eq 7, 3) := by decide +kernel
theorem dL_areRows_204 : decode cL_areRows 204 = .ok (.iconst 1, 1) := by decide +kernel
theorem dL_areRows_205 : decode cL_areRows 205 = .ok (.goto 4, 3) := by decide +kernel
theorem dL_areRows_208 : decode cL_areRows 208 = .ok (.iconst 0, 1) := by decide +kernel
theorem dL_areRows_209 : decode cL_areRows 209 = .ok (.if_icmp .ne 7, 3) := by decide +kernel
theorem dL_areRows_212 : decode cL_areRows 212 = .ok (.iconst 1, 1) := by decide +kernel
theorem dL_areRows_213 : decode cL_areRows 213 = .ok (.goto 4, 3) := by decide +kernel
theorem dL_areRows_216 : decode cL_areRows 216 = .ok (.iconst 0, 1) := by decide +kernel
theorem dL_areRows_217 : decode cL_areRows 217 = .ok (.istore 5, 2) := by decide +kernel
theorem dL_areRows_219 : decode cL_areRows 219 = .ok (.iinc 7 1, 3) := by decide +kernel
theorem dL_areRows_222 : decode cL_areRows 222 = .ok (.goto (-129), 3) := by decide +kernel
theorem dL_areRows_225 : decode cL_areRows 225 = .ok (.iconst 0, 1) := by decide +kernel
theorem dL_areRows_226 : decode cL_areRows 226 = .ok (.istore 7, 2) := by decide +kernel
theorem dL_areRows_228 : decode cL_areRows 228 = .ok (.iload 7, 2) := by decide +kernel
theorem dL_areRows_230 : decode cL_areRows 230 = .ok (.aload_n 1, 1) := by decide +kernel
theorem dL_areRows_231 : decode cL_areRows 231 = .ok (.bipush 6, 2) := by decide +kernel
theorem dL_areRows_233 : decode cL_areRows 233 = .ok (.iaload, 1) := by decide +kernel
theorem dL_areRows_234 : decode cL_areRows 234 = .ok (.if_icmp .ge 108, 3) := by decide +kernel
theorem dL_areRows_237 : decode cL_areRows 237 = .ok (.iload 6, 2) := by decide +kernel
theorem dL_areRows_239 : decode cL_areRows 239 = .ok (.aload_n 3, 1) := by decide +kernel
theorem dL_areRows_240 : decode cL_areRows 240 = .ok (.iconst 2, 1) := by decide +kernel
theorem dL_areRows_241 : decode cL_areRows 241 = .ok (.iload 7, 2) := by decide +kernel
theorem dL_areRows_243 : decode cL_areRows 243 = .ok (.imul, 1) := by decide +kernel
theorem dL_areRows_244 : decode cL_areRows 244 = .ok (.iconst 1, 1) := by decide +kernel
theorem dL_areRows_245 : decode cL_areRows 245 = .ok (.iadd, 1) := by decide +kernel
theorem dL_areRows_246 : decode cL_areRows 246 = .ok (.iaload, 1) := by decide +kernel
theorem dL_areRows_247 : decode cL_areRows 247 = .ok (.aload_n 1, 1) := by decide +kernel
theorem dL_areRows_248 : decode cL_areRows 248 = .ok (.aload_n 2, 1) := by decide +kernel
theorem dL_areRows_249 : decode cL_areRows 249 = .ok (.aload_n 3, 1) := by decide +kernel
theorem dL_areRows_250 : decode cL_areRows 250 = .ok (.iconst 2, 1) := by decide +kernel
theorem dL_areRows_251 : decode cL_areRows 251 = .ok (.iload 7, 2) := by decide +kernel
theorem dL_areRows_253 : decode cL_areRows 253 = .ok (.imul, 1) := by decide +kernel
theorem dL_areRows_254 : decode cL_areRows 254 = .ok (.iaload, 1) := by decide +kernel
theorem dL_areRows_255 : decode cL_areRows 255 = .ok (.iconst 1, 1) := by decide +kernel
theorem dL_areRows_256 : decode cL_areRows 256 = .ok (.invokestatic 15, 3) := by decide +kernel
theorem dL_areRows_259 : decode cL_areRows 259 = .ok (.imul, 1) := by decide +kernel
theorem dL_areRows_260 : decode cL_areRows 260 = .ok (.iadd, 1) := by decide +kernel
theorem dL_areRows_261 : decode cL_areRows 261 = .ok (.istore 6, 2) := by decide +kernel
theorem dL_areRows_263 : decode cL_areRows 263 = .ok (.iload 5, 2) := by decide +kernel
theorem dL_areRows_265 : decode cL_areRows 265 = .ok (.ifCond .eq 68, 3) := by decide +kernel
theorem dL_areRows_268 : decode cL_areRows 268 = .ok (.aload_n 0, 1) := by decide +kernel
theorem dL_areRows_269 : decode cL_areRows 269 = .ok (.iconst 0, 1) := by decide +kernel
theorem dL_areRows_270 : decode cL_areRows 270 = .ok (.iload 7, 2) := by decide +kernel
theorem dL_areRows_272 : decode cL_areRows 272 = .ok (.iconst 0, 1) := by decide +kernel
theorem dL_areRows_273 : decode cL_areRows 273 = .ok (.invokevirtual 63, 3) := by decide +kernel
theorem dL_areRows_276 : decode cL_areRows 276 = .ok (.aload_n 3, 1) := by decide +kernel
theorem dL_areRows_277 : decode cL_areRows 277 = .ok (.iconst 2, 1) := by decide +kernel
theorem dL_areRows_278 : decode cL_areRows 278 = .ok (.iload 7, 2) := by decide +kernel
theorem dL_areRows_280 : decode cL_areRows 280 = .ok (.imul, 1) := by decide +kernel
theorem dL_areRows_281 : decode cL_areRows 281 = .ok (.iaload, 1) := by decide +kernel
theorem dL_areRows_282 : decode cL_areRows 282 = .ok (.if_icmp .ne 51, 3) := by decide +kernel
theorem dL_areRows_285 : decode cL_areRows 285 = .ok (.aload_n 0, 1) := by decide +kernel
theorem dL_areRows_286 : decode cL_areRows 286 = .ok (.iconst 0, 1) := by decide +kernel
theorem dL_areRows_287 : decode cL_areRows 287 = .ok (.iload 7, 2) := by decide +kernel
theorem dL_areRows_289 : decode cL_areRows 289 = .ok (.iconst 1, 1) := by decide +kernel
theorem dL_areRows_290 : decode cL_areRows 290 = .ok (.invokevirtual 63, 3) := by decide +kernel
theorem dL_areRows_293 : decode cL_areRows 293 = .ok (.aload_n 3, 1) := by decide +kernel
theorem dL_areRows_294 : decode cL_areRows 294 = .ok (.iconst 2, 1) := by decide +kernel
theorem dL_areRows_295 : decode cL_areRows 295 = .ok (.iload 7, 2) := by decide +kernel
theorem dL_areRows_297 : decode cL_areRows 297 = .ok (.imul, 1) := by decide +kernel
theorem dL_areRows_298 : decode cL_areRows 298 = .ok (.iconst 1, 1) := by decide +kernel
theorem dL_areRows_299 : decode cL_areRows 299 = .ok (.iadd, 1) := by decide +kernel
theorem dL_areRows_300 : decode cL_areRows 300 = .ok (.iaload, 1) := by decide +kernel
theorem dL_areRows_301 : decode cL_areRows 301 = .ok (.if_icmp .ne 32, 3) := by decide +kernel
theorem dL_areRows_304 : decode cL_areRows 304 = .ok (.aload_n 0, 1) := by decide +kernel
theorem dL_areRows_305 : decode cL_areRows 305 = .ok (.iconst 0, 1) := by decide +kernel
theorem dL_areRows_306 : decode cL_areRows 306 = .ok (.iload 7, 2) := by decide +kernel
theorem dL_areRows_308 : decode cL_areRows 308 = .ok (.iconst 2, 1) := by decide +kernel
theorem dL_areRows_309 : decode cL_areRows 309 = .ok (.invokevirtual 63, 3) := by decide +kernel
theorem dL_areRows_312 : decode cL_areRows 312 = .ok (.iload 7, 2) := by decide +kernel
theorem dL_areRows_314 : decode cL_areRows 314 = .ok (.aload_n 1, 1) := by decide +kernel
theorem dL_areRows_315 : decode cL_areRows 315 = .ok (.bipush 7, 2) := by decide +kernel
theorem dL_areRows_317 : decode cL_areRows 317 = .ok (.iaload, 1) := by decide +kernel
theorem dL_areRows_318 : decode cL_areRows 318 = .ok (.if_icmp .ge 7, 3) := by decide +kernel
theorem dL_areRows_321 : decode cL_areRows 321 = .ok (.iconst 1, 1) := by decide +kernel
theorem dL_areRows_322 : decode cL_areRows 322 = .ok (.goto 4, 3) := by decide +kernel
theorem dL_areRows_325 : decode cL_areRows 325 = .ok (.iconst 0, 1) := by decide +kernel
theorem dL_areRows_326 : decode cL_areRows 326 = .ok (.if_icmp .ne 7, 3) := by decide +kernel
theorem dL_areRows_329 : decode cL_areRows 329 = .ok (.iconst 1, 1) := by decide +kernel
theorem dL_areRows_330 : decode cL_areRows 330 = .ok (.goto 4, 3) := by decide +kernel
theorem dL_areRows_333 : decode cL_areRows 333 = .ok (.iconst 0, 1) := by decide +kernel
theorem dL_areRows_334 : decode cL_areRows 334 = .ok (.istore 5, 2) := by decide +kernel
theorem dL_areRows_336 : decode cL_areRows 336 = .ok (.iinc 7 1, 3) := by decide +kernel
theorem dL_areRows_339 : decode cL_areRows 339 = .ok (.goto (-111), 3) := by decide +kernel
theorem dL_areRows_342 : decode cL_areRows 342 = .ok (.iload 5, 2) := by decide +kernel
theorem dL_areRows_344 : decode cL_areRows 344 = .ok (.ifCond .eq 27, 3) := by decide +kernel
theorem dL_areRows_347 : decode cL_areRows 347 = .ok (.aload_n 0, 1) := by decide +kernel
theorem dL_areRows_348 : decode cL_areRows 348 = .ok (.iconst 0, 1) := by decide +kernel
theorem dL_areRows_349 : decode cL_areRows 349 = .ok (.invokevirtual 67, 3) := by decide +kernel
theorem dL_areRows_352 : decode cL_areRows 352 = .ok (.iload 6, 2) := by decide +kernel
theorem dL_areRows_354 : decode cL_areRows 354 = .ok (.if_icmp .ne 17, 3) := by decide +kernel
theorem dL_areRows_357 : decode cL_areRows 357 = .ok (.aload_n 0, 1) := by decide +kernel
theorem dL_areRows_358 : decode cL_areRows 358 = .ok (.iconst 1, 1) := by decide +kernel
theorem dL_areRows_359 : decode cL_areRows 359 = .ok (.invokevirtual 67, 3) := by decide +kernel
theorem dL_areRows_362 : decode cL_areRows 362 = .ok (.iload 6, 2) := by decide +kernel
theorem dL_areRows_364 : decode cL_areRows 364 = .ok (.if_icmp .ne 7, 3) := by decide +kernel
theorem dL_areRows_367 : decode cL_areRows 367 = .ok (.iconst 1, 1) := by decide +kernel
theorem dL_areRows_368 : decode cL_areRows 368 = .ok (.goto 4, 3) := by decide +kernel
theorem dL_areRows_371 : decode cL_areRows 371 = .ok (.iconst 0, 1) := by decide +kernel
theorem dL_areRows_372 : decode cL_areRows 372 = .ok (.ireturn, 1) := by decide +kernel
set_option maxRecDepth 20000 in
theorem ggL_isRow_X6_add : GoodIn wsL_isRow wsX6_add := goodIn_r _ [5, 6, 7, 8, 9, 10, 11, 12, 13, 14, 15, 16, 17, 18, 19, 20, 21, 22, 23, 24, 25, 26, 27, 28, 29, 30, 31, 32, 33, 34, 35, 36, 37, 38, 39, 40, 4, 41, 42, 43, 44, 45, 46, 47, 48, 49, 50, 51, 52, 53, 54, 55, 56, 57, 58, 59, 60, 61, 62, 63, 64, 65, 66, 67, 68, 69, 70, 71, 72, 73, 74, 75, 76, 77, 78, 79, 80, 81, 82, 83, 84, 85, 86, 87, 88, 89, 90, 91, 92, 93, 94, 95, 96, 97, 98, 99, 100, 101, 102, 103, 104, 105, 106, 107, 108, 109, 110, 111, 112, 113, 114, 115, 116, 117, 118, 119, 120, 121, 122, 123, 124, 125, 126, 127, 128, 129, 130, 131, 132, 133, 134, 135, 136, 137, 138, 139, 140, 141, 142, 143, 144, 145, 162, 163, 164, 165, 166, 167, 168, 169, 170, 171, 172, 173, 174, 175, 176, 177, 178, 179, 180, 181, 182, 183, 184, 185, 186, 187, 188, 189, 190, 191] (by decide +kernel) (by decide +kernel)
set_option maxRecDepth 20000 in
theorem gL_isRow_X6_add : GoodIn wsL_isRow (wsV RL 70 RX6 yX6_add wsX6_add) := goodIn_app (goodIn_of _ (by decide +kernel)) ggL_isRow_X6_add
set_option maxRecDepth 20000 in
theorem ggL_isRow_L_kept : GoodIn wsL_isRow wsL_kept := goodIn_r _ [149, 150, 151, 148, 152, 153, 154, 155, 156, 157, 158, 159, 160, 161] (by decide +kernel) (by decide +kernel)
set_option maxRecDepth 20000 in
theorem gL_isRow_L_kept : GoodIn wsL_isRow (va_wsS RL 73 yL_kept wsL_kept) := goodIn_app (goodIn_of _ (by decide +kernel)) ggL_isRow_L_kept
theorem dL_isRow_0 : decode cL_isRow 0 = .ok (.iload 6, 2) := by decide +kernel
theorem dL_isRow_2 : decode cL_isRow 2 = .ok (.ifCond .eq 9, 3) := by decide +kernel
theorem dL_isRow_5 : decode cL_isRow 5 = .ok (.aload_n 1, 1) := by decide +kernel
theorem dL_isRow_6 : decode cL_isRow 6 = .ok (.iconst 5, 1) := by decide +kernel
theorem dL_isRow_7 : decode cL_isRow 7 = .ok (.iaload, 1) := by decide +kernel
theorem dL_isRow_8 : decode cL_isRow 8 = .ok (.goto 7, 3) := by decide +kernel
theorem dL_isRow_11 : decode cL_isRow 11 = .ok (.aload_n 1, 1) := by decide +kernel
theorem dL_isRow_12 : decode cL_isRow 12 = .ok (.bipush 6, 2) := by decide +kernel
theorem dL_isRow_14 : decode cL_isRow 14 = .ok (.iaload, 1) := by decide +kernel
theorem dL_isRow_15 : decode cL_isRow 15 = .ok (.istore 8, 2) := by decide +kernel
theorem dL_isRow_17 : decode cL_isRow 17 = .ok (.iload 7, 2) := by decide +kernel
theorem dL_isRow_19 : decode cL_isRow 19 = .ok (.iconst 3, 1) := by decide +kernel
theorem dL_isRow_20 : decode cL_isRow 20 = .ok (.irem, 1) := by decide +kernel
theorem dL_isRow_21 : decode cL_isRow 21 = .ok (.ifCond .ne 13, 3) := by decide +kernel
theorem dL_isRow_24 : decode cL_isRow 24 = .ok (.iload 7, 2) := by decide +kernel
theorem dL_isRow_26 : decode cL_isRow 26 = .ok (.iconst 3, 1) := by decide +kernel
theorem dL_isRow_27 : decode cL_isRow 27 = .ok (.idiv, 1) := by decide +kernel
theorem dL_isRow_28 : decode cL_isRow 28 = .ok (.bipush 10, 2) := by decide +kernel
theorem dL_isRow_30 : decode cL_isRow 30 = .ok (.irem, 1) := by decide +kernel
theorem dL_isRow_31 : decode cL_isRow 31 = .ok (.goto 9, 3) := by decide +kernel
theorem dL_isRow_34 : decode cL_isRow 34 = .ok (.iload 7, 2) := by decide +kernel
theorem dL_isRow_36 : decode cL_isRow 36 = .ok (.iconst 3, 1) := by decide +kernel
theorem dL_isRow_37 : decode cL_isRow 37 = .ok (.idiv, 1) := by decide +kernel
theorem dL_isRow_38 : decode cL_isRow 38 = .ok (.iconst 4, 1) := by decide +kernel
theorem dL_isRow_39 : decode cL_isRow 39 = .ok (.irem, 1) := by decide +kernel
theorem dL_isRow_40 : decode cL_isRow 40 = .ok (.istore 9, 2) := by decide +kernel
theorem dL_isRow_42 : decode cL_isRow 42 = .ok (.iload 7, 2) := by decide +kernel
theorem dL_isRow_44 : decode cL_isRow 44 = .ok (.bipush 30, 2) := by decide +kernel
theorem dL_isRow_46 : decode cL_isRow 46 = .ok (.idiv, 1) := by decide +kernel
theorem dL_isRow_47 : decode cL_isRow 47 = .ok (.bipush 100, 2) := by decide +kernel
theorem dL_isRow_49 : decode cL_isRow 49 = .ok (.irem, 1) := by decide +kernel
theorem dL_isRow_50 : decode cL_isRow 50 = .ok (.istore 10, 2) := by decide +kernel
theorem dL_isRow_52 : decode cL_isRow 52 = .ok (.iload 8, 2) := by decide +kernel
theorem dL_isRow_54 : decode cL_isRow 54 = .ok (.bipush 20, 2) := by decide +kernel
theorem dL_isRow_56 : decode cL_isRow 56 = .ok (.if_icmp .ne 24, 3) := by decide +kernel
theorem dL_isRow_59 : decode cL_isRow 59 = .ok (.aload_n 0, 1) := by decide +kernel
theorem dL_isRow_60 : decode cL_isRow 60 = .ok (.iload 6, 2) := by decide +kernel
theorem dL_isRow_62 : decode cL_isRow 62 = .ok (.iload 9, 2) := by decide +kernel
theorem dL_isRow_64 : decode cL_isRow 64 = .ok (.iload 10, 2) := by decide +kernel
theorem dL_isRow_66 : decode cL_isRow 66 = .ok (.invokevirtual 70, 3) := by decide +kernel
theorem dL_isRow_69 : decode cL_isRow 69 = .ok (.bipush (-3), 2) := by decide +kernel
theorem dL_isRow_71 : decode cL_isRow 71 = .ok (.if_icmp .ne 7, 3) := by decide +kernel
theorem dL_isRow_74 : decode cL_isRow 74 = .ok (.iconst 1, 1) := by decide +kernel
theorem dL_isRow_75 : decode cL_isRow 75 = .ok (.goto 4, 3) := by decide +kernel
theorem dL_isRow_78 : decode cL_isRow 78 = .ok (.iconst 0, 1) := by decide +kernel
theorem dL_isRow_79 : decode cL_isRow 79 = .ok (.ireturn, 1) := by decide +kernel
theorem dL_isRow_80 : decode cL_isRow 80 = .ok (.iload 6, 2) := by decide +kernel
theorem dL_isRow_82 : decode cL_isRow 82 = .ok (.ifCond .eq 43, 3) := by decide +kernel
theorem dL_isRow_85 : decode cL_isRow 85 = .ok (.aload_n 2, 1) := by decide +kernel
theorem dL_isRow_86 : decode cL_isRow 86 = .ok (.iconst 2, 1) := by decide +kernel
theorem dL_isRow_87 : decode cL_isRow 87 = .ok (.iload 8, 2) := by decide +kernel
theorem dL_isRow_89 : decode cL_isRow 89 = .ok (.imul, 1) := by decide +kernel
theorem dL_isRow_90 : decode cL_isRow 90 = .ok (.iload 9, 2) := by decide +kernel
theorem dL_isRow_92 : decode cL_isRow 92 = .ok (.iastore, 1) := by decide +kernel
theorem dL_isRow_93 : decode cL_isRow 93 = .ok (.aload_n 2, 1) := by decide +kernel
theorem dL_isRow_94 : decode cL_isRow 94 = .ok (.iconst 2, 1) := by decide +kernel
theorem dL_isRow_95 : decode cL_isRow 95 = .ok (.iload 8, 2) := by decide +kernel
theorem dL_isRow_97 : decode cL_isRow 97 = .ok (.imul, 1) := by decide +kernel
theorem dL_isRow_98 : decode cL_isRow 98 = .ok (.iconst 1, 1) := by decide +kernel
theorem dL_isRow_99 : decode cL_isRow 99 = .ok (.iadd, 1) := by decide +kernel
theorem dL_isRow_100 : decode cL_isRow 100 = .ok (.iload 10, 2) := by decide +kernel
theorem dL_isRow_102 : decode cL_isRow 102 = .ok (.iastore, 1) := by decide +kernel
theorem dL_isRow_103 : decode cL_isRow 103 = .ok (.aload_n 1, 1) := by decide +kernel
theorem dL_isRow_104 : decode cL_isRow 104 = .ok (.iconst 5, 1) := by decide +kernel
theorem dL_isRow_105 : decode cL_isRow 105 = .ok (.dup2, 1) := by decide +kernel
theorem dL_isRow_106 : decode cL_isRow 106 = .ok (.iaload, 1) := by decide +kernel
theorem dL_isRow_107 : decode cL_isRow 107 = .ok (.iconst 1, 1) := by decide +kernel
theorem dL_isRow_108 : decode cL_isRow 108 = .ok (.iadd, 1) := by decide +kernel
theorem dL_isRow_109 : decode cL_isRow 109 = .ok (.iastore, 1) := by decide +kernel
theorem dL_isRow_110 : decode cL_isRow 110 = .ok (.aload_n 1, 1) := by decide +kernel
theorem dL_isRow_111 : decode cL_isRow 111 = .ok (.aload 4, 2) := by decide +kernel
theorem dL_isRow_113 : decode cL_isRow 113 = .ok (.aload 5, 2) := by decide +kernel
theorem dL_isRow_115 : decode cL_isRow 115 = .ok (.iload 9, 2) := by decide +kernel
theorem dL_isRow_117 : decode cL_isRow 117 = .ok (.iload 9, 2) := by decide +kernel
theorem dL_isRow_119 : decode cL_isRow 119 = .ok (.invokestatic 73, 3) := by decide +kernel
theorem dL_isRow_122 : decode cL_isRow 122 = .ok (.goto 29, 3) := by decide +kernel
theorem dL_isRow_125 : decode cL_isRow 125 = .ok (.aload_n 3, 1) := by decide +kernel
theorem dL_isRow_126 : decode cL_isRow 126 = .ok (.iconst 2, 1) := by decide +kernel
theorem dL_isRow_127 : decode cL_isRow 127 = .ok (.iload 8, 2) := by decide +kernel
theorem dL_isRow_129 : decode cL_isRow 129 = .ok (.imul, 1) := by decide +kernel
theorem dL_isRow_130 : decode cL_isRow 130 = .ok (.iload 9, 2) := by decide +kernel
theorem dL_isRow_132 : decode cL_isRow 132 = .ok (.iastore, 1) := by decide +kernel
theorem dL_isRow_133 : decode cL_isRow 133 = .ok (.aload_n 3, 1) := by decide +kernel
theorem dL_isRow_134 : decode cL_isRow 134 = .ok (.iconst 2, 1) := by decide +kernel
theorem dL_isRow_135 : decode cL_isRow 135 = .ok (.iload 8, 2) := by decide +kernel
theorem dL_isRow_137 : decode cL_isRow 137 = .ok (.imul, 1) := by decide +kernel
theorem dL_isRow_138 : decode cL_isRow 138 = .ok (.iconst 1, 1) := by decide +kernel
theorem dL_isRow_139 : decode cL_isRow 139 = .ok (.iadd, 1) := by decide +kernel
theorem dL_isRow_140 : decode cL_isRow 140 = .ok (.iload 10, 2) := by decide +kernel
theorem dL_isRow_142 : decode cL_isRow 142 = .ok (.iastore, 1) := by decide +kernel
theorem dL_isRow_143 : decode cL_isRow 143 = .ok (.aload_n 1, 1) := by decide +kernel
theorem dL_isRow_144 : decode cL_isRow 144 = .ok (.bipush 6, 2) := by decide +kernel
theorem dL_isRow_146 : decode cL_isRow 146 = .ok (.dup2, 1) := by decide +kernel
theorem dL_isRow_147 : decode cL_isRow 147 = .ok (.iaload, 1) := by decide +kernel
theorem dL_isRow_148 : decode cL_isRow 148 = .ok (.iconst 1, 1) := by decide +kernel
theorem dL_isRow_149 : decode cL_isRow 149 = .ok (.iadd, 1) := by decide +kernel
theorem dL_isRow_150 : decode cL_isRow 150 = .ok (.iastore, 1) := by decide +kernel
theorem dL_isRow_151 : decode cL_isRow 151 = .ok (.aload_n 0, 1) := by decide +kernel
theorem dL_isRow_152 : decode cL_isRow 152 = .ok (.iload 6, 2) := by decide +kernel
theorem dL_isRow_154 : decode cL_isRow 154 = .ok (.iload 9, 2) := by decide +kernel
theorem dL_isRow_156 : decode cL_isRow 156 = .ok (.iload 10, 2) := by decide +kernel
theorem dL_isRow_158 : decode cL_isRow 158 = .ok (.invokevirtual 70, 3) := by decide +kernel
theorem dL_isRow_161 : decode cL_isRow 161 = .ok (.iload 8, 2) := by decide +kernel
theorem dL_isRow_163 : decode cL_isRow 163 = .ok (.if_icmp .ne 7, 3) := by decide +kernel
theorem dL_isRow_166 : decode cL_isRow 166 = .ok (.iconst 1, 1) := by decide +kernel
theorem dL_isRow_167 : decode cL_isRow 167 = .ok (.goto 4, 3) := by decide +kernel
theorem dL_isRow_170 : decode cL_isRow 170 = .ok (.iconst 0, 1) := by decide +kernel
theorem dL_isRow_171 : decode cL_isRow 171 = .ok (.ireturn, 1) := by decide +kernel
set_option maxRecDepth 20000 in
theorem ggL_isGone_X6_drop : GoodIn wsL_isGone wsX6_drop := goodIn_r _ [5, 6, 7, 8, 9, 10, 11, 12, 13, 14, 15, 16, 17, 18, 19, 20, 21, 22, 23, 24, 25, 26, 27, 28, 29, 30, 31, 32, 33, 34, 35, 36, 37, 38, 39, 40, 4, 41, 42, 43, 44, 45, 46, 47, 48, 49, 50, 51, 52, 53, 54, 55, 56, 57, 58, 59, 60, 61, 62, 63, 64, 65, 66, 67, 68, 69, 70, 71, 72, 73, 74, 75, 76, 77, 78, 79, 80, 81, 82, 83, 84, 85, 86, 87, 88, 89, 90, 91, 92, 93, 94, 95, 96, 97, 98, 99, 100, 101, 102, 103, 104, 105, 106, 107, 108, 109, 110, 111, 112, 113, 114, 115, 116, 117, 118, 119, 120, 121, 122, 123, 124, 125, 126, 127, 128, 129, 130, 131, 132, 133, 134, 135, 136, 137, 138, 139, 140, 141, 142, 143, 144, 145, 146, 147, 148, 149, 166, 167, 168, 169, 170, 171, 172, 173, 174, 175, 176, 177, 178, 179, 180, 181, 182, 183, 184, 185, 186, 187, 188, 189, 190, 191, 192, 193, 194, 195] (by decide +kernel) (by decide +kernel)
set_option maxRecDepth 20000 in
theorem gL_isGone_X6_drop : GoodIn wsL_isGone (wsV RL 77 RX6 yX6_drop wsX6_drop) := goodIn_app (goodIn_of _ (by decide +kernel)) ggL_isGone_X6_drop
set_option maxRecDepth 20000 in
theorem ggL_isGone_L_kept : GoodIn wsL_isGone wsL_kept := goodIn_r _ [153, 154, 155, 152, 156, 157, 158, 159, 160, 161, 162, 163, 164, 165] (by decide +kernel) (by decide +kernel)
set_option maxRecDepth 20000 in
theorem gL_isGone_L_kept : GoodIn wsL_isGone (va_wsS RL 73 yL_kept wsL_kept) := goodIn_app (goodIn_of _ (by decide +kernel)) ggL_isGone_L_kept
theorem dL_isGone_0 : decode cL_isGone 0 = .ok (.iload 7, 2) := by decide +kernel
theorem dL_isGone_2 : decode cL_isGone 2 = .ok (.iload 6, 2) := by decide +kernel
theorem dL_isGone_4 : decode cL_isGone 4 = .ok (.ifCond .eq 9, 3) := by decide +kernel
theorem dL_isGone_7 : decode cL_isGone 7 = .ok (.aload_n 1, 1) := by decide +kernel
theorem dL_isGone_8 : decode cL_isGone 8 = .ok (.iconst 5, 1) := by decide +kernel
theorem dL_isGone_9 : decode cL_isGone 9 = .ok (.iaload, 1) := by decide +kernel
theorem dL_isGone_10 : decode cL_isGone 10 = .ok (.goto 7, 3) := by decide +kernel
theorem dL_isGone_13 : decode cL_isGone 13 = .ok (.aload_n 1, 1) := by decide +kernel
theorem dL_isGone_14 : decode cL_isGone 14 = .ok (.bipush 6, 2) := by decide +kernel
theorem dL_isGone_16 : decode cL_isGone 16 = .ok (.iaload, 1) := by decide +kernel
theorem dL_isGone_17 : decode cL_isGone 17 = .ok (.if_icmp .lt 21, 3) := by decide +kernel
theorem dL_isGone_20 : decode cL_isGone 20 = .ok (.aload_n 0, 1) := by decide +kernel
theorem dL_isGone_21 : decode cL_isGone 21 = .ok (.iload 6, 2) := by decide +kernel
theorem dL_isGone_23 : decode cL_isGone 23 = .ok (.iload 7, 2) := by decide +kernel
theorem dL_isGone_25 : decode cL_isGone 25 = .ok (.invokevirtual 77, 3) := by decide +kernel
theorem dL_isGone_28 : decode cL_isGone 28 = .ok (.iconst (-1), 1) := by decide +kernel
theorem dL_isGone_29 : decode cL_isGone 29 = .ok (.if_icmp .ne 7, 3) := by decide +kernel
theorem dL_isGone_32 : decode cL_isGone 32 = .ok (.iconst 1, 1) := by decide +kernel
theorem dL_isGone_33 : decode cL_isGone 33 = .ok (.goto 4, 3) := by decide +kernel
theorem dL_isGone_36 : decode cL_isGone 36 = .ok (.iconst 0, 1) := by decide +kernel
theorem dL_isGone_37 : decode cL_isGone 37 = .ok (.ireturn, 1) := by decide +kernel
theorem dL_isGone_38 : decode cL_isGone 38 = .ok (.iload 6, 2) := by decide +kernel
theorem dL_isGone_40 : decode cL_isGone 40 = .ok (.ifCond .eq 12, 3) := by decide +kernel
theorem dL_isGone_43 : decode cL_isGone 43 = .ok (.aload_n 2, 1) := by decide +kernel
theorem dL_isGone_44 : decode cL_isGone 44 = .ok (.iconst 2, 1) := by decide +kernel
theorem dL_isGone_45 : decode cL_isGone 45 = .ok (.iload 7, 2) := by decide +kernel
theorem dL_isGone_47 : decode cL_isGone 47 = .ok (.imul, 1) := by decide +kernel
theorem dL_isGone_48 : decode cL_isGone 48 = .ok (.iaload, 1) := by decide +kernel
theorem dL_isGone_49 : decode cL_isGone 49 = .ok (.goto 9, 3) := by decide +kernel
theorem dL_isGone_52 : decode cL_isGone 52 = .ok (.aload_n 3, 1) := by decide +kernel
theorem dL_isGone_53 : decode cL_isGone 53 = .ok (.iconst 2, 1) := by decide +kernel
theorem dL_isGone_54 : decode cL_isGone 54 = .ok (.iload 7, 2) := by decide +kernel
theorem dL_isGone_56 : decode cL_isGone 56 = .ok (.imul, 1) := by decide +kernel
theorem dL_isGone_57 : decode cL_isGone 57 = .ok (.iaload, 1) := by decide +kernel
theorem dL_isGone_58 : decode cL_isGone 58 = .ok (.istore 8, 2) := by decide +kernel
theorem dL_isGone_60 : decode cL_isGone 60 = .ok (.aload_n 1, 1) := by decide +kernel
theorem dL_isGone_61 : decode cL_isGone 61 = .ok (.iload 6, 2) := by decide +kernel
theorem dL_isGone_63 : decode cL_isGone 63 = .ok (.ifCond .eq 7, 3) := by decide +kernel
theorem dL_isGone_66 : decode cL_isGone 66 = .ok (.iconst 5, 1) := by decide +kernel
theorem dL_isGone_67 : decode cL_isGone 67 = .ok (.goto 5, 3) := by decide +kernel
theorem dL_isGone_70 : decode cL_isGone 70 = .ok (.bipush 6, 2) := by decide +kernel
theorem dL_isGone_72 : decode cL_isGone 72 = .ok (.dup2, 1) := by decide +kernel
theorem dL_isGone_73 : decode cL_isGone 73 = .ok (.iaload, 1) := by decide +kernel
theorem dL_isGone_74 : decode cL_isGone 74 = .ok (.iconst 1, 1) := by decide +kernel
theorem dL_isGone_75 : decode cL_isGone 75 = .ok (.isub, 1) := by decide +kernel
theorem dL_isGone_76 : decode cL_isGone 76 = .ok (.iastore, 1) := by decide +kernel
theorem dL_isGone_77 : decode cL_isGone 77 = .ok (.iconst 2, 1) := by decide +kernel
theorem dL_isGone_78 : decode cL_isGone 78 = .ok (.iload 7, 2) := by decide +kernel
