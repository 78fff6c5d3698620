theorem dL_isMessage_175 : decode cL_isMessage 175 = .ok (.iconst 3, 1) := by decide +kernel
theorem dL_isMessage_176 : decode cL_isMessage 176 = .ok (.goto 21, 3) := by decide +kernel
theorem dL_isMessage_179 : decode cL_isMessage 179 = .ok (.iload 8, 2) := by decide +kernel
theorem dL_isMessage_181 : decode cL_isMessage 181 = .ok (.iconst 3, 1) := by decide +kernel
theorem dL_isMessage_182 : decode cL_isMessage 182 = .ok (.if_icmp .eq 10, 3) := by decide +kernel
theorem dL_isMessage_185 : decode cL_isMessage 185 = .ok (.iload 8, 2) := by decide +kernel
theorem dL_isMessage_187 : decode cL_isMessage 187 = .ok (.bipush 6, 2) := by decide +kernel
theorem dL_isMessage_189 : decode cL_isMessage 189 = .ok (.if_icmp .ne 7, 3) := by decide +kernel
theorem dL_isMessage_192 : decode cL_isMessage 192 = .ok (.iconst 1, 1) := by decide +kernel
theorem dL_isMessage_193 : decode cL_isMessage 193 = .ok (.goto 4, 3) := by decide +kernel
theorem dL_isMessage_196 : decode cL_isMessage 196 = .ok (.iconst 0, 1) := by decide +kernel
theorem dL_isMessage_197 : decode cL_isMessage 197 = .ok (.istore 12, 2) := by decide +kernel
theorem dL_isMessage_199 : decode cL_isMessage 199 = .ok (.iconst 0, 1) := by decide +kernel
theorem dL_isMessage_200 : decode cL_isMessage 200 = .ok (.istore 13, 2) := by decide +kernel
theorem dL_isMessage_202 : decode cL_isMessage 202 = .ok (.iload 13, 2) := by decide +kernel
theorem dL_isMessage_204 : decode cL_isMessage 204 = .ok (.iload 12, 2) := by decide +kernel
theorem dL_isMessage_206 : decode cL_isMessage 206 = .ok (.if_icmp .ge 388, 3) := by decide +kernel
theorem dL_isMessage_209 : decode cL_isMessage 209 = .ok (.iload 8, 2) := by decide +kernel
theorem dL_isMessage_211 : decode cL_isMessage 211 = .ok (.iconst 3, 1) := by decide +kernel
theorem dL_isMessage_212 : decode cL_isMessage 212 = .ok (.if_icmp .ne 8, 3) := by decide +kernel
theorem dL_isMessage_215 : decode cL_isMessage 215 = .ok (.bipush 7, 2) := by decide +kernel
theorem dL_isMessage_217 : decode cL_isMessage 217 = .ok (.goto 147, 3) := by decide +kernel
theorem dL_isMessage_220 : decode cL_isMessage 220 = .ok (.iload 8, 2) := by decide +kernel
theorem dL_isMessage_222 : decode cL_isMessage 222 = .ok (.iconst 5, 1) := by decide +kernel
theorem dL_isMessage_223 : decode cL_isMessage 223 = .ok (.if_icmp .ne 40, 3) := by decide +kernel
theorem dL_isMessage_226 : decode cL_isMessage 226 = .ok (.iload 13, 2) := by decide +kernel
theorem dL_isMessage_228 : decode cL_isMessage 228 = .ok (.ifCond .ne 8, 3) := by decide +kernel
theorem dL_isMessage_231 : decode cL_isMessage 231 = .ok (.bipush 11, 2) := by decide +kernel
theorem dL_isMessage_233 : decode cL_isMessage 233 = .ok (.goto 131, 3) := by decide +kernel
theorem dL_isMessage_236 : decode cL_isMessage 236 = .ok (.iload 13, 2) := by decide +kernel
theorem dL_isMessage_238 : decode cL_isMessage 238 = .ok (.iconst 1, 1) := by decide +kernel
theorem dL_isMessage_239 : decode cL_isMessage 239 = .ok (.if_icmp .ne 8, 3) := by decide +kernel
theorem dL_isMessage_242 : decode cL_isMessage 242 = .ok (.bipush 54, 2) := by decide +kernel
theorem dL_isMessage_244 : decode cL_isMessage 244 = .ok (.goto 120, 3) := by decide +kernel
theorem dL_isMessage_247 : decode cL_isMessage 247 = .ok (.iload 13, 2) := by decide +kernel
theorem dL_isMessage_249 : decode cL_isMessage 249 = .ok (.iconst 2, 1) := by decide +kernel
theorem dL_isMessage_250 : decode cL_isMessage 250 = .ok (.if_icmp .ne 8, 3) := by decide +kernel
theorem dL_isMessage_253 : decode cL_isMessage 253 = .ok (.bipush 44, 2) := by decide +kernel
theorem dL_isMessage_255 : decode cL_isMessage 255 = .ok (.goto 109, 3) := by decide +kernel
theorem dL_isMessage_258 : decode cL_isMessage 258 = .ok (.bipush 38, 2) := by decide +kernel
theorem dL_isMessage_260 : decode cL_isMessage 260 = .ok (.goto 104, 3) := by decide +kernel
theorem dL_isMessage_263 : decode cL_isMessage 263 = .ok (.iload 8, 2) := by decide +kernel
theorem dL_isMessage_265 : decode cL_isMessage 265 = .ok (.bipush 8, 2) := by decide +kernel
theorem dL_isMessage_267 : decode cL_isMessage 267 = .ok (.if_icmp .ge 29, 3) := by decide +kernel
theorem dL_isMessage_270 : decode cL_isMessage 270 = .ok (.iload 13, 2) := by decide +kernel
theorem dL_isMessage_272 : decode cL_isMessage 272 = .ok (.ifCond .ne 8, 3) := by decide +kernel
theorem dL_isMessage_275 : decode cL_isMessage 275 = .ok (.bipush 41, 2) := by decide +kernel
theorem dL_isMessage_277 : decode cL_isMessage 277 = .ok (.goto 87, 3) := by decide +kernel
theorem dL_isMessage_280 : decode cL_isMessage 280 = .ok (.iload 13, 2) := by decide +kernel
theorem dL_isMessage_282 : decode cL_isMessage 282 = .ok (.iconst 1, 1) := by decide +kernel
theorem dL_isMessage_283 : decode cL_isMessage 283 = .ok (.if_icmp .ne 8, 3) := by decide +kernel
theorem dL_isMessage_286 : decode cL_isMessage 286 = .ok (.bipush 44, 2) := by decide +kernel
theorem dL_isMessage_288 : decode cL_isMessage 288 = .ok (.goto 76, 3) := by decide +kernel
theorem dL_isMessage_291 : decode cL_isMessage 291 = .ok (.bipush 38, 2) := by decide +kernel
theorem dL_isMessage_293 : decode cL_isMessage 293 = .ok (.goto 71, 3) := by decide +kernel
theorem dL_isMessage_296 : decode cL_isMessage 296 = .ok (.iload 13, 2) := by decide +kernel
theorem dL_isMessage_298 : decode cL_isMessage 298 = .ok (.ifCond .ne 9, 3) := by decide +kernel
theorem dL_isMessage_301 : decode cL_isMessage 301 = .ok (.sipush 150, 3) := by decide +kernel
theorem dL_isMessage_304 : decode cL_isMessage 304 = .ok (.goto 60, 3) := by decide +kernel
theorem dL_isMessage_307 : decode cL_isMessage 307 = .ok (.iload 13, 2) := by decide +kernel
theorem dL_isMessage_309 : decode cL_isMessage 309 = .ok (.iconst 1, 1) := by decide +kernel
theorem dL_isMessage_310 : decode cL_isMessage 310 = .ok (.if_icmp .ne 8, 3) := by decide +kernel
theorem dL_isMessage_313 : decode cL_isMessage 313 = .ok (.bipush 37, 2) := by decide +kernel
theorem dL_isMessage_315 : decode cL_isMessage 315 = .ok (.goto 49, 3) := by decide +kernel
theorem dL_isMessage_318 : decode cL_isMessage 318 = .ok (.iload 9, 2) := by decide +kernel
theorem dL_isMessage_320 : decode cL_isMessage 320 = .ok (.iconst 2, 1) := by decide +kernel
theorem dL_isMessage_321 : decode cL_isMessage 321 = .ok (.if_icmp .ne 8, 3) := by decide +kernel
theorem dL_isMessage_324 : decode cL_isMessage 324 = .ok (.bipush 32, 2) := by decide +kernel
theorem dL_isMessage_326 : decode cL_isMessage 326 = .ok (.goto 38, 3) := by decide +kernel
theorem dL_isMessage_329 : decode cL_isMessage 329 = .ok (.iload 9, 2) := by decide +kernel
theorem dL_isMessage_331 : decode cL_isMessage 331 = .ok (.iconst 3, 1) := by decide +kernel
theorem dL_isMessage_332 : decode cL_isMessage 332 = .ok (.if_icmp .ne 19, 3) := by decide +kernel
theorem dL_isMessage_335 : decode cL_isMessage 335 = .ok (.iload 13, 2) := by decide +kernel
theorem dL_isMessage_337 : decode cL_isMessage 337 = .ok (.iconst 2, 1) := by decide +kernel
theorem dL_isMessage_338 : decode cL_isMessage 338 = .ok (.if_icmp .ne 8, 3) := by decide +kernel
theorem dL_isMessage_341 : decode cL_isMessage 341 = .ok (.bipush 44, 2) := by decide +kernel
theorem dL_isMessage_343 : decode cL_isMessage 343 = .ok (.goto 21, 3) := by decide +kernel
theorem dL_isMessage_346 : decode cL_isMessage 346 = .ok (.bipush 38, 2) := by decide +kernel
theorem dL_isMessage_348 : decode cL_isMessage 348 = .ok (.goto 16, 3) := by decide +kernel
theorem dL_isMessage_351 : decode cL_isMessage 351 = .ok (.iload 13, 2) := by decide +kernel
theorem dL_isMessage_353 : decode cL_isMessage 353 = .ok (.iconst 2, 1) := by decide +kernel
theorem dL_isMessage_354 : decode cL_isMessage 354 = .ok (.if_icmp .ne 8, 3) := by decide +kernel
theorem dL_isMessage_357 : decode cL_isMessage 357 = .ok (.bipush 17, 2) := by decide +kernel
theorem dL_isMessage_359 : decode cL_isMessage 359 = .ok (.goto 5, 3) := by decide +kernel
theorem dL_isMessage_362 : decode cL_isMessage 362 = .ok (.bipush 31, 2) := by decide +kernel
theorem dL_isMessage_364 : decode cL_isMessage 364 = .ok (.istore 14, 2) := by decide +kernel
theorem dL_isMessage_366 : decode cL_isMessage 366 = .ok (.lload 6, 2) := by decide +kernel
theorem dL_isMessage_368 : decode cL_isMessage 368 = .ok (.iconst 5, 1) := by decide +kernel
theorem dL_isMessage_369 : decode cL_isMessage 369 = .ok (.bipush 8, 2) := by decide +kernel
theorem dL_isMessage_371 : decode cL_isMessage 371 = .ok (.iload 13, 2) := by decide +kernel
theorem dL_isMessage_373 : decode cL_isMessage 373 = .ok (.imul, 1) := by decide +kernel
theorem dL_isMessage_374 : decode cL_isMessage 374 = .ok (.iadd, 1) := by decide +kernel
theorem dL_isMessage_375 : decode cL_isMessage 375 = .ok (.invokestatic 135, 3) := by decide +kernel
theorem dL_isMessage_378 : decode cL_isMessage 378 = .ok (.istore 15, 2) := by decide +kernel
theorem dL_isMessage_380 : decode cL_isMessage 380 = .ok (.iload 8, 2) := by decide +kernel
theorem dL_isMessage_382 : decode cL_isMessage 382 = .ok (.bipush 8, 2) := by decide +kernel
theorem dL_isMessage_384 : decode cL_isMessage 384 = .ok (.if_icmp .ne 163, 3) := by decide +kernel
theorem dL_isMessage_387 : decode cL_isMessage 387 = .ok (.iload 9, 2) := by decide +kernel
theorem dL_isMessage_389 : decode cL_isMessage 389 = .ok (.iconst 1, 1) := by decide +kernel
theorem dL_isMessage_390 : decode cL_isMessage 390 = .ok (.if_icmp .ne 157, 3) := by decide +kernel
theorem dL_isMessage_393 : decode cL_isMessage 393 = .ok (.iload 13, 2) := by decide +kernel
theorem dL_isMessage_395 : decode cL_isMessage 395 = .ok (.iconst 1, 1) := by decide +kernel
theorem dL_isMessage_396 : decode cL_isMessage 396 = .ok (.if_icmp .le 151, 3) := by decide +kernel
theorem dL_isMessage_399 : decode cL_isMessage 399 = .ok (.iload 13, 2) := by decide +kernel
theorem dL_isMessage_401 : decode cL_isMessage 401 = .ok (.iconst 3, 1) := by decide +kernel
theorem dL_isMessage_402 : decode cL_isMessage 402 = .ok (.isub, 1) := by decide +kernel
theorem dL_isMessage_403 : decode cL_isMessage 403 = .ok (.iconst 4, 1) := by decide +kernel
theorem dL_isMessage_404 : decode cL_isMessage 404 = .ok (.irem, 1) := by decide +kernel
theorem dL_isMessage_405 : decode cL_isMessage 405 = .ok (.istore 16, 2) := by decide +kernel
theorem dL_isMessage_407 : decode cL_isMessage 407 = .ok (.lload 6, 2) := by decide +kernel
theorem dL_isMessage_409 : decode cL_isMessage 409 = .ok (.bipush 21, 2) := by decide +kernel
theorem dL_isMessage_411 : decode cL_isMessage 411 = .ok (.invokestatic 135, 3) := by decide +kernel
theorem dL_isMessage_414 : decode cL_isMessage 414 = .ok (.iload 13, 2) := by decide +kernel
theorem dL_isMessage_416 : decode cL_isMessage 416 = .ok (.iconst 3, 1) := by decide +kernel
theorem dL_isMessage_417 : decode cL_isMessage 417 = .ok (.isub, 1) := by decide +kernel
theorem dL_isMessage_418 : decode cL_isMessage 418 = .ok (.iconst 4, 1) := by decide +kernel
theorem dL_isMessage_419 : decode cL_isMessage 419 = .ok (.idiv, 1) := by decide +kernel
theorem dL_isMessage_420 : decode cL_isMessage 420 = .ok (.iadd, 1) := by decide +kernel
theorem dL_isMessage_421 : decode cL_isMessage 421 = .ok (.istore 17, 2) := by decide +kernel
theorem dL_isMessage_423 : decode cL_isMessage 423 = .ok (.iload 13, 2) := by decide +kernel
theorem dL_isMessage_425 : decode cL_isMessage 425 = .ok (.iconst 2, 1) := by decide +kernel
theorem dL_isMessage_426 : decode cL_isMessage 426 = .ok (.if_icmp .ne 9, 3) := by decide +kernel
theorem dL_isMessage_429 : decode cL_isMessage 429 = .ok (.sipush 382, 3) := by decide +kernel
theorem dL_isMessage_432 : decode cL_isMessage 432 = .ok (.goto 37, 3) := by decide +kernel
theorem dL_isMessage_435 : decode cL_isMessage 435 = .ok (.iload 16, 2) := by decide +kernel
theorem dL_isMessage_437 : decode cL_isMessage 437 = .ok (.ifCond .ne 8, 3) := by decide +kernel
theorem dL_isMessage_440 : decode cL_isMessage 440 = .ok (.bipush 17, 2) := by decide +kernel
theorem dL_isMessage_442 : decode cL_isMessage 442 = .ok (.goto 27, 3) := by decide +kernel
theorem dL_isMessage_445 : decode cL_isMessage 445 = .ok (.iload 16, 2) := by decide +kernel
theorem dL_isMessage_447 : decode cL_isMessage 447 = .ok (.iconst 1, 1) := by decide +kernel
theorem dL_isMessage_448 : decode cL_isMessage 448 = .ok (.if_icmp .ne 8, 3) := by decide +kernel
theorem dL_isMessage_451 : decode cL_isMessage 451 = .ok (.bipush 30, 2) := by decide +kernel
theorem dL_isMessage_453 : decode cL_isMessage 453 = .ok (.goto 16, 3) := by decide +kernel
theorem dL_isMessage_456 : decode cL_isMessage 456 = .ok (.iload 16, 2) := by decide +kernel
theorem dL_isMessage_458 : decode cL_isMessage 458 = .ok (.iconst 2, 1) := by decide +kernel
theorem dL_isMessage_459 : decode cL_isMessage 459 = .ok (.if_icmp .ne 8, 3) := by decide +kernel
theorem dL_isMessage_462 : decode cL_isMessage 462 = .ok (.bipush 31, 2) := by decide +kernel
theorem dL_isMessage_464 : decode cL_isMessage 464 = .ok (.goto 5, 3) := by decide +kernel
theorem dL_isMessage_467 : decode cL_isMessage 467 = .ok (.bipush 32, 2) := by decide +kernel
theorem dL_isMessage_469 : decode cL_isMessage 469 = .ok (.istore 14, 2) := by decide +kernel
theorem dL_isMessage_471 : decode cL_isMessage 471 = .ok (.iload 13, 2) := by decide +kernel
theorem dL_isMessage_473 : decode cL_isMessage 473 = .ok (.iconst 2, 1) := by decide +kernel
theorem dL_isMessage_474 : decode cL_isMessage 474 = .ok (.if_icmp .ne 13, 3) := by decide +kernel
theorem dL_isMessage_477 : decode cL_isMessage 477 = .ok (.lload 6, 2) := by decide +kernel
theorem dL_isMessage_479 : decode cL_isMessage 479 = .ok (.bipush 29, 2) := by decide +kernel
theorem dL_isMessage_481 : decode cL_isMessage 481 = .ok (.invokestatic 135, 3) := by decide +kernel
theorem dL_isMessage_484 : decode cL_isMessage 484 = .ok (.goto 61, 3) := by decide +kernel
theorem dL_isMessage_487 : decode cL_isMessage 487 = .ok (.iload 16, 2) := by decide +kernel
theorem dL_isMessage_489 : decode cL_isMessage 489 = .ok (.ifCond .ne 8, 3) := by decide +kernel
theorem dL_isMessage_492 : decode cL_isMessage 492 = .ok (.iload 17, 2) := by decide +kernel
theorem dL_isMessage_494 : decode cL_isMessage 494 = .ok (.goto 51, 3) := by decide +kernel
theorem dL_isMessage_497 : decode cL_isMessage 497 = .ok (.iload 16, 2) := by decide +kernel
theorem dL_isMessage_499 : decode cL_isMessage 499 = .ok (.iconst 1, 1) := by decide +kernel
theorem dL_isMessage_500 : decode cL_isMessage 500 = .ok (.if_icmp .ne 18, 3) := by decide +kernel
theorem dL_isMessage_503 : decode cL_isMessage 503 = .ok (.aload 5, 2) := by decide +kernel
theorem dL_isMessage_505 : decode cL_isMessage 505 = .ok (.iload 17, 2) := by decide +kernel
theorem dL_isMessage_507 : decode cL_isMessage 507 = .ok (.laload, 1) := by decide +kernel
theorem dL_isMessage_508 : decode cL_isMessage 508 = .ok (.iconst 4, 1) := by decide +kernel
theorem dL_isMessage_509 : decode cL_isMessage 509 = .ok (.lshr, 1) := by decide +kernel
theorem dL_isMessage_510 : decode cL_isMessage 510 = .ok (.ldc2_w 249, 3) := by decide +kernel
theorem dL_isMessage_513 : decode cL_isMessage 513 = .ok (.land, 1) := by decide +kernel
theorem dL_isMessage_514 : decode cL_isMessage 514 = .ok (.l2i, 1) := by decide +kernel
theorem dL_isMessage_515 : decode cL_isMessage 515 = .ok (.goto 30, 3) := by decide +kernel
theorem dL_isMessage_518 : decode cL_isMessage 518 = .ok (.iload 16, 2) := by decide +kernel
theorem dL_isMessage_520 : decode cL_isMessage 520 = .ok (.iconst 2, 1) := by decide +kernel
theorem dL_isMessage_521 : decode cL_isMessage 521 = .ok (.if_icmp .ne 16, 3) := by decide +kernel
theorem dL_isMessage_524 : decode cL_isMessage 524 = .ok (.aload 5, 2) := by decide +kernel
theorem dL_isMessage_526 : decode cL_isMessage 526 = .ok (.iload 17, 2) := by decide +kernel
theorem dL_isMessage_528 : decode cL_isMessage 528 = .ok (.laload, 1) := by decide +kernel
theorem dL_isMessage_529 : decode cL_isMessage 529 = .ok (.bipush 21, 2) := by decide +kernel
theorem dL_isMessage_531 : decode cL_isMessage 531 = .ok (.invokestatic 162, 3) := by decide +kernel
theorem dL_isMessage_534 : decode cL_isMessage 534 = .ok (.goto 11, 3) := by decide +kernel
theorem dL_isMessage_537 : decode cL_isMessage 537 = .ok (.aload 5, 2) := by decide +kernel
theorem dL_isMessage_539 : decode cL_isMessage 539 = .ok (.iload 17, 2) := by decide +kernel
theorem dL_isMessage_541 : decode cL_isMessage 541 = .ok (.laload, 1) := by decide +kernel
theorem dL_isMessage_542 : decode cL_isMessage 542 = .ok (.invokestatic 156, 3) := by decide +kernel
theorem dL_isMessage_545 : decode cL_isMessage 545 = .ok (.istore 15, 2) := by decide +kernel
theorem dL_isMessage_547 : decode cL_isMessage 547 = .ok (.aload_n 0, 1) := by decide +kernel
theorem dL_isMessage_548 : decode cL_isMessage 548 = .ok (.iload_n 1, 1) := by decide +kernel
theorem dL_isMessage_549 : decode cL_isMessage 549 = .ok (.iload_n 2, 1) := by decide +kernel
theorem dL_isMessage_550 : decode cL_isMessage 550 = .ok (.iload 11, 2) := by decide +kernel
theorem dL_isMessage_552 : decode cL_isMessage 552 = .ok (.invokestatic 245, 3) := by decide +kernel
theorem dL_isMessage_555 : decode cL_isMessage 555 = .ok (.iload 14, 2) := by decide +kernel
theorem dL_isMessage_557 : decode cL_isMessage 557 = .ok (.if_icmp .ne 16, 3) := by decide +kernel
theorem dL_isMessage_560 : decode cL_isMessage 560 = .ok (.aload_n 0, 1) := by decide +kernel
theorem dL_isMessage_561 : decode cL_isMessage 561 = .ok (.iload_n 1, 1) := by decide +kernel
theorem dL_isMessage_562 : decode cL_isMessage 562 = .ok (.iload_n 2, 1) := by decide +kernel
theorem dL_isMessage_563 : decode cL_isMessage 563 = .ok (.iload 11, 2) := by decide +kernel
theorem dL_isMessage_565 : decode cL_isMessage 565 = .ok (.invokestatic 247, 3) := by decide +kernel
theorem dL_isMessage_568 : decode cL_isMessage 568 = .ok (.iload 15, 2) := by decide +kernel
theorem dL_isMessage_570 : decode cL_isMessage 570 = .ok (.if_icmp .eq 5, 3) := by decide +kernel
theorem dL_isMessage_573 : decode cL_isMessage 573 = .ok (.iconst 0, 1) := by decide +kernel
theorem dL_isMessage_574 : decode cL_isMessage 574 = .ok (.ireturn, 1) := by decide +kernel
theorem dL_isMessage_575 : decode cL_isMessage 575 = .ok (.iload 10, 2) := by decide +kernel
theorem dL_isMessage_577 : decode cL_isMessage 577 = .ok (.iload 14, 2) := by decide +kernel
theorem dL_isMessage_579 : decode cL_isMessage 579 = .ok (.iload 15, 2) := by decide +kernel
theorem dL_isMessage_581 : decode cL_isMessage 581 = .ok (.iadd, 1) := by decide +kernel
theorem dL_isMessage_582 : decode cL_isMessage 582 = .ok (.iadd, 1) := by decide +kernel
theorem dL_isMessage_583 : decode cL_isMessage 583 = .ok (.istore 10, 2) := by decide +kernel
theorem dL_isMessage_585 : decode cL_isMessage 585 = .ok (.iinc 11 1, 3) := by decide +kernel
theorem dL_isMessage_588 : decode cL_isMessage 588 = .ok (.iinc 13 1, 3) := by decide +kernel
theorem dL_isMessage_591 : decode cL_isMessage 591 = .ok (.goto (-389), 3) := by decide +kernel
theorem dL_isMessage_594 : decode cL_isMessage 594 = .ok (.aload_n 0, 1) := by decide +kernel
theorem dL_isMessage_595 : decode cL_isMessage 595 = .ok (.iload_n 1, 1) := by decide +kernel
theorem dL_isMessage_596 : decode cL_isMessage 596 = .ok (.iload_n 2, 1) := by decide +kernel
theorem dL_isMessage_597 : decode cL_isMessage 597 = .ok (.invokestatic 251, 3) := by decide +kernel
theorem dL_isMessage_600 : decode cL_isMessage 600 = .ok (.iload 11, 2) := by decide +kernel
theorem dL_isMessage_602 : decode cL_isMessage 602 = .ok (.iconst 1, 1) := by decide +kernel
theorem dL_isMessage_603 : decode cL_isMessage 603 = .ok (.iadd, 1) := by decide +kernel
theorem dL_isMessage_604 : decode cL_isMessage 604 = .ok (.if_icmp .ne 66, 3) := by decide +kernel
theorem dL_isMessage_607 : decode cL_isMessage 607 = .ok (.aload_n 0, 1) := by decide +kernel
theorem dL_isMessage_608 : decode cL_isMessage 608 = .ok (.iload_n 1, 1) := by decide +kernel
theorem dL_isMessage_609 : decode cL_isMessage 609 = .ok (.iload_n 2, 1) := by decide +kernel
theorem dL_isMessage_610 : decode cL_isMessage 610 = .ok (.iload 11, 2) := by decide +kernel
theorem dL_isMessage_612 : decode cL_isMessage 612 = .ok (.invokestatic 245, 3) := by decide +kernel
theorem dL_isMessage_615 : decode cL_isMessage 615 = .ok (.bipush 10, 2) := by decide +kernel
theorem dL_isMessage_617 : decode cL_isMessage 617 = .ok (.if_icmp .ne 53, 3) := by decide +kernel
theorem dL_isMessage_620 : decode cL_isMessage 620 = .ok (.aload_n 0, 1) := by decide +kernel
theorem dL_isMessage_621 : decode cL_isMessage 621 = .ok (.iload_n 1, 1) := by decide +kernel
theorem dL_isMessage_622 : decode cL_isMessage 622 = .ok (.iload_n 2, 1) := by decide +kernel
theorem dL_isMessage_623 : decode cL_isMessage 623 = .ok (.iload 11, 2) := by decide +kernel
theorem dL_isMessage_625 : decode cL_isMessage 625 = .ok (.invokestatic 247, 3) := by decide +kernel
theorem dL_isMessage_628 : decode cL_isMessage 628 = .ok (.iload 10, 2) := by decide +kernel
theorem dL_isMessage_630 : decode cL_isMessage 630 = .ok (.sipush 256, 3) := by decide +kernel
theorem dL_isMessage_633 : decode cL_isMessage 633 = .ok (.irem, 1) := by decide +kernel
theorem dL_isMessage_634 : decode cL_isMessage 634 = .ok (.if_icmp .ne 36, 3) := by decide +kernel
theorem dL_isMessage_637 : decode cL_isMessage 637 = .ok (.aload_n 0, 1) := by decide +kernel
theorem dL_isMessage_638 : decode cL_isMessage 638 = .ok (.iload_n 1, 1) := by decide +kernel
theorem dL_isMessage_639 : decode cL_isMessage 639 = .ok (.iload_n 2, 1) := by decide +kernel
theorem dL_isMessage_640 : decode cL_isMessage 640 = .ok (.iload 11, 2) := by decide +kernel
theorem dL_isMessage_642 : decode cL_isMessage 642 = .ok (.iconst 1, 1) := by decide +kernel
theorem dL_isMessage_643 : decode cL_isMessage 643 = .ok (.iadd, 1) := by decide +kernel
theorem dL_isMessage_644 : decode cL_isMessage 644 = .ok (.invokestatic 245, 3) := by decide +kernel
theorem dL_isMessage_647 : decode cL_isMessage 647 = .ok (.sipush (-7100), 3) := by decide +kernel
theorem dL_isMessage_650 : decode cL_isMessage 650 = .ok (.if_icmp .ne 20, 3) := by decide +kernel
theorem dL_isMessage_653 : decode cL_isMessage 653 = .ok (.aload_n 0, 1) := by decide +kernel
theorem dL_isMessage_654 : decode cL_isMessage 654 = .ok (.iload_n 1, 1) := by decide +kernel
theorem dL_isMessage_655 : decode cL_isMessage 655 = .ok (.iload_n 2, 1) := by decide +kernel
theorem dL_isMessage_656 : decode cL_isMessage 656 = .ok (.iconst (-1), 1) := by decide +kernel
theorem dL_isMessage_657 : decode cL_isMessage 657 = .ok (.invokestatic 247, 3) := by decide +kernel
theorem dL_isMessage_660 : decode cL_isMessage 660 = .ok (.sipush (-7100), 3) := by decide +kernel
theorem dL_isMessage_663 : decode cL_isMessage 663 = .ok (.if_icmp .ne 7, 3) := by decide +kernel
theorem dL_isMessage_666 : decode cL_isMessage 666 = .ok (.iconst 1, 1) := by decide +kernel
theorem dL_isMessage_667 : decode cL_isMessage 667 = .ok (.goto 4, 3) := by decide +kernel
theorem dL_isMessage_670 : decode cL_isMessage 670 = .ok (.iconst 0, 1) := by decide +kernel
theorem dL_isMessage_671 : decode cL_isMessage 671 = .ok (.ireturn, 1) := by decide +kernel
theorem dL_isTold_0 : decode cL_isTold 0 = .ok (.iconst 0, 1) := by decide +kernel
theorem dL_isTold_1 : decode cL_isTold 1 = .ok (.istore 14, 2) := by decide +kernel
theorem dL_isTold_3 : decode cL_isTold 3 = .ok (.iload 14, 2) := by decide +kernel
theorem dL_isTold_5 : decode cL_isTold 5 = .ok (.iconst 2, 1) := by decide +kernel
theorem dL_isTold_6 : decode cL_isTold 6 = .ok (.if_icmp .ge 204, 3) := by decide +kernel
theorem dL_isTold_9 : decode cL_isTold 9 = .ok (.iconst 0, 1) := by decide +kernel
theorem dL_isTold_10 : decode cL_isTold 10 = .ok (.istore 15, 2) := by decide +kernel
theorem dL_isTold_12 : decode cL_isTold 12 = .ok (.iconst 0, 1) := by decide +kernel
theorem dL_isTold_13 : decode cL_isTold 13 = .ok (.istore 16, 2) := by decide +kernel
theorem dL_isTold_15 : decode cL_isTold 15 = .ok (.iload 16, 2) := by decide +kernel
theorem dL_isTold_17 : decode cL_isTold 17 = .ok (.bipush 64, 2) := by decide +kernel
theorem dL_isTold_19 : decode cL_isTold 19 = .ok (.if_icmp .ge 37, 3) := by decide +kernel
theorem dL_isTold_22 : decode cL_isTold 22 = .ok (.iload 15, 2) := by decide +kernel
theorem dL_isTold_24 : decode cL_isTold 24 = .ok (.iload 14, 2) := by decide +kernel
theorem dL_isTold_26 : decode cL_isTold 26 = .ok (.ifCond .ne 8, 3) := by decide +kernel
theorem dL_isTold_29 : decode cL_isTold 29 = .ok (.aload 5, 2) := by decide +kernel
theorem dL_isTold_31 : decode cL_isTold 31 = .ok (.goto 5, 3) := by decide +kernel
theorem dL_isTold_34 : decode cL_isTold 34 = .ok (.aload 6, 2) := by decide +kernel
theorem dL_isTold_36 : decode cL_isTold 36 = .ok (.iload 16, 2) := by decide +kernel
theorem dL_isTold_38 : decode cL_isTold 38 = .ok (.iaload, 1) := by decide +kernel
theorem dL_isTold_39 : decode cL_isTold 39 = .ok (.ifCond .le 7, 3) := by decide +kernel
theorem dL_isTold_42 : decode cL_isTold 42 = .ok (.iconst 1, 1) := by decide +kernel
theorem dL_isTold_43 : decode cL_isTold 43 = .ok (.goto 4, 3) := by decide +kernel
theorem dL_isTold_46 : decode cL_isTold 46 = .ok (.iconst 0, 1) := by decide +kernel
theorem dL_isTold_47 : decode cL_isTold 47 = .ok (.iadd, 1) := by decide +kernel
theorem dL_isTold_48 : decode cL_isTold 48 = .ok (.istore 15, 2) := by decide +kernel
theorem dL_isTold_50 : decode cL_isTold 50 = .ok (.iinc 16 1, 3) := by decide +kernel
theorem dL_isTold_53 : decode cL_isTold 53 = .ok (.goto (-38), 3) := by decide +kernel
theorem dL_isTold_56 : decode cL_isTold 56 = .ok (.aload_n 0, 1) := by decide +kernel
theorem dL_isTold_57 : decode cL_isTold 57 = .ok (.iload 14, 2) := by decide +kernel
theorem dL_isTold_59 : decode cL_isTold 59 = .ok (.invokestatic 253, 3) := by decide +kernel
theorem dL_isTold_62 : decode cL_isTold 62 = .ok (.aload_n 2, 1) := by decide +kernel
theorem dL_isTold_63 : decode cL_isTold 63 = .ok (.iconst 2, 1) := by decide +kernel
theorem dL_isTold_64 : decode cL_isTold 64 = .ok (.iload 14, 2) := by decide +kernel
theorem dL_isTold_66 : decode cL_isTold 66 = .ok (.iadd, 1) := by decide +kernel
theorem dL_isTold_67 : decode cL_isTold 67 = .ok (.iaload, 1) := by decide +kernel
theorem dL_isTold_68 : decode cL_isTold 68 = .ok (.if_icmp .ne 94, 3) := by decide +kernel
theorem dL_isTold_71 : decode cL_isTold 71 = .ok (.aload_n 0, 1) := by decide +kernel
theorem dL_isTold_72 : decode cL_isTold 72 = .ok (.iload 14, 2) := by decide +kernel
theorem dL_isTold_74 : decode cL_isTold 74 = .ok (.invokestatic 255, 3) := by decide +kernel
theorem dL_isTold_77 : decode cL_isTold 77 = .ok (.aload_n 2, 1) := by decide +kernel
theorem dL_isTold_78 : decode cL_isTold 78 = .ok (.iconst 4, 1) := by decide +kernel
theorem dL_isTold_79 : decode cL_isTold 79 = .ok (.iload 14, 2) := by decide +kernel
theorem dL_isTold_81 : decode cL_isTold 81 = .ok (.iadd, 1) := by decide +kernel
theorem dL_isTold_82 : decode cL_isTold 82 = .ok (.iaload, 1) := by decide +kernel
theorem dL_isTold_83 : decode cL_isTold 83 = .ok (.if_icmp .ne 79, 3) := by decide +kernel
theorem dL_isTold_86 : decode cL_isTold 86 = .ok (.aload_n 0, 1) := by decide +kernel
theorem dL_isTold_87 : decode cL_isTold 87 = .ok (.iload 14, 2) := by decide +kernel
theorem dL_isTold_89 : decode cL_isTold 89 = .ok (.invokestatic 257, 3) := by decide +kernel
theorem dL_isTold_92 : decode cL_isTold 92 = .ok (.aload_n 2, 1) := by decide +kernel
theorem dL_isTold_93 : decode cL_isTold 93 = .ok (.bipush 6, 2) := by decide +kernel
theorem dL_isTold_95 : decode cL_isTold 95 = .ok (.iload 14, 2) := by decide +kernel
theorem dL_isTold_97 : decode cL_isTold 97 = .ok (.iadd, 1) := by decide +kernel
theorem dL_isTold_98 : decode cL_isTold 98 = .ok (.iaload, 1) := by decide +kernel
theorem dL_isTold_99 : decode cL_isTold 99 = .ok (.if_icmp .ne 63, 3) := by decide +kernel
theorem dL_isTold_102 : decode cL_isTold 102 = .ok (.aload_n 0, 1) := by decide +kernel
theorem dL_isTold_103 : decode cL_isTold 103 = .ok (.iload 14, 2) := by decide +kernel
theorem dL_isTold_105 : decode cL_isTold 105 = .ok (.invokestatic 259, 3) := by decide +kernel
theorem dL_isTold_108 : decode cL_isTold 108 = .ok (.aload_n 2, 1) := by decide +kernel
theorem dL_isTold_109 : decode cL_isTold 109 = .ok (.bipush 16, 2) := by decide +kernel
theorem dL_isTold_111 : decode cL_isTold 111 = .ok (.iload 14, 2) := by decide +kernel
theorem dL_isTold_113 : decode cL_isTold 113 = .ok (.iadd, 1) := by decide +kernel
theorem dL_isTold_114 : decode cL_isTold 114 = .ok (.iaload, 1) := by decide +kernel
theorem dL_isTold_115 : decode cL_isTold 115 = .ok (.if_icmp .ne 47, 3) := by decide +kernel
theorem dL_isTold_118 : decode cL_isTold 118 = .ok (.aload_n 0, 1) := by decide +kernel
theorem dL_isTold_119 : decode cL_isTold 119 = .ok (.iload 14, 2) := by decide +kernel
theorem dL_isTold_121 : decode cL_isTold 121 = .ok (.invokestatic 261, 3) := by decide +kernel
theorem dL_isTold_124 : decode cL_isTold 124 = .ok (.iload 15, 2) := by decide +kernel
theorem dL_isTold_126 : decode cL_isTold 126 = .ok (.if_icmp .ne 36, 3) := by decide +kernel
theorem dL_isTold_129 : decode cL_isTold 129 = .ok (.aload_n 0, 1) := by decide +kernel
theorem dL_isTold_130 : decode cL_isTold 130 = .ok (.iload 14, 2) := by decide +kernel
theorem dL_isTold_132 : decode cL_isTold 132 = .ok (.iconst 0, 1) := by decide +kernel
theorem dL_isTold_133 : decode cL_isTold 133 = .ok (.invokestatic 251, 3) := by decide +kernel
theorem dL_isTold_136 : decode cL_isTold 136 = .ok (.sipush (-7100), 3) := by decide +kernel
theorem dL_isTold_139 : decode cL_isTold 139 = .ok (.if_icmp .ne 23, 3) := by decide +kernel
theorem dL_isTold_142 : decode cL_isTold 142 = .ok (.aload_n 0, 1) := by decide +kernel
theorem dL_isTold_143 : decode cL_isTold 143 = .ok (.iload 14, 2) := by decide +kernel
theorem dL_isTold_145 : decode cL_isTold 145 = .ok (.aload_n 2, 1) := by decide +kernel
theorem dL_isTold_146 : decode cL_isTold 146 = .ok (.iconst 4, 1) := by decide +kernel
theorem dL_isTold_147 : decode cL_isTold 147 = .ok (.iload 14, 2) := by decide +kernel
theorem dL_isTold_149 : decode cL_isTold 149 = .ok (.iadd, 1) := by decide +kernel
theorem dL_isTold_150 : decode cL_isTold 150 = .ok (.iaload, 1) := by decide +kernel
theorem dL_isTold_151 : decode cL_isTold 151 = .ok (.iconst 1, 1) := by decide +kernel
theorem dL_isTold_152 : decode cL_isTold 152 = .ok (.iadd, 1) := by decide +kernel
theorem dL_isTold_153 : decode cL_isTold 153 = .ok (.invokestatic 251, 3) := by decide +kernel
theorem dL_isTold_156 : decode cL_isTold 156 = .ok (.sipush (-7100), 3) := by decide +kernel
theorem dL_isTold_159 : decode cL_isTold 159 = .ok (.if_icmp .eq 5, 3) := by decide +kernel
theorem dL_isTold_162 : decode cL_isTold 162 = .ok (.iconst 0, 1) := by decide +kernel
theorem dL_isTold_163 : decode cL_isTold 163 = .ok (.ireturn, 1) := by decide +kernel
theorem dL_isTold_164 : decode cL_isTold 164 = .ok (.aload_n 2, 1) := by decide +kernel
theorem dL_isTold_165 : decode cL_isTold 165 = .ok (.iconst 4, 1) := by decide +kernel
theorem dL_isTold_166 : decode cL_isTold 166 = .ok (.iload 14, 2) := by decide +kernel
theorem dL_isTold_168 : decode cL_isTold 168 = .ok (.iadd, 1) := by decide +kernel
theorem dL_isTold_169 : decode cL_isTold 169 = .ok (.iaload, 1) := by decide +kernel
theorem dL_isTold_170 : decode cL_isTold 170 = .ok (.ifCond .le 34, 3) := by decide +kernel
theorem dL_isTold_173 : decode cL_isTold 173 = .ok (.aload_n 0, 1) := by decide +kernel
theorem dL_isTold_174 : decode cL_isTold 174 = .ok (.iload 14, 2) := by decide +kernel
theorem dL_isTold_176 : decode cL_isTold 176 = .ok (.iconst 1, 1) := by decide +kernel
theorem dL_isTold_177 : decode cL_isTold 177 = .ok (.iload_n 1, 1) := by decide +kernel
theorem dL_isTold_178 : decode cL_isTold 178 = .ok (.iload 14, 2) := by decide +kernel
theorem dL_isTold_180 : decode cL_isTold 180 = .ok (.ishr, 1) := by decide +kernel
theorem dL_isTold_181 : decode cL_isTold 181 = .ok (.aload_n 2, 1) := by decide +kernel
theorem dL_isTold_182 : decode cL_isTold 182 = .ok (.iconst 4, 1) := by decide +kernel
theorem dL_isTold_183 : decode cL_isTold 183 = .ok (.iload 14, 2) := by decide +kernel
theorem dL_isTold_185 : decode cL_isTold 185 = .ok (.iadd, 1) := by decide +kernel
theorem dL_isTold_186 : decode cL_isTold 186 = .ok (.iaload, 1) := by decide +kernel
theorem dL_isTold_187 : decode cL_isTold 187 = .ok (.invokestatic 210, 3) := by decide +kernel
theorem dL_isTold_190 : decode cL_isTold 190 = .ok (.iadd, 1) := by decide +kernel
theorem dL_isTold_191 : decode cL_isTold 191 = .ok (.aload_n 3, 1) := by decide +kernel
theorem dL_isTold_192 : decode cL_isTold 192 = .ok (.aload 4, 2) := by decide +kernel
theorem dL_isTold_194 : decode cL_isTold 194 = .ok (.aload 12, 2) := by decide +kernel
theorem dL_isTold_196 : decode cL_isTold 196 = .ok (.invokestatic 263, 3) := by decide +kernel
theorem dL_isTold_199 : decode cL_isTold 199 = .ok (.ifCond .ne 5, 3) := by decide +kernel
theorem dL_isTold_202 : decode cL_isTold 202 = .ok (.iconst 0, 1) := by decide +kernel
theorem dL_isTold_203 : decode cL_isTold 203 = .ok (.ireturn, 1) := by decide +kernel
theorem dL_isTold_204 : decode cL_isTold 204 = .ok (.iinc 14 1, 3) := by decide +kernel
theorem dL_isTold_207 : decode cL_isTold 207 = .ok (.goto (-204), 3) := by decide +kernel
theorem dL_isTold_210 : decode cL_isTold 210 = .ok (.iconst 1, 1) := by decide +kernel
theorem dL_isTold_211 : decode cL_isTold 211 = .ok (.istore 14, 2) := by decide +kernel
theorem dL_isTold_213 : decode cL_isTold 213 = .ok (.iconst 0, 1) := by decide +kernel
theorem dL_isTold_214 : decode cL_isTold 214 = .ok (.istore 15, 2) := by decide +kernel
theorem dL_isTold_216 : decode cL_isTold 216 = .ok (.iload 15, 2) := by decide +kernel
theorem dL_isTold_218 : decode cL_isTold 218 = .ok (.aload_n 2, 1) := by decide +kernel
theorem dL_isTold_219 : decode cL_isTold 219 = .ok (.bipush 18, 2) := by decide +kernel
theorem dL_isTold_221 : decode cL_isTold 221 = .ok (.iaload, 1) := by decide +kernel
theorem dL_isTold_222 : decode cL_isTold 222 = .ok (.if_icmp .ge 468, 3) := by decide +kernel
theorem dL_isTold_225 : decode cL_isTold 225 = .ok (.aload 11, 2) := by decide +kernel
theorem dL_isTold_227 : decode cL_isTold 227 = .ok (.iload 15, 2) := by decide +kernel
theorem dL_isTold_229 : decode cL_isTold 229 = .ok (.iaload, 1) := by decide +kernel
theorem dL_isTold_230 : decode cL_isTold 230 = .ok (.iconst 4, 1) := by decide +kernel
theorem dL_isTold_231 : decode cL_isTold 231 = .ok (.iand, 1) := by decide +kernel
theorem dL_isTold_232 : decode cL_isTold 232 = .ok (.ifCond .le 7, 3) := by decide +kernel
theorem dL_isTold_235 : decode cL_isTold 235 = .ok (.iconst 1, 1) := by decide +kernel
theorem dL_isTold_236 : decode cL_isTold 236 = .ok (.goto 4, 3) := by decide +kernel
theorem dL_isTold_239 : decode cL_isTold 239 = .ok (.iconst 0, 1) := by decide +kernel
theorem dL_isTold_240 : decode cL_isTold 240 = .ok (.istore 16, 2) := by decide +kernel
theorem dL_isTold_242 : decode cL_isTold 242 = .ok (.aload 11, 2) := by decide +kernel
theorem dL_isTold_244 : decode cL_isTold 244 = .ok (.iload 15, 2) := by decide +kernel
theorem dL_isTold_246 : decode cL_isTold 246 = .ok (.iaload, 1) := by decide +kernel
theorem dL_isTold_247 : decode cL_isTold 247 = .ok (.iconst 2, 1) := by decide +kernel
theorem dL_isTold_248 : decode cL_isTold 248 = .ok (.iand, 1) := by decide +kernel
theorem dL_isTold_249 : decode cL_isTold 249 = .ok (.ifCond .ne 7, 3) := by decide +kernel
theorem dL_isTold_252 : decode cL_isTold 252 = .ok (.iconst 1, 1) := by decide +kernel
theorem dL_isTold_253 : decode cL_isTold 253 = .ok (.goto 4, 3) := by decide +kernel
theorem dL_isTold_256 : decode cL_isTold 256 = .ok (.iconst 0, 1) := by decide +kernel
theorem dL_isTold_257 : decode cL_isTold 257 = .ok (.istore 17, 2) := by decide +kernel
theorem dL_isTold_259 : decode cL_isTold 259 = .ok (.iload 17, 2) := by decide +kernel
theorem dL_isTold_261 : decode cL_isTold 261 = .ok (.ifCond .eq 7, 3) := by decide +kernel
theorem dL_isTold_264 : decode cL_isTold 264 = .ok (.iconst 0, 1) := by decide +kernel
theorem dL_isTold_265 : decode cL_isTold 265 = .ok (.goto 14, 3) := by decide +kernel
theorem dL_isTold_268 : decode cL_isTold 268 = .ok (.aload 8, 2) := by decide +kernel
theorem dL_isTold_270 : decode cL_isTold 270 = .ok (.aload 9, 2) := by decide +kernel
theorem dL_isTold_272 : decode cL_isTold 272 = .ok (.aload 10, 2) := by decide +kernel
theorem dL_isTold_274 : decode cL_isTold 274 = .ok (.iload 15, 2) := by decide +kernel
theorem dL_isTold_276 : decode cL_isTold 276 = .ok (.invokestatic 145, 3) := by decide +kernel
theorem dL_isTold_279 : decode cL_isTold 279 = .ok (.istore 18, 2) := by decide +kernel
theorem dL_isTold_281 : decode cL_isTold 281 = .ok (.iconst 0, 1) := by decide +kernel
theorem dL_isTold_282 : decode cL_isTold 282 = .ok (.istore 19, 2) := by decide +kernel
theorem dL_isTold_284 : decode cL_isTold 284 = .ok (.iconst 0, 1) := by decide +kernel
theorem dL_isTold_285 : decode cL_isTold 285 = .ok (.istore 20, 2) := by decide +kernel
theorem dL_isTold_287 : decode cL_isTold 287 = .ok (.iload 20, 2) := by decide +kernel
theorem dL_isTold_289 : decode cL_isTold 289 = .ok (.aload_n 2, 1) := by decide +kernel
theorem dL_isTold_290 : decode cL_isTold 290 = .ok (.bipush 19, 2) := by decide +kernel
theorem dL_isTold_292 : decode cL_isTold 292 = .ok (.iaload, 1) := by decide +kernel
theorem dL_isTold_293 : decode cL_isTold 293 = .ok (.if_icmp .ge 44, 3) := by decide +kernel
theorem dL_isTold_296 : decode cL_isTold 296 = .ok (.aload 12, 2) := by decide +kernel
theorem dL_isTold_298 : decode cL_isTold 298 = .ok (.iload 20, 2) := by decide +kernel
theorem dL_isTold_300 : decode cL_isTold 300 = .ok (.laload, 1) := by decide +kernel
theorem dL_isTold_301 : decode cL_isTold 301 = .ok (.ldc2_w 133, 3) := by decide +kernel
theorem dL_isTold_304 : decode cL_isTold 304 = .ok (.land, 1) := by decide +kernel
theorem dL_isTold_305 : decode cL_isTold 305 = .ok (.iload 15, 2) := by decide +kernel
theorem dL_isTold_307 : decode cL_isTold 307 = .ok (.i2l, 1) := by decide +kernel
theorem dL_isTold_308 : decode cL_isTold 308 = .ok (.lcmp, 1) := by decide +kernel
theorem dL_isTold_309 : decode cL_isTold 309 = .ok (.ifCond .ne 22, 3) := by decide +kernel
theorem dL_isTold_312 : decode cL_isTold 312 = .ok (.iload 19, 2) := by decide +kernel
theorem dL_isTold_314 : decode cL_isTold 314 = .ok (.iconst 1, 1) := by decide +kernel
theorem dL_isTold_315 : decode cL_isTold 315 = .ok (.aload 12, 2) := by decide +kernel
theorem dL_isTold_317 : decode cL_isTold 317 = .ok (.iload 20, 2) := by decide +kernel
theorem dL_isTold_319 : decode cL_isTold 319 = .ok (.laload, 1) := by decide +kernel
theorem dL_isTold_320 : decode cL_isTold 320 = .ok (.iconst 4, 1) := by decide +kernel
theorem dL_isTold_321 : decode cL_isTold 321 = .ok (.lshr, 1) := by decide +kernel
theorem dL_isTold_322 : decode cL_isTold 322 = .ok (.ldc2_w 249, 3) := by decide +kernel
theorem dL_isTold_325 : decode cL_isTold 325 = .ok (.land, 1) := by decide +kernel
theorem dL_isTold_326 : decode cL_isTold 326 = .ok (.l2i, 1) := by decide +kernel
theorem dL_isTold_327 : decode cL_isTold 327 = .ok (.ishl, 1) := by decide +kernel
theorem dL_isTold_328 : decode cL_isTold 328 = .ok (.ior, 1) := by decide +kernel
theorem dL_isTold_329 : decode cL_isTold 329 = .ok (.istore 19, 2) := by decide +kernel
theorem dL_isTold_331 : decode cL_isTold 331 = .ok (.iinc 20 1, 3) := by decide +kernel
theorem dL_isTold_334 : decode cL_isTold 334 = .ok (.goto (-47), 3) := by decide +kernel
theorem dL_isTold_337 : decode cL_isTold 337 = .ok (.aload_n 0, 1) := by decide +kernel
theorem dL_isTold_338 : decode cL_isTold 338 = .ok (.iload 15, 2) := by decide +kernel
theorem dL_isTold_340 : decode cL_isTold 340 = .ok (.invokestatic 267, 3) := by decide +kernel
theorem dL_isTold_343 : decode cL_isTold 343 = .ok (.iload 17, 2) := by decide +kernel
theorem dL_isTold_345 : decode cL_isTold 345 = .ok (.ifCond .eq 7, 3) := by decide +kernel
theorem dL_isTold_348 : decode cL_isTold 348 = .ok (.iconst 0, 1) := by decide +kernel
theorem dL_isTold_349 : decode cL_isTold 349 = .ok (.goto 13, 3) := by decide +kernel
theorem dL_isTold_352 : decode cL_isTold 352 = .ok (.iload 18, 2) := by decide +kernel
theorem dL_isTold_354 : decode cL_isTold 354 = .ok (.ifCond .le 7, 3) := by decide +kernel
theorem dL_isTold_357 : decode cL_isTold 357 = .ok (.iconst 1, 1) := by decide +kernel
theorem dL_isTold_358 : decode cL_isTold 358 = .ok (.goto 4, 3) := by decide +kernel
theorem dL_isTold_361 : decode cL_isTold 361 = .ok (.iconst 2, 1) := by decide +kernel
theorem dL_isTold_362 : decode cL_isTold 362 = .ok (.if_icmp .ne 79, 3) := by decide +kernel
theorem dL_isTold_365 : decode cL_isTold 365 = .ok (.aload_n 0, 1) := by decide +kernel
theorem dL_isTold_366 : decode cL_isTold 366 = .ok (.iload 15, 2) := by decide +kernel
theorem dL_isTold_368 : decode cL_isTold 368 = .ok (.invokestatic 269, 3) := by decide +kernel
theorem dL_isTold_371 : decode cL_isTold 371 = .ok (.iload 17, 2) := by decide +kernel
theorem dL_isTold_373 : decode cL_isTold 373 = .ok (.ifCond .eq 18, 3) := by decide +kernel
theorem dL_isTold_376 : decode cL_isTold 376 = .ok (.aload 11, 2) := by decide +kernel
theorem dL_isTold_378 : decode cL_isTold 378 = .ok (.iload 15, 2) := by decide +kernel
theorem dL_isTold_380 : decode cL_isTold 380 = .ok (.iaload, 1) := by decide +kernel
theorem dL_isTold_381 : decode cL_isTold 381 = .ok (.bipush 8, 2) := by decide +kernel
theorem dL_isTold_383 : decode cL_isTold 383 = .ok (.iand, 1) := by decide +kernel
theorem dL_isTold_384 : decode cL_isTold 384 = .ok (.ifCond .le 7, 3) := by decide +kernel
theorem dL_isTold_387 : decode cL_isTold 387 = .ok (.iconst 1, 1) := by decide +kernel
theorem dL_isTold_388 : decode cL_isTold 388 = .ok (.goto 4, 3) := by decide +kernel
theorem dL_isTold_391 : decode cL_isTold 391 = .ok (.iconst 0, 1) := by decide +kernel
theorem dL_isTold_392 : decode cL_isTold 392 = .ok (.if_icmp .ne 49, 3) := by decide +kernel
theorem dL_isTold_395 : decode cL_isTold 395 = .ok (.aload_n 0, 1) := by decide +kernel
theorem dL_isTold_396 : decode cL_isTold 396 = .ok (.iload 15, 2) := by decide +kernel
theorem dL_isTold_398 : decode cL_isTold 398 = .ok (.invokestatic 271, 3) := by decide +kernel
theorem dL_isTold_401 : decode cL_isTold 401 = .ok (.aload 11, 2) := by decide +kernel
theorem dL_isTold_403 : decode cL_isTold 403 = .ok (.iload 15, 2) := by decide +kernel
theorem dL_isTold_405 : decode cL_isTold 405 = .ok (.iaload, 1) := by decide +kernel
theorem dL_isTold_406 : decode cL_isTold 406 = .ok (.iconst 4, 1) := by decide +kernel
theorem dL_isTold_407 : decode cL_isTold 407 = .ok (.ishr, 1) := by decide +kernel
theorem dL_isTold_408 : decode cL_isTold 408 = .ok (.bipush 7, 2) := by decide +kernel
theorem dL_isTold_410 : decode cL_isTold 410 = .ok (.iand, 1) := by decide +kernel
theorem dL_isTold_411 : decode cL_isTold 411 = .ok (.if_icmp .ne 30, 3) := by decide +kernel
theorem dL_isTold_414 : decode cL_isTold 414 = .ok (.aload_n 0, 1) := by decide +kernel
theorem dL_isTold_415 : decode cL_isTold 415 = .ok (.iload 15, 2) := by decide +kernel
theorem dL_isTold_417 : decode cL_isTold 417 = .ok (.invokestatic 273, 3) := by decide +kernel
theorem dL_isTold_420 : decode cL_isTold 420 = .ok (.iload 19, 2) := by decide +kernel
theorem dL_isTold_422 : decode cL_isTold 422 = .ok (.iconst 1, 1) := by decide +kernel
theorem dL_isTold_423 : decode cL_isTold 423 = .ok (.iand, 1) := by decide +kernel
theorem dL_isTold_424 : decode cL_isTold 424 = .ok (.iload 19, 2) := by decide +kernel
theorem dL_isTold_426 : decode cL_isTold 426 = .ok (.iconst 1, 1) := by decide +kernel
theorem dL_isTold_427 : decode cL_isTold 427 = .ok (.ishr, 1) := by decide +kernel
theorem dL_isTold_428 : decode cL_isTold 428 = .ok (.iconst 1, 1) := by decide +kernel
theorem dL_isTold_429 : decode cL_isTold 429 = .ok (.iand, 1) := by decide +kernel
theorem dL_isTold_430 : decode cL_isTold 430 = .ok (.iadd, 1) := by decide +kernel
theorem dL_isTold_431 : decode cL_isTold 431 = .ok (.iload 19, 2) := by decide +kernel
theorem dL_isTold_433 : decode cL_isTold 433 = .ok (.iconst 2, 1) := by decide +kernel
theorem dL_isTold_434 : decode cL_isTold 434 = .ok (.ishr, 1) := by decide +kernel
theorem dL_isTold_435 : decode cL_isTold 435 = .ok (.iconst 1, 1) := by decide +kernel
theorem dL_isTold_436 : decode cL_isTold 436 = .ok (.iand, 1) := by decide +kernel
theorem dL_isTold_437 : decode cL_isTold 437 = .ok (.iadd, 1) := by decide +kernel
theorem dL_isTold_438 : decode cL_isTold 438 = .ok (.if_icmp .eq 5, 3) := by decide +kernel
theorem dL_isTold_441 : decode cL_isTold 441 = .ok (.iconst 0, 1) := by decide +kernel
theorem dL_isTold_442 : decode cL_isTold 442 = .ok (.ireturn, 1) := by decide +kernel
theorem dL_isTold_443 : decode cL_isTold 443 = .ok (.aload_n 0, 1) := by decide +kernel
theorem dL_isTold_444 : decode cL_isTold 444 = .ok (.iconst 0, 1) := by decide +kernel
theorem dL_isTold_445 : decode cL_isTold 445 = .ok (.iload 15, 2) := by decide +kernel
theorem dL_isTold_447 : decode cL_isTold 447 = .ok (.invokestatic 275, 3) := by decide +kernel
theorem dL_isTold_450 : decode cL_isTold 450 = .ok (.iload 18, 2) := by decide +kernel
theorem dL_isTold_452 : decode cL_isTold 452 = .ok (.if_icmp .ne 48, 3) := by decide +kernel
theorem dL_isTold_455 : decode cL_isTold 455 = .ok (.aload_n 0, 1) := by decide +kernel
theorem dL_isTold_456 : decode cL_isTold 456 = .ok (.iconst 0, 1) := by decide +kernel
theorem dL_isTold_457 : decode cL_isTold 457 = .ok (.iload 15, 2) := by decide +kernel
theorem dL_isTold_459 : decode cL_isTold 459 = .ok (.invokestatic 277, 3) := by decide +kernel
theorem dL_isTold_462 : decode cL_isTold 462 = .ok (.aload 9, 2) := by decide +kernel
theorem dL_isTold_464 : decode cL_isTold 464 = .ok (.iload 15, 2) := by decide +kernel
theorem dL_isTold_466 : decode cL_isTold 466 = .ok (.iaload, 1) := by decide +kernel
theorem dL_isTold_467 : decode cL_isTold 467 = .ok (.if_icmp .ne 33, 3) := by decide +kernel
theorem dL_isTold_470 : decode cL_isTold 470 = .ok (.aload_n 0, 1) := by decide +kernel
theorem dL_isTold_471 : decode cL_isTold 471 = .ok (.iconst 0, 1) := by decide +kernel
theorem dL_isTold_472 : decode cL_isTold 472 = .ok (.iload 15, 2) := by decide +kernel
theorem dL_isTold_474 : decode cL_isTold 474 = .ok (.invokestatic 279, 3) := by decide +kernel
theorem dL_isTold_477 : decode cL_isTold 477 = .ok (.aload 9, 2) := by decide +kernel
theorem dL_isTold_479 : decode cL_isTold 479 = .ok (.iload 15, 2) := by decide +kernel
theorem dL_isTold_481 : decode cL_isTold 481 = .ok (.iaload, 1) := by decide +kernel
theorem dL_isTold_482 : decode cL_isTold 482 = .ok (.if_icmp .ne 18, 3) := by decide +kernel
theorem dL_isTold_485 : decode cL_isTold 485 = .ok (.aload_n 0, 1) := by decide +kernel
theorem dL_isTold_486 : decode cL_isTold 486 = .ok (.iconst 0, 1) := by decide +kernel
theorem dL_isTold_487 : decode cL_isTold 487 = .ok (.iload 15, 2) := by decide +kernel
theorem dL_isTold_489 : decode cL_isTold 489 = .ok (.invokestatic 281, 3) := by decide +kernel
theorem dL_isTold_492 : decode cL_isTold 492 = .ok (.aload 10, 2) := by decide +kernel
theorem dL_isTold_494 : decode cL_isTold 494 = .ok (.iload 15, 2) := by decide +kernel
theorem dL_isTold_496 : decode cL_isTold 496 = .ok (.iaload, 1) := by decide +kernel
theorem dL_isTold_497 : decode cL_isTold 497 = .ok (.if_icmp .eq 5, 3) := by decide +kernel
theorem dL_isTold_500 : decode cL_isTold 500 = .ok (.iconst 0, 1) := by decide +kernel
theorem dL_isTold_501 : decode cL_isTold 501 = .ok (.ireturn, 1) := by decide +kernel
theorem dL_isTold_502 : decode cL_isTold 502 = .ok (.aload_n 0, 1) := by decide +kernel
theorem dL_isTold_503 : decode cL_isTold 503 = .ok (.iconst 1, 1) := by decide +kernel
theorem dL_isTold_504 : decode cL_isTold 504 = .ok (.iload 15, 2) := by decide +kernel
theorem dL_isTold_506 : decode cL_isTold 506 = .ok (.invokestatic 275, 3) := by decide +kernel
theorem dL_isTold_509 : decode cL_isTold 509 = .ok (.iload 16, 2) := by decide +kernel
theorem dL_isTold_511 : decode cL_isTold 511 = .ok (.ifCond .eq 20, 3) := by decide +kernel
theorem dL_isTold_514 : decode cL_isTold 514 = .ok (.aload 8, 2) := by decide +kernel
theorem dL_isTold_516 : decode cL_isTold 516 = .ok (.aload 9, 2) := by decide +kernel
theorem dL_isTold_518 : decode cL_isTold 518 = .ok (.aload 10, 2) := by decide +kernel
theorem dL_isTold_520 : decode cL_isTold 520 = .ok (.bipush 10, 2) := by decide +kernel
theorem dL_isTold_522 : decode cL_isTold 522 = .ok (.iload 15, 2) := by decide +kernel
theorem dL_isTold_524 : decode cL_isTold 524 = .ok (.iadd, 1) := by decide +kernel
theorem dL_isTold_525 : decode cL_isTold 525 = .ok (.invokestatic 145, 3) := by decide +kernel
theorem dL_isTold_528 : decode cL_isTold 528 = .ok (.goto 4, 3) := by decide +kernel
theorem dL_isTold_531 : decode cL_isTold 531 = .ok (.iconst (-1), 1) := by decide +kernel
theorem dL_isTold_532 : decode cL_isTold 532 = .ok (.if_icmp .ne 84, 3) := by decide +kernel
theorem dL_isTold_535 : decode cL_isTold 535 = .ok (.aload_n 0, 1) := by decide +kernel
theorem dL_isTold_536 : decode cL_isTold 536 = .ok (.iconst 1, 1) := by decide +kernel
theorem dL_isTold_537 : decode cL_isTold 537 = .ok (.iload 15, 2) := by decide +kernel
theorem dL_isTold_539 : decode cL_isTold 539 = .ok (.invokestatic 277, 3) := by decide +kernel
theorem dL_isTold_542 : decode cL_isTold 542 = .ok (.iload 16, 2) := by decide +kernel
theorem dL_isTold_544 : decode cL_isTold 544 = .ok (.ifCond .eq 14, 3) := by decide +kernel
theorem dL_isTold_547 : decode cL_isTold 547 = .ok (.aload 9, 2) := by decide +kernel
theorem dL_isTold_549 : decode cL_isTold 549 = .ok (.bipush 10, 2) := by decide +kernel
theorem dL_isTold_551 : decode cL_isTold 551 = .ok (.iload 15, 2) := by decide +kernel
theorem dL_isTold_553 : decode cL_isTold 553 = .ok (.iadd, 1) := by decide +kernel
theorem dL_isTold_554 : decode cL_isTold 554 = .ok (.iaload, 1) := by decide +kernel
theorem dL_isTold_555 : decode cL_isTold 555 = .ok (.goto 4, 3) := by decide +kernel
theorem dL_isTold_558 : decode cL_isTold 558 = .ok (.iconst (-1), 1) := by decide +kernel
theorem dL_isTold_559 : decode cL_isTold 559 = .ok (.if_icmp .ne 57, 3) := by decide +kernel
theorem dL_isTold_562 : decode cL_isTold 562 = .ok (.aload_n 0, 1) := by decide +kernel
theorem dL_isTold_563 : decode cL_isTold 563 = .ok (.iconst 1, 1) := by decide +kernel
theorem dL_isTold_564 : decode cL_isTold 564 = .ok (.iload 15, 2) := by decide +kernel
theorem dL_isTold_566 : decode cL_isTold 566 = .ok (.invokestatic 279, 3) := by decide +kernel
theorem dL_isTold_569 : decode cL_isTold 569 = .ok (.iload 16, 2) := by decide +kernel
theorem dL_isTold_571 : decode cL_isTold 571 = .ok (.ifCond .eq 14, 3) := by decide +kernel
theorem dL_isTold_574 : decode cL_isTold 574 = .ok (.aload 9, 2) := by decide +kernel
theorem dL_isTold_576 : decode cL_isTold 576 = .ok (.bipush 10, 2) := by decide +kernel
theorem dL_isTold_578 : decode cL_isTold 578 = .ok (.iload 15, 2) := by decide +kernel
theorem dL_isTold_580 : decode cL_isTold 580 = .ok (.iadd, 1) := by decide +kernel
theorem dL_isTold_581 : decode cL_isTold 581 = .ok (.iaload, 1) := by decide +kernel
theorem dL_isTold_582 : decode cL_isTold 582 = .ok (.goto 4, 3) := by decide +kernel
theorem dL_isTold_585 : decode cL_isTold 585 = .ok (.iconst (-1), 1) := by decide +kernel
theorem dL_isTold_586 : decode cL_isTold 586 = .ok (.if_icmp .ne 30, 3) := by decide +kernel
theorem dL_isTold_589 : decode cL_isTold 589 = .ok (.aload_n 0, 1) := by decide +kernel
theorem dL_isTold_590 : decode cL_isTold 590 = .ok (.iconst 1, 1) := by decide +kernel
theorem dL_isTold_591 : decode cL_isTold 591 = .ok (.iload 15, 2) := by decide +kernel
theorem dL_isTold_593 : decode cL_isTold 593 = .ok (.invokestatic 281, 3) := by decide +kernel
theorem dL_isTold_596 : decode cL_isTold 596 = .ok (.iload 16, 2) := by decide +kernel
theorem dL_isTold_598 : decode cL_isTold 598 = .ok (.ifCond .eq 14, 3) := by decide +kernel
theorem dL_isTold_601 : decode cL_isTold 601 = .ok (.aload 10, 2) := by decide +kernel
theorem dL_isTold_603 : decode cL_isTold 603 = .ok (.bipush 10, 2) := by decide +kernel
theorem dL_isTold_605 : decode cL_isTold 605 = .ok (.iload 15, 2) := by decide +kernel
theorem dL_isTold_607 : decode cL_isTold 607 = .ok (.iadd, 1) := by decide +kernel
theorem dL_isTold_608 : decode cL_isTold 608 = .ok (.iaload, 1) := by decide +kernel
theorem dL_isTold_609 : decode cL_isTold 609 = .ok (.goto 4, 3) := by decide +kernel
theorem dL_isTold_612 : decode cL_isTold 612 = .ok (.iconst (-1), 1) := by decide +kernel
theorem dL_isTold_613 : decode cL_isTold 613 = .ok (.if_icmp .eq 5, 3) := by decide +kernel
theorem dL_isTold_616 : decode cL_isTold 616 = .ok (.iconst 0, 1) := by decide +kernel
theorem dL_isTold_617 : decode cL_isTold 617 = .ok (.ireturn, 1) := by decide +kernel
theorem dL_isTold_618 : decode cL_isTold 618 = .ok (.iload 14, 2) := by decide +kernel
theorem dL_isTold_620 : decode cL_isTold 620 = .ok (.iload 16, 2) := by decide +kernel
theorem dL_isTold_622 : decode cL_isTold 622 = .ok (.ifCond .eq 54, 3) := by decide +kernel
theorem dL_isTold_625 : decode cL_isTold 625 = .ok (.iload 18, 2) := by decide +kernel
theorem dL_isTold_627 : decode cL_isTold 627 = .ok (.aload 8, 2) := by decide +kernel
theorem dL_isTold_629 : decode cL_isTold 629 = .ok (.aload 9, 2) := by decide +kernel
theorem dL_isTold_631 : decode cL_isTold 631 = .ok (.aload 10, 2) := by decide +kernel
theorem dL_isTold_633 : decode cL_isTold 633 = .ok (.bipush 10, 2) := by decide +kernel
theorem dL_isTold_635 : decode cL_isTold 635 = .ok (.iload 15, 2) := by decide +kernel
theorem dL_isTold_637 : decode cL_isTold 637 = .ok (.iadd, 1) := by decide +kernel
theorem dL_isTold_638 : decode cL_isTold 638 = .ok (.invokestatic 145, 3) := by decide +kernel
