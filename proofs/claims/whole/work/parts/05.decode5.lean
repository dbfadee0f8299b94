theorem jd_L_law_243 : decode jc_L_law 243 = .ok (.iload 4, 2) := by decide +kernel
theorem jd_L_law_245 : decode jc_L_law 245 = .ok (.iconst 3, 1) := by decide +kernel
theorem jd_L_law_246 : decode jc_L_law 246 = .ok (.iadd, 1) := by decide +kernel
theorem jd_L_law_247 : decode jc_L_law 247 = .ok (.iaload, 1) := by decide +kernel
theorem jd_L_law_248 : decode jc_L_law 248 = .ok (.invokevirtual 89, 3) := by decide +kernel
theorem jd_L_law_251 : decode jc_L_law 251 = .ok (.istore 6, 2) := by decide +kernel
theorem jd_L_law_253 : decode jc_L_law 253 = .ok (.aload_n 2, 1) := by decide +kernel
theorem jd_L_law_254 : decode jc_L_law 254 = .ok (.invokevirtual 84, 3) := by decide +kernel
theorem jd_L_law_257 : decode jc_L_law 257 = .ok (.iload 5, 2) := by decide +kernel
theorem jd_L_law_259 : decode jc_L_law 259 = .ok (.if_icmp .eq 5, 3) := by decide +kernel
theorem jd_L_law_262 : decode jc_L_law 262 = .ok (.iconst 0, 1) := by decide +kernel
theorem jd_L_law_263 : decode jc_L_law 263 = .ok (.ireturn, 1) := by decide +kernel
theorem jd_L_law_264 : decode jc_L_law 264 = .ok (.iload 5, 2) := by decide +kernel
theorem jd_L_law_266 : decode jc_L_law 266 = .ok (.ifCond .ne 15, 3) := by decide +kernel
theorem jd_L_law_269 : decode jc_L_law 269 = .ok (.aload_n 3, 1) := by decide +kernel
theorem jd_L_law_270 : decode jc_L_law 270 = .ok (.iconst 0, 1) := by decide +kernel
theorem jd_L_law_271 : decode jc_L_law 271 = .ok (.laload, 1) := by decide +kernel
theorem jd_L_law_272 : decode jc_L_law 272 = .ok (.iload 6, 2) := by decide +kernel
theorem jd_L_law_274 : decode jc_L_law 274 = .ok (.i2l, 1) := by decide +kernel
theorem jd_L_law_275 : decode jc_L_law 275 = .ok (.lcmp, 1) := by decide +kernel
theorem jd_L_law_276 : decode jc_L_law 276 = .ok (.ifCond .eq 5, 3) := by decide +kernel
theorem jd_L_law_279 : decode jc_L_law 279 = .ok (.iconst 0, 1) := by decide +kernel
theorem jd_L_law_280 : decode jc_L_law 280 = .ok (.ireturn, 1) := by decide +kernel
theorem jd_L_law_281 : decode jc_L_law 281 = .ok (.goto 844, 3) := by decide +kernel
theorem jd_L_law_284 : decode jc_L_law 284 = .ok (.aload_n 1, 1) := by decide +kernel
theorem jd_L_law_285 : decode jc_L_law 285 = .ok (.aload_n 0, 1) := by decide +kernel
theorem jd_L_law_286 : decode jc_L_law 286 = .ok (.iload 4, 2) := by decide +kernel
theorem jd_L_law_288 : decode jc_L_law 288 = .ok (.iconst 1, 1) := by decide +kernel
theorem jd_L_law_289 : decode jc_L_law 289 = .ok (.iadd, 1) := by decide +kernel
theorem jd_L_law_290 : decode jc_L_law 290 = .ok (.iaload, 1) := by decide +kernel
theorem jd_L_law_291 : decode jc_L_law 291 = .ok (.aload_n 3, 1) := by decide +kernel
theorem jd_L_law_292 : decode jc_L_law 292 = .ok (.invokestatic 90, 3) := by decide +kernel
theorem jd_L_law_295 : decode jc_L_law 295 = .ok (.istore 5, 2) := by decide +kernel
theorem jd_L_law_297 : decode jc_L_law 297 = .ok (.aload_n 2, 1) := by decide +kernel
theorem jd_L_law_298 : decode jc_L_law 298 = .ok (.aload_n 0, 1) := by decide +kernel
theorem jd_L_law_299 : decode jc_L_law 299 = .ok (.iload 4, 2) := by decide +kernel
theorem jd_L_law_301 : decode jc_L_law 301 = .ok (.iconst 1, 1) := by decide +kernel
theorem jd_L_law_302 : decode jc_L_law 302 = .ok (.iadd, 1) := by decide +kernel
theorem jd_L_law_303 : decode jc_L_law 303 = .ok (.iaload, 1) := by decide +kernel
theorem jd_L_law_304 : decode jc_L_law 304 = .ok (.invokevirtual 93, 3) := by decide +kernel
theorem jd_L_law_307 : decode jc_L_law 307 = .ok (.istore 6, 2) := by decide +kernel
theorem jd_L_law_309 : decode jc_L_law 309 = .ok (.aload_n 2, 1) := by decide +kernel
theorem jd_L_law_310 : decode jc_L_law 310 = .ok (.invokevirtual 84, 3) := by decide +kernel
theorem jd_L_law_313 : decode jc_L_law 313 = .ok (.iload 5, 2) := by decide +kernel
theorem jd_L_law_315 : decode jc_L_law 315 = .ok (.if_icmp .eq 5, 3) := by decide +kernel
theorem jd_L_law_318 : decode jc_L_law 318 = .ok (.iconst 0, 1) := by decide +kernel
theorem jd_L_law_319 : decode jc_L_law 319 = .ok (.ireturn, 1) := by decide +kernel
theorem jd_L_law_320 : decode jc_L_law 320 = .ok (.iload 5, 2) := by decide +kernel
theorem jd_L_law_322 : decode jc_L_law 322 = .ok (.ifCond .ne 15, 3) := by decide +kernel
theorem jd_L_law_325 : decode jc_L_law 325 = .ok (.aload_n 3, 1) := by decide +kernel
theorem jd_L_law_326 : decode jc_L_law 326 = .ok (.iconst 0, 1) := by decide +kernel
theorem jd_L_law_327 : decode jc_L_law 327 = .ok (.laload, 1) := by decide +kernel
theorem jd_L_law_328 : decode jc_L_law 328 = .ok (.iload 6, 2) := by decide +kernel
theorem jd_L_law_330 : decode jc_L_law 330 = .ok (.i2l, 1) := by decide +kernel
theorem jd_L_law_331 : decode jc_L_law 331 = .ok (.lcmp, 1) := by decide +kernel
theorem jd_L_law_332 : decode jc_L_law 332 = .ok (.ifCond .eq 5, 3) := by decide +kernel
theorem jd_L_law_335 : decode jc_L_law 335 = .ok (.iconst 0, 1) := by decide +kernel
theorem jd_L_law_336 : decode jc_L_law 336 = .ok (.ireturn, 1) := by decide +kernel
theorem jd_L_law_337 : decode jc_L_law 337 = .ok (.goto 788, 3) := by decide +kernel
theorem jd_L_law_340 : decode jc_L_law 340 = .ok (.aload_n 1, 1) := by decide +kernel
theorem jd_L_law_341 : decode jc_L_law 341 = .ok (.aload_n 0, 1) := by decide +kernel
theorem jd_L_law_342 : decode jc_L_law 342 = .ok (.iload 4, 2) := by decide +kernel
theorem jd_L_law_344 : decode jc_L_law 344 = .ok (.iconst 1, 1) := by decide +kernel
theorem jd_L_law_345 : decode jc_L_law 345 = .ok (.iadd, 1) := by decide +kernel
theorem jd_L_law_346 : decode jc_L_law 346 = .ok (.iaload, 1) := by decide +kernel
theorem jd_L_law_347 : decode jc_L_law 347 = .ok (.aload_n 3, 1) := by decide +kernel
theorem jd_L_law_348 : decode jc_L_law 348 = .ok (.invokestatic 94, 3) := by decide +kernel
theorem jd_L_law_351 : decode jc_L_law 351 = .ok (.istore 5, 2) := by decide +kernel
theorem jd_L_law_353 : decode jc_L_law 353 = .ok (.aload_n 2, 1) := by decide +kernel
theorem jd_L_law_354 : decode jc_L_law 354 = .ok (.aload_n 0, 1) := by decide +kernel
theorem jd_L_law_355 : decode jc_L_law 355 = .ok (.iload 4, 2) := by decide +kernel
theorem jd_L_law_357 : decode jc_L_law 357 = .ok (.iconst 1, 1) := by decide +kernel
theorem jd_L_law_358 : decode jc_L_law 358 = .ok (.iadd, 1) := by decide +kernel
theorem jd_L_law_359 : decode jc_L_law 359 = .ok (.iaload, 1) := by decide +kernel
theorem jd_L_law_360 : decode jc_L_law 360 = .ok (.invokevirtual 96, 3) := by decide +kernel
theorem jd_L_law_363 : decode jc_L_law 363 = .ok (.istore 6, 2) := by decide +kernel
theorem jd_L_law_365 : decode jc_L_law 365 = .ok (.aload_n 2, 1) := by decide +kernel
theorem jd_L_law_366 : decode jc_L_law 366 = .ok (.invokevirtual 84, 3) := by decide +kernel
theorem jd_L_law_369 : decode jc_L_law 369 = .ok (.iload 5, 2) := by decide +kernel
theorem jd_L_law_371 : decode jc_L_law 371 = .ok (.if_icmp .eq 5, 3) := by decide +kernel
theorem jd_L_law_374 : decode jc_L_law 374 = .ok (.iconst 0, 1) := by decide +kernel
theorem jd_L_law_375 : decode jc_L_law 375 = .ok (.ireturn, 1) := by decide +kernel
theorem jd_L_law_376 : decode jc_L_law 376 = .ok (.iload 5, 2) := by decide +kernel
theorem jd_L_law_378 : decode jc_L_law 378 = .ok (.ifCond .ne 15, 3) := by decide +kernel
theorem jd_L_law_381 : decode jc_L_law 381 = .ok (.aload_n 3, 1) := by decide +kernel
theorem jd_L_law_382 : decode jc_L_law 382 = .ok (.iconst 0, 1) := by decide +kernel
theorem jd_L_law_383 : decode jc_L_law 383 = .ok (.laload, 1) := by decide +kernel
theorem jd_L_law_384 : decode jc_L_law 384 = .ok (.iload 6, 2) := by decide +kernel
theorem jd_L_law_386 : decode jc_L_law 386 = .ok (.i2l, 1) := by decide +kernel
theorem jd_L_law_387 : decode jc_L_law 387 = .ok (.lcmp, 1) := by decide +kernel
theorem jd_L_law_388 : decode jc_L_law 388 = .ok (.ifCond .eq 5, 3) := by decide +kernel
theorem jd_L_law_391 : decode jc_L_law 391 = .ok (.iconst 0, 1) := by decide +kernel
theorem jd_L_law_392 : decode jc_L_law 392 = .ok (.ireturn, 1) := by decide +kernel
theorem jd_L_law_393 : decode jc_L_law 393 = .ok (.goto 732, 3) := by decide +kernel
theorem jd_L_law_396 : decode jc_L_law 396 = .ok (.aload_n 1, 1) := by decide +kernel
theorem jd_L_law_397 : decode jc_L_law 397 = .ok (.aload_n 3, 1) := by decide +kernel
theorem jd_L_law_398 : decode jc_L_law 398 = .ok (.invokestatic 97, 3) := by decide +kernel
theorem jd_L_law_401 : decode jc_L_law 401 = .ok (.istore 5, 2) := by decide +kernel
theorem jd_L_law_403 : decode jc_L_law 403 = .ok (.aload_n 2, 1) := by decide +kernel
theorem jd_L_law_404 : decode jc_L_law 404 = .ok (.invokevirtual 100, 3) := by decide +kernel
theorem jd_L_law_407 : decode jc_L_law 407 = .ok (.istore 6, 2) := by decide +kernel
theorem jd_L_law_409 : decode jc_L_law 409 = .ok (.aload_n 2, 1) := by decide +kernel
theorem jd_L_law_410 : decode jc_L_law 410 = .ok (.invokevirtual 84, 3) := by decide +kernel
theorem jd_L_law_413 : decode jc_L_law 413 = .ok (.iload 5, 2) := by decide +kernel
theorem jd_L_law_415 : decode jc_L_law 415 = .ok (.if_icmp .eq 5, 3) := by decide +kernel
theorem jd_L_law_418 : decode jc_L_law 418 = .ok (.iconst 0, 1) := by decide +kernel
theorem jd_L_law_419 : decode jc_L_law 419 = .ok (.ireturn, 1) := by decide +kernel
theorem jd_L_law_420 : decode jc_L_law 420 = .ok (.iload 5, 2) := by decide +kernel
theorem jd_L_law_422 : decode jc_L_law 422 = .ok (.ifCond .ne 15, 3) := by decide +kernel
theorem jd_L_law_425 : decode jc_L_law 425 = .ok (.aload_n 3, 1) := by decide +kernel
theorem jd_L_law_426 : decode jc_L_law 426 = .ok (.iconst 0, 1) := by decide +kernel
theorem jd_L_law_427 : decode jc_L_law 427 = .ok (.laload, 1) := by decide +kernel
theorem jd_L_law_428 : decode jc_L_law 428 = .ok (.iload 6, 2) := by decide +kernel
theorem jd_L_law_430 : decode jc_L_law 430 = .ok (.i2l, 1) := by decide +kernel
theorem jd_L_law_431 : decode jc_L_law 431 = .ok (.lcmp, 1) := by decide +kernel
theorem jd_L_law_432 : decode jc_L_law 432 = .ok (.ifCond .eq 5, 3) := by decide +kernel
theorem jd_L_law_435 : decode jc_L_law 435 = .ok (.iconst 0, 1) := by decide +kernel
theorem jd_L_law_436 : decode jc_L_law 436 = .ok (.ireturn, 1) := by decide +kernel
theorem jd_L_law_437 : decode jc_L_law 437 = .ok (.goto 688, 3) := by decide +kernel
theorem jd_L_law_440 : decode jc_L_law 440 = .ok (.aload_n 1, 1) := by decide +kernel
theorem jd_L_law_441 : decode jc_L_law 441 = .ok (.aload_n 0, 1) := by decide +kernel
theorem jd_L_law_442 : decode jc_L_law 442 = .ok (.iload 4, 2) := by decide +kernel
theorem jd_L_law_444 : decode jc_L_law 444 = .ok (.iconst 1, 1) := by decide +kernel
theorem jd_L_law_445 : decode jc_L_law 445 = .ok (.iadd, 1) := by decide +kernel
theorem jd_L_law_446 : decode jc_L_law 446 = .ok (.iaload, 1) := by decide +kernel
theorem jd_L_law_447 : decode jc_L_law 447 = .ok (.aload_n 3, 1) := by decide +kernel
theorem jd_L_law_448 : decode jc_L_law 448 = .ok (.invokestatic 101, 3) := by decide +kernel
theorem jd_L_law_451 : decode jc_L_law 451 = .ok (.istore 5, 2) := by decide +kernel
theorem jd_L_law_453 : decode jc_L_law 453 = .ok (.aload_n 2, 1) := by decide +kernel
theorem jd_L_law_454 : decode jc_L_law 454 = .ok (.aload_n 0, 1) := by decide +kernel
theorem jd_L_law_455 : decode jc_L_law 455 = .ok (.iload 4, 2) := by decide +kernel
theorem jd_L_law_457 : decode jc_L_law 457 = .ok (.iconst 1, 1) := by decide +kernel
theorem jd_L_law_458 : decode jc_L_law 458 = .ok (.iadd, 1) := by decide +kernel
theorem jd_L_law_459 : decode jc_L_law 459 = .ok (.iaload, 1) := by decide +kernel
theorem jd_L_law_460 : decode jc_L_law 460 = .ok (.invokevirtual 103, 3) := by decide +kernel
theorem jd_L_law_463 : decode jc_L_law 463 = .ok (.istore 6, 2) := by decide +kernel
theorem jd_L_law_465 : decode jc_L_law 465 = .ok (.aload_n 2, 1) := by decide +kernel
theorem jd_L_law_466 : decode jc_L_law 466 = .ok (.invokevirtual 84, 3) := by decide +kernel
theorem jd_L_law_469 : decode jc_L_law 469 = .ok (.iload 5, 2) := by decide +kernel
theorem jd_L_law_471 : decode jc_L_law 471 = .ok (.if_icmp .eq 5, 3) := by decide +kernel
theorem jd_L_law_474 : decode jc_L_law 474 = .ok (.iconst 0, 1) := by decide +kernel
theorem jd_L_law_475 : decode jc_L_law 475 = .ok (.ireturn, 1) := by decide +kernel
theorem jd_L_law_476 : decode jc_L_law 476 = .ok (.iload 5, 2) := by decide +kernel
theorem jd_L_law_478 : decode jc_L_law 478 = .ok (.ifCond .ne 15, 3) := by decide +kernel
theorem jd_L_law_481 : decode jc_L_law 481 = .ok (.aload_n 3, 1) := by decide +kernel
theorem jd_L_law_482 : decode jc_L_law 482 = .ok (.iconst 0, 1) := by decide +kernel
theorem jd_L_law_483 : decode jc_L_law 483 = .ok (.laload, 1) := by decide +kernel
theorem jd_L_law_484 : decode jc_L_law 484 = .ok (.iload 6, 2) := by decide +kernel
theorem jd_L_law_486 : decode jc_L_law 486 = .ok (.i2l, 1) := by decide +kernel
theorem jd_L_law_487 : decode jc_L_law 487 = .ok (.lcmp, 1) := by decide +kernel
theorem jd_L_law_488 : decode jc_L_law 488 = .ok (.ifCond .eq 5, 3) := by decide +kernel
theorem jd_L_law_491 : decode jc_L_law 491 = .ok (.iconst 0, 1) := by decide +kernel
theorem jd_L_law_492 : decode jc_L_law 492 = .ok (.ireturn, 1) := by decide +kernel
theorem jd_L_law_493 : decode jc_L_law 493 = .ok (.goto 632, 3) := by decide +kernel
theorem jd_L_law_496 : decode jc_L_law 496 = .ok (.aload_n 1, 1) := by decide +kernel
theorem jd_L_law_497 : decode jc_L_law 497 = .ok (.aload_n 0, 1) := by decide +kernel
theorem jd_L_law_498 : decode jc_L_law 498 = .ok (.iload 4, 2) := by decide +kernel
theorem jd_L_law_500 : decode jc_L_law 500 = .ok (.iconst 1, 1) := by decide +kernel
theorem jd_L_law_501 : decode jc_L_law 501 = .ok (.iadd, 1) := by decide +kernel
theorem jd_L_law_502 : decode jc_L_law 502 = .ok (.iaload, 1) := by decide +kernel
theorem jd_L_law_503 : decode jc_L_law 503 = .ok (.aload_n 0, 1) := by decide +kernel
theorem jd_L_law_504 : decode jc_L_law 504 = .ok (.iload 4, 2) := by decide +kernel
theorem jd_L_law_506 : decode jc_L_law 506 = .ok (.iconst 2, 1) := by decide +kernel
theorem jd_L_law_507 : decode jc_L_law 507 = .ok (.iadd, 1) := by decide +kernel
theorem jd_L_law_508 : decode jc_L_law 508 = .ok (.iaload, 1) := by decide +kernel
theorem jd_L_law_509 : decode jc_L_law 509 = .ok (.aload_n 3, 1) := by decide +kernel
theorem jd_L_law_510 : decode jc_L_law 510 = .ok (.invokestatic 104, 3) := by decide +kernel
theorem jd_L_law_513 : decode jc_L_law 513 = .ok (.istore 5, 2) := by decide +kernel
theorem jd_L_law_515 : decode jc_L_law 515 = .ok (.aload_n 2, 1) := by decide +kernel
theorem jd_L_law_516 : decode jc_L_law 516 = .ok (.aload_n 0, 1) := by decide +kernel
theorem jd_L_law_517 : decode jc_L_law 517 = .ok (.iload 4, 2) := by decide +kernel
theorem jd_L_law_519 : decode jc_L_law 519 = .ok (.iconst 1, 1) := by decide +kernel
theorem jd_L_law_520 : decode jc_L_law 520 = .ok (.iadd, 1) := by decide +kernel
theorem jd_L_law_521 : decode jc_L_law 521 = .ok (.iaload, 1) := by decide +kernel
theorem jd_L_law_522 : decode jc_L_law 522 = .ok (.aload_n 0, 1) := by decide +kernel
theorem jd_L_law_523 : decode jc_L_law 523 = .ok (.iload 4, 2) := by decide +kernel
theorem jd_L_law_525 : decode jc_L_law 525 = .ok (.iconst 2, 1) := by decide +kernel
theorem jd_L_law_526 : decode jc_L_law 526 = .ok (.iadd, 1) := by decide +kernel
theorem jd_L_law_527 : decode jc_L_law 527 = .ok (.iaload, 1) := by decide +kernel
theorem jd_L_law_528 : decode jc_L_law 528 = .ok (.invokevirtual 107, 3) := by decide +kernel
theorem jd_L_law_531 : decode jc_L_law 531 = .ok (.istore 6, 2) := by decide +kernel
theorem jd_L_law_533 : decode jc_L_law 533 = .ok (.aload_n 2, 1) := by decide +kernel
theorem jd_L_law_534 : decode jc_L_law 534 = .ok (.invokevirtual 84, 3) := by decide +kernel
theorem jd_L_law_537 : decode jc_L_law 537 = .ok (.iload 5, 2) := by decide +kernel
theorem jd_L_law_539 : decode jc_L_law 539 = .ok (.if_icmp .eq 5, 3) := by decide +kernel
theorem jd_L_law_542 : decode jc_L_law 542 = .ok (.iconst 0, 1) := by decide +kernel
theorem jd_L_law_543 : decode jc_L_law 543 = .ok (.ireturn, 1) := by decide +kernel
theorem jd_L_law_544 : decode jc_L_law 544 = .ok (.iload 5, 2) := by decide +kernel
theorem jd_L_law_546 : decode jc_L_law 546 = .ok (.ifCond .ne 15, 3) := by decide +kernel
theorem jd_L_law_549 : decode jc_L_law 549 = .ok (.aload_n 3, 1) := by decide +kernel
theorem jd_L_law_550 : decode jc_L_law 550 = .ok (.iconst 0, 1) := by decide +kernel
theorem jd_L_law_551 : decode jc_L_law 551 = .ok (.laload, 1) := by decide +kernel
theorem jd_L_law_552 : decode jc_L_law 552 = .ok (.iload 6, 2) := by decide +kernel
theorem jd_L_law_554 : decode jc_L_law 554 = .ok (.i2l, 1) := by decide +kernel
theorem jd_L_law_555 : decode jc_L_law 555 = .ok (.lcmp, 1) := by decide +kernel
theorem jd_L_law_556 : decode jc_L_law 556 = .ok (.ifCond .eq 5, 3) := by decide +kernel
theorem jd_L_law_559 : decode jc_L_law 559 = .ok (.iconst 0, 1) := by decide +kernel
theorem jd_L_law_560 : decode jc_L_law 560 = .ok (.ireturn, 1) := by decide +kernel
theorem jd_L_law_561 : decode jc_L_law 561 = .ok (.goto 564, 3) := by decide +kernel
theorem jd_L_law_564 : decode jc_L_law 564 = .ok (.aload_n 1, 1) := by decide +kernel
theorem jd_L_law_565 : decode jc_L_law 565 = .ok (.aload_n 0, 1) := by decide +kernel
theorem jd_L_law_566 : decode jc_L_law 566 = .ok (.iload 4, 2) := by decide +kernel
theorem jd_L_law_568 : decode jc_L_law 568 = .ok (.iconst 1, 1) := by decide +kernel
theorem jd_L_law_569 : decode jc_L_law 569 = .ok (.iadd, 1) := by decide +kernel
theorem jd_L_law_570 : decode jc_L_law 570 = .ok (.iaload, 1) := by decide +kernel
theorem jd_L_law_571 : decode jc_L_law 571 = .ok (.aload_n 3, 1) := by decide +kernel
theorem jd_L_law_572 : decode jc_L_law 572 = .ok (.invokestatic 108, 3) := by decide +kernel
theorem jd_L_law_575 : decode jc_L_law 575 = .ok (.istore 5, 2) := by decide +kernel
theorem jd_L_law_577 : decode jc_L_law 577 = .ok (.aload_n 2, 1) := by decide +kernel
theorem jd_L_law_578 : decode jc_L_law 578 = .ok (.aload_n 0, 1) := by decide +kernel
theorem jd_L_law_579 : decode jc_L_law 579 = .ok (.iload 4, 2) := by decide +kernel
theorem jd_L_law_581 : decode jc_L_law 581 = .ok (.iconst 1, 1) := by decide +kernel
theorem jd_L_law_582 : decode jc_L_law 582 = .ok (.iadd, 1) := by decide +kernel
theorem jd_L_law_583 : decode jc_L_law 583 = .ok (.iaload, 1) := by decide +kernel
theorem jd_L_law_584 : decode jc_L_law 584 = .ok (.invokevirtual 110, 3) := by decide +kernel
theorem jd_L_law_587 : decode jc_L_law 587 = .ok (.istore 6, 2) := by decide +kernel
theorem jd_L_law_589 : decode jc_L_law 589 = .ok (.aload_n 2, 1) := by decide +kernel
theorem jd_L_law_590 : decode jc_L_law 590 = .ok (.invokevirtual 84, 3) := by decide +kernel
theorem jd_L_law_593 : decode jc_L_law 593 = .ok (.iload 5, 2) := by decide +kernel
theorem jd_L_law_595 : decode jc_L_law 595 = .ok (.if_icmp .eq 5, 3) := by decide +kernel
theorem jd_L_law_598 : decode jc_L_law 598 = .ok (.iconst 0, 1) := by decide +kernel
theorem jd_L_law_599 : decode jc_L_law 599 = .ok (.ireturn, 1) := by decide +kernel
theorem jd_L_law_600 : decode jc_L_law 600 = .ok (.iload 5, 2) := by decide +kernel
theorem jd_L_law_602 : decode jc_L_law 602 = .ok (.ifCond .ne 15, 3) := by decide +kernel
theorem jd_L_law_605 : decode jc_L_law 605 = .ok (.aload_n 3, 1) := by decide +kernel
theorem jd_L_law_606 : decode jc_L_law 606 = .ok (.iconst 0, 1) := by decide +kernel
theorem jd_L_law_607 : decode jc_L_law 607 = .ok (.laload, 1) := by decide +kernel
theorem jd_L_law_608 : decode jc_L_law 608 = .ok (.iload 6, 2) := by decide +kernel
theorem jd_L_law_610 : decode jc_L_law 610 = .ok (.i2l, 1) := by decide +kernel
theorem jd_L_law_611 : decode jc_L_law 611 = .ok (.lcmp, 1) := by decide +kernel
theorem jd_L_law_612 : decode jc_L_law 612 = .ok (.ifCond .eq 5, 3) := by decide +kernel
theorem jd_L_law_615 : decode jc_L_law 615 = .ok (.iconst 0, 1) := by decide +kernel
theorem jd_L_law_616 : decode jc_L_law 616 = .ok (.ireturn, 1) := by decide +kernel
theorem jd_L_law_617 : decode jc_L_law 617 = .ok (.goto 508, 3) := by decide +kernel
theorem jd_L_law_620 : decode jc_L_law 620 = .ok (.aload_n 1, 1) := by decide +kernel
theorem jd_L_law_621 : decode jc_L_law 621 = .ok (.aload_n 0, 1) := by decide +kernel
theorem jd_L_law_622 : decode jc_L_law 622 = .ok (.iload 4, 2) := by decide +kernel
theorem jd_L_law_624 : decode jc_L_law 624 = .ok (.iconst 1, 1) := by decide +kernel
theorem jd_L_law_625 : decode jc_L_law 625 = .ok (.iadd, 1) := by decide +kernel
theorem jd_L_law_626 : decode jc_L_law 626 = .ok (.iaload, 1) := by decide +kernel
theorem jd_L_law_627 : decode jc_L_law 627 = .ok (.aload_n 3, 1) := by decide +kernel
theorem jd_L_law_628 : decode jc_L_law 628 = .ok (.invokestatic 111, 3) := by decide +kernel
theorem jd_L_law_631 : decode jc_L_law 631 = .ok (.istore 5, 2) := by decide +kernel
theorem jd_L_law_633 : decode jc_L_law 633 = .ok (.aload_n 2, 1) := by decide +kernel
theorem jd_L_law_634 : decode jc_L_law 634 = .ok (.aload_n 0, 1) := by decide +kernel
theorem jd_L_law_635 : decode jc_L_law 635 = .ok (.iload 4, 2) := by decide +kernel
theorem jd_L_law_637 : decode jc_L_law 637 = .ok (.iconst 1, 1) := by decide +kernel
theorem jd_L_law_638 : decode jc_L_law 638 = .ok (.iadd, 1) := by decide +kernel
theorem jd_L_law_639 : decode jc_L_law 639 = .ok (.iaload, 1) := by decide +kernel
theorem jd_L_law_640 : decode jc_L_law 640 = .ok (.invokevirtual 113, 3) := by decide +kernel
theorem jd_L_law_643 : decode jc_L_law 643 = .ok (.istore 6, 2) := by decide +kernel
theorem jd_L_law_645 : decode jc_L_law 645 = .ok (.aload_n 2, 1) := by decide +kernel
theorem jd_L_law_646 : decode jc_L_law 646 = .ok (.invokevirtual 84, 3) := by decide +kernel
theorem jd_L_law_649 : decode jc_L_law 649 = .ok (.iload 5, 2) := by decide +kernel
theorem jd_L_law_651 : decode jc_L_law 651 = .ok (.if_icmp .eq 5, 3) := by decide +kernel
theorem jd_L_law_654 : decode jc_L_law 654 = .ok (.iconst 0, 1) := by decide +kernel
theorem jd_L_law_655 : decode jc_L_law 655 = .ok (.ireturn, 1) := by decide +kernel
theorem jd_L_law_656 : decode jc_L_law 656 = .ok (.iload 5, 2) := by decide +kernel
theorem jd_L_law_658 : decode jc_L_law 658 = .ok (.ifCond .ne 15, 3) := by decide +kernel
theorem jd_L_law_661 : decode jc_L_law 661 = .ok (.aload_n 3, 1) := by decide +kernel
theorem jd_L_law_662 : decode jc_L_law 662 = .ok (.iconst 0, 1) := by decide +kernel
theorem jd_L_law_663 : decode jc_L_law 663 = .ok (.laload, 1) := by decide +kernel
theorem jd_L_law_664 : decode jc_L_law 664 = .ok (.iload 6, 2) := by decide +kernel
theorem jd_L_law_666 : decode jc_L_law 666 = .ok (.i2l, 1) := by decide +kernel
theorem jd_L_law_667 : decode jc_L_law 667 = .ok (.lcmp, 1) := by decide +kernel
theorem jd_L_law_668 : decode jc_L_law 668 = .ok (.ifCond .eq 5, 3) := by decide +kernel
theorem jd_L_law_671 : decode jc_L_law 671 = .ok (.iconst 0, 1) := by decide +kernel
theorem jd_L_law_672 : decode jc_L_law 672 = .ok (.ireturn, 1) := by decide +kernel
theorem jd_L_law_673 : decode jc_L_law 673 = .ok (.goto 452, 3) := by decide +kernel
theorem jd_L_law_676 : decode jc_L_law 676 = .ok (.aload_n 1, 1) := by decide +kernel
theorem jd_L_law_677 : decode jc_L_law 677 = .ok (.aload_n 0, 1) := by decide +kernel
theorem jd_L_law_678 : decode jc_L_law 678 = .ok (.iload 4, 2) := by decide +kernel
theorem jd_L_law_680 : decode jc_L_law 680 = .ok (.iconst 1, 1) := by decide +kernel
theorem jd_L_law_681 : decode jc_L_law 681 = .ok (.iadd, 1) := by decide +kernel
theorem jd_L_law_682 : decode jc_L_law 682 = .ok (.iaload, 1) := by decide +kernel
theorem jd_L_law_683 : decode jc_L_law 683 = .ok (.aload_n 3, 1) := by decide +kernel
theorem jd_L_law_684 : decode jc_L_law 684 = .ok (.invokestatic 114, 3) := by decide +kernel
theorem jd_L_law_687 : decode jc_L_law 687 = .ok (.istore 5, 2) := by decide +kernel
theorem jd_L_law_689 : decode jc_L_law 689 = .ok (.aload_n 2, 1) := by decide +kernel
theorem jd_L_law_690 : decode jc_L_law 690 = .ok (.aload_n 0, 1) := by decide +kernel
theorem jd_L_law_691 : decode jc_L_law 691 = .ok (.iload 4, 2) := by decide +kernel
theorem jd_L_law_693 : decode jc_L_law 693 = .ok (.iconst 1, 1) := by decide +kernel
theorem jd_L_law_694 : decode jc_L_law 694 = .ok (.iadd, 1) := by decide +kernel
theorem jd_L_law_695 : decode jc_L_law 695 = .ok (.iaload, 1) := by decide +kernel
theorem jd_L_law_696 : decode jc_L_law 696 = .ok (.invokevirtual 116, 3) := by decide +kernel
theorem jd_L_law_699 : decode jc_L_law 699 = .ok (.istore 6, 2) := by decide +kernel
theorem jd_L_law_701 : decode jc_L_law 701 = .ok (.aload_n 2, 1) := by decide +kernel
theorem jd_L_law_702 : decode jc_L_law 702 = .ok (.invokevirtual 84, 3) := by decide +kernel
theorem jd_L_law_705 : decode jc_L_law 705 = .ok (.iload 5, 2) := by decide +kernel
theorem jd_L_law_707 : decode jc_L_law 707 = .ok (.if_icmp .eq 5, 3) := by decide +kernel
theorem jd_L_law_710 : decode jc_L_law 710 = .ok (.iconst 0, 1) := by decide +kernel
theorem jd_L_law_711 : decode jc_L_law 711 = .ok (.ireturn, 1) := by decide +kernel
theorem jd_L_law_712 : decode jc_L_law 712 = .ok (.iload 5, 2) := by decide +kernel
theorem jd_L_law_714 : decode jc_L_law 714 = .ok (.ifCond .ne 15, 3) := by decide +kernel
theorem jd_L_law_717 : decode jc_L_law 717 = .ok (.aload_n 3, 1) := by decide +kernel
theorem jd_L_law_718 : decode jc_L_law 718 = .ok (.iconst 0, 1) := by decide +kernel
theorem jd_L_law_719 : decode jc_L_law 719 = .ok (.laload, 1) := by decide +kernel
theorem jd_L_law_720 : decode jc_L_law 720 = .ok (.iload 6, 2) := by decide +kernel
theorem jd_L_law_722 : decode jc_L_law 722 = .ok (.i2l, 1) := by decide +kernel
theorem jd_L_law_723 : decode jc_L_law 723 = .ok (.lcmp, 1) := by decide +kernel
theorem jd_L_law_724 : decode jc_L_law 724 = .ok (.ifCond .eq 5, 3) := by decide +kernel
theorem jd_L_law_727 : decode jc_L_law 727 = .ok (.iconst 0, 1) := by decide +kernel
theorem jd_L_law_728 : decode jc_L_law 728 = .ok (.ireturn, 1) := by decide +kernel
theorem jd_L_law_729 : decode jc_L_law 729 = .ok (.goto 396, 3) := by decide +kernel
theorem jd_L_law_732 : decode jc_L_law 732 = .ok (.aload_n 1, 1) := by decide +kernel
theorem jd_L_law_733 : decode jc_L_law 733 = .ok (.aload_n 3, 1) := by decide +kernel
theorem jd_L_law_734 : decode jc_L_law 734 = .ok (.invokestatic 117, 3) := by decide +kernel
theorem jd_L_law_737 : decode jc_L_law 737 = .ok (.istore 5, 2) := by decide +kernel
theorem jd_L_law_739 : decode jc_L_law 739 = .ok (.aload_n 2, 1) := by decide +kernel
theorem jd_L_law_740 : decode jc_L_law 740 = .ok (.invokevirtual 119, 3) := by decide +kernel
theorem jd_L_law_743 : decode jc_L_law 743 = .ok (.istore 6, 2) := by decide +kernel
theorem jd_L_law_745 : decode jc_L_law 745 = .ok (.aload_n 2, 1) := by decide +kernel
theorem jd_L_law_746 : decode jc_L_law 746 = .ok (.invokevirtual 84, 3) := by decide +kernel
theorem jd_L_law_749 : decode jc_L_law 749 = .ok (.iload 5, 2) := by decide +kernel
theorem jd_L_law_751 : decode jc_L_law 751 = .ok (.if_icmp .eq 5, 3) := by decide +kernel
theorem jd_L_law_754 : decode jc_L_law 754 = .ok (.iconst 0, 1) := by decide +kernel
theorem jd_L_law_755 : decode jc_L_law 755 = .ok (.ireturn, 1) := by decide +kernel
theorem jd_L_law_756 : decode jc_L_law 756 = .ok (.iload 5, 2) := by decide +kernel
theorem jd_L_law_758 : decode jc_L_law 758 = .ok (.ifCond .ne 15, 3) := by decide +kernel
theorem jd_L_law_761 : decode jc_L_law 761 = .ok (.aload_n 3, 1) := by decide +kernel
theorem jd_L_law_762 : decode jc_L_law 762 = .ok (.iconst 0, 1) := by decide +kernel
theorem jd_L_law_763 : decode jc_L_law 763 = .ok (.laload, 1) := by decide +kernel
theorem jd_L_law_764 : decode jc_L_law 764 = .ok (.iload 6, 2) := by decide +kernel
theorem jd_L_law_766 : decode jc_L_law 766 = .ok (.i2l, 1) := by decide +kernel
theorem jd_L_law_767 : decode jc_L_law 767 = .ok (.lcmp, 1) := by decide +kernel
theorem jd_L_law_768 : decode jc_L_law 768 = .ok (.ifCond .eq 5, 3) := by decide +kernel
theorem jd_L_law_771 : decode jc_L_law 771 = .ok (.iconst 0, 1) := by decide +kernel
theorem jd_L_law_772 : decode jc_L_law 772 = .ok (.ireturn, 1) := by decide +kernel
theorem jd_L_law_773 : decode jc_L_law 773 = .ok (.goto 352, 3) := by decide +kernel
theorem jd_L_law_776 : decode jc_L_law 776 = .ok (.aload_n 1, 1) := by decide +kernel
theorem jd_L_law_777 : decode jc_L_law 777 = .ok (.aload_n 3, 1) := by decide +kernel
theorem jd_L_law_778 : decode jc_L_law 778 = .ok (.invokestatic 120, 3) := by decide +kernel
theorem jd_L_law_781 : decode jc_L_law 781 = .ok (.istore 5, 2) := by decide +kernel
theorem jd_L_law_783 : decode jc_L_law 783 = .ok (.aload_n 2, 1) := by decide +kernel
theorem jd_L_law_784 : decode jc_L_law 784 = .ok (.invokevirtual 122, 3) := by decide +kernel
theorem jd_L_law_787 : decode jc_L_law 787 = .ok (.istore 6, 2) := by decide +kernel
theorem jd_L_law_789 : decode jc_L_law 789 = .ok (.aload_n 2, 1) := by decide +kernel
theorem jd_L_law_790 : decode jc_L_law 790 = .ok (.invokevirtual 84, 3) := by decide +kernel
theorem jd_L_law_793 : decode jc_L_law 793 = .ok (.iload 5, 2) := by decide +kernel
theorem jd_L_law_795 : decode jc_L_law 795 = .ok (.if_icmp .eq 5, 3) := by decide +kernel
theorem jd_L_law_798 : decode jc_L_law 798 = .ok (.iconst 0, 1) := by decide +kernel
theorem jd_L_law_799 : decode jc_L_law 799 = .ok (.ireturn, 1) := by decide +kernel
theorem jd_L_law_800 : decode jc_L_law 800 = .ok (.iload 5, 2) := by decide +kernel
theorem jd_L_law_802 : decode jc_L_law 802 = .ok (.ifCond .ne 15, 3) := by decide +kernel
theorem jd_L_law_805 : decode jc_L_law 805 = .ok (.aload_n 3, 1) := by decide +kernel
theorem jd_L_law_806 : decode jc_L_law 806 = .ok (.iconst 0, 1) := by decide +kernel
theorem jd_L_law_807 : decode jc_L_law 807 = .ok (.laload, 1) := by decide +kernel
theorem jd_L_law_808 : decode jc_L_law 808 = .ok (.iload 6, 2) := by decide +kernel
theorem jd_L_law_810 : decode jc_L_law 810 = .ok (.i2l, 1) := by decide +kernel
theorem jd_L_law_811 : decode jc_L_law 811 = .ok (.lcmp, 1) := by decide +kernel
theorem jd_L_law_812 : decode jc_L_law 812 = .ok (.ifCond .eq 5, 3) := by decide +kernel
theorem jd_L_law_815 : decode jc_L_law 815 = .ok (.iconst 0, 1) := by decide +kernel
theorem jd_L_law_816 : decode jc_L_law 816 = .ok (.ireturn, 1) := by decide +kernel
theorem jd_L_law_817 : decode jc_L_law 817 = .ok (.goto 308, 3) := by decide +kernel
theorem jd_L_law_820 : decode jc_L_law 820 = .ok (.aload_n 1, 1) := by decide +kernel
theorem jd_L_law_821 : decode jc_L_law 821 = .ok (.aload_n 0, 1) := by decide +kernel
theorem jd_L_law_822 : decode jc_L_law 822 = .ok (.iload 4, 2) := by decide +kernel
theorem jd_L_law_824 : decode jc_L_law 824 = .ok (.iconst 1, 1) := by decide +kernel
theorem jd_L_law_825 : decode jc_L_law 825 = .ok (.iadd, 1) := by decide +kernel
theorem jd_L_law_826 : decode jc_L_law 826 = .ok (.iaload, 1) := by decide +kernel
theorem jd_L_law_827 : decode jc_L_law 827 = .ok (.aload_n 3, 1) := by decide +kernel
theorem jd_L_law_828 : decode jc_L_law 828 = .ok (.invokestatic 123, 3) := by decide +kernel
theorem jd_L_law_831 : decode jc_L_law 831 = .ok (.istore 5, 2) := by decide +kernel
theorem jd_L_law_833 : decode jc_L_law 833 = .ok (.aload_n 2, 1) := by decide +kernel
theorem jd_L_law_834 : decode jc_L_law 834 = .ok (.aload_n 0, 1) := by decide +kernel
theorem jd_L_law_835 : decode jc_L_law 835 = .ok (.iload 4, 2) := by decide +kernel
theorem jd_L_law_837 : decode jc_L_law 837 = .ok (.iconst 1, 1) := by decide +kernel
theorem jd_L_law_838 : decode jc_L_law 838 = .ok (.iadd, 1) := by decide +kernel
theorem jd_L_law_839 : decode jc_L_law 839 = .ok (.iaload, 1) := by decide +kernel
theorem jd_L_law_840 : decode jc_L_law 840 = .ok (.invokevirtual 125, 3) := by decide +kernel
theorem jd_L_law_843 : decode jc_L_law 843 = .ok (.istore 6, 2) := by decide +kernel
theorem jd_L_law_845 : decode jc_L_law 845 = .ok (.aload_n 2, 1) := by decide +kernel
theorem jd_L_law_846 : decode jc_L_law 846 = .ok (.invokevirtual 84, 3) := by decide +kernel
theorem jd_L_law_849 : decode jc_L_law 849 = .ok (.iload 5, 2) := by decide +kernel
theorem jd_L_law_851 : decode jc_L_law 851 = .ok (.if_icmp .eq 5, 3) := by decide +kernel
theorem jd_L_law_854 : decode jc_L_law 854 = .ok (.iconst 0, 1) := by decide +kernel
theorem jd_L_law_855 : decode jc_L_law 855 = .ok (.ireturn, 1) := by decide +kernel
theorem jd_L_law_856 : decode jc_L_law 856 = .ok (.iload 5, 2) := by decide +kernel
theorem jd_L_law_858 : decode jc_L_law 858 = .ok (.ifCond .ne 15, 3) := by decide +kernel
theorem jd_L_law_861 : decode jc_L_law 861 = .ok (.aload_n 3, 1) := by decide +kernel
theorem jd_L_law_862 : decode jc_L_law 862 = .ok (.iconst 0, 1) := by decide +kernel
theorem jd_L_law_863 : decode jc_L_law 863 = .ok (.laload, 1) := by decide +kernel
theorem jd_L_law_864 : decode jc_L_law 864 = .ok (.iload 6, 2) := by decide +kernel
theorem jd_L_law_866 : decode jc_L_law 866 = .ok (.i2l, 1) := by decide +kernel
theorem jd_L_law_867 : decode jc_L_law 867 = .ok (.lcmp, 1) := by decide +kernel
theorem jd_L_law_868 : decode jc_L_law 868 = .ok (.ifCond .eq 5, 3) := by decide +kernel
theorem jd_L_law_871 : decode jc_L_law 871 = .ok (.iconst 0, 1) := by decide +kernel
theorem jd_L_law_872 : decode jc_L_law 872 = .ok (.ireturn, 1) := by decide +kernel
theorem jd_L_law_873 : decode jc_L_law 873 = .ok (.goto 252, 3) := by decide +kernel
theorem jd_L_law_876 : decode jc_L_law 876 = .ok (.aload_n 1, 1) := by decide +kernel
theorem jd_L_law_877 : decode jc_L_law 877 = .ok (.aload_n 0, 1) := by decide +kernel
theorem jd_L_law_878 : decode jc_L_law 878 = .ok (.iload 4, 2) := by decide +kernel
theorem jd_L_law_880 : decode jc_L_law 880 = .ok (.iconst 1, 1) := by decide +kernel
theorem jd_L_law_881 : decode jc_L_law 881 = .ok (.iadd, 1) := by decide +kernel
theorem jd_L_law_882 : decode jc_L_law 882 = .ok (.iaload, 1) := by decide +kernel
theorem jd_L_law_883 : decode jc_L_law 883 = .ok (.aload_n 0, 1) := by decide +kernel
theorem jd_L_law_884 : decode jc_L_law 884 = .ok (.iload 4, 2) := by decide +kernel
theorem jd_L_law_886 : decode jc_L_law 886 = .ok (.iconst 2, 1) := by decide +kernel
theorem jd_L_law_887 : decode jc_L_law 887 = .ok (.iadd, 1) := by decide +kernel
theorem jd_L_law_888 : decode jc_L_law 888 = .ok (.iaload, 1) := by decide +kernel
theorem jd_L_law_889 : decode jc_L_law 889 = .ok (.aload_n 3, 1) := by decide +kernel
theorem jd_L_law_890 : decode jc_L_law 890 = .ok (.invokestatic 126, 3) := by decide +kernel
theorem jd_L_law_893 : decode jc_L_law 893 = .ok (.istore 5, 2) := by decide +kernel
theorem jd_L_law_895 : decode jc_L_law 895 = .ok (.aload_n 2, 1) := by decide +kernel
theorem jd_L_law_896 : decode jc_L_law 896 = .ok (.aload_n 0, 1) := by decide +kernel
theorem jd_L_law_897 : decode jc_L_law 897 = .ok (.iload 4, 2) := by decide +kernel
theorem jd_L_law_899 : decode jc_L_law 899 = .ok (.iconst 1, 1) := by decide +kernel
theorem jd_L_law_900 : decode jc_L_law 900 = .ok (.iadd, 1) := by decide +kernel
theorem jd_L_law_901 : decode jc_L_law 901 = .ok (.iaload, 1) := by decide +kernel
theorem jd_L_law_902 : decode jc_L_law 902 = .ok (.aload_n 0, 1) := by decide +kernel
theorem jd_L_law_903 : decode jc_L_law 903 = .ok (.iload 4, 2) := by decide +kernel
theorem jd_L_law_905 : decode jc_L_law 905 = .ok (.iconst 2, 1) := by decide +kernel
theorem jd_L_law_906 : decode jc_L_law 906 = .ok (.iadd, 1) := by decide +kernel
theorem jd_L_law_907 : decode jc_L_law 907 = .ok (.iaload, 1) := by decide +kernel
theorem jd_L_law_908 : decode jc_L_law 908 = .ok (.invokevirtual 128, 3) := by decide +kernel
theorem jd_L_law_911 : decode jc_L_law 911 = .ok (.istore 6, 2) := by decide +kernel
theorem jd_L_law_913 : decode jc_L_law 913 = .ok (.aload_n 2, 1) := by decide +kernel
theorem jd_L_law_914 : decode jc_L_law 914 = .ok (.invokevirtual 84, 3) := by decide +kernel
theorem jd_L_law_917 : decode jc_L_law 917 = .ok (.iload 5, 2) := by decide +kernel
theorem jd_L_law_919 : decode jc_L_law 919 = .ok (.if_icmp .eq 5, 3) := by decide +kernel
theorem jd_L_law_922 : decode jc_L_law 922 = .ok (.iconst 0, 1) := by decide +kernel
theorem jd_L_law_923 : decode jc_L_law 923 = .ok (.ireturn, 1) := by decide +kernel
theorem jd_L_law_924 : decode jc_L_law 924 = .ok (.iload 5, 2) := by decide +kernel
theorem jd_L_law_926 : decode jc_L_law 926 = .ok (.ifCond .ne 15, 3) := by decide +kernel
theorem jd_L_law_929 : decode jc_L_law 929 = .ok (.aload_n 3, 1) := by decide +kernel
theorem jd_L_law_930 : decode jc_L_law 930 = .ok (.iconst 0, 1) := by decide +kernel
theorem jd_L_law_931 : decode jc_L_law 931 = .ok (.laload, 1) := by decide +kernel
theorem jd_L_law_932 : decode jc_L_law 932 = .ok (.iload 6, 2) := by decide +kernel
theorem jd_L_law_934 : decode jc_L_law 934 = .ok (.i2l, 1) := by decide +kernel
theorem jd_L_law_935 : decode jc_L_law 935 = .ok (.lcmp, 1) := by decide +kernel
theorem jd_L_law_936 : decode jc_L_law 936 = .ok (.ifCond .eq 5, 3) := by decide +kernel
theorem jd_L_law_939 : decode jc_L_law 939 = .ok (.iconst 0, 1) := by decide +kernel
theorem jd_L_law_940 : decode jc_L_law 940 = .ok (.ireturn, 1) := by decide +kernel
theorem jd_L_law_941 : decode jc_L_law 941 = .ok (.goto 184, 3) := by decide +kernel
theorem jd_L_law_944 : decode jc_L_law 944 = .ok (.aload_n 1, 1) := by decide +kernel
theorem jd_L_law_945 : decode jc_L_law 945 = .ok (.aload_n 0, 1) := by decide +kernel
theorem jd_L_law_946 : decode jc_L_law 946 = .ok (.iload 4, 2) := by decide +kernel
theorem jd_L_law_948 : decode jc_L_law 948 = .ok (.iconst 1, 1) := by decide +kernel
theorem jd_L_law_949 : decode jc_L_law 949 = .ok (.iadd, 1) := by decide +kernel
theorem jd_L_law_950 : decode jc_L_law 950 = .ok (.iaload, 1) := by decide +kernel
theorem jd_L_law_951 : decode jc_L_law 951 = .ok (.aload_n 3, 1) := by decide +kernel
theorem jd_L_law_952 : decode jc_L_law 952 = .ok (.invokestatic 129, 3) := by decide +kernel
theorem jd_L_law_955 : decode jc_L_law 955 = .ok (.istore 5, 2) := by decide +kernel
theorem jd_L_law_957 : decode jc_L_law 957 = .ok (.aload_n 2, 1) := by decide +kernel
theorem jd_L_law_958 : decode jc_L_law 958 = .ok (.aload_n 0, 1) := by decide +kernel
theorem jd_L_law_959 : decode jc_L_law 959 = .ok (.iload 4, 2) := by decide +kernel
theorem jd_L_law_961 : decode jc_L_law 961 = .ok (.iconst 1, 1) := by decide +kernel
theorem jd_L_law_962 : decode jc_L_law 962 = .ok (.iadd, 1) := by decide +kernel
theorem jd_L_law_963 : decode jc_L_law 963 = .ok (.iaload, 1) := by decide +kernel
theorem jd_L_law_964 : decode jc_L_law 964 = .ok (.invokevirtual 131, 3) := by decide +kernel
theorem jd_L_law_967 : decode jc_L_law 967 = .ok (.istore 6, 2) := by decide +kernel
theorem jd_L_law_969 : decode jc_L_law 969 = .ok (.aload_n 2, 1) := by decide +kernel
theorem jd_L_law_970 : decode jc_L_law 970 = .ok (.invokevirtual 84, 3) := by decide +kernel
theorem jd_L_law_973 : decode jc_L_law 973 = .ok (.iload 5, 2) := by decide +kernel
theorem jd_L_law_975 : decode jc_L_law 975 = .ok (.if_icmp .eq 5, 3) := by decide +kernel
theorem jd_L_law_978 : decode jc_L_law 978 = .ok (.iconst 0, 1) := by decide +kernel
theorem jd_L_law_979 : decode jc_L_law 979 = .ok (.ireturn, 1) := by decide +kernel
theorem jd_L_law_980 : decode jc_L_law 980 = .ok (.iload 5, 2) := by decide +kernel
theorem jd_L_law_982 : decode jc_L_law 982 = .ok (.ifCond .ne 15, 3) := by decide +kernel
theorem jd_L_law_985 : decode jc_L_law 985 = .ok (.aload_n 3, 1) := by decide +kernel
theorem jd_L_law_986 : decode jc_L_law 986 = .ok (.iconst 0, 1) := by decide +kernel
theorem jd_L_law_987 : decode jc_L_law 987 = .ok (.laload, 1) := by decide +kernel
theorem jd_L_law_988 : decode jc_L_law 988 = .ok (.iload 6, 2) := by decide +kernel
theorem jd_L_law_990 : decode jc_L_law 990 = .ok (.i2l, 1) := by decide +kernel
theorem jd_L_law_991 : decode jc_L_law 991 = .ok (.lcmp, 1) := by decide +kernel
theorem jd_L_law_992 : decode jc_L_law 992 = .ok (.ifCond .eq 5, 3) := by decide +kernel
theorem jd_L_law_995 : decode jc_L_law 995 = .ok (.iconst 0, 1) := by decide +kernel
theorem jd_L_law_996 : decode jc_L_law 996 = .ok (.ireturn, 1) := by decide +kernel
theorem jd_L_law_997 : decode jc_L_law 997 = .ok (.goto 128, 3) := by decide +kernel
theorem jd_L_law_1000 : decode jc_L_law 1000 = .ok (.aload_n 1, 1) := by decide +kernel
theorem jd_L_law_1001 : decode jc_L_law 1001 = .ok (.aload_n 0, 1) := by decide +kernel
theorem jd_L_law_1002 : decode jc_L_law 1002 = .ok (.iload 4, 2) := by decide +kernel
theorem jd_L_law_1004 : decode jc_L_law 1004 = .ok (.iconst 1, 1) := by decide +kernel
theorem jd_L_law_1005 : decode jc_L_law 1005 = .ok (.iadd, 1) := by decide +kernel
theorem jd_L_law_1006 : decode jc_L_law 1006 = .ok (.iaload, 1) := by decide +kernel
theorem jd_L_law_1007 : decode jc_L_law 1007 = .ok (.aload_n 3, 1) := by decide +kernel
theorem jd_L_law_1008 : decode jc_L_law 1008 = .ok (.invokestatic 132, 3) := by decide +kernel
theorem jd_L_law_1011 : decode jc_L_law 1011 = .ok (.istore 5, 2) := by decide +kernel
theorem jd_L_law_1013 : decode jc_L_law 1013 = .ok (.aload_n 2, 1) := by decide +kernel
theorem jd_L_law_1014 : decode jc_L_law 1014 = .ok (.aload_n 0, 1) := by decide +kernel
theorem jd_L_law_1015 : decode jc_L_law 1015 = .ok (.iload 4, 2) := by decide +kernel
theorem jd_L_law_1017 : decode jc_L_law 1017 = .ok (.iconst 1, 1) := by decide +kernel
theorem jd_L_law_1018 : decode jc_L_law 1018 = .ok (.iadd, 1) := by decide +kernel
theorem jd_L_law_1019 : decode jc_L_law 1019 = .ok (.iaload, 1) := by decide +kernel
theorem jd_L_law_1020 : decode jc_L_law 1020 = .ok (.invokevirtual 134, 3) := by decide +kernel
theorem jd_L_law_1023 : decode jc_L_law 1023 = .ok (.istore 6, 2) := by decide +kernel
theorem jd_L_law_1025 : decode jc_L_law 1025 = .ok (.aload_n 2, 1) := by decide +kernel
theorem jd_L_law_1026 : decode jc_L_law 1026 = .ok (.invokevirtual 84, 3) := by decide +kernel
theorem jd_L_law_1029 : decode jc_L_law 1029 = .ok (.iload 5, 2) := by decide +kernel
theorem jd_L_law_1031 : decode jc_L_law 1031 = .ok (.if_icmp .eq 5, 3) := by decide +kernel
theorem jd_L_law_1034 : decode jc_L_law 1034 = .ok (.iconst 0, 1) := by decide +kernel
theorem jd_L_law_1035 : decode jc_L_law 1035 = .ok (.ireturn, 1) := by decide +kernel
theorem jd_L_law_1036 : decode jc_L_law 1036 = .ok (.iload 5, 2) := by decide +kernel
theorem jd_L_law_1038 : decode jc_L_law 1038 = .ok (.ifCond .ne 15, 3) := by decide +kernel
theorem jd_L_law_1041 : decode jc_L_law 1041 = .ok (.aload_n 3, 1) := by decide +kernel
theorem jd_L_law_1042 : decode jc_L_law 1042 = .ok (.iconst 0, 1) := by decide +kernel
theorem jd_L_law_1043 : decode jc_L_law 1043 = .ok (.laload, 1) := by decide +kernel
theorem jd_L_law_1044 : decode jc_L_law 1044 = .ok (.iload 6, 2) := by decide +kernel
theorem jd_L_law_1046 : decode jc_L_law 1046 = .ok (.i2l, 1) := by decide +kernel
theorem jd_L_law_1047 : decode jc_L_law 1047 = .ok (.lcmp, 1) := by decide +kernel
theorem jd_L_law_1048 : decode jc_L_law 1048 = .ok (.ifCond .eq 5, 3) := by decide +kernel
theorem jd_L_law_1051 : decode jc_L_law 1051 = .ok (.iconst 0, 1) := by decide +kernel
theorem jd_L_law_1052 : decode jc_L_law 1052 = .ok (.ireturn, 1) := by decide +kernel
theorem jd_L_law_1053 : decode jc_L_law 1053 = .ok (.goto 72, 3) := by decide +kernel
theorem jd_L_law_1056 : decode jc_L_law 1056 = .ok (.aload_n 1, 1) := by decide +kernel
theorem jd_L_law_1057 : decode jc_L_law 1057 = .ok (.invokevirtual 135, 3) := by decide +kernel
theorem jd_L_law_1060 : decode jc_L_law 1060 = .ok (.aload_n 2, 1) := by decide +kernel
theorem jd_L_law_1061 : decode jc_L_law 1061 = .ok (.invokevirtual 138, 3) := by decide +kernel
theorem jd_L_law_1064 : decode jc_L_law 1064 = .ok (.if_icmp .eq 61, 3) := by decide +kernel
theorem jd_L_law_1067 : decode jc_L_law 1067 = .ok (.iconst 0, 1) := by decide +kernel
theorem jd_L_law_1068 : decode jc_L_law 1068 = .ok (.ireturn, 1) := by decide +kernel
theorem jd_L_law_1069 : decode jc_L_law 1069 = .ok (.aload_n 1, 1) := by decide +kernel
theorem jd_L_law_1070 : decode jc_L_law 1070 = .ok (.aload_n 0, 1) := by decide +kernel
theorem jd_L_law_1071 : decode jc_L_law 1071 = .ok (.iload 4, 2) := by decide +kernel
theorem jd_L_law_1073 : decode jc_L_law 1073 = .ok (.iconst 1, 1) := by decide +kernel
theorem jd_L_law_1074 : decode jc_L_law 1074 = .ok (.iadd, 1) := by decide +kernel
theorem jd_L_law_1075 : decode jc_L_law 1075 = .ok (.iaload, 1) := by decide +kernel
theorem jd_L_law_1076 : decode jc_L_law 1076 = .ok (.aload_n 3, 1) := by decide +kernel
theorem jd_L_law_1077 : decode jc_L_law 1077 = .ok (.invokestatic 139, 3) := by decide +kernel
theorem jd_L_law_1080 : decode jc_L_law 1080 = .ok (.istore 5, 2) := by decide +kernel
theorem jd_L_law_1082 : decode jc_L_law 1082 = .ok (.aload_n 2, 1) := by decide +kernel
theorem jd_L_law_1083 : decode jc_L_law 1083 = .ok (.aload_n 0, 1) := by decide +kernel
theorem jd_L_law_1084 : decode jc_L_law 1084 = .ok (.iload 4, 2) := by decide +kernel
theorem jd_L_law_1086 : decode jc_L_law 1086 = .ok (.iconst 1, 1) := by decide +kernel
theorem jd_L_law_1087 : decode jc_L_law 1087 = .ok (.iadd, 1) := by decide +kernel
theorem jd_L_law_1088 : decode jc_L_law 1088 = .ok (.iaload, 1) := by decide +kernel
theorem jd_L_law_1089 : decode jc_L_law 1089 = .ok (.invokevirtual 141, 3) := by decide +kernel
theorem jd_L_law_1092 : decode jc_L_law 1092 = .ok (.istore 6, 2) := by decide +kernel
theorem jd_L_law_1094 : decode jc_L_law 1094 = .ok (.aload_n 2, 1) := by decide +kernel
theorem jd_L_law_1095 : decode jc_L_law 1095 = .ok (.invokevirtual 84, 3) := by decide +kernel
theorem jd_L_law_1098 : decode jc_L_law 1098 = .ok (.iload 5, 2) := by decide +kernel
theorem jd_L_law_1100 : decode jc_L_law 1100 = .ok (.if_icmp .eq 5, 3) := by decide +kernel
theorem jd_L_law_1103 : decode jc_L_law 1103 = .ok (.iconst 0, 1) := by decide +kernel
theorem jd_L_law_1104 : decode jc_L_law 1104 = .ok (.ireturn, 1) := by decide +kernel
theorem jd_L_law_1105 : decode jc_L_law 1105 = .ok (.iload 5, 2) := by decide +kernel
theorem jd_L_law_1107 : decode jc_L_law 1107 = .ok (.ifCond .ne 15, 3) := by decide +kernel
theorem jd_L_law_1110 : decode jc_L_law 1110 = .ok (.aload_n 3, 1) := by decide +kernel
theorem jd_L_law_1111 : decode jc_L_law 1111 = .ok (.iconst 0, 1) := by decide +kernel
theorem jd_L_law_1112 : decode jc_L_law 1112 = .ok (.laload, 1) := by decide +kernel
theorem jd_L_law_1113 : decode jc_L_law 1113 = .ok (.iload 6, 2) := by decide +kernel
theorem jd_L_law_1115 : decode jc_L_law 1115 = .ok (.i2l, 1) := by decide +kernel
theorem jd_L_law_1116 : decode jc_L_law 1116 = .ok (.lcmp, 1) := by decide +kernel
theorem jd_L_law_1117 : decode jc_L_law 1117 = .ok (.ifCond .eq 5, 3) := by decide +kernel
theorem jd_L_law_1120 : decode jc_L_law 1120 = .ok (.iconst 0, 1) := by decide +kernel
theorem jd_L_law_1121 : decode jc_L_law 1121 = .ok (.ireturn, 1) := by decide +kernel
theorem jd_L_law_1122 : decode jc_L_law 1122 = .ok (.goto 3, 3) := by decide +kernel
theorem jd_L_law_1125 : decode jc_L_law 1125 = .ok (.iinc 4 4, 3) := by decide +kernel
theorem jd_L_law_1128 : decode jc_L_law 1128 = .ok (.goto (-1105), 3) := by decide +kernel
theorem jd_L_law_1131 : decode jc_L_law 1131 = .ok (.iconst 1, 1) := by decide +kernel
theorem jd_L_law_1132 : decode jc_L_law 1132 = .ok (.ireturn, 1) := by decide +kernel
