theorem d_A_law_313 : decode b_A_law 313 = .ok (.aload_n 0, 1) := by decide +kernel
theorem d_A_law_314 : decode b_A_law 314 = .ok (.iload 5, 2) := by decide +kernel
theorem d_A_law_316 : decode b_A_law 316 = .ok (.iconst 1, 1) := by decide +kernel
theorem d_A_law_317 : decode b_A_law 317 = .ok (.iadd, 1) := by decide +kernel
theorem d_A_law_318 : decode b_A_law 318 = .ok (.iaload, 1) := by decide +kernel
theorem d_A_law_319 : decode b_A_law 319 = .ok (.i2d, 1) := by decide +kernel
theorem d_A_law_320 : decode b_A_law 320 = .ok (.ldc2_w 77, 3) := by decide +kernel
theorem d_A_law_323 : decode b_A_law 323 = .ok (.dmul, 1) := by decide +kernel
theorem d_A_law_324 : decode b_A_law 324 = .ok (.aload_n 0, 1) := by decide +kernel
theorem d_A_law_325 : decode b_A_law 325 = .ok (.iload 5, 2) := by decide +kernel
theorem d_A_law_327 : decode b_A_law 327 = .ok (.iconst 2, 1) := by decide +kernel
theorem d_A_law_328 : decode b_A_law 328 = .ok (.iadd, 1) := by decide +kernel
theorem d_A_law_329 : decode b_A_law 329 = .ok (.iaload, 1) := by decide +kernel
theorem d_A_law_330 : decode b_A_law 330 = .ok (.i2d, 1) := by decide +kernel
theorem d_A_law_331 : decode b_A_law 331 = .ok (.ldc2_w 77, 3) := by decide +kernel
theorem d_A_law_334 : decode b_A_law 334 = .ok (.dmul, 1) := by decide +kernel
theorem d_A_law_335 : decode b_A_law 335 = .ok (.aload_n 0, 1) := by decide +kernel
theorem d_A_law_336 : decode b_A_law 336 = .ok (.iload 5, 2) := by decide +kernel
theorem d_A_law_338 : decode b_A_law 338 = .ok (.iconst 3, 1) := by decide +kernel
theorem d_A_law_339 : decode b_A_law 339 = .ok (.iadd, 1) := by decide +kernel
theorem d_A_law_340 : decode b_A_law 340 = .ok (.iaload, 1) := by decide +kernel
theorem d_A_law_341 : decode b_A_law 341 = .ok (.i2d, 1) := by decide +kernel
theorem d_A_law_342 : decode b_A_law 342 = .ok (.ldc2_w 77, 3) := by decide +kernel
theorem d_A_law_345 : decode b_A_law 345 = .ok (.dmul, 1) := by decide +kernel
theorem d_A_law_346 : decode b_A_law 346 = .ok (.aload_n 3, 1) := by decide +kernel
theorem d_A_law_347 : decode b_A_law 347 = .ok (.invokestatic 79, 3) := by decide +kernel
theorem d_A_law_350 : decode b_A_law 350 = .ok (.istore 6, 2) := by decide +kernel
theorem d_A_law_352 : decode b_A_law 352 = .ok (.aload_n 2, 1) := by decide +kernel
theorem d_A_law_353 : decode b_A_law 353 = .ok (.aload_n 0, 1) := by decide +kernel
theorem d_A_law_354 : decode b_A_law 354 = .ok (.iload 5, 2) := by decide +kernel
theorem d_A_law_356 : decode b_A_law 356 = .ok (.iconst 1, 1) := by decide +kernel
theorem d_A_law_357 : decode b_A_law 357 = .ok (.iadd, 1) := by decide +kernel
theorem d_A_law_358 : decode b_A_law 358 = .ok (.iaload, 1) := by decide +kernel
theorem d_A_law_359 : decode b_A_law 359 = .ok (.i2d, 1) := by decide +kernel
theorem d_A_law_360 : decode b_A_law 360 = .ok (.ldc2_w 77, 3) := by decide +kernel
theorem d_A_law_363 : decode b_A_law 363 = .ok (.dmul, 1) := by decide +kernel
theorem d_A_law_364 : decode b_A_law 364 = .ok (.aload_n 0, 1) := by decide +kernel
theorem d_A_law_365 : decode b_A_law 365 = .ok (.iload 5, 2) := by decide +kernel
theorem d_A_law_367 : decode b_A_law 367 = .ok (.iconst 2, 1) := by decide +kernel
theorem d_A_law_368 : decode b_A_law 368 = .ok (.iadd, 1) := by decide +kernel
theorem d_A_law_369 : decode b_A_law 369 = .ok (.iaload, 1) := by decide +kernel
theorem d_A_law_370 : decode b_A_law 370 = .ok (.i2d, 1) := by decide +kernel
theorem d_A_law_371 : decode b_A_law 371 = .ok (.ldc2_w 77, 3) := by decide +kernel
theorem d_A_law_374 : decode b_A_law 374 = .ok (.dmul, 1) := by decide +kernel
theorem d_A_law_375 : decode b_A_law 375 = .ok (.aload_n 0, 1) := by decide +kernel
theorem d_A_law_376 : decode b_A_law 376 = .ok (.iload 5, 2) := by decide +kernel
theorem d_A_law_378 : decode b_A_law 378 = .ok (.iconst 3, 1) := by decide +kernel
theorem d_A_law_379 : decode b_A_law 379 = .ok (.iadd, 1) := by decide +kernel
theorem d_A_law_380 : decode b_A_law 380 = .ok (.iaload, 1) := by decide +kernel
theorem d_A_law_381 : decode b_A_law 381 = .ok (.i2d, 1) := by decide +kernel
theorem d_A_law_382 : decode b_A_law 382 = .ok (.ldc2_w 77, 3) := by decide +kernel
theorem d_A_law_385 : decode b_A_law 385 = .ok (.dmul, 1) := by decide +kernel
theorem d_A_law_386 : decode b_A_law 386 = .ok (.invokevirtual 82, 3) := by decide +kernel
theorem d_A_law_389 : decode b_A_law 389 = .ok (.istore 7, 2) := by decide +kernel
theorem d_A_law_391 : decode b_A_law 391 = .ok (.aload_n 2, 1) := by decide +kernel
theorem d_A_law_392 : decode b_A_law 392 = .ok (.invokevirtual 69, 3) := by decide +kernel
theorem d_A_law_395 : decode b_A_law 395 = .ok (.iload 6, 2) := by decide +kernel
theorem d_A_law_397 : decode b_A_law 397 = .ok (.if_icmp .eq 5, 3) := by decide +kernel
theorem d_A_law_400 : decode b_A_law 400 = .ok (.iconst 0, 1) := by decide +kernel
theorem d_A_law_401 : decode b_A_law 401 = .ok (.ireturn, 1) := by decide +kernel
theorem d_A_law_402 : decode b_A_law 402 = .ok (.iload 6, 2) := by decide +kernel
theorem d_A_law_404 : decode b_A_law 404 = .ok (.ifCond .ne 15, 3) := by decide +kernel
theorem d_A_law_407 : decode b_A_law 407 = .ok (.aload_n 3, 1) := by decide +kernel
theorem d_A_law_408 : decode b_A_law 408 = .ok (.iconst 0, 1) := by decide +kernel
theorem d_A_law_409 : decode b_A_law 409 = .ok (.laload, 1) := by decide +kernel
theorem d_A_law_410 : decode b_A_law 410 = .ok (.iload 7, 2) := by decide +kernel
theorem d_A_law_412 : decode b_A_law 412 = .ok (.i2l, 1) := by decide +kernel
theorem d_A_law_413 : decode b_A_law 413 = .ok (.lcmp, 1) := by decide +kernel
theorem d_A_law_414 : decode b_A_law 414 = .ok (.ifCond .eq 5, 3) := by decide +kernel
theorem d_A_law_417 : decode b_A_law 417 = .ok (.iconst 0, 1) := by decide +kernel
theorem d_A_law_418 : decode b_A_law 418 = .ok (.ireturn, 1) := by decide +kernel
theorem d_A_law_419 : decode b_A_law 419 = .ok (.goto 657, 3) := by decide +kernel
theorem d_A_law_422 : decode b_A_law 422 = .ok (.aload_n 1, 1) := by decide +kernel
theorem d_A_law_423 : decode b_A_law 423 = .ok (.aload_n 0, 1) := by decide +kernel
theorem d_A_law_424 : decode b_A_law 424 = .ok (.iload 5, 2) := by decide +kernel
theorem d_A_law_426 : decode b_A_law 426 = .ok (.iconst 1, 1) := by decide +kernel
theorem d_A_law_427 : decode b_A_law 427 = .ok (.iadd, 1) := by decide +kernel
theorem d_A_law_428 : decode b_A_law 428 = .ok (.iaload, 1) := by decide +kernel
theorem d_A_law_429 : decode b_A_law 429 = .ok (.aload_n 3, 1) := by decide +kernel
theorem d_A_law_430 : decode b_A_law 430 = .ok (.invokestatic 83, 3) := by decide +kernel
theorem d_A_law_433 : decode b_A_law 433 = .ok (.istore 6, 2) := by decide +kernel
theorem d_A_law_435 : decode b_A_law 435 = .ok (.aload_n 2, 1) := by decide +kernel
theorem d_A_law_436 : decode b_A_law 436 = .ok (.aload_n 0, 1) := by decide +kernel
theorem d_A_law_437 : decode b_A_law 437 = .ok (.iload 5, 2) := by decide +kernel
theorem d_A_law_439 : decode b_A_law 439 = .ok (.iconst 1, 1) := by decide +kernel
theorem d_A_law_440 : decode b_A_law 440 = .ok (.iadd, 1) := by decide +kernel
theorem d_A_law_441 : decode b_A_law 441 = .ok (.iaload, 1) := by decide +kernel
theorem d_A_law_442 : decode b_A_law 442 = .ok (.invokevirtual 86, 3) := by decide +kernel
theorem d_A_law_445 : decode b_A_law 445 = .ok (.istore 7, 2) := by decide +kernel
theorem d_A_law_447 : decode b_A_law 447 = .ok (.aload_n 2, 1) := by decide +kernel
theorem d_A_law_448 : decode b_A_law 448 = .ok (.invokevirtual 69, 3) := by decide +kernel
theorem d_A_law_451 : decode b_A_law 451 = .ok (.iload 6, 2) := by decide +kernel
theorem d_A_law_453 : decode b_A_law 453 = .ok (.if_icmp .eq 5, 3) := by decide +kernel
theorem d_A_law_456 : decode b_A_law 456 = .ok (.iconst 0, 1) := by decide +kernel
theorem d_A_law_457 : decode b_A_law 457 = .ok (.ireturn, 1) := by decide +kernel
theorem d_A_law_458 : decode b_A_law 458 = .ok (.iload 6, 2) := by decide +kernel
theorem d_A_law_460 : decode b_A_law 460 = .ok (.ifCond .ne 15, 3) := by decide +kernel
theorem d_A_law_463 : decode b_A_law 463 = .ok (.aload_n 3, 1) := by decide +kernel
theorem d_A_law_464 : decode b_A_law 464 = .ok (.iconst 0, 1) := by decide +kernel
theorem d_A_law_465 : decode b_A_law 465 = .ok (.laload, 1) := by decide +kernel
theorem d_A_law_466 : decode b_A_law 466 = .ok (.iload 7, 2) := by decide +kernel
theorem d_A_law_468 : decode b_A_law 468 = .ok (.i2l, 1) := by decide +kernel
theorem d_A_law_469 : decode b_A_law 469 = .ok (.lcmp, 1) := by decide +kernel
theorem d_A_law_470 : decode b_A_law 470 = .ok (.ifCond .eq 5, 3) := by decide +kernel
theorem d_A_law_473 : decode b_A_law 473 = .ok (.iconst 0, 1) := by decide +kernel
theorem d_A_law_474 : decode b_A_law 474 = .ok (.ireturn, 1) := by decide +kernel
theorem d_A_law_475 : decode b_A_law 475 = .ok (.goto 601, 3) := by decide +kernel
theorem d_A_law_478 : decode b_A_law 478 = .ok (.aload_n 1, 1) := by decide +kernel
theorem d_A_law_479 : decode b_A_law 479 = .ok (.aload_n 0, 1) := by decide +kernel
theorem d_A_law_480 : decode b_A_law 480 = .ok (.iload 5, 2) := by decide +kernel
theorem d_A_law_482 : decode b_A_law 482 = .ok (.iconst 1, 1) := by decide +kernel
theorem d_A_law_483 : decode b_A_law 483 = .ok (.iadd, 1) := by decide +kernel
theorem d_A_law_484 : decode b_A_law 484 = .ok (.iaload, 1) := by decide +kernel
theorem d_A_law_485 : decode b_A_law 485 = .ok (.aload_n 0, 1) := by decide +kernel
theorem d_A_law_486 : decode b_A_law 486 = .ok (.iload 5, 2) := by decide +kernel
theorem d_A_law_488 : decode b_A_law 488 = .ok (.iconst 2, 1) := by decide +kernel
theorem d_A_law_489 : decode b_A_law 489 = .ok (.iadd, 1) := by decide +kernel
theorem d_A_law_490 : decode b_A_law 490 = .ok (.iaload, 1) := by decide +kernel
theorem d_A_law_491 : decode b_A_law 491 = .ok (.aload_n 0, 1) := by decide +kernel
theorem d_A_law_492 : decode b_A_law 492 = .ok (.iload 5, 2) := by decide +kernel
theorem d_A_law_494 : decode b_A_law 494 = .ok (.iconst 3, 1) := by decide +kernel
theorem d_A_law_495 : decode b_A_law 495 = .ok (.iadd, 1) := by decide +kernel
theorem d_A_law_496 : decode b_A_law 496 = .ok (.iaload, 1) := by decide +kernel
theorem d_A_law_497 : decode b_A_law 497 = .ok (.i2d, 1) := by decide +kernel
theorem d_A_law_498 : decode b_A_law 498 = .ok (.ldc2_w 77, 3) := by decide +kernel
theorem d_A_law_501 : decode b_A_law 501 = .ok (.dmul, 1) := by decide +kernel
theorem d_A_law_502 : decode b_A_law 502 = .ok (.aload 4, 2) := by decide +kernel
theorem d_A_law_504 : decode b_A_law 504 = .ok (.invokestatic 87, 3) := by decide +kernel
theorem d_A_law_507 : decode b_A_law 507 = .ok (.istore 6, 2) := by decide +kernel
theorem d_A_law_509 : decode b_A_law 509 = .ok (.aload_n 2, 1) := by decide +kernel
theorem d_A_law_510 : decode b_A_law 510 = .ok (.aload_n 0, 1) := by decide +kernel
theorem d_A_law_511 : decode b_A_law 511 = .ok (.iload 5, 2) := by decide +kernel
theorem d_A_law_513 : decode b_A_law 513 = .ok (.iconst 1, 1) := by decide +kernel
theorem d_A_law_514 : decode b_A_law 514 = .ok (.iadd, 1) := by decide +kernel
theorem d_A_law_515 : decode b_A_law 515 = .ok (.iaload, 1) := by decide +kernel
theorem d_A_law_516 : decode b_A_law 516 = .ok (.aload_n 0, 1) := by decide +kernel
theorem d_A_law_517 : decode b_A_law 517 = .ok (.iload 5, 2) := by decide +kernel
theorem d_A_law_519 : decode b_A_law 519 = .ok (.iconst 2, 1) := by decide +kernel
theorem d_A_law_520 : decode b_A_law 520 = .ok (.iadd, 1) := by decide +kernel
theorem d_A_law_521 : decode b_A_law 521 = .ok (.iaload, 1) := by decide +kernel
theorem d_A_law_522 : decode b_A_law 522 = .ok (.aload_n 0, 1) := by decide +kernel
theorem d_A_law_523 : decode b_A_law 523 = .ok (.iload 5, 2) := by decide +kernel
theorem d_A_law_525 : decode b_A_law 525 = .ok (.iconst 3, 1) := by decide +kernel
theorem d_A_law_526 : decode b_A_law 526 = .ok (.iadd, 1) := by decide +kernel
theorem d_A_law_527 : decode b_A_law 527 = .ok (.iaload, 1) := by decide +kernel
theorem d_A_law_528 : decode b_A_law 528 = .ok (.i2d, 1) := by decide +kernel
theorem d_A_law_529 : decode b_A_law 529 = .ok (.ldc2_w 77, 3) := by decide +kernel
theorem d_A_law_532 : decode b_A_law 532 = .ok (.dmul, 1) := by decide +kernel
theorem d_A_law_533 : decode b_A_law 533 = .ok (.invokevirtual 90, 3) := by decide +kernel
theorem d_A_law_536 : decode b_A_law 536 = .ok (.dstore 7, 2) := by decide +kernel
theorem d_A_law_538 : decode b_A_law 538 = .ok (.aload_n 2, 1) := by decide +kernel
theorem d_A_law_539 : decode b_A_law 539 = .ok (.invokevirtual 69, 3) := by decide +kernel
theorem d_A_law_542 : decode b_A_law 542 = .ok (.iload 6, 2) := by decide +kernel
theorem d_A_law_544 : decode b_A_law 544 = .ok (.if_icmp .eq 5, 3) := by decide +kernel
theorem d_A_law_547 : decode b_A_law 547 = .ok (.iconst 0, 1) := by decide +kernel
theorem d_A_law_548 : decode b_A_law 548 = .ok (.ireturn, 1) := by decide +kernel
theorem d_A_law_549 : decode b_A_law 549 = .ok (.iload 6, 2) := by decide +kernel
theorem d_A_law_551 : decode b_A_law 551 = .ok (.ifCond .ne 35, 3) := by decide +kernel
theorem d_A_law_554 : decode b_A_law 554 = .ok (.aload 4, 2) := by decide +kernel
theorem d_A_law_556 : decode b_A_law 556 = .ok (.iconst 0, 1) := by decide +kernel
theorem d_A_law_557 : decode b_A_law 557 = .ok (.daload, 1) := by decide +kernel
theorem d_A_law_558 : decode b_A_law 558 = .ok (.dload 7, 2) := by decide +kernel
theorem d_A_law_560 : decode b_A_law 560 = .ok (.dcmp .l, 1) := by decide +kernel
theorem d_A_law_561 : decode b_A_law 561 = .ok (.ifCond .eq 25, 3) := by decide +kernel
theorem d_A_law_564 : decode b_A_law 564 = .ok (.aload 4, 2) := by decide +kernel
theorem d_A_law_566 : decode b_A_law 566 = .ok (.iconst 0, 1) := by decide +kernel
theorem d_A_law_567 : decode b_A_law 567 = .ok (.daload, 1) := by decide +kernel
theorem d_A_law_568 : decode b_A_law 568 = .ok (.aload 4, 2) := by decide +kernel
theorem d_A_law_570 : decode b_A_law 570 = .ok (.iconst 0, 1) := by decide +kernel
theorem d_A_law_571 : decode b_A_law 571 = .ok (.daload, 1) := by decide +kernel
