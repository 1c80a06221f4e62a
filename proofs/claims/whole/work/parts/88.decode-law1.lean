theorem d_LA_law_325 : decode code 325 = .ok (.istore 5, 2) := by decide +kernel
theorem d_LA_law_327 : decode code 327 = .ok (.aload_n 2, 1) := by decide +kernel
theorem d_LA_law_328 : decode code 328 = .ok (.aload_n 0, 1) := by decide +kernel
theorem d_LA_law_329 : decode code 329 = .ok (.iload 4, 2) := by decide +kernel
theorem d_LA_law_331 : decode code 331 = .ok (.iconst 1, 1) := by decide +kernel
theorem d_LA_law_332 : decode code 332 = .ok (.iadd, 1) := by decide +kernel
theorem d_LA_law_333 : decode code 333 = .ok (.iaload, 1) := by decide +kernel
theorem d_LA_law_334 : decode code 334 = .ok (.aload_n 0, 1) := by decide +kernel
theorem d_LA_law_335 : decode code 335 = .ok (.iload 4, 2) := by decide +kernel
theorem d_LA_law_337 : decode code 337 = .ok (.iconst 2, 1) := by decide +kernel
theorem d_LA_law_338 : decode code 338 = .ok (.iadd, 1) := by decide +kernel
theorem d_LA_law_339 : decode code 339 = .ok (.iaload, 1) := by decide +kernel
theorem d_LA_law_340 : decode code 340 = .ok (.aload_n 0, 1) := by decide +kernel
theorem d_LA_law_341 : decode code 341 = .ok (.iload 4, 2) := by decide +kernel
theorem d_LA_law_343 : decode code 343 = .ok (.iconst 3, 1) := by decide +kernel
theorem d_LA_law_344 : decode code 344 = .ok (.iadd, 1) := by decide +kernel
theorem d_LA_law_345 : decode code 345 = .ok (.iaload, 1) := by decide +kernel
theorem d_LA_law_346 : decode code 346 = .ok (.aload_n 0, 1) := by decide +kernel
theorem d_LA_law_347 : decode code 347 = .ok (.iload 4, 2) := by decide +kernel
theorem d_LA_law_349 : decode code 349 = .ok (.iconst 4, 1) := by decide +kernel
theorem d_LA_law_350 : decode code 350 = .ok (.iadd, 1) := by decide +kernel
theorem d_LA_law_351 : decode code 351 = .ok (.iaload, 1) := by decide +kernel
theorem d_LA_law_352 : decode code 352 = .ok (.invokevirtual 85, 3) := by decide +kernel
theorem d_LA_law_355 : decode code 355 = .ok (.istore 6, 2) := by decide +kernel
theorem d_LA_law_357 : decode code 357 = .ok (.aload_n 2, 1) := by decide +kernel
theorem d_LA_law_358 : decode code 358 = .ok (.invokevirtual 71, 3) := by decide +kernel
theorem d_LA_law_361 : decode code 361 = .ok (.iload 5, 2) := by decide +kernel
theorem d_LA_law_363 : decode code 363 = .ok (.if_icmp .eq 5, 3) := by decide +kernel
theorem d_LA_law_366 : decode code 366 = .ok (.iconst 0, 1) := by decide +kernel
theorem d_LA_law_367 : decode code 367 = .ok (.ireturn, 1) := by decide +kernel
theorem d_LA_law_368 : decode code 368 = .ok (.iload 5, 2) := by decide +kernel
theorem d_LA_law_370 : decode code 370 = .ok (.ifCond .ne 15, 3) := by decide +kernel
theorem d_LA_law_373 : decode code 373 = .ok (.aload_n 3, 1) := by decide +kernel
theorem d_LA_law_374 : decode code 374 = .ok (.iconst 0, 1) := by decide +kernel
theorem d_LA_law_375 : decode code 375 = .ok (.laload, 1) := by decide +kernel
theorem d_LA_law_376 : decode code 376 = .ok (.iload 6, 2) := by decide +kernel
theorem d_LA_law_378 : decode code 378 = .ok (.i2l, 1) := by decide +kernel
theorem d_LA_law_379 : decode code 379 = .ok (.lcmp, 1) := by decide +kernel
theorem d_LA_law_380 : decode code 380 = .ok (.ifCond .eq 5, 3) := by decide +kernel
theorem d_LA_law_383 : decode code 383 = .ok (.iconst 0, 1) := by decide +kernel
theorem d_LA_law_384 : decode code 384 = .ok (.ireturn, 1) := by decide +kernel
theorem d_LA_law_385 : decode code 385 = .ok (.goto 652, 3) := by decide +kernel
theorem d_LA_law_388 : decode code 388 = .ok (.aload_n 1, 1) := by decide +kernel
theorem d_LA_law_389 : decode code 389 = .ok (.aload_n 0, 1) := by decide +kernel
theorem d_LA_law_390 : decode code 390 = .ok (.iload 4, 2) := by decide +kernel
theorem d_LA_law_392 : decode code 392 = .ok (.iconst 1, 1) := by decide +kernel
theorem d_LA_law_393 : decode code 393 = .ok (.iadd, 1) := by decide +kernel
theorem d_LA_law_394 : decode code 394 = .ok (.iaload, 1) := by decide +kernel
theorem d_LA_law_395 : decode code 395 = .ok (.aload_n 3, 1) := by decide +kernel
theorem d_LA_law_396 : decode code 396 = .ok (.invokestatic 86, 3) := by decide +kernel
theorem d_LA_law_399 : decode code 399 = .ok (.istore 5, 2) := by decide +kernel
theorem d_LA_law_401 : decode code 401 = .ok (.aload_n 2, 1) := by decide +kernel
theorem d_LA_law_402 : decode code 402 = .ok (.aload_n 0, 1) := by decide +kernel
theorem d_LA_law_403 : decode code 403 = .ok (.iload 4, 2) := by decide +kernel
theorem d_LA_law_405 : decode code 405 = .ok (.iconst 1, 1) := by decide +kernel
theorem d_LA_law_406 : decode code 406 = .ok (.iadd, 1) := by decide +kernel
theorem d_LA_law_407 : decode code 407 = .ok (.iaload, 1) := by decide +kernel
theorem d_LA_law_408 : decode code 408 = .ok (.invokevirtual 89, 3) := by decide +kernel
theorem d_LA_law_411 : decode code 411 = .ok (.istore 6, 2) := by decide +kernel
theorem d_LA_law_413 : decode code 413 = .ok (.aload_n 2, 1) := by decide +kernel
theorem d_LA_law_414 : decode code 414 = .ok (.invokevirtual 71, 3) := by decide +kernel
theorem d_LA_law_417 : decode code 417 = .ok (.iload 5, 2) := by decide +kernel
theorem d_LA_law_419 : decode code 419 = .ok (.if_icmp .eq 5, 3) := by decide +kernel
theorem d_LA_law_422 : decode code 422 = .ok (.iconst 0, 1) := by decide +kernel
theorem d_LA_law_423 : decode code 423 = .ok (.ireturn, 1) := by decide +kernel
theorem d_LA_law_424 : decode code 424 = .ok (.iload 5, 2) := by decide +kernel
theorem d_LA_law_426 : decode code 426 = .ok (.ifCond .ne 15, 3) := by decide +kernel
theorem d_LA_law_429 : decode code 429 = .ok (.aload_n 3, 1) := by decide +kernel
theorem d_LA_law_430 : decode code 430 = .ok (.iconst 0, 1) := by decide +kernel
theorem d_LA_law_431 : decode code 431 = .ok (.laload, 1) := by decide +kernel
theorem d_LA_law_432 : decode code 432 = .ok (.iload 6, 2) := by decide +kernel
theorem d_LA_law_434 : decode code 434 = .ok (.i2l, 1) := by decide +kernel
theorem d_LA_law_435 : decode code 435 = .ok (.lcmp, 1) := by decide +kernel
theorem d_LA_law_436 : decode code 436 = .ok (.ifCond .eq 5, 3) := by decide +kernel
theorem d_LA_law_439 : decode code 439 = .ok (.iconst 0, 1) := by decide +kernel
theorem d_LA_law_440 : decode code 440 = .ok (.ireturn, 1) := by decide +kernel
theorem d_LA_law_441 : decode code 441 = .ok (.goto 596, 3) := by decide +kernel
theorem d_LA_law_444 : decode code 444 = .ok (.aload_n 1, 1) := by decide +kernel
theorem d_LA_law_445 : decode code 445 = .ok (.aload_n 0, 1) := by decide +kernel
theorem d_LA_law_446 : decode code 446 = .ok (.iload 4, 2) := by decide +kernel
theorem d_LA_law_448 : decode code 448 = .ok (.iconst 1, 1) := by decide +kernel
theorem d_LA_law_449 : decode code 449 = .ok (.iadd, 1) := by decide +kernel
theorem d_LA_law_450 : decode code 450 = .ok (.iaload, 1) := by decide +kernel
theorem d_LA_law_451 : decode code 451 = .ok (.aload_n 3, 1) := by decide +kernel
theorem d_LA_law_452 : decode code 452 = .ok (.invokestatic 90, 3) := by decide +kernel
theorem d_LA_law_455 : decode code 455 = .ok (.istore 5, 2) := by decide +kernel
theorem d_LA_law_457 : decode code 457 = .ok (.aload_n 2, 1) := by decide +kernel
theorem d_LA_law_458 : decode code 458 = .ok (.aload_n 0, 1) := by decide +kernel
theorem d_LA_law_459 : decode code 459 = .ok (.iload 4, 2) := by decide +kernel
theorem d_LA_law_461 : decode code 461 = .ok (.iconst 1, 1) := by decide +kernel
theorem d_LA_law_462 : decode code 462 = .ok (.iadd, 1) := by decide +kernel
theorem d_LA_law_463 : decode code 463 = .ok (.iaload, 1) := by decide +kernel
theorem d_LA_law_464 : decode code 464 = .ok (.invokevirtual 92, 3) := by decide +kernel
theorem d_LA_law_467 : decode code 467 = .ok (.istore 6, 2) := by decide +kernel
theorem d_LA_law_469 : decode code 469 = .ok (.aload_n 2, 1) := by decide +kernel
theorem d_LA_law_470 : decode code 470 = .ok (.invokevirtual 71, 3) := by decide +kernel
theorem d_LA_law_473 : decode code 473 = .ok (.iload 5, 2) := by decide +kernel
theorem d_LA_law_475 : decode code 475 = .ok (.if_icmp .eq 5, 3) := by decide +kernel
theorem d_LA_law_478 : decode code 478 = .ok (.iconst 0, 1) := by decide +kernel
theorem d_LA_law_479 : decode code 479 = .ok (.ireturn, 1) := by decide +kernel
theorem d_LA_law_480 : decode code 480 = .ok (.iload 5, 2) := by decide +kernel
theorem d_LA_law_482 : decode code 482 = .ok (.ifCond .ne 15, 3) := by decide +kernel
theorem d_LA_law_485 : decode code 485 = .ok (.aload_n 3, 1) := by decide +kernel
theorem d_LA_law_486 : decode code 486 = .ok (.iconst 0, 1) := by decide +kernel
theorem d_LA_law_487 : decode code 487 = .ok (.laload, 1) := by decide +kernel
theorem d_LA_law_488 : decode code 488 = .ok (.iload 6, 2) := by decide +kernel
theorem d_LA_law_490 : decode code 490 = .ok (.i2l, 1) := by decide +kernel
theorem d_LA_law_491 : decode code 491 = .ok (.lcmp, 1) := by decide +kernel
theorem d_LA_law_492 : decode code 492 = .ok (.ifCond .eq 5, 3) := by decide +kernel
theorem d_LA_law_495 : decode code 495 = .ok (.iconst 0, 1) := by decide +kernel
theorem d_LA_law_496 : decode code 496 = .ok (.ireturn, 1) := by decide +kernel
theorem d_LA_law_497 : decode code 497 = .ok (.goto 540, 3) := by decide +kernel
theorem d_LA_law_500 : decode code 500 = .ok (.aload_n 1, 1) := by decide +kernel
theorem d_LA_law_501 : decode code 501 = .ok (.aload_n 0, 1) := by decide +kernel
theorem d_LA_law_502 : decode code 502 = .ok (.iload 4, 2) := by decide +kernel
theorem d_LA_law_504 : decode code 504 = .ok (.iconst 1, 1) := by decide +kernel
theorem d_LA_law_505 : decode code 505 = .ok (.iadd, 1) := by decide +kernel
theorem d_LA_law_506 : decode code 506 = .ok (.iaload, 1) := by decide +kernel
theorem d_LA_law_507 : decode code 507 = .ok (.aload_n 0, 1) := by decide +kernel
theorem d_LA_law_508 : decode code 508 = .ok (.iload 4, 2) := by decide +kernel
theorem d_LA_law_510 : decode code 510 = .ok (.iconst 2, 1) := by decide +kernel
theorem d_LA_law_511 : decode code 511 = .ok (.iadd, 1) := by decide +kernel
theorem d_LA_law_512 : decode code 512 = .ok (.iaload, 1) := by decide +kernel
theorem d_LA_law_513 : decode code 513 = .ok (.aload_n 0, 1) := by decide +kernel
theorem d_LA_law_514 : decode code 514 = .ok (.iload 4, 2) := by decide +kernel
theorem d_LA_law_516 : decode code 516 = .ok (.iconst 3, 1) := by decide +kernel
theorem d_LA_law_517 : decode code 517 = .ok (.iadd, 1) := by decide +kernel
theorem d_LA_law_518 : decode code 518 = .ok (.iaload, 1) := by decide +kernel
theorem d_LA_law_519 : decode code 519 = .ok (.aload_n 3, 1) := by decide +kernel
theorem d_LA_law_520 : decode code 520 = .ok (.invokestatic 93, 3) := by decide +kernel
theorem d_LA_law_523 : decode code 523 = .ok (.istore 5, 2) := by decide +kernel
theorem d_LA_law_525 : decode code 525 = .ok (.aload_n 2, 1) := by decide +kernel
theorem d_LA_law_526 : decode code 526 = .ok (.aload_n 0, 1) := by decide +kernel
theorem d_LA_law_527 : decode code 527 = .ok (.iload 4, 2) := by decide +kernel
theorem d_LA_law_529 : decode code 529 = .ok (.iconst 1, 1) := by decide +kernel
theorem d_LA_law_530 : decode code 530 = .ok (.iadd, 1) := by decide +kernel
theorem d_LA_law_531 : decode code 531 = .ok (.iaload, 1) := by decide +kernel
theorem d_LA_law_532 : decode code 532 = .ok (.aload_n 0, 1) := by decide +kernel
theorem d_LA_law_533 : decode code 533 = .ok (.iload 4, 2) := by decide +kernel
theorem d_LA_law_535 : decode code 535 = .ok (.iconst 2, 1) := by decide +kernel
theorem d_LA_law_536 : decode code 536 = .ok (.iadd, 1) := by decide +kernel
theorem d_LA_law_537 : decode code 537 = .ok (.iaload, 1) := by decide +kernel
theorem d_LA_law_538 : decode code 538 = .ok (.aload_n 0, 1) := by decide +kernel
theorem d_LA_law_539 : decode code 539 = .ok (.iload 4, 2) := by decide +kernel
theorem d_LA_law_541 : decode code 541 = .ok (.iconst 3, 1) := by decide +kernel
theorem d_LA_law_542 : decode code 542 = .ok (.iadd, 1) := by decide +kernel
theorem d_LA_law_543 : decode code 543 = .ok (.iaload, 1) := by decide +kernel
theorem d_LA_law_544 : decode code 544 = .ok (.invokevirtual 95, 3) := by decide +kernel
theorem d_LA_law_547 : decode code 547 = .ok (.istore 6, 2) := by decide +kernel
theorem d_LA_law_549 : decode code 549 = .ok (.aload_n 2, 1) := by decide +kernel
theorem d_LA_law_550 : decode code 550 = .ok (.invokevirtual 71, 3) := by decide +kernel
theorem d_LA_law_553 : decode code 553 = .ok (.iload 5, 2) := by decide +kernel
theorem d_LA_law_555 : decode code 555 = .ok (.if_icmp .eq 5, 3) := by decide +kernel
theorem d_LA_law_558 : decode code 558 = .ok (.iconst 0, 1) := by decide +kernel
theorem d_LA_law_559 : decode code 559 = .ok (.ireturn, 1) := by decide +kernel
theorem d_LA_law_560 : decode code 560 = .ok (.iload 5, 2) := by decide +kernel
theorem d_LA_law_562 : decode code 562 = .ok (.ifCond .ne 15, 3) := by decide +kernel
theorem d_LA_law_565 : decode code 565 = .ok (.aload_n 3, 1) := by decide +kernel
theorem d_LA_law_566 : decode code 566 = .ok (.iconst 0, 1) := by decide +kernel
theorem d_LA_law_567 : decode code 567 = .ok (.laload, 1) := by decide +kernel
theorem d_LA_law_568 : decode code 568 = .ok (.iload 6, 2) := by decide +kernel
theorem d_LA_law_570 : decode code 570 = .ok (.i2l, 1) := by decide +kernel
theorem d_LA_law_571 : decode code 571 = .ok (.lcmp, 1) := by decide +kernel
theorem d_LA_law_572 : decode code 572 = .ok (.ifCond .eq 5, 3) := by decide +kernel
theorem d_LA_law_575 : decode code 575 = .ok (.iconst 0, 1) := by decide +kernel
theorem d_LA_law_576 : decode code 576 = .ok (.ireturn, 1) := by decide +kernel
theorem d_LA_law_577 : decode code 577 = .ok (.goto 460, 3) := by decide +kernel
theorem d_LA_law_580 : decode code 580 = .ok (.aload_n 1, 1) := by decide +kernel
theorem d_LA_law_581 : decode code 581 = .ok (.aload_n 0, 1) := by decide +kernel
theorem d_LA_law_582 : decode code 582 = .ok (.iload 4, 2) := by decide +kernel
