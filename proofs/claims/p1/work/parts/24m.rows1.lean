theorem d_Mo_init_302 : decode b_Mo_init 302 = .ok (.putfield 152, 3) := by decide +kernel
theorem d_Mo_init_305 : decode b_Mo_init 305 = .ok (.aload_n 0, 1) := by decide +kernel
theorem d_Mo_init_306 : decode b_Mo_init 306 = .ok (.sipush 4100, 3) := by decide +kernel
theorem d_Mo_init_309 : decode b_Mo_init 309 = .ok (.newarray .byte, 2) := by decide +kernel
theorem d_Mo_init_311 : decode b_Mo_init 311 = .ok (.putfield 155, 3) := by decide +kernel
theorem d_Mo_init_314 : decode b_Mo_init 314 = .ok (.aload_n 0, 1) := by decide +kernel
theorem d_Mo_init_315 : decode b_Mo_init 315 = .ok (.sipush 4100, 3) := by decide +kernel
theorem d_Mo_init_318 : decode b_Mo_init 318 = .ok (.newarray .boolean, 2) := by decide +kernel
theorem d_Mo_init_320 : decode b_Mo_init 320 = .ok (.putfield 158, 3) := by decide +kernel
theorem d_Mo_init_323 : decode b_Mo_init 323 = .ok (.aload_n 0, 1) := by decide +kernel
theorem d_Mo_init_324 : decode b_Mo_init 324 = .ok (.sipush 4100, 3) := by decide +kernel
theorem d_Mo_init_327 : decode b_Mo_init 327 = .ok (.newarray .boolean, 2) := by decide +kernel
theorem d_Mo_init_329 : decode b_Mo_init 329 = .ok (.putfield 162, 3) := by decide +kernel
theorem d_Mo_init_332 : decode b_Mo_init 332 = .ok (.aload_n 0, 1) := by decide +kernel
theorem d_Mo_init_333 : decode b_Mo_init 333 = .ok (.sipush 4100, 3) := by decide +kernel
theorem d_Mo_init_336 : decode b_Mo_init 336 = .ok (.newarray .int, 2) := by decide +kernel
theorem d_Mo_init_338 : decode b_Mo_init 338 = .ok (.putfield 165, 3) := by decide +kernel
theorem d_Mo_init_341 : decode b_Mo_init 341 = .ok (.aload_n 0, 1) := by decide +kernel
theorem d_Mo_init_342 : decode b_Mo_init 342 = .ok (.sipush 4100, 3) := by decide +kernel
theorem d_Mo_init_345 : decode b_Mo_init 345 = .ok (.newarray .int, 2) := by decide +kernel
theorem d_Mo_init_347 : decode b_Mo_init 347 = .ok (.putfield 168, 3) := by decide +kernel
theorem d_Mo_init_350 : decode b_Mo_init 350 = .ok (.aload_n 0, 1) := by decide +kernel
theorem d_Mo_init_351 : decode b_Mo_init 351 = .ok (.sipush 4100, 3) := by decide +kernel
theorem d_Mo_init_354 : decode b_Mo_init 354 = .ok (.newarray .int, 2) := by decide +kernel
theorem d_Mo_init_356 : decode b_Mo_init 356 = .ok (.putfield 171, 3) := by decide +kernel
theorem d_Mo_init_359 : decode b_Mo_init 359 = .ok (.aload_n 0, 1) := by decide +kernel
theorem d_Mo_init_360 : decode b_Mo_init 360 = .ok (.sipush 4100, 3) := by decide +kernel
theorem d_Mo_init_363 : decode b_Mo_init 363 = .ok (.newarray .int, 2) := by decide +kernel
theorem d_Mo_init_365 : decode b_Mo_init 365 = .ok (.putfield 174, 3) := by decide +kernel
theorem d_Mo_init_368 : decode b_Mo_init 368 = .ok (.aload_n 0, 1) := by decide +kernel
theorem d_Mo_init_369 : decode b_Mo_init 369 = .ok (.sipush 4100, 3) := by decide +kernel
theorem d_Mo_init_372 : decode b_Mo_init 372 = .ok (.newarray .int, 2) := by decide +kernel
theorem d_Mo_init_374 : decode b_Mo_init 374 = .ok (.putfield 177, 3) := by decide +kernel
theorem d_Mo_init_377 : decode b_Mo_init 377 = .ok (.aload_n 0, 1) := by decide +kernel
theorem d_Mo_init_378 : decode b_Mo_init 378 = .ok (.sipush 4100, 3) := by decide +kernel
theorem d_Mo_init_381 : decode b_Mo_init 381 = .ok (.newarray .int, 2) := by decide +kernel
theorem d_Mo_init_383 : decode b_Mo_init 383 = .ok (.putfield 180, 3) := by decide +kernel
theorem d_Mo_init_386 : decode b_Mo_init 386 = .ok (.aload_n 0, 1) := by decide +kernel
theorem d_Mo_init_387 : decode b_Mo_init 387 = .ok (.iconst 0, 1) := by decide +kernel
theorem d_Mo_init_388 : decode b_Mo_init 388 = .ok (.putfield 183, 3) := by decide +kernel
theorem d_Mo_init_391 : decode b_Mo_init 391 = .ok (.aload_n 0, 1) := by decide +kernel
theorem d_Mo_init_392 : decode b_Mo_init 392 = .ok (.ldc 186, 2) := by decide +kernel
theorem d_Mo_init_394 : decode b_Mo_init 394 = .ok (.newarray .byte, 2) := by decide +kernel
theorem d_Mo_init_396 : decode b_Mo_init 396 = .ok (.putfield 187, 3) := by decide +kernel
theorem d_Mo_init_399 : decode b_Mo_init 399 = .ok (.aload_n 0, 1) := by decide +kernel
theorem d_Mo_init_400 : decode b_Mo_init 400 = .ok (.sipush 1024, 3) := by decide +kernel
theorem d_Mo_init_403 : decode b_Mo_init 403 = .ok (.newarray .int, 2) := by decide +kernel
theorem d_Mo_init_405 : decode b_Mo_init 405 = .ok (.putfield 190, 3) := by decide +kernel
theorem d_Mo_init_408 : decode b_Mo_init 408 = .ok (.aload_n 0, 1) := by decide +kernel
theorem d_Mo_init_409 : decode b_Mo_init 409 = .ok (.aconst_null, 1) := by decide +kernel
theorem d_Mo_init_410 : decode b_Mo_init 410 = .ok (.putfield 193, 3) := by decide +kernel
theorem d_Mo_init_413 : decode b_Mo_init 413 = .ok (.aload_n 0, 1) := by decide +kernel
theorem d_Mo_init_414 : decode b_Mo_init 414 = .ok (.aconst_null, 1) := by decide +kernel
theorem d_Mo_init_415 : decode b_Mo_init 415 = .ok (.putfield 196, 3) := by decide +kernel
theorem d_Mo_init_418 : decode b_Mo_init 418 = .ok (.aload_n 0, 1) := by decide +kernel
theorem d_Mo_init_419 : decode b_Mo_init 419 = .ok (.aconst_null, 1) := by decide +kernel
theorem d_Mo_init_420 : decode b_Mo_init 420 = .ok (.putfield 199, 3) := by decide +kernel
theorem d_Mo_init_423 : decode b_Mo_init 423 = .ok (.aload_n 0, 1) := by decide +kernel
theorem d_Mo_init_424 : decode b_Mo_init 424 = .ok (.aconst_null, 1) := by decide +kernel
theorem d_Mo_init_425 : decode b_Mo_init 425 = .ok (.putfield 203, 3) := by decide +kernel
theorem d_Mo_init_428 : decode b_Mo_init 428 = .ok (.aload_n 0, 1) := by decide +kernel
theorem d_Mo_init_429 : decode b_Mo_init 429 = .ok (.aconst_null, 1) := by decide +kernel
theorem d_Mo_init_430 : decode b_Mo_init 430 = .ok (.putfield 206, 3) := by decide +kernel
theorem d_Mo_init_433 : decode b_Mo_init 433 = .ok (.aload_n 0, 1) := by decide +kernel
theorem d_Mo_init_434 : decode b_Mo_init 434 = .ok (.aconst_null, 1) := by decide +kernel
theorem d_Mo_init_435 : decode b_Mo_init 435 = .ok (.putfield 209, 3) := by decide +kernel
theorem d_Mo_init_438 : decode b_Mo_init 438 = .ok (.aload_n 0, 1) := by decide +kernel
theorem d_Mo_init_439 : decode b_Mo_init 439 = .ok (.new 77, 3) := by decide +kernel
theorem d_Mo_init_442 : decode b_Mo_init 442 = .ok (.dup, 1) := by decide +kernel
theorem d_Mo_init_443 : decode b_Mo_init 443 = .ok (.sipush 4100, 3) := by decide +kernel
theorem d_Mo_init_446 : decode b_Mo_init 446 = .ok (.invokespecial 79, 3) := by decide +kernel
theorem d_Mo_init_449 : decode b_Mo_init 449 = .ok (.putfield 212, 3) := by decide +kernel
theorem d_Mo_init_452 : decode b_Mo_init 452 = .ok (.aload_n 0, 1) := by decide +kernel
theorem d_Mo_init_453 : decode b_Mo_init 453 = .ok (.iconst 0, 1) := by decide +kernel
theorem d_Mo_init_454 : decode b_Mo_init 454 = .ok (.putfield 215, 3) := by decide +kernel
theorem d_Mo_init_457 : decode b_Mo_init 457 = .ok (.aload_n 0, 1) := by decide +kernel
theorem d_Mo_init_458 : decode b_Mo_init 458 = .ok (.lconst 0, 1) := by decide +kernel
theorem d_Mo_init_459 : decode b_Mo_init 459 = .ok (.putfield 218, 3) := by decide +kernel
theorem d_Mo_init_462 : decode b_Mo_init 462 = .ok (.aload_n 0, 1) := by decide +kernel
theorem d_Mo_init_463 : decode b_Mo_init 463 = .ok (.iconst 0, 1) := by decide +kernel
theorem d_Mo_init_464 : decode b_Mo_init 464 = .ok (.putfield 222, 3) := by decide +kernel
theorem d_Mo_init_467 : decode b_Mo_init 467 = .ok (.aload_n 0, 1) := by decide +kernel
theorem d_Mo_init_468 : decode b_Mo_init 468 = .ok (.lconst 0, 1) := by decide +kernel
theorem d_Mo_init_469 : decode b_Mo_init 469 = .ok (.putfield 225, 3) := by decide +kernel
theorem d_Mo_init_472 : decode b_Mo_init 472 = .ok (.aload_n 0, 1) := by decide +kernel
theorem d_Mo_init_473 : decode b_Mo_init 473 = .ok (.sipush 4100, 3) := by decide +kernel
theorem d_Mo_init_476 : decode b_Mo_init 476 = .ok (.newarray .int, 2) := by decide +kernel
theorem d_Mo_init_478 : decode b_Mo_init 478 = .ok (.putfield 228, 3) := by decide +kernel
theorem d_Mo_init_481 : decode b_Mo_init 481 = .ok (.aload_n 0, 1) := by decide +kernel
theorem d_Mo_init_482 : decode b_Mo_init 482 = .ok (.iconst 0, 1) := by decide +kernel
theorem d_Mo_init_483 : decode b_Mo_init 483 = .ok (.putfield 231, 3) := by decide +kernel
theorem d_Mo_init_486 : decode b_Mo_init 486 = .ok (.aload_n 0, 1) := by decide +kernel
theorem d_Mo_init_487 : decode b_Mo_init 487 = .ok (.new 77, 3) := by decide +kernel
theorem d_Mo_init_490 : decode b_Mo_init 490 = .ok (.dup, 1) := by decide +kernel
theorem d_Mo_init_491 : decode b_Mo_init 491 = .ok (.bipush 64, 2) := by decide +kernel
theorem d_Mo_init_493 : decode b_Mo_init 493 = .ok (.invokespecial 79, 3) := by decide +kernel
theorem d_Mo_init_496 : decode b_Mo_init 496 = .ok (.putfield 234, 3) := by decide +kernel
theorem d_Mo_init_499 : decode b_Mo_init 499 = .ok (.aload_n 0, 1) := by decide +kernel
theorem d_Mo_init_500 : decode b_Mo_init 500 = .ok (.bipush 33, 2) := by decide +kernel
theorem d_Mo_init_502 : decode b_Mo_init 502 = .ok (.anewarray 237, 3) := by decide +kernel
theorem d_Mo_init_505 : decode b_Mo_init 505 = .ok (.putfield 239, 3) := by decide +kernel
theorem d_Mo_init_508 : decode b_Mo_init 508 = .ok (.aload_n 0, 1) := by decide +kernel
theorem d_Mo_init_509 : decode b_Mo_init 509 = .ok (.aconst_null, 1) := by decide +kernel
theorem d_Mo_init_510 : decode b_Mo_init 510 = .ok (.putfield 243, 3) := by decide +kernel
theorem d_Mo_init_513 : decode b_Mo_init 513 = .ok (.aload_n 0, 1) := by decide +kernel
theorem d_Mo_init_514 : decode b_Mo_init 514 = .ok (.iconst 0, 1) := by decide +kernel
theorem d_Mo_init_515 : decode b_Mo_init 515 = .ok (.putfield 247, 3) := by decide +kernel
theorem d_Mo_init_518 : decode b_Mo_init 518 = .ok (.aload_n 0, 1) := by decide +kernel
theorem d_Mo_init_519 : decode b_Mo_init 519 = .ok (.iconst (-1), 1) := by decide +kernel
theorem d_Mo_init_520 : decode b_Mo_init 520 = .ok (.putfield 250, 3) := by decide +kernel
theorem d_Mo_init_523 : decode b_Mo_init 523 = .ok (.aload_n 0, 1) := by decide +kernel
theorem d_Mo_init_524 : decode b_Mo_init 524 = .ok (.iconst 0, 1) := by decide +kernel
theorem d_Mo_init_525 : decode b_Mo_init 525 = .ok (.putfield 253, 3) := by decide +kernel
theorem d_Mo_init_528 : decode b_Mo_init 528 = .ok (.aload_n 0, 1) := by decide +kernel
theorem d_Mo_init_529 : decode b_Mo_init 529 = .ok (.lconst 0, 1) := by decide +kernel
theorem d_Mo_init_530 : decode b_Mo_init 530 = .ok (.putfield 256, 3) := by decide +kernel
theorem d_Mo_init_533 : decode b_Mo_init 533 = .ok (.aload_n 0, 1) := by decide +kernel
theorem d_Mo_init_534 : decode b_Mo_init 534 = .ok (.new 77, 3) := by decide +kernel
theorem d_Mo_init_537 : decode b_Mo_init 537 = .ok (.dup, 1) := by decide +kernel
theorem d_Mo_init_538 : decode b_Mo_init 538 = .ok (.sipush 400, 3) := by decide +kernel
theorem d_Mo_init_541 : decode b_Mo_init 541 = .ok (.invokespecial 79, 3) := by decide +kernel
theorem d_Mo_init_544 : decode b_Mo_init 544 = .ok (.putfield 259, 3) := by decide +kernel
theorem d_Mo_init_547 : decode b_Mo_init 547 = .ok (.aload_n 0, 1) := by decide +kernel
theorem d_Mo_init_548 : decode b_Mo_init 548 = .ok (.new 77, 3) := by decide +kernel
theorem d_Mo_init_551 : decode b_Mo_init 551 = .ok (.dup, 1) := by decide +kernel
theorem d_Mo_init_552 : decode b_Mo_init 552 = .ok (.sipush 400, 3) := by decide +kernel
theorem d_Mo_init_555 : decode b_Mo_init 555 = .ok (.invokespecial 79, 3) := by decide +kernel
theorem d_Mo_init_558 : decode b_Mo_init 558 = .ok (.putfield 262, 3) := by decide +kernel
theorem d_Mo_init_561 : decode b_Mo_init 561 = .ok (.aload_n 0, 1) := by decide +kernel
theorem d_Mo_init_562 : decode b_Mo_init 562 = .ok (.new 77, 3) := by decide +kernel
theorem d_Mo_init_565 : decode b_Mo_init 565 = .ok (.dup, 1) := by decide +kernel
theorem d_Mo_init_566 : decode b_Mo_init 566 = .ok (.sipush 400, 3) := by decide +kernel
theorem d_Mo_init_569 : decode b_Mo_init 569 = .ok (.invokespecial 79, 3) := by decide +kernel
theorem d_Mo_init_572 : decode b_Mo_init 572 = .ok (.putfield 265, 3) := by decide +kernel
theorem d_Mo_init_575 : decode b_Mo_init 575 = .ok (.aload_n 0, 1) := by decide +kernel
theorem d_Mo_init_576 : decode b_Mo_init 576 = .ok (.iconst 0, 1) := by decide +kernel
theorem d_Mo_init_577 : decode b_Mo_init 577 = .ok (.putfield 268, 3) := by decide +kernel
theorem d_Mo_init_580 : decode b_Mo_init 580 = .ok (.aload_n 0, 1) := by decide +kernel
theorem d_Mo_init_581 : decode b_Mo_init 581 = .ok (.lconst 0, 1) := by decide +kernel
theorem d_Mo_init_582 : decode b_Mo_init 582 = .ok (.putfield 271, 3) := by decide +kernel
theorem d_Mo_init_585 : decode b_Mo_init 585 = .ok (.aload_n 0, 1) := by decide +kernel
theorem d_Mo_init_586 : decode b_Mo_init 586 = .ok (.bipush 64, 2) := by decide +kernel
theorem d_Mo_init_588 : decode b_Mo_init 588 = .ok (.newarray .int, 2) := by decide +kernel
theorem d_Mo_init_590 : decode b_Mo_init 590 = .ok (.putfield 274, 3) := by decide +kernel
theorem d_Mo_init_593 : decode b_Mo_init 593 = .ok (.aload_n 0, 1) := by decide +kernel
theorem d_Mo_init_594 : decode b_Mo_init 594 = .ok (.bipush 24, 2) := by decide +kernel
theorem d_Mo_init_596 : decode b_Mo_init 596 = .ok (.anewarray 277, 3) := by decide +kernel
theorem d_Mo_init_599 : decode b_Mo_init 599 = .ok (.dup, 1) := by decide +kernel
theorem d_Mo_init_600 : decode b_Mo_init 600 = .ok (.iconst 0, 1) := by decide +kernel
theorem d_Mo_init_601 : decode b_Mo_init 601 = .ok (.ldc_w 279, 3) := by decide +kernel
theorem d_Mo_init_604 : decode b_Mo_init 604 = .ok (.aastore, 1) := by decide +kernel
theorem d_Mo_init_605 : decode b_Mo_init 605 = .ok (.dup, 1) := by decide +kernel
theorem d_Mo_init_606 : decode b_Mo_init 606 = .ok (.iconst 1, 1) := by decide +kernel
theorem d_Mo_init_607 : decode b_Mo_init 607 = .ok (.ldc_w 281, 3) := by decide +kernel
theorem d_Mo_init_610 : decode b_Mo_init 610 = .ok (.aastore, 1) := by decide +kernel
theorem d_Mo_init_611 : decode b_Mo_init 611 = .ok (.dup, 1) := by decide +kernel
theorem d_Mo_init_612 : decode b_Mo_init 612 = .ok (.iconst 2, 1) := by decide +kernel
theorem d_Mo_init_613 : decode b_Mo_init 613 = .ok (.ldc_w 283, 3) := by decide +kernel
theorem d_Mo_init_616 : decode b_Mo_init 616 = .ok (.aastore, 1) := by decide +kernel
theorem d_Mo_init_617 : decode b_Mo_init 617 = .ok (.dup, 1) := by decide +kernel

