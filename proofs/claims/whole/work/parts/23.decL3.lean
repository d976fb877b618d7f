theorem d_Lw_law_386 : decode code 386 = .ok (.iload_n 3, 1) := by decide +kernel
theorem d_Lw_law_387 : decode code 387 = .ok (.iconst 1, 1) := by decide +kernel
theorem d_Lw_law_388 : decode code 388 = .ok (.iadd, 1) := by decide +kernel
theorem d_Lw_law_389 : decode code 389 = .ok (.iaload, 1) := by decide +kernel
theorem d_Lw_law_390 : decode code 390 = .ok (.invokevirtual 49, 3) := by decide +kernel
theorem d_Lw_law_393 : decode code 393 = .ok (.if_icmp .eq 153, 3) := by decide +kernel
theorem d_Lw_law_396 : decode code 396 = .ok (.iconst 0, 1) := by decide +kernel
theorem d_Lw_law_397 : decode code 397 = .ok (.ireturn, 1) := by decide +kernel
theorem d_Lw_law_398 : decode code 398 = .ok (.aload_n 1, 1) := by decide +kernel
theorem d_Lw_law_399 : decode code 399 = .ok (.aload_n 0, 1) := by decide +kernel
theorem d_Lw_law_400 : decode code 400 = .ok (.iload_n 3, 1) := by decide +kernel
theorem d_Lw_law_401 : decode code 401 = .ok (.iconst 1, 1) := by decide +kernel
theorem d_Lw_law_402 : decode code 402 = .ok (.iadd, 1) := by decide +kernel
theorem d_Lw_law_403 : decode code 403 = .ok (.iaload, 1) := by decide +kernel
theorem d_Lw_law_404 : decode code 404 = .ok (.aload_n 0, 1) := by decide +kernel
theorem d_Lw_law_405 : decode code 405 = .ok (.iload_n 3, 1) := by decide +kernel
theorem d_Lw_law_406 : decode code 406 = .ok (.iconst 2, 1) := by decide +kernel
theorem d_Lw_law_407 : decode code 407 = .ok (.iadd, 1) := by decide +kernel
theorem d_Lw_law_408 : decode code 408 = .ok (.iaload, 1) := by decide +kernel
theorem d_Lw_law_409 : decode code 409 = .ok (.invokevirtual 50, 3) := by decide +kernel
theorem d_Lw_law_412 : decode code 412 = .ok (.aload_n 2, 1) := by decide +kernel
theorem d_Lw_law_413 : decode code 413 = .ok (.aload_n 0, 1) := by decide +kernel
theorem d_Lw_law_414 : decode code 414 = .ok (.iload_n 3, 1) := by decide +kernel
theorem d_Lw_law_415 : decode code 415 = .ok (.iconst 1, 1) := by decide +kernel
theorem d_Lw_law_416 : decode code 416 = .ok (.iadd, 1) := by decide +kernel
theorem d_Lw_law_417 : decode code 417 = .ok (.iaload, 1) := by decide +kernel
theorem d_Lw_law_418 : decode code 418 = .ok (.aload_n 0, 1) := by decide +kernel
theorem d_Lw_law_419 : decode code 419 = .ok (.iload_n 3, 1) := by decide +kernel
theorem d_Lw_law_420 : decode code 420 = .ok (.iconst 2, 1) := by decide +kernel
theorem d_Lw_law_421 : decode code 421 = .ok (.iadd, 1) := by decide +kernel
theorem d_Lw_law_422 : decode code 422 = .ok (.iaload, 1) := by decide +kernel
theorem d_Lw_law_423 : decode code 423 = .ok (.invokevirtual 53, 3) := by decide +kernel
theorem d_Lw_law_426 : decode code 426 = .ok (.if_icmp .eq 120, 3) := by decide +kernel
theorem d_Lw_law_429 : decode code 429 = .ok (.iconst 0, 1) := by decide +kernel
theorem d_Lw_law_430 : decode code 430 = .ok (.ireturn, 1) := by decide +kernel
theorem d_Lw_law_431 : decode code 431 = .ok (.aload_n 1, 1) := by decide +kernel
theorem d_Lw_law_432 : decode code 432 = .ok (.invokevirtual 54, 3) := by decide +kernel
theorem d_Lw_law_435 : decode code 435 = .ok (.aload_n 2, 1) := by decide +kernel
theorem d_Lw_law_436 : decode code 436 = .ok (.invokevirtual 58, 3) := by decide +kernel
theorem d_Lw_law_439 : decode code 439 = .ok (.if_icmp .eq 107, 3) := by decide +kernel
theorem d_Lw_law_442 : decode code 442 = .ok (.iconst 0, 1) := by decide +kernel
theorem d_Lw_law_443 : decode code 443 = .ok (.ireturn, 1) := by decide +kernel
theorem d_Lw_law_444 : decode code 444 = .ok (.aload_n 1, 1) := by decide +kernel
theorem d_Lw_law_445 : decode code 445 = .ok (.aload_n 0, 1) := by decide +kernel
theorem d_Lw_law_446 : decode code 446 = .ok (.iload_n 3, 1) := by decide +kernel
theorem d_Lw_law_447 : decode code 447 = .ok (.iconst 1, 1) := by decide +kernel
theorem d_Lw_law_448 : decode code 448 = .ok (.iadd, 1) := by decide +kernel
theorem d_Lw_law_449 : decode code 449 = .ok (.iaload, 1) := by decide +kernel
theorem d_Lw_law_450 : decode code 450 = .ok (.invokevirtual 59, 3) := by decide +kernel
theorem d_Lw_law_453 : decode code 453 = .ok (.aload_n 2, 1) := by decide +kernel
theorem d_Lw_law_454 : decode code 454 = .ok (.aload_n 0, 1) := by decide +kernel
theorem d_Lw_law_455 : decode code 455 = .ok (.iload_n 3, 1) := by decide +kernel
theorem d_Lw_law_456 : decode code 456 = .ok (.iconst 1, 1) := by decide +kernel
theorem d_Lw_law_457 : decode code 457 = .ok (.iadd, 1) := by decide +kernel
theorem d_Lw_law_458 : decode code 458 = .ok (.iaload, 1) := by decide +kernel
theorem d_Lw_law_459 : decode code 459 = .ok (.invokevirtual 62, 3) := by decide +kernel
theorem d_Lw_law_462 : decode code 462 = .ok (.if_icmp .eq 84, 3) := by decide +kernel
theorem d_Lw_law_465 : decode code 465 = .ok (.iconst 0, 1) := by decide +kernel
theorem d_Lw_law_466 : decode code 466 = .ok (.ireturn, 1) := by decide +kernel
theorem d_Lw_law_467 : decode code 467 = .ok (.aload_n 1, 1) := by decide +kernel
theorem d_Lw_law_468 : decode code 468 = .ok (.aload_n 0, 1) := by decide +kernel
theorem d_Lw_law_469 : decode code 469 = .ok (.iload_n 3, 1) := by decide +kernel
theorem d_Lw_law_470 : decode code 470 = .ok (.iconst 1, 1) := by decide +kernel
theorem d_Lw_law_471 : decode code 471 = .ok (.iadd, 1) := by decide +kernel
theorem d_Lw_law_472 : decode code 472 = .ok (.iaload, 1) := by decide +kernel
theorem d_Lw_law_473 : decode code 473 = .ok (.invokevirtual 63, 3) := by decide +kernel
theorem d_Lw_law_476 : decode code 476 = .ok (.aload_n 2, 1) := by decide +kernel
theorem d_Lw_law_477 : decode code 477 = .ok (.aload_n 0, 1) := by decide +kernel
theorem d_Lw_law_478 : decode code 478 = .ok (.iload_n 3, 1) := by decide +kernel
theorem d_Lw_law_479 : decode code 479 = .ok (.iconst 1, 1) := by decide +kernel
theorem d_Lw_law_480 : decode code 480 = .ok (.iadd, 1) := by decide +kernel
theorem d_Lw_law_481 : decode code 481 = .ok (.iaload, 1) := by decide +kernel
theorem d_Lw_law_482 : decode code 482 = .ok (.invokevirtual 66, 3) := by decide +kernel
theorem d_Lw_law_485 : decode code 485 = .ok (.if_icmp .eq 61, 3) := by decide +kernel
theorem d_Lw_law_488 : decode code 488 = .ok (.iconst 0, 1) := by decide +kernel
theorem d_Lw_law_489 : decode code 489 = .ok (.ireturn, 1) := by decide +kernel
theorem d_Lw_law_490 : decode code 490 = .ok (.aload_n 1, 1) := by decide +kernel
theorem d_Lw_law_491 : decode code 491 = .ok (.aload_n 0, 1) := by decide +kernel
theorem d_Lw_law_492 : decode code 492 = .ok (.iload_n 3, 1) := by decide +kernel
theorem d_Lw_law_493 : decode code 493 = .ok (.iconst 1, 1) := by decide +kernel
theorem d_Lw_law_494 : decode code 494 = .ok (.iadd, 1) := by decide +kernel
theorem d_Lw_law_495 : decode code 495 = .ok (.iaload, 1) := by decide +kernel
theorem d_Lw_law_496 : decode code 496 = .ok (.invokevirtual 67, 3) := by decide +kernel
theorem d_Lw_law_499 : decode code 499 = .ok (.aload_n 2, 1) := by decide +kernel
theorem d_Lw_law_500 : decode code 500 = .ok (.aload_n 0, 1) := by decide +kernel
theorem d_Lw_law_501 : decode code 501 = .ok (.iload_n 3, 1) := by decide +kernel
theorem d_Lw_law_502 : decode code 502 = .ok (.iconst 1, 1) := by decide +kernel
theorem d_Lw_law_503 : decode code 503 = .ok (.iadd, 1) := by decide +kernel
theorem d_Lw_law_504 : decode code 504 = .ok (.iaload, 1) := by decide +kernel
theorem d_Lw_law_505 : decode code 505 = .ok (.invokevirtual 70, 3) := by decide +kernel
theorem d_Lw_law_508 : decode code 508 = .ok (.if_icmp .eq 38, 3) := by decide +kernel
theorem d_Lw_law_511 : decode code 511 = .ok (.iconst 0, 1) := by decide +kernel
theorem d_Lw_law_512 : decode code 512 = .ok (.ireturn, 1) := by decide +kernel
theorem d_Lw_law_513 : decode code 513 = .ok (.aload_n 1, 1) := by decide +kernel
theorem d_Lw_law_514 : decode code 514 = .ok (.aload_n 0, 1) := by decide +kernel
theorem d_Lw_law_515 : decode code 515 = .ok (.iload_n 3, 1) := by decide +kernel
theorem d_Lw_law_516 : decode code 516 = .ok (.iconst 1, 1) := by decide +kernel
theorem d_Lw_law_517 : decode code 517 = .ok (.iadd, 1) := by decide +kernel
theorem d_Lw_law_518 : decode code 518 = .ok (.iaload, 1) := by decide +kernel
theorem d_Lw_law_519 : decode code 519 = .ok (.aload_n 0, 1) := by decide +kernel
theorem d_Lw_law_520 : decode code 520 = .ok (.iload_n 3, 1) := by decide +kernel
theorem d_Lw_law_521 : decode code 521 = .ok (.iconst 2, 1) := by decide +kernel
theorem d_Lw_law_522 : decode code 522 = .ok (.iadd, 1) := by decide +kernel
theorem d_Lw_law_523 : decode code 523 = .ok (.iaload, 1) := by decide +kernel
theorem d_Lw_law_524 : decode code 524 = .ok (.invokevirtual 71, 3) := by decide +kernel
theorem d_Lw_law_527 : decode code 527 = .ok (.aload_n 2, 1) := by decide +kernel
theorem d_Lw_law_528 : decode code 528 = .ok (.aload_n 0, 1) := by decide +kernel
theorem d_Lw_law_529 : decode code 529 = .ok (.iload_n 3, 1) := by decide +kernel
theorem d_Lw_law_530 : decode code 530 = .ok (.iconst 1, 1) := by decide +kernel
theorem d_Lw_law_531 : decode code 531 = .ok (.iadd, 1) := by decide +kernel
theorem d_Lw_law_532 : decode code 532 = .ok (.iaload, 1) := by decide +kernel
theorem d_Lw_law_533 : decode code 533 = .ok (.aload_n 0, 1) := by decide +kernel
theorem d_Lw_law_534 : decode code 534 = .ok (.iload_n 3, 1) := by decide +kernel
theorem d_Lw_law_535 : decode code 535 = .ok (.iconst 2, 1) := by decide +kernel
theorem d_Lw_law_536 : decode code 536 = .ok (.iadd, 1) := by decide +kernel
theorem d_Lw_law_537 : decode code 537 = .ok (.iaload, 1) := by decide +kernel
theorem d_Lw_law_538 : decode code 538 = .ok (.invokevirtual 74, 3) := by decide +kernel
theorem d_Lw_law_541 : decode code 541 = .ok (.if_icmp .eq 5, 3) := by decide +kernel
theorem d_Lw_law_544 : decode code 544 = .ok (.iconst 0, 1) := by decide +kernel
theorem d_Lw_law_545 : decode code 545 = .ok (.ireturn, 1) := by decide +kernel
theorem d_Lw_law_546 : decode code 546 = .ok (.iinc 3 6, 3) := by decide +kernel
theorem d_Lw_law_549 : decode code 549 = .ok (.goto (-531), 3) := by decide +kernel
theorem d_Lw_law_552 : decode code 552 = .ok (.iconst 1, 1) := by decide +kernel
theorem d_Lw_law_553 : decode code 553 = .ok (.ireturn, 1) := by decide +kernel
