set_option maxRecDepth 20000 in
theorem dL_law_418 : decode cL_law 418 = .ok (.invokevirtual 39, 3) := by decide +kernel
set_option maxRecDepth 20000 in
theorem dL_law_421 : decode cL_law 421 = .ok (.if_icmp .eq 1123, 3) := by decide +kernel
set_option maxRecDepth 20000 in
theorem dL_law_424 : decode cL_law 424 = .ok (.iconst 0, 1) := by decide +kernel
set_option maxRecDepth 20000 in
theorem dL_law_425 : decode cL_law 425 = .ok (.ireturn, 1) := by decide +kernel
set_option maxRecDepth 20000 in
theorem dL_law_426 : decode cL_law 426 = .ok (.aload_n 1, 1) := by decide +kernel
set_option maxRecDepth 20000 in
theorem dL_law_427 : decode cL_law 427 = .ok (.aload_n 0, 1) := by decide +kernel
set_option maxRecDepth 20000 in
theorem dL_law_428 : decode cL_law 428 = .ok (.iload_n 3, 1) := by decide +kernel
set_option maxRecDepth 20000 in
theorem dL_law_429 : decode cL_law 429 = .ok (.iconst 1, 1) := by decide +kernel
set_option maxRecDepth 20000 in
theorem dL_law_430 : decode cL_law 430 = .ok (.iadd, 1) := by decide +kernel
set_option maxRecDepth 20000 in
theorem dL_law_431 : decode cL_law 431 = .ok (.iaload, 1) := by decide +kernel
set_option maxRecDepth 20000 in
theorem dL_law_432 : decode cL_law 432 = .ok (.aload_n 0, 1) := by decide +kernel
set_option maxRecDepth 20000 in
theorem dL_law_433 : decode cL_law 433 = .ok (.iload_n 3, 1) := by decide +kernel
set_option maxRecDepth 20000 in
theorem dL_law_434 : decode cL_law 434 = .ok (.iconst 2, 1) := by decide +kernel
set_option maxRecDepth 20000 in
theorem dL_law_435 : decode cL_law 435 = .ok (.iadd, 1) := by decide +kernel
set_option maxRecDepth 20000 in
theorem dL_law_436 : decode cL_law 436 = .ok (.iaload, 1) := by decide +kernel
set_option maxRecDepth 20000 in
theorem dL_law_437 : decode cL_law 437 = .ok (.invokevirtual 40, 3) := by decide +kernel
set_option maxRecDepth 20000 in
theorem dL_law_440 : decode cL_law 440 = .ok (.aload_n 2, 1) := by decide +kernel
set_option maxRecDepth 20000 in
theorem dL_law_441 : decode cL_law 441 = .ok (.aload_n 0, 1) := by decide +kernel
set_option maxRecDepth 20000 in
theorem dL_law_442 : decode cL_law 442 = .ok (.iload_n 3, 1) := by decide +kernel
set_option maxRecDepth 20000 in
theorem dL_law_443 : decode cL_law 443 = .ok (.iconst 1, 1) := by decide +kernel
set_option maxRecDepth 20000 in
theorem dL_law_444 : decode cL_law 444 = .ok (.iadd, 1) := by decide +kernel
set_option maxRecDepth 20000 in
theorem dL_law_445 : decode cL_law 445 = .ok (.iaload, 1) := by decide +kernel
set_option maxRecDepth 20000 in
theorem dL_law_446 : decode cL_law 446 = .ok (.aload_n 0, 1) := by decide +kernel
set_option maxRecDepth 20000 in
theorem dL_law_447 : decode cL_law 447 = .ok (.iload_n 3, 1) := by decide +kernel
set_option maxRecDepth 20000 in
theorem dL_law_448 : decode cL_law 448 = .ok (.iconst 2, 1) := by decide +kernel
set_option maxRecDepth 20000 in
theorem dL_law_449 : decode cL_law 449 = .ok (.iadd, 1) := by decide +kernel
set_option maxRecDepth 20000 in
theorem dL_law_450 : decode cL_law 450 = .ok (.iaload, 1) := by decide +kernel
set_option maxRecDepth 20000 in
theorem dL_law_451 : decode cL_law 451 = .ok (.invokevirtual 43, 3) := by decide +kernel
set_option maxRecDepth 20000 in
theorem dL_law_454 : decode cL_law 454 = .ok (.if_icmp .eq 1090, 3) := by decide +kernel
set_option maxRecDepth 20000 in
theorem dL_law_457 : decode cL_law 457 = .ok (.iconst 0, 1) := by decide +kernel
set_option maxRecDepth 20000 in
theorem dL_law_458 : decode cL_law 458 = .ok (.ireturn, 1) := by decide +kernel
set_option maxRecDepth 20000 in
theorem dL_law_459 : decode cL_law 459 = .ok (.aload_n 1, 1) := by decide +kernel
set_option maxRecDepth 20000 in
theorem dL_law_460 : decode cL_law 460 = .ok (.aload_n 0, 1) := by decide +kernel
set_option maxRecDepth 20000 in
theorem dL_law_461 : decode cL_law 461 = .ok (.iload_n 3, 1) := by decide +kernel
set_option maxRecDepth 20000 in
theorem dL_law_462 : decode cL_law 462 = .ok (.iconst 1, 1) := by decide +kernel
set_option maxRecDepth 20000 in
theorem dL_law_463 : decode cL_law 463 = .ok (.iadd, 1) := by decide +kernel
set_option maxRecDepth 20000 in
theorem dL_law_464 : decode cL_law 464 = .ok (.iaload, 1) := by decide +kernel
set_option maxRecDepth 20000 in
theorem dL_law_465 : decode cL_law 465 = .ok (.aload_n 0, 1) := by decide +kernel
set_option maxRecDepth 20000 in
theorem dL_law_466 : decode cL_law 466 = .ok (.iload_n 3, 1) := by decide +kernel
set_option maxRecDepth 20000 in
theorem dL_law_467 : decode cL_law 467 = .ok (.iconst 2, 1) := by decide +kernel
set_option maxRecDepth 20000 in
theorem dL_law_468 : decode cL_law 468 = .ok (.iadd, 1) := by decide +kernel
set_option maxRecDepth 20000 in
theorem dL_law_469 : decode cL_law 469 = .ok (.iaload, 1) := by decide +kernel
set_option maxRecDepth 20000 in
theorem dL_law_470 : decode cL_law 470 = .ok (.invokevirtual 44, 3) := by decide +kernel
set_option maxRecDepth 20000 in
theorem dL_law_473 : decode cL_law 473 = .ok (.aload_n 2, 1) := by decide +kernel
set_option maxRecDepth 20000 in
theorem dL_law_474 : decode cL_law 474 = .ok (.aload_n 0, 1) := by decide +kernel
set_option maxRecDepth 20000 in
theorem dL_law_475 : decode cL_law 475 = .ok (.iload_n 3, 1) := by decide +kernel
set_option maxRecDepth 20000 in
theorem dL_law_476 : decode cL_law 476 = .ok (.iconst 1, 1) := by decide +kernel
set_option maxRecDepth 20000 in
theorem dL_law_477 : decode cL_law 477 = .ok (.iadd, 1) := by decide +kernel
set_option maxRecDepth 20000 in
theorem dL_law_478 : decode cL_law 478 = .ok (.iaload, 1) := by decide +kernel
set_option maxRecDepth 20000 in
theorem dL_law_479 : decode cL_law 479 = .ok (.aload_n 0, 1) := by decide +kernel
set_option maxRecDepth 20000 in
theorem dL_law_480 : decode cL_law 480 = .ok (.iload_n 3, 1) := by decide +kernel
set_option maxRecDepth 20000 in
theorem dL_law_481 : decode cL_law 481 = .ok (.iconst 2, 1) := by decide +kernel
set_option maxRecDepth 20000 in
theorem dL_law_482 : decode cL_law 482 = .ok (.iadd, 1) := by decide +kernel
set_option maxRecDepth 20000 in
theorem dL_law_483 : decode cL_law 483 = .ok (.iaload, 1) := by decide +kernel
set_option maxRecDepth 20000 in
theorem dL_law_484 : decode cL_law 484 = .ok (.invokevirtual 47, 3) := by decide +kernel
set_option maxRecDepth 20000 in
theorem dL_law_487 : decode cL_law 487 = .ok (.if_icmp .eq 1057, 3) := by decide +kernel
set_option maxRecDepth 20000 in
theorem dL_law_490 : decode cL_law 490 = .ok (.iconst 0, 1) := by decide +kernel
set_option maxRecDepth 20000 in
theorem dL_law_491 : decode cL_law 491 = .ok (.ireturn, 1) := by decide +kernel
set_option maxRecDepth 20000 in
theorem dL_law_492 : decode cL_law 492 = .ok (.aload_n 1, 1) := by decide +kernel
set_option maxRecDepth 20000 in
theorem dL_law_493 : decode cL_law 493 = .ok (.aload_n 0, 1) := by decide +kernel
set_option maxRecDepth 20000 in
theorem dL_law_494 : decode cL_law 494 = .ok (.iload_n 3, 1) := by decide +kernel
set_option maxRecDepth 20000 in
theorem dL_law_495 : decode cL_law 495 = .ok (.iconst 1, 1) := by decide +kernel
set_option maxRecDepth 20000 in
theorem dL_law_496 : decode cL_law 496 = .ok (.iadd, 1) := by decide +kernel
set_option maxRecDepth 20000 in
theorem dL_law_497 : decode cL_law 497 = .ok (.iaload, 1) := by decide +kernel
set_option maxRecDepth 20000 in
theorem dL_law_498 : decode cL_law 498 = .ok (.aload_n 0, 1) := by decide +kernel
set_option maxRecDepth 20000 in
theorem dL_law_499 : decode cL_law 499 = .ok (.iload_n 3, 1) := by decide +kernel
set_option maxRecDepth 20000 in
theorem dL_law_500 : decode cL_law 500 = .ok (.iconst 2, 1) := by decide +kernel
set_option maxRecDepth 20000 in
theorem dL_law_501 : decode cL_law 501 = .ok (.iadd, 1) := by decide +kernel
set_option maxRecDepth 20000 in
theorem dL_law_502 : decode cL_law 502 = .ok (.iaload, 1) := by decide +kernel
set_option maxRecDepth 20000 in
theorem dL_law_503 : decode cL_law 503 = .ok (.invokevirtual 48, 3) := by decide +kernel
set_option maxRecDepth 20000 in
theorem dL_law_506 : decode cL_law 506 = .ok (.aload_n 2, 1) := by decide +kernel
set_option maxRecDepth 20000 in
theorem dL_law_507 : decode cL_law 507 = .ok (.aload_n 0, 1) := by decide +kernel
set_option maxRecDepth 20000 in
theorem dL_law_508 : decode cL_law 508 = .ok (.iload_n 3, 1) := by decide +kernel
set_option maxRecDepth 20000 in
theorem dL_law_509 : decode cL_law 509 = .ok (.iconst 1, 1) := by decide +kernel
set_option maxRecDepth 20000 in
theorem dL_law_510 : decode cL_law 510 = .ok (.iadd, 1) := by decide +kernel
set_option maxRecDepth 20000 in
theorem dL_law_511 : decode cL_law 511 = .ok (.iaload, 1) := by decide +kernel
set_option maxRecDepth 20000 in
theorem dL_law_512 : decode cL_law 512 = .ok (.aload_n 0, 1) := by decide +kernel
set_option maxRecDepth 20000 in
theorem dL_law_513 : decode cL_law 513 = .ok (.iload_n 3, 1) := by decide +kernel
set_option maxRecDepth 20000 in
theorem dL_law_514 : decode cL_law 514 = .ok (.iconst 2, 1) := by decide +kernel
set_option maxRecDepth 20000 in
theorem dL_law_515 : decode cL_law 515 = .ok (.iadd, 1) := by decide +kernel
set_option maxRecDepth 20000 in
theorem dL_law_516 : decode cL_law 516 = .ok (.iaload, 1) := by decide +kernel
set_option maxRecDepth 20000 in
theorem dL_law_517 : decode cL_law 517 = .ok (.invokevirtual 51, 3) := by decide +kernel
set_option maxRecDepth 20000 in
theorem dL_law_520 : decode cL_law 520 = .ok (.if_icmp .eq 1024, 3) := by decide +kernel
set_option maxRecDepth 20000 in
theorem dL_law_523 : decode cL_law 523 = .ok (.iconst 0, 1) := by decide +kernel
set_option maxRecDepth 20000 in
theorem dL_law_524 : decode cL_law 524 = .ok (.ireturn, 1) := by decide +kernel
set_option maxRecDepth 20000 in
theorem dL_law_525 : decode cL_law 525 = .ok (.aload_n 1, 1) := by decide +kernel
set_option maxRecDepth 20000 in
theorem dL_law_526 : decode cL_law 526 = .ok (.aload_n 0, 1) := by decide +kernel
set_option maxRecDepth 20000 in
theorem dL_law_527 : decode cL_law 527 = .ok (.iload_n 3, 1) := by decide +kernel
set_option maxRecDepth 20000 in
theorem dL_law_528 : decode cL_law 528 = .ok (.iconst 1, 1) := by decide +kernel
set_option maxRecDepth 20000 in
theorem dL_law_529 : decode cL_law 529 = .ok (.iadd, 1) := by decide +kernel
