theorem dL_law_452 : decode code 452 = .ok (.if_icmp .eq 263, 3) := by decide +kernel
theorem dL_law_455 : decode code 455 = .ok (.iconst 0, 1) := by decide +kernel
theorem dL_law_456 : decode code 456 = .ok (.ireturn, 1) := by decide +kernel
theorem dL_law_457 : decode code 457 = .ok (.aload_n 1, 1) := by decide +kernel
theorem dL_law_458 : decode code 458 = .ok (.invokevirtual 68, 3) := by decide +kernel
theorem dL_law_461 : decode code 461 = .ok (.aload_n 2, 1) := by decide +kernel
theorem dL_law_462 : decode code 462 = .ok (.invokevirtual 71, 3) := by decide +kernel
theorem dL_law_465 : decode code 465 = .ok (.if_icmp .eq 250, 3) := by decide +kernel
theorem dL_law_468 : decode code 468 = .ok (.iconst 0, 1) := by decide +kernel
theorem dL_law_469 : decode code 469 = .ok (.ireturn, 1) := by decide +kernel
theorem dL_law_470 : decode code 470 = .ok (.aload_n 1, 1) := by decide +kernel
theorem dL_law_471 : decode code 471 = .ok (.aload_n 0, 1) := by decide +kernel
theorem dL_law_472 : decode code 472 = .ok (.iload_n 3, 1) := by decide +kernel
theorem dL_law_473 : decode code 473 = .ok (.iconst 1, 1) := by decide +kernel
theorem dL_law_474 : decode code 474 = .ok (.iadd, 1) := by decide +kernel
theorem dL_law_475 : decode code 475 = .ok (.iaload, 1) := by decide +kernel
theorem dL_law_476 : decode code 476 = .ok (.invokevirtual 72, 3) := by decide +kernel
theorem dL_law_479 : decode code 479 = .ok (.aload_n 2, 1) := by decide +kernel
theorem dL_law_480 : decode code 480 = .ok (.aload_n 0, 1) := by decide +kernel
theorem dL_law_481 : decode code 481 = .ok (.iload_n 3, 1) := by decide +kernel
theorem dL_law_482 : decode code 482 = .ok (.iconst 1, 1) := by decide +kernel
theorem dL_law_483 : decode code 483 = .ok (.iadd, 1) := by decide +kernel
theorem dL_law_484 : decode code 484 = .ok (.iaload, 1) := by decide +kernel
theorem dL_law_485 : decode code 485 = .ok (.invokevirtual 75, 3) := by decide +kernel
theorem dL_law_488 : decode code 488 = .ok (.if_icmp .eq 227, 3) := by decide +kernel
theorem dL_law_491 : decode code 491 = .ok (.iconst 0, 1) := by decide +kernel
theorem dL_law_492 : decode code 492 = .ok (.ireturn, 1) := by decide +kernel
theorem dL_law_493 : decode code 493 = .ok (.aload_n 1, 1) := by decide +kernel
theorem dL_law_494 : decode code 494 = .ok (.invokevirtual 76, 3) := by decide +kernel
theorem dL_law_497 : decode code 497 = .ok (.aload_n 2, 1) := by decide +kernel
theorem dL_law_498 : decode code 498 = .ok (.invokevirtual 79, 3) := by decide +kernel
theorem dL_law_501 : decode code 501 = .ok (.if_icmp .eq 214, 3) := by decide +kernel
theorem dL_law_504 : decode code 504 = .ok (.iconst 0, 1) := by decide +kernel
theorem dL_law_505 : decode code 505 = .ok (.ireturn, 1) := by decide +kernel
theorem dL_law_506 : decode code 506 = .ok (.aload_n 1, 1) := by decide +kernel
theorem dL_law_507 : decode code 507 = .ok (.aload_n 0, 1) := by decide +kernel
theorem dL_law_508 : decode code 508 = .ok (.iload_n 3, 1) := by decide +kernel
theorem dL_law_509 : decode code 509 = .ok (.iconst 1, 1) := by decide +kernel
theorem dL_law_510 : decode code 510 = .ok (.iadd, 1) := by decide +kernel
theorem dL_law_511 : decode code 511 = .ok (.iaload, 1) := by decide +kernel
theorem dL_law_512 : decode code 512 = .ok (.aload_n 0, 1) := by decide +kernel
theorem dL_law_513 : decode code 513 = .ok (.iload_n 3, 1) := by decide +kernel
theorem dL_law_514 : decode code 514 = .ok (.iconst 2, 1) := by decide +kernel
theorem dL_law_515 : decode code 515 = .ok (.iadd, 1) := by decide +kernel
theorem dL_law_516 : decode code 516 = .ok (.iaload, 1) := by decide +kernel
theorem dL_law_517 : decode code 517 = .ok (.invokevirtual 80, 3) := by decide +kernel
theorem dL_law_520 : decode code 520 = .ok (.aload_n 2, 1) := by decide +kernel
theorem dL_law_521 : decode code 521 = .ok (.aload_n 0, 1) := by decide +kernel
theorem dL_law_522 : decode code 522 = .ok (.iload_n 3, 1) := by decide +kernel
theorem dL_law_523 : decode code 523 = .ok (.iconst 1, 1) := by decide +kernel
