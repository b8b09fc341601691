theorem dL_law_524 : decode code 524 = .ok (.iadd, 1) := by decide +kernel
theorem dL_law_525 : decode code 525 = .ok (.iaload, 1) := by decide +kernel
theorem dL_law_526 : decode code 526 = .ok (.aload_n 0, 1) := by decide +kernel
theorem dL_law_527 : decode code 527 = .ok (.iload_n 3, 1) := by decide +kernel
theorem dL_law_528 : decode code 528 = .ok (.iconst 2, 1) := by decide +kernel
theorem dL_law_529 : decode code 529 = .ok (.iadd, 1) := by decide +kernel
theorem dL_law_530 : decode code 530 = .ok (.iaload, 1) := by decide +kernel
theorem dL_law_531 : decode code 531 = .ok (.invokevirtual 84, 3) := by decide +kernel
theorem dL_law_534 : decode code 534 = .ok (.lcmp, 1) := by decide +kernel
theorem dL_law_535 : decode code 535 = .ok (.ifCond .eq 180, 3) := by decide +kernel
theorem dL_law_538 : decode code 538 = .ok (.iconst 0, 1) := by decide +kernel
theorem dL_law_539 : decode code 539 = .ok (.ireturn, 1) := by decide +kernel
theorem dL_law_540 : decode code 540 = .ok (.aload_n 1, 1) := by decide +kernel
theorem dL_law_541 : decode code 541 = .ok (.aload_n 0, 1) := by decide +kernel
theorem dL_law_542 : decode code 542 = .ok (.iload_n 3, 1) := by decide +kernel
theorem dL_law_543 : decode code 543 = .ok (.iconst 1, 1) := by decide +kernel
theorem dL_law_544 : decode code 544 = .ok (.iadd, 1) := by decide +kernel
theorem dL_law_545 : decode code 545 = .ok (.iaload, 1) := by decide +kernel
theorem dL_law_546 : decode code 546 = .ok (.invokevirtual 85, 3) := by decide +kernel
theorem dL_law_549 : decode code 549 = .ok (.aload_n 2, 1) := by decide +kernel
theorem dL_law_550 : decode code 550 = .ok (.aload_n 0, 1) := by decide +kernel
theorem dL_law_551 : decode code 551 = .ok (.iload_n 3, 1) := by decide +kernel
theorem dL_law_552 : decode code 552 = .ok (.iconst 1, 1) := by decide +kernel
theorem dL_law_553 : decode code 553 = .ok (.iadd, 1) := by decide +kernel
theorem dL_law_554 : decode code 554 = .ok (.iaload, 1) := by decide +kernel
theorem dL_law_555 : decode code 555 = .ok (.invokevirtual 88, 3) := by decide +kernel
theorem dL_law_558 : decode code 558 = .ok (.if_icmp .eq 157, 3) := by decide +kernel
theorem dL_law_561 : decode code 561 = .ok (.iconst 0, 1) := by decide +kernel
theorem dL_law_562 : decode code 562 = .ok (.ireturn, 1) := by decide +kernel
theorem dL_law_563 : decode code 563 = .ok (.aload_n 1, 1) := by decide +kernel
theorem dL_law_564 : decode code 564 = .ok (.invokevirtual 89, 3) := by decide +kernel
theorem dL_law_567 : decode code 567 = .ok (.aload_n 2, 1) := by decide +kernel
theorem dL_law_568 : decode code 568 = .ok (.invokevirtual 92, 3) := by decide +kernel
theorem dL_law_571 : decode code 571 = .ok (.if_icmp .eq 144, 3) := by decide +kernel
theorem dL_law_574 : decode code 574 = .ok (.iconst 0, 1) := by decide +kernel
theorem dL_law_575 : decode code 575 = .ok (.ireturn, 1) := by decide +kernel
theorem dL_law_576 : decode code 576 = .ok (.aload_n 1, 1) := by decide +kernel
theorem dL_law_577 : decode code 577 = .ok (.aload_n 0, 1) := by decide +kernel
theorem dL_law_578 : decode code 578 = .ok (.iload_n 3, 1) := by decide +kernel
theorem dL_law_579 : decode code 579 = .ok (.iconst 1, 1) := by decide +kernel
theorem dL_law_580 : decode code 580 = .ok (.iadd, 1) := by decide +kernel
theorem dL_law_581 : decode code 581 = .ok (.iaload, 1) := by decide +kernel
theorem dL_law_582 : decode code 582 = .ok (.invokevirtual 93, 3) := by decide +kernel
theorem dL_law_585 : decode code 585 = .ok (.aload_n 2, 1) := by decide +kernel
theorem dL_law_586 : decode code 586 = .ok (.aload_n 0, 1) := by decide +kernel
theorem dL_law_587 : decode code 587 = .ok (.iload_n 3, 1) := by decide +kernel
theorem dL_law_588 : decode code 588 = .ok (.iconst 1, 1) := by decide +kernel
theorem dL_law_589 : decode code 589 = .ok (.iadd, 1) := by decide +kernel
theorem dL_law_590 : decode code 590 = .ok (.iaload, 1) := by decide +kernel
theorem dL_law_591 : decode code 591 = .ok (.invokevirtual 96, 3) := by decide +kernel
