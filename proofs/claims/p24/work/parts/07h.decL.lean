theorem dL_acts_462 : decode cL_acts 462 = .ok (.iconst 1, 1) := by decide +kernel
theorem dL_acts_463 : decode cL_acts 463 = .ok (.if_icmp .ne 7, 3) := by decide +kernel
theorem dL_acts_466 : decode cL_acts 466 = .ok (.iconst 1, 1) := by decide +kernel
theorem dL_acts_467 : decode cL_acts 467 = .ok (.goto 4, 3) := by decide +kernel
theorem dL_acts_470 : decode cL_acts 470 = .ok (.iconst 0, 1) := by decide +kernel
theorem dL_acts_471 : decode cL_acts 471 = .ok (.aload_n 2, 1) := by decide +kernel
theorem dL_acts_472 : decode cL_acts 472 = .ok (.iload 11, 2) := by decide +kernel
theorem dL_acts_474 : decode cL_acts 474 = .ok (.bipush 8, 2) := by decide +kernel
theorem dL_acts_476 : decode cL_acts 476 = .ok (.iadd, 1) := by decide +kernel
theorem dL_acts_477 : decode cL_acts 477 = .ok (.iaload, 1) := by decide +kernel
theorem dL_acts_478 : decode cL_acts 478 = .ok (.iconst 1, 1) := by decide +kernel
theorem dL_acts_479 : decode cL_acts 479 = .ok (.if_icmp .ne 7, 3) := by decide +kernel
theorem dL_acts_482 : decode cL_acts 482 = .ok (.iconst 1, 1) := by decide +kernel
theorem dL_acts_483 : decode cL_acts 483 = .ok (.goto 4, 3) := by decide +kernel
theorem dL_acts_486 : decode cL_acts 486 = .ok (.iconst 0, 1) := by decide +kernel
theorem dL_acts_487 : decode cL_acts 487 = .ok (.invokestatic 138, 3) := by decide +kernel
theorem dL_acts_490 : decode cL_acts 490 = .ok (.ifCond .ne 7, 3) := by decide +kernel
theorem dL_acts_493 : decode cL_acts 493 = .ok (.iconst 1, 1) := by decide +kernel
theorem dL_acts_494 : decode cL_acts 494 = .ok (.goto 4, 3) := by decide +kernel
theorem dL_acts_497 : decode cL_acts 497 = .ok (.iconst 0, 1) := by decide +kernel
theorem dL_acts_498 : decode cL_acts 498 = .ok (.istore 12, 2) := by decide +kernel
theorem dL_acts_500 : decode cL_acts 500 = .ok (.iload 12, 2) := by decide +kernel
theorem dL_acts_502 : decode cL_acts 502 = .ok (.ifCond .eq 127, 3) := by decide +kernel
theorem dL_acts_505 : decode cL_acts 505 = .ok (.aload_n 1, 1) := by decide +kernel
theorem dL_acts_506 : decode cL_acts 506 = .ok (.iload 10, 2) := by decide +kernel
theorem dL_acts_508 : decode cL_acts 508 = .ok (.aload_n 2, 1) := by decide +kernel
theorem dL_acts_509 : decode cL_acts 509 = .ok (.iload 11, 2) := by decide +kernel
theorem dL_acts_511 : decode cL_acts 511 = .ok (.iconst 4, 1) := by decide +kernel
theorem dL_acts_512 : decode cL_acts 512 = .ok (.iadd, 1) := by decide +kernel
theorem dL_acts_513 : decode cL_acts 513 = .ok (.iaload, 1) := by decide +kernel
theorem dL_acts_514 : decode cL_acts 514 = .ok (.aload_n 2, 1) := by decide +kernel
theorem dL_acts_515 : decode cL_acts 515 = .ok (.iload 11, 2) := by decide +kernel
theorem dL_acts_517 : decode cL_acts 517 = .ok (.iconst 5, 1) := by decide +kernel
theorem dL_acts_518 : decode cL_acts 518 = .ok (.iadd, 1) := by decide +kernel
theorem dL_acts_519 : decode cL_acts 519 = .ok (.iaload, 1) := by decide +kernel
theorem dL_acts_520 : decode cL_acts 520 = .ok (.aload_n 2, 1) := by decide +kernel
theorem dL_acts_521 : decode cL_acts 521 = .ok (.iload 11, 2) := by decide +kernel
theorem dL_acts_523 : decode cL_acts 523 = .ok (.bipush 6, 2) := by decide +kernel
theorem dL_acts_525 : decode cL_acts 525 = .ok (.iadd, 1) := by decide +kernel
theorem dL_acts_526 : decode cL_acts 526 = .ok (.iaload, 1) := by decide +kernel
theorem dL_acts_527 : decode cL_acts 527 = .ok (.iconst 1, 1) := by decide +kernel
theorem dL_acts_528 : decode cL_acts 528 = .ok (.if_icmp .ne 7, 3) := by decide +kernel
theorem dL_acts_531 : decode cL_acts 531 = .ok (.iconst 1, 1) := by decide +kernel
theorem dL_acts_532 : decode cL_acts 532 = .ok (.goto 4, 3) := by decide +kernel
theorem dL_acts_535 : decode cL_acts 535 = .ok (.iconst 0, 1) := by decide +kernel
theorem dL_acts_536 : decode cL_acts 536 = .ok (.aload_n 2, 1) := by decide +kernel
theorem dL_acts_537 : decode cL_acts 537 = .ok (.iload 11, 2) := by decide +kernel
theorem dL_acts_539 : decode cL_acts 539 = .ok (.bipush 7, 2) := by decide +kernel
theorem dL_acts_541 : decode cL_acts 541 = .ok (.iadd, 1) := by decide +kernel
theorem dL_acts_542 : decode cL_acts 542 = .ok (.iaload, 1) := by decide +kernel
theorem dL_acts_543 : decode cL_acts 543 = .ok (.iconst 1, 1) := by decide +kernel
theorem dL_acts_544 : decode cL_acts 544 = .ok (.if_icmp .ne 7, 3) := by decide +kernel
theorem dL_acts_547 : decode cL_acts 547 = .ok (.iconst 1, 1) := by decide +kernel
theorem dL_acts_548 : decode cL_acts 548 = .ok (.goto 4, 3) := by decide +kernel
theorem dL_acts_551 : decode cL_acts 551 = .ok (.iconst 0, 1) := by decide +kernel
theorem dL_acts_552 : decode cL_acts 552 = .ok (.aload_n 2, 1) := by decide +kernel
theorem dL_acts_553 : decode cL_acts 553 = .ok (.iload 11, 2) := by decide +kernel
theorem dL_acts_555 : decode cL_acts 555 = .ok (.bipush 8, 2) := by decide +kernel
theorem dL_acts_557 : decode cL_acts 557 = .ok (.iadd, 1) := by decide +kernel
theorem dL_acts_558 : decode cL_acts 558 = .ok (.iaload, 1) := by decide +kernel
theorem dL_acts_559 : decode cL_acts 559 = .ok (.iconst 1, 1) := by decide +kernel
theorem dL_acts_560 : decode cL_acts 560 = .ok (.if_icmp .ne 7, 3) := by decide +kernel
theorem dL_acts_563 : decode cL_acts 563 = .ok (.iconst 1, 1) := by decide +kernel
theorem dL_acts_564 : decode cL_acts 564 = .ok (.goto 4, 3) := by decide +kernel
theorem dL_acts_567 : decode cL_acts 567 = .ok (.iconst 0, 1) := by decide +kernel
theorem dL_acts_568 : decode cL_acts 568 = .ok (.invokestatic 138, 3) := by decide +kernel
theorem dL_acts_571 : decode cL_acts 571 = .ok (.ifCond .ne 58, 3) := by decide +kernel
theorem dL_acts_574 : decode cL_acts 574 = .ok (.aload_n 0, 1) := by decide +kernel
theorem dL_acts_575 : decode cL_acts 575 = .ok (.iconst (-1), 1) := by decide +kernel
theorem dL_acts_576 : decode cL_acts 576 = .ok (.bipush 11, 2) := by decide +kernel
theorem dL_acts_578 : decode cL_acts 578 = .ok (.iconst 0, 1) := by decide +kernel
theorem dL_acts_579 : decode cL_acts 579 = .ok (.iconst 1, 1) := by decide +kernel
theorem dL_acts_580 : decode cL_acts 580 = .ok (.iconst 1, 1) := by decide +kernel
theorem dL_acts_581 : decode cL_acts 581 = .ok (.iconst 1, 1) := by decide +kernel
theorem dL_acts_582 : decode cL_acts 582 = .ok (.invokestatic 138, 3) := by decide +kernel
theorem dL_acts_585 : decode cL_acts 585 = .ok (.ldc 18, 2) := by decide +kernel
theorem dL_acts_587 : decode cL_acts 587 = .ok (.if_icmp .ne 42, 3) := by decide +kernel
theorem dL_acts_590 : decode cL_acts 590 = .ok (.aload_n 0, 1) := by decide +kernel
theorem dL_acts_591 : decode cL_acts 591 = .ok (.iload 10, 2) := by decide +kernel
theorem dL_acts_593 : decode cL_acts 593 = .ok (.bipush 11, 2) := by decide +kernel
theorem dL_acts_595 : decode cL_acts 595 = .ok (.iconst 0, 1) := by decide +kernel
theorem dL_acts_596 : decode cL_acts 596 = .ok (.iconst 1, 1) := by decide +kernel
theorem dL_acts_597 : decode cL_acts 597 = .ok (.iconst 1, 1) := by decide +kernel
theorem dL_acts_598 : decode cL_acts 598 = .ok (.iconst 1, 1) := by decide +kernel
theorem dL_acts_599 : decode cL_acts 599 = .ok (.invokestatic 138, 3) := by decide +kernel
theorem dL_acts_602 : decode cL_acts 602 = .ok (.ldc 21, 2) := by decide +kernel
theorem dL_acts_604 : decode cL_acts 604 = .ok (.if_icmp .ne 25, 3) := by decide +kernel
theorem dL_acts_607 : decode cL_acts 607 = .ok (.aload_n 0, 1) := by decide +kernel
theorem dL_acts_608 : decode cL_acts 608 = .ok (.iload 10, 2) := by decide +kernel
theorem dL_acts_610 : decode cL_acts 610 = .ok (.iconst 0, 1) := by decide +kernel
theorem dL_acts_611 : decode cL_acts 611 = .ok (.sipush 1001, 3) := by decide +kernel
theorem dL_acts_614 : decode cL_acts 614 = .ok (.iconst 1, 1) := by decide +kernel
theorem dL_acts_615 : decode cL_acts 615 = .ok (.iconst 1, 1) := by decide +kernel
theorem dL_acts_616 : decode cL_acts 616 = .ok (.iconst 1, 1) := by decide +kernel
theorem dL_acts_617 : decode cL_acts 617 = .ok (.invokestatic 138, 3) := by decide +kernel
theorem dL_acts_620 : decode cL_acts 620 = .ok (.ldc 21, 2) := by decide +kernel
theorem dL_acts_622 : decode cL_acts 622 = .ok (.if_icmp .ne 7, 3) := by decide +kernel
theorem dL_acts_625 : decode cL_acts 625 = .ok (.iconst 1, 1) := by decide +kernel
theorem dL_acts_626 : decode cL_acts 626 = .ok (.goto 4, 3) := by decide +kernel
theorem dL_acts_629 : decode cL_acts 629 = .ok (.iconst 0, 1) := by decide +kernel
theorem dL_acts_630 : decode cL_acts 630 = .ok (.ireturn, 1) := by decide +kernel
theorem dL_acts_631 : decode cL_acts 631 = .ok (.iload 7, 2) := by decide +kernel
theorem dL_acts_633 : decode cL_acts 633 = .ok (.iconst 5, 1) := by decide +kernel
theorem dL_acts_634 : decode cL_acts 634 = .ok (.if_icmp .ne 73, 3) := by decide +kernel
theorem dL_acts_637 : decode cL_acts 637 = .ok (.aload_n 3, 1) := by decide +kernel
theorem dL_acts_638 : decode cL_acts 638 = .ok (.iconst 4, 1) := by decide +kernel
theorem dL_acts_639 : decode cL_acts 639 = .ok (.iload 8, 2) := by decide +kernel
theorem dL_acts_641 : decode cL_acts 641 = .ok (.imul, 1) := by decide +kernel
theorem dL_acts_642 : decode cL_acts 642 = .ok (.iaload, 1) := by decide +kernel
theorem dL_acts_643 : decode cL_acts 643 = .ok (.istore 11, 2) := by decide +kernel
theorem dL_acts_645 : decode cL_acts 645 = .ok (.aload_n 3, 1) := by decide +kernel
theorem dL_acts_646 : decode cL_acts 646 = .ok (.iconst 4, 1) := by decide +kernel
theorem dL_acts_647 : decode cL_acts 647 = .ok (.iload 8, 2) := by decide +kernel
theorem dL_acts_649 : decode cL_acts 649 = .ok (.imul, 1) := by decide +kernel
theorem dL_acts_650 : decode cL_acts 650 = .ok (.iload 10, 2) := by decide +kernel
theorem dL_acts_652 : decode cL_acts 652 = .ok (.iastore, 1) := by decide +kernel
theorem dL_acts_653 : decode cL_acts 653 = .ok (.aload_n 0, 1) := by decide +kernel
theorem dL_acts_654 : decode cL_acts 654 = .ok (.iload 8, 2) := by decide +kernel
theorem dL_acts_656 : decode cL_acts 656 = .ok (.iload 10, 2) := by decide +kernel
theorem dL_acts_658 : decode cL_acts 658 = .ok (.invokestatic 141, 3) := by decide +kernel
theorem dL_acts_661 : decode cL_acts 661 = .ok (.iload 11, 2) := by decide +kernel
theorem dL_acts_663 : decode cL_acts 663 = .ok (.if_icmp .ne 42, 3) := by decide +kernel
theorem dL_acts_666 : decode cL_acts 666 = .ok (.aload_n 1, 1) := by decide +kernel
theorem dL_acts_667 : decode cL_acts 667 = .ok (.iload 8, 2) := by decide +kernel
theorem dL_acts_669 : decode cL_acts 669 = .ok (.iload 10, 2) := by decide +kernel
theorem dL_acts_671 : decode cL_acts 671 = .ok (.invokestatic 141, 3) := by decide +kernel
theorem dL_acts_674 : decode cL_acts 674 = .ok (.iload 11, 2) := by decide +kernel
theorem dL_acts_676 : decode cL_acts 676 = .ok (.if_icmp .ne 29, 3) := by decide +kernel
theorem dL_acts_679 : decode cL_acts 679 = .ok (.aload_n 0, 1) := by decide +kernel
theorem dL_acts_680 : decode cL_acts 680 = .ok (.iconst 5, 1) := by decide +kernel
theorem dL_acts_681 : decode cL_acts 681 = .ok (.iconst 0, 1) := by decide +kernel
theorem dL_acts_682 : decode cL_acts 682 = .ok (.invokestatic 141, 3) := by decide +kernel
theorem dL_acts_685 : decode cL_acts 685 = .ok (.ldc 18, 2) := by decide +kernel
theorem dL_acts_687 : decode cL_acts 687 = .ok (.if_icmp .ne 18, 3) := by decide +kernel
theorem dL_acts_690 : decode cL_acts 690 = .ok (.aload_n 0, 1) := by decide +kernel
theorem dL_acts_691 : decode cL_acts 691 = .ok (.iconst 0, 1) := by decide +kernel
theorem dL_acts_692 : decode cL_acts 692 = .ok (.iconst 3, 1) := by decide +kernel
theorem dL_acts_693 : decode cL_acts 693 = .ok (.invokestatic 141, 3) := by decide +kernel
theorem dL_acts_696 : decode cL_acts 696 = .ok (.ldc 18, 2) := by decide +kernel
theorem dL_acts_698 : decode cL_acts 698 = .ok (.if_icmp .ne 7, 3) := by decide +kernel
