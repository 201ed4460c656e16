/-! The law's instructions, 2. -/
theorem dl_500 : decode code 500 = .ok (.laload, 1) := by decide +kernel
theorem dl_501 : decode code 501 = .ok (.iload 6, 2) := by decide +kernel
theorem dl_503 : decode code 503 = .ok (.i2l, 1) := by decide +kernel
theorem dl_504 : decode code 504 = .ok (.lcmp, 1) := by decide +kernel
theorem dl_505 : decode code 505 = .ok (.ifCond .eq 5, 3) := by decide +kernel
theorem dl_508 : decode code 508 = .ok (.iconst 0, 1) := by decide +kernel
theorem dl_509 : decode code 509 = .ok (.ireturn, 1) := by decide +kernel
theorem dl_510 : decode code 510 = .ok (.goto 196, 3) := by decide +kernel
theorem dl_513 : decode code 513 = .ok (.aload_n 1, 1) := by decide +kernel
theorem dl_514 : decode code 514 = .ok (.aload_n 0, 1) := by decide +kernel
theorem dl_515 : decode code 515 = .ok (.iload 4, 2) := by decide +kernel
theorem dl_517 : decode code 517 = .ok (.iconst 1, 1) := by decide +kernel
theorem dl_518 : decode code 518 = .ok (.iadd, 1) := by decide +kernel
theorem dl_519 : decode code 519 = .ok (.iaload, 1) := by decide +kernel
theorem dl_520 : decode code 520 = .ok (.aload_n 3, 1) := by decide +kernel
theorem dl_521 : decode code 521 = .ok (.invokestatic 77, 3) := by decide +kernel
theorem dl_524 : decode code 524 = .ok (.istore 5, 2) := by decide +kernel
theorem dl_526 : decode code 526 = .ok (.aload_n 2, 1) := by decide +kernel
theorem dl_527 : decode code 527 = .ok (.aload_n 0, 1) := by decide +kernel
theorem dl_528 : decode code 528 = .ok (.iload 4, 2) := by decide +kernel
theorem dl_530 : decode code 530 = .ok (.iconst 1, 1) := by decide +kernel
theorem dl_531 : decode code 531 = .ok (.iadd, 1) := by decide +kernel
theorem dl_532 : decode code 532 = .ok (.iaload, 1) := by decide +kernel
theorem dl_533 : decode code 533 = .ok (.invokevirtual 79, 3) := by decide +kernel
theorem dl_536 : decode code 536 = .ok (.istore 6, 2) := by decide +kernel
theorem dl_538 : decode code 538 = .ok (.aload_n 2, 1) := by decide +kernel
theorem dl_539 : decode code 539 = .ok (.invokevirtual 51, 3) := by decide +kernel
theorem dl_542 : decode code 542 = .ok (.iload 5, 2) := by decide +kernel
theorem dl_544 : decode code 544 = .ok (.if_icmp .eq 5, 3) := by decide +kernel
theorem dl_547 : decode code 547 = .ok (.iconst 0, 1) := by decide +kernel
theorem dl_548 : decode code 548 = .ok (.ireturn, 1) := by decide +kernel
theorem dl_549 : decode code 549 = .ok (.iload 5, 2) := by decide +kernel
theorem dl_551 : decode code 551 = .ok (.ifCond .ne 15, 3) := by decide +kernel
theorem dl_554 : decode code 554 = .ok (.aload_n 3, 1) := by decide +kernel
theorem dl_555 : decode code 555 = .ok (.iconst 0, 1) := by decide +kernel
theorem dl_556 : decode code 556 = .ok (.laload, 1) := by decide +kernel
theorem dl_557 : decode code 557 = .ok (.iload 6, 2) := by decide +kernel
theorem dl_559 : decode code 559 = .ok (.i2l, 1) := by decide +kernel
theorem dl_560 : decode code 560 = .ok (.lcmp, 1) := by decide +kernel
theorem dl_561 : decode code 561 = .ok (.ifCond .eq 5, 3) := by decide +kernel
theorem dl_564 : decode code 564 = .ok (.iconst 0, 1) := by decide +kernel
theorem dl_565 : decode code 565 = .ok (.ireturn, 1) := by decide +kernel
theorem dl_566 : decode code 566 = .ok (.goto 140, 3) := by decide +kernel
theorem dl_569 : decode code 569 = .ok (.aload_n 1, 1) := by decide +kernel
theorem dl_570 : decode code 570 = .ok (.aload_n 0, 1) := by decide +kernel
theorem dl_571 : decode code 571 = .ok (.iload 4, 2) := by decide +kernel
theorem dl_573 : decode code 573 = .ok (.iconst 1, 1) := by decide +kernel
theorem dl_574 : decode code 574 = .ok (.iadd, 1) := by decide +kernel
theorem dl_575 : decode code 575 = .ok (.iaload, 1) := by decide +kernel
theorem dl_576 : decode code 576 = .ok (.invokevirtual 80, 3) := by decide +kernel
theorem dl_579 : decode code 579 = .ok (.aload_n 2, 1) := by decide +kernel
theorem dl_580 : decode code 580 = .ok (.aload_n 0, 1) := by decide +kernel
theorem dl_581 : decode code 581 = .ok (.iload 4, 2) := by decide +kernel
theorem dl_583 : decode code 583 = .ok (.iconst 1, 1) := by decide +kernel
theorem dl_584 : decode code 584 = .ok (.iadd, 1) := by decide +kernel
theorem dl_585 : decode code 585 = .ok (.iaload, 1) := by decide +kernel
theorem dl_586 : decode code 586 = .ok (.invokevirtual 83, 3) := by decide +kernel
theorem dl_589 : decode code 589 = .ok (.if_icmp .eq 117, 3) := by decide +kernel
theorem dl_592 : decode code 592 = .ok (.iconst 0, 1) := by decide +kernel
theorem dl_593 : decode code 593 = .ok (.ireturn, 1) := by decide +kernel
theorem dl_594 : decode code 594 = .ok (.aload_n 1, 1) := by decide +kernel
theorem dl_595 : decode code 595 = .ok (.aload_n 0, 1) := by decide +kernel
theorem dl_596 : decode code 596 = .ok (.iload 4, 2) := by decide +kernel
theorem dl_598 : decode code 598 = .ok (.iconst 1, 1) := by decide +kernel
theorem dl_599 : decode code 599 = .ok (.iadd, 1) := by decide +kernel
theorem dl_600 : decode code 600 = .ok (.iaload, 1) := by decide +kernel
theorem dl_601 : decode code 601 = .ok (.invokevirtual 84, 3) := by decide +kernel
theorem dl_604 : decode code 604 = .ok (.aload_n 2, 1) := by decide +kernel
theorem dl_605 : decode code 605 = .ok (.aload_n 0, 1) := by decide +kernel
theorem dl_606 : decode code 606 = .ok (.iload 4, 2) := by decide +kernel
theorem dl_608 : decode code 608 = .ok (.iconst 1, 1) := by decide +kernel
theorem dl_609 : decode code 609 = .ok (.iadd, 1) := by decide +kernel
theorem dl_610 : decode code 610 = .ok (.iaload, 1) := by decide +kernel
theorem dl_611 : decode code 611 = .ok (.invokevirtual 87, 3) := by decide +kernel
theorem dl_614 : decode code 614 = .ok (.if_icmp .eq 92, 3) := by decide +kernel
theorem dl_617 : decode code 617 = .ok (.iconst 0, 1) := by decide +kernel
theorem dl_618 : decode code 618 = .ok (.ireturn, 1) := by decide +kernel
theorem dl_619 : decode code 619 = .ok (.aload_n 1, 1) := by decide +kernel
theorem dl_620 : decode code 620 = .ok (.aload_n 0, 1) := by decide +kernel
theorem dl_621 : decode code 621 = .ok (.iload 4, 2) := by decide +kernel
theorem dl_623 : decode code 623 = .ok (.iconst 1, 1) := by decide +kernel
theorem dl_624 : decode code 624 = .ok (.iadd, 1) := by decide +kernel
theorem dl_625 : decode code 625 = .ok (.iaload, 1) := by decide +kernel
theorem dl_626 : decode code 626 = .ok (.invokevirtual 88, 3) := by decide +kernel
theorem dl_629 : decode code 629 = .ok (.aload_n 2, 1) := by decide +kernel
theorem dl_630 : decode code 630 = .ok (.aload_n 0, 1) := by decide +kernel
theorem dl_631 : decode code 631 = .ok (.iload 4, 2) := by decide +kernel
theorem dl_633 : decode code 633 = .ok (.iconst 1, 1) := by decide +kernel
theorem dl_634 : decode code 634 = .ok (.iadd, 1) := by decide +kernel
theorem dl_635 : decode code 635 = .ok (.iaload, 1) := by decide +kernel
theorem dl_636 : decode code 636 = .ok (.invokevirtual 91, 3) := by decide +kernel
theorem dl_639 : decode code 639 = .ok (.if_icmp .eq 67, 3) := by decide +kernel
theorem dl_642 : decode code 642 = .ok (.iconst 0, 1) := by decide +kernel
theorem dl_643 : decode code 643 = .ok (.ireturn, 1) := by decide +kernel
theorem dl_644 : decode code 644 = .ok (.aload_n 1, 1) := by decide +kernel
theorem dl_645 : decode code 645 = .ok (.aload_n 0, 1) := by decide +kernel
theorem dl_646 : decode code 646 = .ok (.iload 4, 2) := by decide +kernel
theorem dl_648 : decode code 648 = .ok (.iconst 1, 1) := by decide +kernel
theorem dl_649 : decode code 649 = .ok (.iadd, 1) := by decide +kernel
theorem dl_650 : decode code 650 = .ok (.iaload, 1) := by decide +kernel
theorem dl_651 : decode code 651 = .ok (.invokevirtual 92, 3) := by decide +kernel
theorem dl_654 : decode code 654 = .ok (.aload_n 2, 1) := by decide +kernel
theorem dl_655 : decode code 655 = .ok (.aload_n 0, 1) := by decide +kernel
theorem dl_656 : decode code 656 = .ok (.iload 4, 2) := by decide +kernel
theorem dl_658 : decode code 658 = .ok (.iconst 1, 1) := by decide +kernel
theorem dl_659 : decode code 659 = .ok (.iadd, 1) := by decide +kernel
theorem dl_660 : decode code 660 = .ok (.iaload, 1) := by decide +kernel
theorem dl_661 : decode code 661 = .ok (.invokevirtual 95, 3) := by decide +kernel
theorem dl_664 : decode code 664 = .ok (.if_icmp .eq 42, 3) := by decide +kernel
theorem dl_667 : decode code 667 = .ok (.iconst 0, 1) := by decide +kernel
theorem dl_668 : decode code 668 = .ok (.ireturn, 1) := by decide +kernel
theorem dl_669 : decode code 669 = .ok (.aload_n 1, 1) := by decide +kernel
theorem dl_670 : decode code 670 = .ok (.aload_n 0, 1) := by decide +kernel
theorem dl_671 : decode code 671 = .ok (.iload 4, 2) := by decide +kernel
theorem dl_673 : decode code 673 = .ok (.iconst 1, 1) := by decide +kernel
theorem dl_674 : decode code 674 = .ok (.iadd, 1) := by decide +kernel
theorem dl_675 : decode code 675 = .ok (.iaload, 1) := by decide +kernel
theorem dl_676 : decode code 676 = .ok (.aload_n 0, 1) := by decide +kernel
theorem dl_677 : decode code 677 = .ok (.iload 4, 2) := by decide +kernel
theorem dl_679 : decode code 679 = .ok (.iconst 2, 1) := by decide +kernel
theorem dl_680 : decode code 680 = .ok (.iadd, 1) := by decide +kernel
theorem dl_681 : decode code 681 = .ok (.iaload, 1) := by decide +kernel
theorem dl_682 : decode code 682 = .ok (.invokevirtual 96, 3) := by decide +kernel
theorem dl_685 : decode code 685 = .ok (.aload_n 2, 1) := by decide +kernel
theorem dl_686 : decode code 686 = .ok (.aload_n 0, 1) := by decide +kernel
theorem dl_687 : decode code 687 = .ok (.iload 4, 2) := by decide +kernel
theorem dl_689 : decode code 689 = .ok (.iconst 1, 1) := by decide +kernel
theorem dl_690 : decode code 690 = .ok (.iadd, 1) := by decide +kernel
theorem dl_691 : decode code 691 = .ok (.iaload, 1) := by decide +kernel
theorem dl_692 : decode code 692 = .ok (.aload_n 0, 1) := by decide +kernel
theorem dl_693 : decode code 693 = .ok (.iload 4, 2) := by decide +kernel
theorem dl_695 : decode code 695 = .ok (.iconst 2, 1) := by decide +kernel
theorem dl_696 : decode code 696 = .ok (.iadd, 1) := by decide +kernel
theorem dl_697 : decode code 697 = .ok (.iaload, 1) := by decide +kernel
theorem dl_698 : decode code 698 = .ok (.invokevirtual 99, 3) := by decide +kernel
theorem dl_701 : decode code 701 = .ok (.if_icmp .eq 5, 3) := by decide +kernel
theorem dl_704 : decode code 704 = .ok (.iconst 0, 1) := by decide +kernel
theorem dl_705 : decode code 705 = .ok (.ireturn, 1) := by decide +kernel
theorem dl_706 : decode code 706 = .ok (.iinc 4 5, 3) := by decide +kernel
theorem dl_709 : decode code 709 = .ok (.goto (-686), 3) := by decide +kernel
theorem dl_712 : decode code 712 = .ok (.iconst 1, 1) := by decide +kernel
theorem dl_713 : decode code 713 = .ok (.ireturn, 1) := by decide +kernel
