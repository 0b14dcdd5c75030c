theorem d_lw_law_542 : decode code 542 = .ok (.iload 6, 2) := by decide +kernel
theorem d_lw_law_544 : decode code 544 = .ok (.i2l, 1) := by decide +kernel
theorem d_lw_law_545 : decode code 545 = .ok (.lcmp, 1) := by decide +kernel
theorem d_lw_law_546 : decode code 546 = .ok (.ifCond .eq 5, 3) := by decide +kernel
theorem d_lw_law_549 : decode code 549 = .ok (.iconst 0, 1) := by decide +kernel
theorem d_lw_law_550 : decode code 550 = .ok (.ireturn, 1) := by decide +kernel
theorem d_lw_law_551 : decode code 551 = .ok (.goto 466, 3) := by decide +kernel
theorem d_lw_law_554 : decode code 554 = .ok (.aload_n 1, 1) := by decide +kernel
theorem d_lw_law_555 : decode code 555 = .ok (.aload_n 0, 1) := by decide +kernel
theorem d_lw_law_556 : decode code 556 = .ok (.iload 4, 2) := by decide +kernel
theorem d_lw_law_558 : decode code 558 = .ok (.iconst 1, 1) := by decide +kernel
theorem d_lw_law_559 : decode code 559 = .ok (.iadd, 1) := by decide +kernel
theorem d_lw_law_560 : decode code 560 = .ok (.iaload, 1) := by decide +kernel
theorem d_lw_law_561 : decode code 561 = .ok (.aload_n 0, 1) := by decide +kernel
theorem d_lw_law_562 : decode code 562 = .ok (.iload 4, 2) := by decide +kernel
theorem d_lw_law_564 : decode code 564 = .ok (.iconst 2, 1) := by decide +kernel
theorem d_lw_law_565 : decode code 565 = .ok (.iadd, 1) := by decide +kernel
theorem d_lw_law_566 : decode code 566 = .ok (.iaload, 1) := by decide +kernel
theorem d_lw_law_567 : decode code 567 = .ok (.aload_n 0, 1) := by decide +kernel
theorem d_lw_law_568 : decode code 568 = .ok (.iload 4, 2) := by decide +kernel
theorem d_lw_law_570 : decode code 570 = .ok (.iconst 3, 1) := by decide +kernel
theorem d_lw_law_571 : decode code 571 = .ok (.iadd, 1) := by decide +kernel
theorem d_lw_law_572 : decode code 572 = .ok (.iaload, 1) := by decide +kernel
theorem d_lw_law_573 : decode code 573 = .ok (.aload_n 0, 1) := by decide +kernel
theorem d_lw_law_574 : decode code 574 = .ok (.iload 4, 2) := by decide +kernel
theorem d_lw_law_576 : decode code 576 = .ok (.iconst 4, 1) := by decide +kernel
theorem d_lw_law_577 : decode code 577 = .ok (.iadd, 1) := by decide +kernel
theorem d_lw_law_578 : decode code 578 = .ok (.iaload, 1) := by decide +kernel
theorem d_lw_law_579 : decode code 579 = .ok (.aload_n 3, 1) := by decide +kernel
theorem d_lw_law_580 : decode code 580 = .ok (.invokestatic 79, 3) := by decide +kernel
theorem d_lw_law_583 : decode code 583 = .ok (.istore 5, 2) := by decide +kernel
theorem d_lw_law_585 : decode code 585 = .ok (.aload_n 2, 1) := by decide +kernel
theorem d_lw_law_586 : decode code 586 = .ok (.aload_n 0, 1) := by decide +kernel
theorem d_lw_law_587 : decode code 587 = .ok (.iload 4, 2) := by decide +kernel
theorem d_lw_law_589 : decode code 589 = .ok (.iconst 1, 1) := by decide +kernel
theorem d_lw_law_590 : decode code 590 = .ok (.iadd, 1) := by decide +kernel
theorem d_lw_law_591 : decode code 591 = .ok (.iaload, 1) := by decide +kernel
theorem d_lw_law_592 : decode code 592 = .ok (.aload_n 0, 1) := by decide +kernel
theorem d_lw_law_593 : decode code 593 = .ok (.iload 4, 2) := by decide +kernel
theorem d_lw_law_595 : decode code 595 = .ok (.iconst 2, 1) := by decide +kernel
theorem d_lw_law_596 : decode code 596 = .ok (.iadd, 1) := by decide +kernel
theorem d_lw_law_597 : decode code 597 = .ok (.iaload, 1) := by decide +kernel
theorem d_lw_law_598 : decode code 598 = .ok (.aload_n 0, 1) := by decide +kernel
theorem d_lw_law_599 : decode code 599 = .ok (.iload 4, 2) := by decide +kernel
theorem d_lw_law_601 : decode code 601 = .ok (.iconst 3, 1) := by decide +kernel
theorem d_lw_law_602 : decode code 602 = .ok (.iadd, 1) := by decide +kernel
theorem d_lw_law_603 : decode code 603 = .ok (.iaload, 1) := by decide +kernel
theorem d_lw_law_604 : decode code 604 = .ok (.aload_n 0, 1) := by decide +kernel
theorem d_lw_law_605 : decode code 605 = .ok (.iload 4, 2) := by decide +kernel
theorem d_lw_law_607 : decode code 607 = .ok (.iconst 4, 1) := by decide +kernel
theorem d_lw_law_608 : decode code 608 = .ok (.iadd, 1) := by decide +kernel
theorem d_lw_law_609 : decode code 609 = .ok (.iaload, 1) := by decide +kernel
theorem d_lw_law_610 : decode code 610 = .ok (.invokevirtual 81, 3) := by decide +kernel
theorem d_lw_law_613 : decode code 613 = .ok (.istore 6, 2) := by decide +kernel
theorem d_lw_law_615 : decode code 615 = .ok (.aload_n 2, 1) := by decide +kernel
theorem d_lw_law_616 : decode code 616 = .ok (.invokevirtual 55, 3) := by decide +kernel
theorem d_lw_law_619 : decode code 619 = .ok (.iload 5, 2) := by decide +kernel
theorem d_lw_law_621 : decode code 621 = .ok (.if_icmp .eq 5, 3) := by decide +kernel
theorem d_lw_law_624 : decode code 624 = .ok (.iconst 0, 1) := by decide +kernel
theorem d_lw_law_625 : decode code 625 = .ok (.ireturn, 1) := by decide +kernel
theorem d_lw_law_626 : decode code 626 = .ok (.iload 5, 2) := by decide +kernel
theorem d_lw_law_628 : decode code 628 = .ok (.ifCond .ne 15, 3) := by decide +kernel
theorem d_lw_law_631 : decode code 631 = .ok (.aload_n 3, 1) := by decide +kernel
theorem d_lw_law_632 : decode code 632 = .ok (.iconst 0, 1) := by decide +kernel
theorem d_lw_law_633 : decode code 633 = .ok (.laload, 1) := by decide +kernel
theorem d_lw_law_634 : decode code 634 = .ok (.iload 6, 2) := by decide +kernel
theorem d_lw_law_636 : decode code 636 = .ok (.i2l, 1) := by decide +kernel
theorem d_lw_law_637 : decode code 637 = .ok (.lcmp, 1) := by decide +kernel
theorem d_lw_law_638 : decode code 638 = .ok (.ifCond .eq 5, 3) := by decide +kernel
theorem d_lw_law_641 : decode code 641 = .ok (.iconst 0, 1) := by decide +kernel
theorem d_lw_law_642 : decode code 642 = .ok (.ireturn, 1) := by decide +kernel
theorem d_lw_law_643 : decode code 643 = .ok (.goto 374, 3) := by decide +kernel
theorem d_lw_law_646 : decode code 646 = .ok (.aload_n 1, 1) := by decide +kernel
theorem d_lw_law_647 : decode code 647 = .ok (.aload_n 0, 1) := by decide +kernel
theorem d_lw_law_648 : decode code 648 = .ok (.iload 4, 2) := by decide +kernel
theorem d_lw_law_650 : decode code 650 = .ok (.iconst 1, 1) := by decide +kernel
theorem d_lw_law_651 : decode code 651 = .ok (.iadd, 1) := by decide +kernel
theorem d_lw_law_652 : decode code 652 = .ok (.iaload, 1) := by decide +kernel
theorem d_lw_law_653 : decode code 653 = .ok (.aload_n 0, 1) := by decide +kernel
theorem d_lw_law_654 : decode code 654 = .ok (.iload 4, 2) := by decide +kernel
theorem d_lw_law_656 : decode code 656 = .ok (.iconst 2, 1) := by decide +kernel
theorem d_lw_law_657 : decode code 657 = .ok (.iadd, 1) := by decide +kernel
theorem d_lw_law_658 : decode code 658 = .ok (.iaload, 1) := by decide +kernel
theorem d_lw_law_659 : decode code 659 = .ok (.aload_n 3, 1) := by decide +kernel
theorem d_lw_law_660 : decode code 660 = .ok (.invokestatic 82, 3) := by decide +kernel
theorem d_lw_law_663 : decode code 663 = .ok (.istore 5, 2) := by decide +kernel
theorem d_lw_law_665 : decode code 665 = .ok (.aload_n 2, 1) := by decide +kernel
theorem d_lw_law_666 : decode code 666 = .ok (.aload_n 0, 1) := by decide +kernel
theorem d_lw_law_667 : decode code 667 = .ok (.iload 4, 2) := by decide +kernel
theorem d_lw_law_669 : decode code 669 = .ok (.iconst 1, 1) := by decide +kernel
theorem d_lw_law_670 : decode code 670 = .ok (.iadd, 1) := by decide +kernel
theorem d_lw_law_671 : decode code 671 = .ok (.iaload, 1) := by decide +kernel
theorem d_lw_law_672 : decode code 672 = .ok (.aload_n 0, 1) := by decide +kernel
theorem d_lw_law_673 : decode code 673 = .ok (.iload 4, 2) := by decide +kernel
theorem d_lw_law_675 : decode code 675 = .ok (.iconst 2, 1) := by decide +kernel
theorem d_lw_law_676 : decode code 676 = .ok (.iadd, 1) := by decide +kernel
theorem d_lw_law_677 : decode code 677 = .ok (.iaload, 1) := by decide +kernel
theorem d_lw_law_678 : decode code 678 = .ok (.invokevirtual 85, 3) := by decide +kernel
theorem d_lw_law_681 : decode code 681 = .ok (.istore 6, 2) := by decide +kernel
theorem d_lw_law_683 : decode code 683 = .ok (.aload_n 2, 1) := by decide +kernel
theorem d_lw_law_684 : decode code 684 = .ok (.invokevirtual 55, 3) := by decide +kernel
theorem d_lw_law_687 : decode code 687 = .ok (.iload 5, 2) := by decide +kernel
theorem d_lw_law_689 : decode code 689 = .ok (.if_icmp .eq 5, 3) := by decide +kernel
theorem d_lw_law_692 : decode code 692 = .ok (.iconst 0, 1) := by decide +kernel
theorem d_lw_law_693 : decode code 693 = .ok (.ireturn, 1) := by decide +kernel
theorem d_lw_law_694 : decode code 694 = .ok (.iload 5, 2) := by decide +kernel
theorem d_lw_law_696 : decode code 696 = .ok (.ifCond .ne 15, 3) := by decide +kernel
theorem d_lw_law_699 : decode code 699 = .ok (.aload_n 3, 1) := by decide +kernel
theorem d_lw_law_700 : decode code 700 = .ok (.iconst 0, 1) := by decide +kernel
theorem d_lw_law_701 : decode code 701 = .ok (.laload, 1) := by decide +kernel
