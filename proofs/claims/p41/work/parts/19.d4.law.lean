theorem dL_ranks_501 : decode cL_ranks 501 = .ok (.iload 7, 2) := by decide +kernel
theorem dL_ranks_503 : decode cL_ranks 503 = .ok (.bipush 15, 2) := by decide +kernel
theorem dL_ranks_505 : decode cL_ranks 505 = .ok (.if_icmp .ge 105, 3) := by decide +kernel
theorem dL_ranks_508 : decode cL_ranks 508 = .ok (.iconst 0, 1) := by decide +kernel
theorem dL_ranks_509 : decode cL_ranks 509 = .ok (.istore 8, 2) := by decide +kernel
theorem dL_ranks_511 : decode cL_ranks 511 = .ok (.aload_n 1, 1) := by decide +kernel
theorem dL_ranks_512 : decode cL_ranks 512 = .ok (.astore 9, 2) := by decide +kernel
theorem dL_ranks_514 : decode cL_ranks 514 = .ok (.aload 9, 2) := by decide +kernel
theorem dL_ranks_516 : decode cL_ranks 516 = .ok (.arraylength, 1) := by decide +kernel
theorem dL_ranks_517 : decode cL_ranks 517 = .ok (.istore 10, 2) := by decide +kernel
theorem dL_ranks_519 : decode cL_ranks 519 = .ok (.iconst 0, 1) := by decide +kernel
theorem dL_ranks_520 : decode cL_ranks 520 = .ok (.istore 11, 2) := by decide +kernel
theorem dL_ranks_522 : decode cL_ranks 522 = .ok (.iload 11, 2) := by decide +kernel
theorem dL_ranks_524 : decode cL_ranks 524 = .ok (.iload 10, 2) := by decide +kernel
theorem dL_ranks_526 : decode cL_ranks 526 = .ok (.if_icmp .ge 50, 3) := by decide +kernel
theorem dL_ranks_529 : decode cL_ranks 529 = .ok (.aload 9, 2) := by decide +kernel
theorem dL_ranks_531 : decode cL_ranks 531 = .ok (.iload 11, 2) := by decide +kernel
theorem dL_ranks_533 : decode cL_ranks 533 = .ok (.aaload, 1) := by decide +kernel
theorem dL_ranks_534 : decode cL_ranks 534 = .ok (.astore 12, 2) := by decide +kernel
theorem dL_ranks_536 : decode cL_ranks 536 = .ok (.iload 8, 2) := by decide +kernel
theorem dL_ranks_538 : decode cL_ranks 538 = .ok (.aload 12, 2) := by decide +kernel
theorem dL_ranks_540 : decode cL_ranks 540 = .ok (.iconst 0, 1) := by decide +kernel
theorem dL_ranks_541 : decode cL_ranks 541 = .ok (.iaload, 1) := by decide +kernel
theorem dL_ranks_542 : decode cL_ranks 542 = .ok (.iconst 1, 1) := by decide +kernel
theorem dL_ranks_543 : decode cL_ranks 543 = .ok (.iload 7, 2) := by decide +kernel
theorem dL_ranks_545 : decode cL_ranks 545 = .ok (.iconst 5, 1) := by decide +kernel
theorem dL_ranks_546 : decode cL_ranks 546 = .ok (.idiv, 1) := by decide +kernel
theorem dL_ranks_547 : decode cL_ranks 547 = .ok (.iadd, 1) := by decide +kernel
theorem dL_ranks_548 : decode cL_ranks 548 = .ok (.if_icmp .ne 18, 3) := by decide +kernel
theorem dL_ranks_551 : decode cL_ranks 551 = .ok (.aload 12, 2) := by decide +kernel
theorem dL_ranks_553 : decode cL_ranks 553 = .ok (.iconst 1, 1) := by decide +kernel
theorem dL_ranks_554 : decode cL_ranks 554 = .ok (.iaload, 1) := by decide +kernel
theorem dL_ranks_555 : decode cL_ranks 555 = .ok (.iload 7, 2) := by decide +kernel
theorem dL_ranks_557 : decode cL_ranks 557 = .ok (.iconst 5, 1) := by decide +kernel
theorem dL_ranks_558 : decode cL_ranks 558 = .ok (.irem, 1) := by decide +kernel
theorem dL_ranks_559 : decode cL_ranks 559 = .ok (.if_icmp .ne 7, 3) := by decide +kernel
theorem dL_ranks_562 : decode cL_ranks 562 = .ok (.iconst 1, 1) := by decide +kernel
theorem dL_ranks_563 : decode cL_ranks 563 = .ok (.goto 4, 3) := by decide +kernel
theorem dL_ranks_566 : decode cL_ranks 566 = .ok (.iconst 0, 1) := by decide +kernel
theorem dL_ranks_567 : decode cL_ranks 567 = .ok (.iadd, 1) := by decide +kernel
theorem dL_ranks_568 : decode cL_ranks 568 = .ok (.istore 8, 2) := by decide +kernel
theorem dL_ranks_570 : decode cL_ranks 570 = .ok (.iinc 11 1, 3) := by decide +kernel
theorem dL_ranks_573 : decode cL_ranks 573 = .ok (.goto (-51), 3) := by decide +kernel
theorem dL_ranks_576 : decode cL_ranks 576 = .ok (.iload 6, 2) := by decide +kernel
theorem dL_ranks_578 : decode cL_ranks 578 = .ok (.iload 8, 2) := by decide +kernel
theorem dL_ranks_580 : decode cL_ranks 580 = .ok (.iadd, 1) := by decide +kernel
theorem dL_ranks_581 : decode cL_ranks 581 = .ok (.istore 6, 2) := by decide +kernel
theorem dL_ranks_583 : decode cL_ranks 583 = .ok (.aload_n 0, 1) := by decide +kernel
theorem dL_ranks_584 : decode cL_ranks 584 = .ok (.iconst 1, 1) := by decide +kernel
theorem dL_ranks_585 : decode cL_ranks 585 = .ok (.iload 7, 2) := by decide +kernel
theorem dL_ranks_587 : decode cL_ranks 587 = .ok (.iconst 5, 1) := by decide +kernel
theorem dL_ranks_588 : decode cL_ranks 588 = .ok (.idiv, 1) := by decide +kernel
theorem dL_ranks_589 : decode cL_ranks 589 = .ok (.iadd, 1) := by decide +kernel
theorem dL_ranks_590 : decode cL_ranks 590 = .ok (.iload 7, 2) := by decide +kernel
theorem dL_ranks_592 : decode cL_ranks 592 = .ok (.iconst 5, 1) := by decide +kernel
theorem dL_ranks_593 : decode cL_ranks 593 = .ok (.irem, 1) := by decide +kernel
theorem dL_ranks_594 : decode cL_ranks 594 = .ok (.invokestatic 235, 3) := by decide +kernel
theorem dL_ranks_597 : decode cL_ranks 597 = .ok (.iload 8, 2) := by decide +kernel
theorem dL_ranks_599 : decode cL_ranks 599 = .ok (.if_icmp .eq 5, 3) := by decide +kernel
theorem dL_ranks_602 : decode cL_ranks 602 = .ok (.iconst 0, 1) := by decide +kernel
theorem dL_ranks_603 : decode cL_ranks 603 = .ok (.ireturn, 1) := by decide +kernel
theorem dL_ranks_604 : decode cL_ranks 604 = .ok (.iinc 7 1, 3) := by decide +kernel
theorem dL_ranks_607 : decode cL_ranks 607 = .ok (.goto (-106), 3) := by decide +kernel
theorem dL_ranks_610 : decode cL_ranks 610 = .ok (.aload_n 1, 1) := by decide +kernel
theorem dL_ranks_611 : decode cL_ranks 611 = .ok (.iconst 1, 1) := by decide +kernel
theorem dL_ranks_612 : decode cL_ranks 612 = .ok (.invokestatic 169, 3) := by decide +kernel
theorem dL_ranks_615 : decode cL_ranks 615 = .ok (.istore 7, 2) := by decide +kernel
theorem dL_ranks_617 : decode cL_ranks 617 = .ok (.iload 7, 2) := by decide +kernel
theorem dL_ranks_619 : decode cL_ranks 619 = .ok (.ifCond .eq 18, 3) := by decide +kernel
theorem dL_ranks_622 : decode cL_ranks 622 = .ok (.aload_n 0, 1) := by decide +kernel
theorem dL_ranks_623 : decode cL_ranks 623 = .ok (.invokevirtual 237, 3) := by decide +kernel
theorem dL_ranks_626 : decode cL_ranks 626 = .ok (.iload 5, 2) := by decide +kernel
theorem dL_ranks_628 : decode cL_ranks 628 = .ok (.i2d, 1) := by decide +kernel
theorem dL_ranks_629 : decode cL_ranks 629 = .ok (.iload 7, 2) := by decide +kernel
theorem dL_ranks_631 : decode cL_ranks 631 = .ok (.i2d, 1) := by decide +kernel
theorem dL_ranks_632 : decode cL_ranks 632 = .ok (.ddiv, 1) := by decide +kernel
theorem dL_ranks_633 : decode cL_ranks 633 = .ok (.dcmp .l, 1) := by decide +kernel
theorem dL_ranks_634 : decode cL_ranks 634 = .ok (.ifCond .ne 22, 3) := by decide +kernel
theorem dL_ranks_637 : decode cL_ranks 637 = .ok (.aload_n 0, 1) := by decide +kernel
theorem dL_ranks_638 : decode cL_ranks 638 = .ok (.invokevirtual 241, 3) := by decide +kernel
theorem dL_ranks_641 : decode cL_ranks 641 = .ok (.iload 4, 2) := by decide +kernel
theorem dL_ranks_643 : decode cL_ranks 643 = .ok (.i2f, 1) := by decide +kernel
theorem dL_ranks_644 : decode cL_ranks 644 = .ok (.aload_n 1, 1) := by decide +kernel
theorem dL_ranks_645 : decode cL_ranks 645 = .ok (.arraylength, 1) := by decide +kernel
theorem dL_ranks_646 : decode cL_ranks 646 = .ok (.i2f, 1) := by decide +kernel
theorem dL_ranks_647 : decode cL_ranks 647 = .ok (.fdiv, 1) := by decide +kernel
theorem dL_ranks_648 : decode cL_ranks 648 = .ok (.fcmp .l, 1) := by decide +kernel
theorem dL_ranks_649 : decode cL_ranks 649 = .ok (.ifCond .ne 7, 3) := by decide +kernel
theorem dL_ranks_652 : decode cL_ranks 652 = .ok (.iconst 1, 1) := by decide +kernel
theorem dL_ranks_653 : decode cL_ranks 653 = .ok (.goto 4, 3) := by decide +kernel
theorem dL_ranks_656 : decode cL_ranks 656 = .ok (.iconst 0, 1) := by decide +kernel
theorem dL_ranks_657 : decode cL_ranks 657 = .ok (.istore 8, 2) := by decide +kernel
theorem dL_ranks_659 : decode cL_ranks 659 = .ok (.iload 8, 2) := by decide +kernel
theorem dL_ranks_661 : decode cL_ranks 661 = .ok (.ifCond .eq 126, 3) := by decide +kernel
theorem dL_ranks_664 : decode cL_ranks 664 = .ok (.iload 6, 2) := by decide +kernel
theorem dL_ranks_666 : decode cL_ranks 666 = .ok (.aload_n 1, 1) := by decide +kernel
theorem dL_ranks_667 : decode cL_ranks 667 = .ok (.arraylength, 1) := by decide +kernel
theorem dL_ranks_668 : decode cL_ranks 668 = .ok (.if_icmp .ne 119, 3) := by decide +kernel
theorem dL_ranks_671 : decode cL_ranks 671 = .ok (.aload_n 0, 1) := by decide +kernel
theorem dL_ranks_672 : decode cL_ranks 672 = .ok (.iconst 1, 1) := by decide +kernel
theorem dL_ranks_673 : decode cL_ranks 673 = .ok (.invokevirtual 136, 3) := by decide +kernel
theorem dL_ranks_676 : decode cL_ranks 676 = .ok (.iload 7, 2) := by decide +kernel
theorem dL_ranks_678 : decode cL_ranks 678 = .ok (.if_icmp .ne 109, 3) := by decide +kernel
theorem dL_ranks_681 : decode cL_ranks 681 = .ok (.aload_n 0, 1) := by decide +kernel
theorem dL_ranks_682 : decode cL_ranks 682 = .ok (.iconst 2, 1) := by decide +kernel
theorem dL_ranks_683 : decode cL_ranks 683 = .ok (.invokevirtual 136, 3) := by decide +kernel
theorem dL_ranks_686 : decode cL_ranks 686 = .ok (.aload_n 1, 1) := by decide +kernel
theorem dL_ranks_687 : decode cL_ranks 687 = .ok (.iconst 2, 1) := by decide +kernel
theorem dL_ranks_688 : decode cL_ranks 688 = .ok (.invokestatic 169, 3) := by decide +kernel
theorem dL_ranks_691 : decode cL_ranks 691 = .ok (.if_icmp .ne 96, 3) := by decide +kernel
theorem dL_ranks_694 : decode cL_ranks 694 = .ok (.aload_n 0, 1) := by decide +kernel
theorem dL_ranks_695 : decode cL_ranks 695 = .ok (.iconst 3, 1) := by decide +kernel
theorem dL_ranks_696 : decode cL_ranks 696 = .ok (.invokevirtual 136, 3) := by decide +kernel
theorem dL_ranks_699 : decode cL_ranks 699 = .ok (.aload_n 1, 1) := by decide +kernel
theorem dL_ranks_700 : decode cL_ranks 700 = .ok (.iconst 3, 1) := by decide +kernel
theorem dL_ranks_701 : decode cL_ranks 701 = .ok (.invokestatic 169, 3) := by decide +kernel
theorem dL_ranks_704 : decode cL_ranks 704 = .ok (.if_icmp .ne 83, 3) := by decide +kernel
theorem dL_ranks_707 : decode cL_ranks 707 = .ok (.aload_n 0, 1) := by decide +kernel
theorem dL_ranks_708 : decode cL_ranks 708 = .ok (.iconst 4, 1) := by decide +kernel
theorem dL_ranks_709 : decode cL_ranks 709 = .ok (.invokevirtual 136, 3) := by decide +kernel
theorem dL_ranks_712 : decode cL_ranks 712 = .ok (.iload 4, 2) := by decide +kernel
theorem dL_ranks_714 : decode cL_ranks 714 = .ok (.if_icmp .ne 73, 3) := by decide +kernel
theorem dL_ranks_717 : decode cL_ranks 717 = .ok (.aload_n 0, 1) := by decide +kernel
theorem dL_ranks_718 : decode cL_ranks 718 = .ok (.bipush 9, 2) := by decide +kernel
theorem dL_ranks_720 : decode cL_ranks 720 = .ok (.invokevirtual 136, 3) := by decide +kernel
theorem dL_ranks_723 : decode cL_ranks 723 = .ok (.iload 4, 2) := by decide +kernel
theorem dL_ranks_725 : decode cL_ranks 725 = .ok (.if_icmp .ne 62, 3) := by decide +kernel
theorem dL_ranks_728 : decode cL_ranks 728 = .ok (.aload_n 0, 1) := by decide +kernel
theorem dL_ranks_729 : decode cL_ranks 729 = .ok (.iconst 0, 1) := by decide +kernel
theorem dL_ranks_730 : decode cL_ranks 730 = .ok (.iconst 0, 1) := by decide +kernel
theorem dL_ranks_731 : decode cL_ranks 731 = .ok (.invokestatic 235, 3) := by decide +kernel
theorem dL_ranks_734 : decode cL_ranks 734 = .ok (.bipush (-12), 2) := by decide +kernel
theorem dL_ranks_736 : decode cL_ranks 736 = .ok (.if_icmp .ne 51, 3) := by decide +kernel
theorem dL_ranks_739 : decode cL_ranks 739 = .ok (.aload_n 0, 1) := by decide +kernel
theorem dL_ranks_740 : decode cL_ranks 740 = .ok (.iconst 1, 1) := by decide +kernel
theorem dL_ranks_741 : decode cL_ranks 741 = .ok (.iconst 5, 1) := by decide +kernel
theorem dL_ranks_742 : decode cL_ranks 742 = .ok (.invokestatic 235, 3) := by decide +kernel
theorem dL_ranks_745 : decode cL_ranks 745 = .ok (.bipush (-12), 2) := by decide +kernel
theorem dL_ranks_747 : decode cL_ranks 747 = .ok (.if_icmp .ne 40, 3) := by decide +kernel
theorem dL_ranks_750 : decode cL_ranks 750 = .ok (.aload_n 0, 1) := by decide +kernel
theorem dL_ranks_751 : decode cL_ranks 751 = .ok (.iconst (-1), 1) := by decide +kernel
theorem dL_ranks_752 : decode cL_ranks 752 = .ok (.invokestatic 227, 3) := by decide +kernel
theorem dL_ranks_755 : decode cL_ranks 755 = .ok (.bipush (-13), 2) := by decide +kernel
theorem dL_ranks_757 : decode cL_ranks 757 = .ok (.if_icmp .ne 30, 3) := by decide +kernel
theorem dL_ranks_760 : decode cL_ranks 760 = .ok (.aload_n 0, 1) := by decide +kernel
theorem dL_ranks_761 : decode cL_ranks 761 = .ok (.aload_n 1, 1) := by decide +kernel
theorem dL_ranks_762 : decode cL_ranks 762 = .ok (.arraylength, 1) := by decide +kernel
theorem dL_ranks_763 : decode cL_ranks 763 = .ok (.bipush 9, 2) := by decide +kernel
theorem dL_ranks_765 : decode cL_ranks 765 = .ok (.invokestatic 154, 3) := by decide +kernel
theorem dL_ranks_768 : decode cL_ranks 768 = .ok (.bipush (-11), 2) := by decide +kernel
theorem dL_ranks_770 : decode cL_ranks 770 = .ok (.if_icmp .ne 17, 3) := by decide +kernel
theorem dL_ranks_773 : decode cL_ranks 773 = .ok (.aload_n 0, 1) := by decide +kernel
theorem dL_ranks_774 : decode cL_ranks 774 = .ok (.iconst (-1), 1) := by decide +kernel
theorem dL_ranks_775 : decode cL_ranks 775 = .ok (.invokestatic 233, 3) := by decide +kernel
theorem dL_ranks_778 : decode cL_ranks 778 = .ok (.bipush (-11), 2) := by decide +kernel
theorem dL_ranks_780 : decode cL_ranks 780 = .ok (.if_icmp .ne 7, 3) := by decide +kernel
theorem dL_ranks_783 : decode cL_ranks 783 = .ok (.iconst 1, 1) := by decide +kernel
theorem dL_ranks_784 : decode cL_ranks 784 = .ok (.goto 4, 3) := by decide +kernel
theorem dL_ranks_787 : decode cL_ranks 787 = .ok (.iconst 0, 1) := by decide +kernel
theorem dL_ranks_788 : decode cL_ranks 788 = .ok (.ireturn, 1) := by decide +kernel
