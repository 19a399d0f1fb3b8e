theorem d_LW_law_508 : decode m_LW_law.2.1 508 = .ok (.iconst 0, 1) := by decide +kernel
theorem d_LW_law_509 : decode m_LW_law.2.1 509 = .ok (.ireturn, 1) := by decide +kernel
theorem d_LW_law_510 : decode m_LW_law.2.1 510 = .ok (.iload 5, 2) := by decide +kernel
theorem d_LW_law_512 : decode m_LW_law.2.1 512 = .ok (.ifCond .ne 15, 3) := by decide +kernel
theorem d_LW_law_515 : decode m_LW_law.2.1 515 = .ok (.aload_n 3, 1) := by decide +kernel
theorem d_LW_law_516 : decode m_LW_law.2.1 516 = .ok (.iconst 0, 1) := by decide +kernel
theorem d_LW_law_517 : decode m_LW_law.2.1 517 = .ok (.laload, 1) := by decide +kernel
theorem d_LW_law_518 : decode m_LW_law.2.1 518 = .ok (.iload 6, 2) := by decide +kernel
theorem d_LW_law_520 : decode m_LW_law.2.1 520 = .ok (.i2l, 1) := by decide +kernel
theorem d_LW_law_521 : decode m_LW_law.2.1 521 = .ok (.lcmp, 1) := by decide +kernel
theorem d_LW_law_522 : decode m_LW_law.2.1 522 = .ok (.ifCond .eq 5, 3) := by decide +kernel
theorem d_LW_law_525 : decode m_LW_law.2.1 525 = .ok (.iconst 0, 1) := by decide +kernel
theorem d_LW_law_526 : decode m_LW_law.2.1 526 = .ok (.ireturn, 1) := by decide +kernel
theorem d_LW_law_527 : decode m_LW_law.2.1 527 = .ok (.goto 1138, 3) := by decide +kernel
theorem d_LW_law_530 : decode m_LW_law.2.1 530 = .ok (.aload_n 1, 1) := by decide +kernel
theorem d_LW_law_531 : decode m_LW_law.2.1 531 = .ok (.aload_n 0, 1) := by decide +kernel
theorem d_LW_law_532 : decode m_LW_law.2.1 532 = .ok (.iload 4, 2) := by decide +kernel
theorem d_LW_law_534 : decode m_LW_law.2.1 534 = .ok (.iconst 1, 1) := by decide +kernel
theorem d_LW_law_535 : decode m_LW_law.2.1 535 = .ok (.iadd, 1) := by decide +kernel
theorem d_LW_law_536 : decode m_LW_law.2.1 536 = .ok (.iaload, 1) := by decide +kernel
theorem d_LW_law_537 : decode m_LW_law.2.1 537 = .ok (.aload_n 0, 1) := by decide +kernel
theorem d_LW_law_538 : decode m_LW_law.2.1 538 = .ok (.iload 4, 2) := by decide +kernel
theorem d_LW_law_540 : decode m_LW_law.2.1 540 = .ok (.iconst 2, 1) := by decide +kernel
theorem d_LW_law_541 : decode m_LW_law.2.1 541 = .ok (.iadd, 1) := by decide +kernel
theorem d_LW_law_542 : decode m_LW_law.2.1 542 = .ok (.iaload, 1) := by decide +kernel
theorem d_LW_law_543 : decode m_LW_law.2.1 543 = .ok (.aload_n 3, 1) := by decide +kernel
theorem d_LW_law_544 : decode m_LW_law.2.1 544 = .ok (.invokestatic 109, 3) := by decide +kernel
theorem d_LW_law_547 : decode m_LW_law.2.1 547 = .ok (.istore 5, 2) := by decide +kernel
theorem d_LW_law_549 : decode m_LW_law.2.1 549 = .ok (.aload_n 2, 1) := by decide +kernel
theorem d_LW_law_550 : decode m_LW_law.2.1 550 = .ok (.aload_n 0, 1) := by decide +kernel
theorem d_LW_law_551 : decode m_LW_law.2.1 551 = .ok (.iload 4, 2) := by decide +kernel
theorem d_LW_law_553 : decode m_LW_law.2.1 553 = .ok (.iconst 1, 1) := by decide +kernel
theorem d_LW_law_554 : decode m_LW_law.2.1 554 = .ok (.iadd, 1) := by decide +kernel
theorem d_LW_law_555 : decode m_LW_law.2.1 555 = .ok (.iaload, 1) := by decide +kernel
theorem d_LW_law_556 : decode m_LW_law.2.1 556 = .ok (.aload_n 0, 1) := by decide +kernel
theorem d_LW_law_557 : decode m_LW_law.2.1 557 = .ok (.iload 4, 2) := by decide +kernel
theorem d_LW_law_559 : decode m_LW_law.2.1 559 = .ok (.iconst 2, 1) := by decide +kernel
theorem d_LW_law_560 : decode m_LW_law.2.1 560 = .ok (.iadd, 1) := by decide +kernel
theorem d_LW_law_561 : decode m_LW_law.2.1 561 = .ok (.iaload, 1) := by decide +kernel
theorem d_LW_law_562 : decode m_LW_law.2.1 562 = .ok (.invokevirtual 112, 3) := by decide +kernel
theorem d_LW_law_565 : decode m_LW_law.2.1 565 = .ok (.istore 6, 2) := by decide +kernel
theorem d_LW_law_567 : decode m_LW_law.2.1 567 = .ok (.aload_n 2, 1) := by decide +kernel
theorem d_LW_law_568 : decode m_LW_law.2.1 568 = .ok (.invokevirtual 92, 3) := by decide +kernel
theorem d_LW_law_571 : decode m_LW_law.2.1 571 = .ok (.iload 5, 2) := by decide +kernel
theorem d_LW_law_573 : decode m_LW_law.2.1 573 = .ok (.if_icmp .eq 5, 3) := by decide +kernel
theorem d_LW_law_576 : decode m_LW_law.2.1 576 = .ok (.iconst 0, 1) := by decide +kernel
theorem d_LW_law_577 : decode m_LW_law.2.1 577 = .ok (.ireturn, 1) := by decide +kernel
theorem d_LW_law_578 : decode m_LW_law.2.1 578 = .ok (.iload 5, 2) := by decide +kernel
theorem d_LW_law_580 : decode m_LW_law.2.1 580 = .ok (.ifCond .ne 15, 3) := by decide +kernel
theorem d_LW_law_583 : decode m_LW_law.2.1 583 = .ok (.aload_n 3, 1) := by decide +kernel
theorem d_LW_law_584 : decode m_LW_law.2.1 584 = .ok (.iconst 0, 1) := by decide +kernel
theorem d_LW_law_585 : decode m_LW_law.2.1 585 = .ok (.laload, 1) := by decide +kernel
theorem d_LW_law_586 : decode m_LW_law.2.1 586 = .ok (.iload 6, 2) := by decide +kernel
theorem d_LW_law_588 : decode m_LW_law.2.1 588 = .ok (.i2l, 1) := by decide +kernel
theorem d_LW_law_589 : decode m_LW_law.2.1 589 = .ok (.lcmp, 1) := by decide +kernel
theorem d_LW_law_590 : decode m_LW_law.2.1 590 = .ok (.ifCond .eq 5, 3) := by decide +kernel
theorem d_LW_law_593 : decode m_LW_law.2.1 593 = .ok (.iconst 0, 1) := by decide +kernel
theorem d_LW_law_594 : decode m_LW_law.2.1 594 = .ok (.ireturn, 1) := by decide +kernel
theorem d_LW_law_595 : decode m_LW_law.2.1 595 = .ok (.goto 1070, 3) := by decide +kernel
theorem d_LW_law_598 : decode m_LW_law.2.1 598 = .ok (.aload_n 1, 1) := by decide +kernel
theorem d_LW_law_599 : decode m_LW_law.2.1 599 = .ok (.aload_n 0, 1) := by decide +kernel
theorem d_LW_law_600 : decode m_LW_law.2.1 600 = .ok (.iload 4, 2) := by decide +kernel
theorem d_LW_law_602 : decode m_LW_law.2.1 602 = .ok (.iconst 1, 1) := by decide +kernel
theorem d_LW_law_603 : decode m_LW_law.2.1 603 = .ok (.iadd, 1) := by decide +kernel
theorem d_LW_law_604 : decode m_LW_law.2.1 604 = .ok (.iaload, 1) := by decide +kernel
theorem d_LW_law_605 : decode m_LW_law.2.1 605 = .ok (.aload_n 3, 1) := by decide +kernel
theorem d_LW_law_606 : decode m_LW_law.2.1 606 = .ok (.invokestatic 113, 3) := by decide +kernel
theorem d_LW_law_609 : decode m_LW_law.2.1 609 = .ok (.istore 5, 2) := by decide +kernel
theorem d_LW_law_611 : decode m_LW_law.2.1 611 = .ok (.aload_n 2, 1) := by decide +kernel
theorem d_LW_law_612 : decode m_LW_law.2.1 612 = .ok (.aload_n 0, 1) := by decide +kernel
theorem d_LW_law_613 : decode m_LW_law.2.1 613 = .ok (.iload 4, 2) := by decide +kernel
theorem d_LW_law_615 : decode m_LW_law.2.1 615 = .ok (.iconst 1, 1) := by decide +kernel
theorem d_LW_law_616 : decode m_LW_law.2.1 616 = .ok (.iadd, 1) := by decide +kernel
theorem d_LW_law_617 : decode m_LW_law.2.1 617 = .ok (.iaload, 1) := by decide +kernel
theorem d_LW_law_618 : decode m_LW_law.2.1 618 = .ok (.invokevirtual 116, 3) := by decide +kernel
theorem d_LW_law_621 : decode m_LW_law.2.1 621 = .ok (.istore 6, 2) := by decide +kernel
theorem d_LW_law_623 : decode m_LW_law.2.1 623 = .ok (.aload_n 2, 1) := by decide +kernel
theorem d_LW_law_624 : decode m_LW_law.2.1 624 = .ok (.invokevirtual 92, 3) := by decide +kernel
theorem d_LW_law_627 : decode m_LW_law.2.1 627 = .ok (.iload 5, 2) := by decide +kernel
theorem d_LW_law_629 : decode m_LW_law.2.1 629 = .ok (.if_icmp .eq 5, 3) := by decide +kernel
theorem d_LW_law_632 : decode m_LW_law.2.1 632 = .ok (.iconst 0, 1) := by decide +kernel
theorem d_LW_law_633 : decode m_LW_law.2.1 633 = .ok (.ireturn, 1) := by decide +kernel
theorem d_LW_law_634 : decode m_LW_law.2.1 634 = .ok (.iload 5, 2) := by decide +kernel
theorem d_LW_law_636 : decode m_LW_law.2.1 636 = .ok (.ifCond .ne 15, 3) := by decide +kernel
theorem d_LW_law_639 : decode m_LW_law.2.1 639 = .ok (.aload_n 3, 1) := by decide +kernel
theorem d_LW_law_640 : decode m_LW_law.2.1 640 = .ok (.iconst 0, 1) := by decide +kernel
theorem d_LW_law_641 : decode m_LW_law.2.1 641 = .ok (.laload, 1) := by decide +kernel
theorem d_LW_law_642 : decode m_LW_law.2.1 642 = .ok (.iload 6, 2) := by decide +kernel
theorem d_LW_law_644 : decode m_LW_law.2.1 644 = .ok (.i2l, 1) := by decide +kernel
theorem d_LW_law_645 : decode m_LW_law.2.1 645 = .ok (.lcmp, 1) := by decide +kernel
theorem d_LW_law_646 : decode m_LW_law.2.1 646 = .ok (.ifCond .eq 5, 3) := by decide +kernel
theorem d_LW_law_649 : decode m_LW_law.2.1 649 = .ok (.iconst 0, 1) := by decide +kernel
theorem d_LW_law_650 : decode m_LW_law.2.1 650 = .ok (.ireturn, 1) := by decide +kernel
theorem d_LW_law_651 : decode m_LW_law.2.1 651 = .ok (.goto 1014, 3) := by decide +kernel
theorem d_LW_law_654 : decode m_LW_law.2.1 654 = .ok (.aload_n 1, 1) := by decide +kernel
theorem d_LW_law_655 : decode m_LW_law.2.1 655 = .ok (.aload_n 0, 1) := by decide +kernel
theorem d_LW_law_656 : decode m_LW_law.2.1 656 = .ok (.iload 4, 2) := by decide +kernel
theorem d_LW_law_658 : decode m_LW_law.2.1 658 = .ok (.iconst 1, 1) := by decide +kernel
theorem d_LW_law_659 : decode m_LW_law.2.1 659 = .ok (.iadd, 1) := by decide +kernel
theorem d_LW_law_660 : decode m_LW_law.2.1 660 = .ok (.iaload, 1) := by decide +kernel
theorem d_LW_law_661 : decode m_LW_law.2.1 661 = .ok (.aload_n 0, 1) := by decide +kernel
theorem d_LW_law_662 : decode m_LW_law.2.1 662 = .ok (.iload 4, 2) := by decide +kernel
theorem d_LW_law_664 : decode m_LW_law.2.1 664 = .ok (.iconst 2, 1) := by decide +kernel
theorem d_LW_law_665 : decode m_LW_law.2.1 665 = .ok (.iadd, 1) := by decide +kernel
theorem d_LW_law_666 : decode m_LW_law.2.1 666 = .ok (.iaload, 1) := by decide +kernel
theorem d_LW_law_667 : decode m_LW_law.2.1 667 = .ok (.aload_n 0, 1) := by decide +kernel
theorem d_LW_law_668 : decode m_LW_law.2.1 668 = .ok (.iload 4, 2) := by decide +kernel
theorem d_LW_law_670 : decode m_LW_law.2.1 670 = .ok (.iconst 3, 1) := by decide +kernel
theorem d_LW_law_671 : decode m_LW_law.2.1 671 = .ok (.iadd, 1) := by decide +kernel
theorem d_LW_law_672 : decode m_LW_law.2.1 672 = .ok (.iaload, 1) := by decide +kernel
theorem d_LW_law_673 : decode m_LW_law.2.1 673 = .ok (.ifCond .eq 7, 3) := by decide +kernel
theorem d_LW_law_676 : decode m_LW_law.2.1 676 = .ok (.iconst 1, 1) := by decide +kernel
theorem d_LW_law_677 : decode m_LW_law.2.1 677 = .ok (.goto 4, 3) := by decide +kernel
theorem d_LW_law_680 : decode m_LW_law.2.1 680 = .ok (.iconst 0, 1) := by decide +kernel
theorem d_LW_law_681 : decode m_LW_law.2.1 681 = .ok (.aload_n 0, 1) := by decide +kernel
theorem d_LW_law_682 : decode m_LW_law.2.1 682 = .ok (.iload 4, 2) := by decide +kernel
theorem d_LW_law_684 : decode m_LW_law.2.1 684 = .ok (.iconst 4, 1) := by decide +kernel
theorem d_LW_law_685 : decode m_LW_law.2.1 685 = .ok (.iadd, 1) := by decide +kernel
theorem d_LW_law_686 : decode m_LW_law.2.1 686 = .ok (.iaload, 1) := by decide +kernel
theorem d_LW_law_687 : decode m_LW_law.2.1 687 = .ok (.aload_n 0, 1) := by decide +kernel
theorem d_LW_law_688 : decode m_LW_law.2.1 688 = .ok (.iload 4, 2) := by decide +kernel
theorem d_LW_law_690 : decode m_LW_law.2.1 690 = .ok (.iconst 5, 1) := by decide +kernel
theorem d_LW_law_691 : decode m_LW_law.2.1 691 = .ok (.iadd, 1) := by decide +kernel
theorem d_LW_law_692 : decode m_LW_law.2.1 692 = .ok (.iaload, 1) := by decide +kernel
theorem d_LW_law_693 : decode m_LW_law.2.1 693 = .ok (.ifCond .eq 7, 3) := by decide +kernel
theorem d_LW_law_696 : decode m_LW_law.2.1 696 = .ok (.iconst 1, 1) := by decide +kernel
theorem d_LW_law_697 : decode m_LW_law.2.1 697 = .ok (.goto 4, 3) := by decide +kernel
theorem d_LW_law_700 : decode m_LW_law.2.1 700 = .ok (.iconst 0, 1) := by decide +kernel
theorem d_LW_law_701 : decode m_LW_law.2.1 701 = .ok (.aload_n 0, 1) := by decide +kernel
theorem d_LW_law_702 : decode m_LW_law.2.1 702 = .ok (.iload 4, 2) := by decide +kernel
theorem d_LW_law_704 : decode m_LW_law.2.1 704 = .ok (.bipush 6, 2) := by decide +kernel
theorem d_LW_law_706 : decode m_LW_law.2.1 706 = .ok (.iadd, 1) := by decide +kernel
theorem d_LW_law_707 : decode m_LW_law.2.1 707 = .ok (.iaload, 1) := by decide +kernel
theorem d_LW_law_708 : decode m_LW_law.2.1 708 = .ok (.aload_n 0, 1) := by decide +kernel
theorem d_LW_law_709 : decode m_LW_law.2.1 709 = .ok (.iload 4, 2) := by decide +kernel
theorem d_LW_law_711 : decode m_LW_law.2.1 711 = .ok (.bipush 7, 2) := by decide +kernel
theorem d_LW_law_713 : decode m_LW_law.2.1 713 = .ok (.iadd, 1) := by decide +kernel
theorem d_LW_law_714 : decode m_LW_law.2.1 714 = .ok (.iaload, 1) := by decide +kernel
theorem d_LW_law_715 : decode m_LW_law.2.1 715 = .ok (.aload_n 3, 1) := by decide +kernel
theorem d_LW_law_716 : decode m_LW_law.2.1 716 = .ok (.invokestatic 117, 3) := by decide +kernel
theorem d_LW_law_719 : decode m_LW_law.2.1 719 = .ok (.istore 5, 2) := by decide +kernel
theorem d_LW_law_721 : decode m_LW_law.2.1 721 = .ok (.aload_n 2, 1) := by decide +kernel
theorem d_LW_law_722 : decode m_LW_law.2.1 722 = .ok (.aload_n 0, 1) := by decide +kernel
theorem d_LW_law_723 : decode m_LW_law.2.1 723 = .ok (.iload 4, 2) := by decide +kernel
theorem d_LW_law_725 : decode m_LW_law.2.1 725 = .ok (.iconst 1, 1) := by decide +kernel
theorem d_LW_law_726 : decode m_LW_law.2.1 726 = .ok (.iadd, 1) := by decide +kernel
theorem d_LW_law_727 : decode m_LW_law.2.1 727 = .ok (.iaload, 1) := by decide +kernel
theorem d_LW_law_728 : decode m_LW_law.2.1 728 = .ok (.aload_n 0, 1) := by decide +kernel
theorem d_LW_law_729 : decode m_LW_law.2.1 729 = .ok (.iload 4, 2) := by decide +kernel
theorem d_LW_law_731 : decode m_LW_law.2.1 731 = .ok (.iconst 2, 1) := by decide +kernel
theorem d_LW_law_732 : decode m_LW_law.2.1 732 = .ok (.iadd, 1) := by decide +kernel
theorem d_LW_law_733 : decode m_LW_law.2.1 733 = .ok (.iaload, 1) := by decide +kernel
theorem d_LW_law_734 : decode m_LW_law.2.1 734 = .ok (.aload_n 0, 1) := by decide +kernel
theorem d_LW_law_735 : decode m_LW_law.2.1 735 = .ok (.iload 4, 2) := by decide +kernel
theorem d_LW_law_737 : decode m_LW_law.2.1 737 = .ok (.iconst 3, 1) := by decide +kernel
theorem d_LW_law_738 : decode m_LW_law.2.1 738 = .ok (.iadd, 1) := by decide +kernel
theorem d_LW_law_739 : decode m_LW_law.2.1 739 = .ok (.iaload, 1) := by decide +kernel
theorem d_LW_law_740 : decode m_LW_law.2.1 740 = .ok (.ifCond .eq 7, 3) := by decide +kernel
theorem d_LW_law_743 : decode m_LW_law.2.1 743 = .ok (.iconst 1, 1) := by decide +kernel
theorem d_LW_law_744 : decode m_LW_law.2.1 744 = .ok (.goto 4, 3) := by decide +kernel
theorem d_LW_law_747 : decode m_LW_law.2.1 747 = .ok (.iconst 0, 1) := by decide +kernel
theorem d_LW_law_748 : decode m_LW_law.2.1 748 = .ok (.aload_n 0, 1) := by decide +kernel
theorem d_LW_law_749 : decode m_LW_law.2.1 749 = .ok (.iload 4, 2) := by decide +kernel
theorem d_LW_law_751 : decode m_LW_law.2.1 751 = .ok (.iconst 4, 1) := by decide +kernel
theorem d_LW_law_752 : decode m_LW_law.2.1 752 = .ok (.iadd, 1) := by decide +kernel
theorem d_LW_law_753 : decode m_LW_law.2.1 753 = .ok (.iaload, 1) := by decide +kernel
theorem d_LW_law_754 : decode m_LW_law.2.1 754 = .ok (.aload_n 0, 1) := by decide +kernel
theorem d_LW_law_755 : decode m_LW_law.2.1 755 = .ok (.iload 4, 2) := by decide +kernel
theorem d_LW_law_757 : decode m_LW_law.2.1 757 = .ok (.iconst 5, 1) := by decide +kernel
theorem d_LW_law_758 : decode m_LW_law.2.1 758 = .ok (.iadd, 1) := by decide +kernel
theorem d_LW_law_759 : decode m_LW_law.2.1 759 = .ok (.iaload, 1) := by decide +kernel
theorem d_LW_law_760 : decode m_LW_law.2.1 760 = .ok (.ifCond .eq 7, 3) := by decide +kernel
theorem d_LW_law_763 : decode m_LW_law.2.1 763 = .ok (.iconst 1, 1) := by decide +kernel
theorem d_LW_law_764 : decode m_LW_law.2.1 764 = .ok (.goto 4, 3) := by decide +kernel
theorem d_LW_law_767 : decode m_LW_law.2.1 767 = .ok (.iconst 0, 1) := by decide +kernel
theorem d_LW_law_768 : decode m_LW_law.2.1 768 = .ok (.aload_n 0, 1) := by decide +kernel
theorem d_LW_law_769 : decode m_LW_law.2.1 769 = .ok (.iload 4, 2) := by decide +kernel
theorem d_LW_law_771 : decode m_LW_law.2.1 771 = .ok (.bipush 6, 2) := by decide +kernel
theorem d_LW_law_773 : decode m_LW_law.2.1 773 = .ok (.iadd, 1) := by decide +kernel
theorem d_LW_law_774 : decode m_LW_law.2.1 774 = .ok (.iaload, 1) := by decide +kernel
theorem d_LW_law_775 : decode m_LW_law.2.1 775 = .ok (.aload_n 0, 1) := by decide +kernel
theorem d_LW_law_776 : decode m_LW_law.2.1 776 = .ok (.iload 4, 2) := by decide +kernel
theorem d_LW_law_778 : decode m_LW_law.2.1 778 = .ok (.bipush 7, 2) := by decide +kernel
theorem d_LW_law_780 : decode m_LW_law.2.1 780 = .ok (.iadd, 1) := by decide +kernel
theorem d_LW_law_781 : decode m_LW_law.2.1 781 = .ok (.iaload, 1) := by decide +kernel
theorem d_LW_law_782 : decode m_LW_law.2.1 782 = .ok (.invokevirtual 120, 3) := by decide +kernel
theorem d_LW_law_785 : decode m_LW_law.2.1 785 = .ok (.istore 6, 2) := by decide +kernel
theorem d_LW_law_787 : decode m_LW_law.2.1 787 = .ok (.aload_n 2, 1) := by decide +kernel
theorem d_LW_law_788 : decode m_LW_law.2.1 788 = .ok (.invokevirtual 92, 3) := by decide +kernel
theorem d_LW_law_791 : decode m_LW_law.2.1 791 = .ok (.iload 5, 2) := by decide +kernel
theorem d_LW_law_793 : decode m_LW_law.2.1 793 = .ok (.if_icmp .eq 5, 3) := by decide +kernel
theorem d_LW_law_796 : decode m_LW_law.2.1 796 = .ok (.iconst 0, 1) := by decide +kernel
theorem d_LW_law_797 : decode m_LW_law.2.1 797 = .ok (.ireturn, 1) := by decide +kernel
theorem d_LW_law_798 : decode m_LW_law.2.1 798 = .ok (.iload 5, 2) := by decide +kernel
theorem d_LW_law_800 : decode m_LW_law.2.1 800 = .ok (.ifCond .ne 15, 3) := by decide +kernel
theorem d_LW_law_803 : decode m_LW_law.2.1 803 = .ok (.aload_n 3, 1) := by decide +kernel
theorem d_LW_law_804 : decode m_LW_law.2.1 804 = .ok (.iconst 0, 1) := by decide +kernel
theorem d_LW_law_805 : decode m_LW_law.2.1 805 = .ok (.laload, 1) := by decide +kernel
theorem d_LW_law_806 : decode m_LW_law.2.1 806 = .ok (.iload 6, 2) := by decide +kernel
theorem d_LW_law_808 : decode m_LW_law.2.1 808 = .ok (.i2l, 1) := by decide +kernel
theorem d_LW_law_809 : decode m_LW_law.2.1 809 = .ok (.lcmp, 1) := by decide +kernel
theorem d_LW_law_810 : decode m_LW_law.2.1 810 = .ok (.ifCond .eq 5, 3) := by decide +kernel
theorem d_LW_law_813 : decode m_LW_law.2.1 813 = .ok (.iconst 0, 1) := by decide +kernel
theorem d_LW_law_814 : decode m_LW_law.2.1 814 = .ok (.ireturn, 1) := by decide +kernel
theorem d_LW_law_815 : decode m_LW_law.2.1 815 = .ok (.goto 850, 3) := by decide +kernel
theorem d_LW_law_818 : decode m_LW_law.2.1 818 = .ok (.aload_n 1, 1) := by decide +kernel
theorem d_LW_law_819 : decode m_LW_law.2.1 819 = .ok (.aload_n 0, 1) := by decide +kernel
theorem d_LW_law_820 : decode m_LW_law.2.1 820 = .ok (.iload 4, 2) := by decide +kernel
theorem d_LW_law_822 : decode m_LW_law.2.1 822 = .ok (.iconst 1, 1) := by decide +kernel
theorem d_LW_law_823 : decode m_LW_law.2.1 823 = .ok (.iadd, 1) := by decide +kernel
theorem d_LW_law_824 : decode m_LW_law.2.1 824 = .ok (.iaload, 1) := by decide +kernel
theorem d_LW_law_825 : decode m_LW_law.2.1 825 = .ok (.aload_n 0, 1) := by decide +kernel
theorem d_LW_law_826 : decode m_LW_law.2.1 826 = .ok (.iload 4, 2) := by decide +kernel
theorem d_LW_law_828 : decode m_LW_law.2.1 828 = .ok (.iconst 2, 1) := by decide +kernel
theorem d_LW_law_829 : decode m_LW_law.2.1 829 = .ok (.iadd, 1) := by decide +kernel
theorem d_LW_law_830 : decode m_LW_law.2.1 830 = .ok (.iaload, 1) := by decide +kernel
theorem d_LW_law_831 : decode m_LW_law.2.1 831 = .ok (.aload_n 3, 1) := by decide +kernel
theorem d_LW_law_832 : decode m_LW_law.2.1 832 = .ok (.invokestatic 121, 3) := by decide +kernel
theorem d_LW_law_835 : decode m_LW_law.2.1 835 = .ok (.istore 5, 2) := by decide +kernel
theorem d_LW_law_837 : decode m_LW_law.2.1 837 = .ok (.aload_n 2, 1) := by decide +kernel
theorem d_LW_law_838 : decode m_LW_law.2.1 838 = .ok (.aload_n 0, 1) := by decide +kernel
theorem d_LW_law_839 : decode m_LW_law.2.1 839 = .ok (.iload 4, 2) := by decide +kernel
theorem d_LW_law_841 : decode m_LW_law.2.1 841 = .ok (.iconst 1, 1) := by decide +kernel
theorem d_LW_law_842 : decode m_LW_law.2.1 842 = .ok (.iadd, 1) := by decide +kernel
theorem d_LW_law_843 : decode m_LW_law.2.1 843 = .ok (.iaload, 1) := by decide +kernel
theorem d_LW_law_844 : decode m_LW_law.2.1 844 = .ok (.aload_n 0, 1) := by decide +kernel
theorem d_LW_law_845 : decode m_LW_law.2.1 845 = .ok (.iload 4, 2) := by decide +kernel
theorem d_LW_law_847 : decode m_LW_law.2.1 847 = .ok (.iconst 2, 1) := by decide +kernel
theorem d_LW_law_848 : decode m_LW_law.2.1 848 = .ok (.iadd, 1) := by decide +kernel
theorem d_LW_law_849 : decode m_LW_law.2.1 849 = .ok (.iaload, 1) := by decide +kernel
theorem d_LW_law_850 : decode m_LW_law.2.1 850 = .ok (.invokevirtual 123, 3) := by decide +kernel
theorem d_LW_law_853 : decode m_LW_law.2.1 853 = .ok (.istore 6, 2) := by decide +kernel
theorem d_LW_law_855 : decode m_LW_law.2.1 855 = .ok (.aload_n 2, 1) := by decide +kernel
theorem d_LW_law_856 : decode m_LW_law.2.1 856 = .ok (.invokevirtual 92, 3) := by decide +kernel
theorem d_LW_law_859 : decode m_LW_law.2.1 859 = .ok (.iload 5, 2) := by decide +kernel
theorem d_LW_law_861 : decode m_LW_law.2.1 861 = .ok (.if_icmp .eq 5, 3) := by decide +kernel
theorem d_LW_law_864 : decode m_LW_law.2.1 864 = .ok (.iconst 0, 1) := by decide +kernel
theorem d_LW_law_865 : decode m_LW_law.2.1 865 = .ok (.ireturn, 1) := by decide +kernel
theorem d_LW_law_866 : decode m_LW_law.2.1 866 = .ok (.iload 5, 2) := by decide +kernel
theorem d_LW_law_868 : decode m_LW_law.2.1 868 = .ok (.ifCond .ne 15, 3) := by decide +kernel
theorem d_LW_law_871 : decode m_LW_law.2.1 871 = .ok (.aload_n 3, 1) := by decide +kernel
theorem d_LW_law_872 : decode m_LW_law.2.1 872 = .ok (.iconst 0, 1) := by decide +kernel
theorem d_LW_law_873 : decode m_LW_law.2.1 873 = .ok (.laload, 1) := by decide +kernel
theorem d_LW_law_874 : decode m_LW_law.2.1 874 = .ok (.iload 6, 2) := by decide +kernel
theorem d_LW_law_876 : decode m_LW_law.2.1 876 = .ok (.i2l, 1) := by decide +kernel
theorem d_LW_law_877 : decode m_LW_law.2.1 877 = .ok (.lcmp, 1) := by decide +kernel
theorem d_LW_law_878 : decode m_LW_law.2.1 878 = .ok (.ifCond .eq 5, 3) := by decide +kernel
theorem d_LW_law_881 : decode m_LW_law.2.1 881 = .ok (.iconst 0, 1) := by decide +kernel
theorem d_LW_law_882 : decode m_LW_law.2.1 882 = .ok (.ireturn, 1) := by decide +kernel
theorem d_LW_law_883 : decode m_LW_law.2.1 883 = .ok (.goto 782, 3) := by decide +kernel
theorem d_LW_law_886 : decode m_LW_law.2.1 886 = .ok (.aload_n 1, 1) := by decide +kernel
theorem d_LW_law_887 : decode m_LW_law.2.1 887 = .ok (.aload_n 0, 1) := by decide +kernel
theorem d_LW_law_888 : decode m_LW_law.2.1 888 = .ok (.iload 4, 2) := by decide +kernel
theorem d_LW_law_890 : decode m_LW_law.2.1 890 = .ok (.iconst 1, 1) := by decide +kernel
theorem d_LW_law_891 : decode m_LW_law.2.1 891 = .ok (.iadd, 1) := by decide +kernel
theorem d_LW_law_892 : decode m_LW_law.2.1 892 = .ok (.iaload, 1) := by decide +kernel
