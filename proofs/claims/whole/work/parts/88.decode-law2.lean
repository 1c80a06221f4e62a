theorem d_LA_law_584 : decode code 584 = .ok (.iconst 1, 1) := by decide +kernel
theorem d_LA_law_585 : decode code 585 = .ok (.iadd, 1) := by decide +kernel
theorem d_LA_law_586 : decode code 586 = .ok (.iaload, 1) := by decide +kernel
theorem d_LA_law_587 : decode code 587 = .ok (.aload_n 0, 1) := by decide +kernel
theorem d_LA_law_588 : decode code 588 = .ok (.iload 4, 2) := by decide +kernel
theorem d_LA_law_590 : decode code 590 = .ok (.iconst 2, 1) := by decide +kernel
theorem d_LA_law_591 : decode code 591 = .ok (.iadd, 1) := by decide +kernel
theorem d_LA_law_592 : decode code 592 = .ok (.iaload, 1) := by decide +kernel
theorem d_LA_law_593 : decode code 593 = .ok (.aload_n 0, 1) := by decide +kernel
theorem d_LA_law_594 : decode code 594 = .ok (.iload 4, 2) := by decide +kernel
theorem d_LA_law_596 : decode code 596 = .ok (.iconst 3, 1) := by decide +kernel
theorem d_LA_law_597 : decode code 597 = .ok (.iadd, 1) := by decide +kernel
theorem d_LA_law_598 : decode code 598 = .ok (.iaload, 1) := by decide +kernel
theorem d_LA_law_599 : decode code 599 = .ok (.aload_n 3, 1) := by decide +kernel
theorem d_LA_law_600 : decode code 600 = .ok (.invokestatic 96, 3) := by decide +kernel
theorem d_LA_law_603 : decode code 603 = .ok (.istore 5, 2) := by decide +kernel
theorem d_LA_law_605 : decode code 605 = .ok (.aload_n 2, 1) := by decide +kernel
theorem d_LA_law_606 : decode code 606 = .ok (.aload_n 0, 1) := by decide +kernel
theorem d_LA_law_607 : decode code 607 = .ok (.iload 4, 2) := by decide +kernel
theorem d_LA_law_609 : decode code 609 = .ok (.iconst 1, 1) := by decide +kernel
theorem d_LA_law_610 : decode code 610 = .ok (.iadd, 1) := by decide +kernel
theorem d_LA_law_611 : decode code 611 = .ok (.iaload, 1) := by decide +kernel
theorem d_LA_law_612 : decode code 612 = .ok (.aload_n 0, 1) := by decide +kernel
theorem d_LA_law_613 : decode code 613 = .ok (.iload 4, 2) := by decide +kernel
theorem d_LA_law_615 : decode code 615 = .ok (.iconst 2, 1) := by decide +kernel
theorem d_LA_law_616 : decode code 616 = .ok (.iadd, 1) := by decide +kernel
theorem d_LA_law_617 : decode code 617 = .ok (.iaload, 1) := by decide +kernel
theorem d_LA_law_618 : decode code 618 = .ok (.aload_n 0, 1) := by decide +kernel
theorem d_LA_law_619 : decode code 619 = .ok (.iload 4, 2) := by decide +kernel
theorem d_LA_law_621 : decode code 621 = .ok (.iconst 3, 1) := by decide +kernel
theorem d_LA_law_622 : decode code 622 = .ok (.iadd, 1) := by decide +kernel
theorem d_LA_law_623 : decode code 623 = .ok (.iaload, 1) := by decide +kernel
theorem d_LA_law_624 : decode code 624 = .ok (.invokevirtual 98, 3) := by decide +kernel
theorem d_LA_law_627 : decode code 627 = .ok (.istore 6, 2) := by decide +kernel
theorem d_LA_law_629 : decode code 629 = .ok (.aload_n 2, 1) := by decide +kernel
theorem d_LA_law_630 : decode code 630 = .ok (.invokevirtual 71, 3) := by decide +kernel
theorem d_LA_law_633 : decode code 633 = .ok (.iload 5, 2) := by decide +kernel
theorem d_LA_law_635 : decode code 635 = .ok (.if_icmp .eq 5, 3) := by decide +kernel
theorem d_LA_law_638 : decode code 638 = .ok (.iconst 0, 1) := by decide +kernel
theorem d_LA_law_639 : decode code 639 = .ok (.ireturn, 1) := by decide +kernel
theorem d_LA_law_640 : decode code 640 = .ok (.iload 5, 2) := by decide +kernel
theorem d_LA_law_642 : decode code 642 = .ok (.ifCond .ne 15, 3) := by decide +kernel
theorem d_LA_law_645 : decode code 645 = .ok (.aload_n 3, 1) := by decide +kernel
theorem d_LA_law_646 : decode code 646 = .ok (.iconst 0, 1) := by decide +kernel
theorem d_LA_law_647 : decode code 647 = .ok (.laload, 1) := by decide +kernel
theorem d_LA_law_648 : decode code 648 = .ok (.iload 6, 2) := by decide +kernel
theorem d_LA_law_650 : decode code 650 = .ok (.i2l, 1) := by decide +kernel
theorem d_LA_law_651 : decode code 651 = .ok (.lcmp, 1) := by decide +kernel
theorem d_LA_law_652 : decode code 652 = .ok (.ifCond .eq 5, 3) := by decide +kernel
theorem d_LA_law_655 : decode code 655 = .ok (.iconst 0, 1) := by decide +kernel
theorem d_LA_law_656 : decode code 656 = .ok (.ireturn, 1) := by decide +kernel
theorem d_LA_law_657 : decode code 657 = .ok (.goto 380, 3) := by decide +kernel
theorem d_LA_law_660 : decode code 660 = .ok (.aload_n 1, 1) := by decide +kernel
theorem d_LA_law_661 : decode code 661 = .ok (.aload_n 0, 1) := by decide +kernel
theorem d_LA_law_662 : decode code 662 = .ok (.iload 4, 2) := by decide +kernel
theorem d_LA_law_664 : decode code 664 = .ok (.iconst 1, 1) := by decide +kernel
theorem d_LA_law_665 : decode code 665 = .ok (.iadd, 1) := by decide +kernel
theorem d_LA_law_666 : decode code 666 = .ok (.iaload, 1) := by decide +kernel
theorem d_LA_law_667 : decode code 667 = .ok (.aload_n 0, 1) := by decide +kernel
theorem d_LA_law_668 : decode code 668 = .ok (.iload 4, 2) := by decide +kernel
theorem d_LA_law_670 : decode code 670 = .ok (.iconst 2, 1) := by decide +kernel
theorem d_LA_law_671 : decode code 671 = .ok (.iadd, 1) := by decide +kernel
theorem d_LA_law_672 : decode code 672 = .ok (.iaload, 1) := by decide +kernel
theorem d_LA_law_673 : decode code 673 = .ok (.aload_n 0, 1) := by decide +kernel
theorem d_LA_law_674 : decode code 674 = .ok (.iload 4, 2) := by decide +kernel
theorem d_LA_law_676 : decode code 676 = .ok (.iconst 3, 1) := by decide +kernel
theorem d_LA_law_677 : decode code 677 = .ok (.iadd, 1) := by decide +kernel
theorem d_LA_law_678 : decode code 678 = .ok (.iaload, 1) := by decide +kernel
theorem d_LA_law_679 : decode code 679 = .ok (.aload_n 0, 1) := by decide +kernel
theorem d_LA_law_680 : decode code 680 = .ok (.iload 4, 2) := by decide +kernel
theorem d_LA_law_682 : decode code 682 = .ok (.iconst 4, 1) := by decide +kernel
theorem d_LA_law_683 : decode code 683 = .ok (.iadd, 1) := by decide +kernel
theorem d_LA_law_684 : decode code 684 = .ok (.iaload, 1) := by decide +kernel
theorem d_LA_law_685 : decode code 685 = .ok (.aload_n 0, 1) := by decide +kernel
theorem d_LA_law_686 : decode code 686 = .ok (.iload 4, 2) := by decide +kernel
theorem d_LA_law_688 : decode code 688 = .ok (.iconst 5, 1) := by decide +kernel
theorem d_LA_law_689 : decode code 689 = .ok (.iadd, 1) := by decide +kernel
theorem d_LA_law_690 : decode code 690 = .ok (.iaload, 1) := by decide +kernel
theorem d_LA_law_691 : decode code 691 = .ok (.aload_n 3, 1) := by decide +kernel
theorem d_LA_law_692 : decode code 692 = .ok (.invokestatic 99, 3) := by decide +kernel
theorem d_LA_law_695 : decode code 695 = .ok (.istore 5, 2) := by decide +kernel
theorem d_LA_law_697 : decode code 697 = .ok (.aload_n 2, 1) := by decide +kernel
theorem d_LA_law_698 : decode code 698 = .ok (.aload_n 0, 1) := by decide +kernel
theorem d_LA_law_699 : decode code 699 = .ok (.iload 4, 2) := by decide +kernel
theorem d_LA_law_701 : decode code 701 = .ok (.iconst 1, 1) := by decide +kernel
theorem d_LA_law_702 : decode code 702 = .ok (.iadd, 1) := by decide +kernel
theorem d_LA_law_703 : decode code 703 = .ok (.iaload, 1) := by decide +kernel
theorem d_LA_law_704 : decode code 704 = .ok (.aload_n 0, 1) := by decide +kernel
theorem d_LA_law_705 : decode code 705 = .ok (.iload 4, 2) := by decide +kernel
theorem d_LA_law_707 : decode code 707 = .ok (.iconst 2, 1) := by decide +kernel
theorem d_LA_law_708 : decode code 708 = .ok (.iadd, 1) := by decide +kernel
theorem d_LA_law_709 : decode code 709 = .ok (.iaload, 1) := by decide +kernel
theorem d_LA_law_710 : decode code 710 = .ok (.aload_n 0, 1) := by decide +kernel
theorem d_LA_law_711 : decode code 711 = .ok (.iload 4, 2) := by decide +kernel
theorem d_LA_law_713 : decode code 713 = .ok (.iconst 3, 1) := by decide +kernel
theorem d_LA_law_714 : decode code 714 = .ok (.iadd, 1) := by decide +kernel
theorem d_LA_law_715 : decode code 715 = .ok (.iaload, 1) := by decide +kernel
theorem d_LA_law_716 : decode code 716 = .ok (.aload_n 0, 1) := by decide +kernel
theorem d_LA_law_717 : decode code 717 = .ok (.iload 4, 2) := by decide +kernel
theorem d_LA_law_719 : decode code 719 = .ok (.iconst 4, 1) := by decide +kernel
theorem d_LA_law_720 : decode code 720 = .ok (.iadd, 1) := by decide +kernel
theorem d_LA_law_721 : decode code 721 = .ok (.iaload, 1) := by decide +kernel
theorem d_LA_law_722 : decode code 722 = .ok (.aload_n 0, 1) := by decide +kernel
theorem d_LA_law_723 : decode code 723 = .ok (.iload 4, 2) := by decide +kernel
theorem d_LA_law_725 : decode code 725 = .ok (.iconst 5, 1) := by decide +kernel
theorem d_LA_law_726 : decode code 726 = .ok (.iadd, 1) := by decide +kernel
theorem d_LA_law_727 : decode code 727 = .ok (.iaload, 1) := by decide +kernel
theorem d_LA_law_728 : decode code 728 = .ok (.invokevirtual 102, 3) := by decide +kernel
theorem d_LA_law_731 : decode code 731 = .ok (.istore 6, 2) := by decide +kernel
theorem d_LA_law_733 : decode code 733 = .ok (.aload_n 2, 1) := by decide +kernel
theorem d_LA_law_734 : decode code 734 = .ok (.invokevirtual 71, 3) := by decide +kernel
theorem d_LA_law_737 : decode code 737 = .ok (.iload 5, 2) := by decide +kernel
theorem d_LA_law_739 : decode code 739 = .ok (.if_icmp .eq 5, 3) := by decide +kernel
theorem d_LA_law_742 : decode code 742 = .ok (.iconst 0, 1) := by decide +kernel
theorem d_LA_law_743 : decode code 743 = .ok (.ireturn, 1) := by decide +kernel
theorem d_LA_law_744 : decode code 744 = .ok (.iload 5, 2) := by decide +kernel
theorem d_LA_law_746 : decode code 746 = .ok (.ifCond .ne 15, 3) := by decide +kernel
theorem d_LA_law_749 : decode code 749 = .ok (.aload_n 3, 1) := by decide +kernel
theorem d_LA_law_750 : decode code 750 = .ok (.iconst 0, 1) := by decide +kernel
theorem d_LA_law_751 : decode code 751 = .ok (.laload, 1) := by decide +kernel
theorem d_LA_law_752 : decode code 752 = .ok (.iload 6, 2) := by decide +kernel
theorem d_LA_law_754 : decode code 754 = .ok (.i2l, 1) := by decide +kernel
theorem d_LA_law_755 : decode code 755 = .ok (.lcmp, 1) := by decide +kernel
theorem d_LA_law_756 : decode code 756 = .ok (.ifCond .eq 5, 3) := by decide +kernel
theorem d_LA_law_759 : decode code 759 = .ok (.iconst 0, 1) := by decide +kernel
theorem d_LA_law_760 : decode code 760 = .ok (.ireturn, 1) := by decide +kernel
theorem d_LA_law_761 : decode code 761 = .ok (.goto 276, 3) := by decide +kernel
theorem d_LA_law_764 : decode code 764 = .ok (.aload_n 1, 1) := by decide +kernel
theorem d_LA_law_765 : decode code 765 = .ok (.aload_n 0, 1) := by decide +kernel
theorem d_LA_law_766 : decode code 766 = .ok (.iload 4, 2) := by decide +kernel
theorem d_LA_law_768 : decode code 768 = .ok (.iconst 1, 1) := by decide +kernel
theorem d_LA_law_769 : decode code 769 = .ok (.iadd, 1) := by decide +kernel
theorem d_LA_law_770 : decode code 770 = .ok (.iaload, 1) := by decide +kernel
theorem d_LA_law_771 : decode code 771 = .ok (.aload_n 0, 1) := by decide +kernel
theorem d_LA_law_772 : decode code 772 = .ok (.iload 4, 2) := by decide +kernel
theorem d_LA_law_774 : decode code 774 = .ok (.iconst 2, 1) := by decide +kernel
theorem d_LA_law_775 : decode code 775 = .ok (.iadd, 1) := by decide +kernel
theorem d_LA_law_776 : decode code 776 = .ok (.iaload, 1) := by decide +kernel
theorem d_LA_law_777 : decode code 777 = .ok (.aload_n 3, 1) := by decide +kernel
theorem d_LA_law_778 : decode code 778 = .ok (.invokestatic 103, 3) := by decide +kernel
theorem d_LA_law_781 : decode code 781 = .ok (.istore 5, 2) := by decide +kernel
theorem d_LA_law_783 : decode code 783 = .ok (.aload_n 2, 1) := by decide +kernel
theorem d_LA_law_784 : decode code 784 = .ok (.aload_n 0, 1) := by decide +kernel
theorem d_LA_law_785 : decode code 785 = .ok (.iload 4, 2) := by decide +kernel
theorem d_LA_law_787 : decode code 787 = .ok (.iconst 1, 1) := by decide +kernel
theorem d_LA_law_788 : decode code 788 = .ok (.iadd, 1) := by decide +kernel
theorem d_LA_law_789 : decode code 789 = .ok (.iaload, 1) := by decide +kernel
theorem d_LA_law_790 : decode code 790 = .ok (.aload_n 0, 1) := by decide +kernel
theorem d_LA_law_791 : decode code 791 = .ok (.iload 4, 2) := by decide +kernel
theorem d_LA_law_793 : decode code 793 = .ok (.iconst 2, 1) := by decide +kernel
theorem d_LA_law_794 : decode code 794 = .ok (.iadd, 1) := by decide +kernel
theorem d_LA_law_795 : decode code 795 = .ok (.iaload, 1) := by decide +kernel
theorem d_LA_law_796 : decode code 796 = .ok (.invokevirtual 106, 3) := by decide +kernel
theorem d_LA_law_799 : decode code 799 = .ok (.istore 6, 2) := by decide +kernel
theorem d_LA_law_801 : decode code 801 = .ok (.aload_n 2, 1) := by decide +kernel
theorem d_LA_law_802 : decode code 802 = .ok (.invokevirtual 71, 3) := by decide +kernel
theorem d_LA_law_805 : decode code 805 = .ok (.iload 5, 2) := by decide +kernel
theorem d_LA_law_807 : decode code 807 = .ok (.if_icmp .eq 5, 3) := by decide +kernel
theorem d_LA_law_810 : decode code 810 = .ok (.iconst 0, 1) := by decide +kernel
theorem d_LA_law_811 : decode code 811 = .ok (.ireturn, 1) := by decide +kernel
theorem d_LA_law_812 : decode code 812 = .ok (.iload 5, 2) := by decide +kernel
theorem d_LA_law_814 : decode code 814 = .ok (.ifCond .ne 15, 3) := by decide +kernel
theorem d_LA_law_817 : decode code 817 = .ok (.aload_n 3, 1) := by decide +kernel
theorem d_LA_law_818 : decode code 818 = .ok (.iconst 0, 1) := by decide +kernel
theorem d_LA_law_819 : decode code 819 = .ok (.laload, 1) := by decide +kernel
theorem d_LA_law_820 : decode code 820 = .ok (.iload 6, 2) := by decide +kernel
theorem d_LA_law_822 : decode code 822 = .ok (.i2l, 1) := by decide +kernel
theorem d_LA_law_823 : decode code 823 = .ok (.lcmp, 1) := by decide +kernel
theorem d_LA_law_824 : decode code 824 = .ok (.ifCond .eq 5, 3) := by decide +kernel
theorem d_LA_law_827 : decode code 827 = .ok (.iconst 0, 1) := by decide +kernel
