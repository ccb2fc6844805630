theorem d_L_law_520 : decode code 520 = .ok (.iload 6, 2) := by decide +kernel
theorem d_L_law_522 : decode code 522 = .ok (.ifCond .eq 7, 3) := by decide +kernel
theorem d_L_law_525 : decode code 525 = .ok (.lconst 1, 1) := by decide +kernel
theorem d_L_law_526 : decode code 526 = .ok (.goto 4, 3) := by decide +kernel
theorem d_L_law_529 : decode code 529 = .ok (.lconst 0, 1) := by decide +kernel
theorem d_L_law_530 : decode code 530 = .ok (.lcmp, 1) := by decide +kernel
theorem d_L_law_531 : decode code 531 = .ok (.ifCond .eq 5, 3) := by decide +kernel
theorem d_L_law_534 : decode code 534 = .ok (.iconst 0, 1) := by decide +kernel
theorem d_L_law_535 : decode code 535 = .ok (.ireturn, 1) := by decide +kernel
theorem d_L_law_536 : decode code 536 = .ok (.goto 425, 3) := by decide +kernel
theorem d_L_law_539 : decode code 539 = .ok (.aload_n 1, 1) := by decide +kernel
theorem d_L_law_540 : decode code 540 = .ok (.aload_n 3, 1) := by decide +kernel
theorem d_L_law_541 : decode code 541 = .ok (.invokestatic 102, 3) := by decide +kernel
theorem d_L_law_544 : decode code 544 = .ok (.istore 5, 2) := by decide +kernel
theorem d_L_law_546 : decode code 546 = .ok (.aload_n 2, 1) := by decide +kernel
theorem d_L_law_547 : decode code 547 = .ok (.invokevirtual 105, 3) := by decide +kernel
theorem d_L_law_550 : decode code 550 = .ok (.lstore 6, 2) := by decide +kernel
theorem d_L_law_552 : decode code 552 = .ok (.aload_n 2, 1) := by decide +kernel
theorem d_L_law_553 : decode code 553 = .ok (.invokevirtual 79, 3) := by decide +kernel
theorem d_L_law_556 : decode code 556 = .ok (.iload 5, 2) := by decide +kernel
theorem d_L_law_558 : decode code 558 = .ok (.if_icmp .eq 5, 3) := by decide +kernel
theorem d_L_law_561 : decode code 561 = .ok (.iconst 0, 1) := by decide +kernel
theorem d_L_law_562 : decode code 562 = .ok (.ireturn, 1) := by decide +kernel
theorem d_L_law_563 : decode code 563 = .ok (.iload 5, 2) := by decide +kernel
theorem d_L_law_565 : decode code 565 = .ok (.ifCond .ne 14, 3) := by decide +kernel
theorem d_L_law_568 : decode code 568 = .ok (.aload_n 3, 1) := by decide +kernel
theorem d_L_law_569 : decode code 569 = .ok (.iconst 0, 1) := by decide +kernel
theorem d_L_law_570 : decode code 570 = .ok (.laload, 1) := by decide +kernel
theorem d_L_law_571 : decode code 571 = .ok (.lload 6, 2) := by decide +kernel
theorem d_L_law_573 : decode code 573 = .ok (.lcmp, 1) := by decide +kernel
theorem d_L_law_574 : decode code 574 = .ok (.ifCond .eq 5, 3) := by decide +kernel
theorem d_L_law_577 : decode code 577 = .ok (.iconst 0, 1) := by decide +kernel
theorem d_L_law_578 : decode code 578 = .ok (.ireturn, 1) := by decide +kernel
theorem d_L_law_579 : decode code 579 = .ok (.goto 382, 3) := by decide +kernel
theorem d_L_law_582 : decode code 582 = .ok (.aload_n 1, 1) := by decide +kernel
theorem d_L_law_583 : decode code 583 = .ok (.aload_n 0, 1) := by decide +kernel
theorem d_L_law_584 : decode code 584 = .ok (.iload 4, 2) := by decide +kernel
theorem d_L_law_586 : decode code 586 = .ok (.iconst 1, 1) := by decide +kernel
theorem d_L_law_587 : decode code 587 = .ok (.iadd, 1) := by decide +kernel
theorem d_L_law_588 : decode code 588 = .ok (.iaload, 1) := by decide +kernel
theorem d_L_law_589 : decode code 589 = .ok (.aload_n 3, 1) := by decide +kernel
theorem d_L_law_590 : decode code 590 = .ok (.invokestatic 106, 3) := by decide +kernel
theorem d_L_law_593 : decode code 593 = .ok (.istore 5, 2) := by decide +kernel
theorem d_L_law_595 : decode code 595 = .ok (.aload_n 2, 1) := by decide +kernel
theorem d_L_law_596 : decode code 596 = .ok (.aload_n 0, 1) := by decide +kernel
theorem d_L_law_597 : decode code 597 = .ok (.iload 4, 2) := by decide +kernel
theorem d_L_law_599 : decode code 599 = .ok (.iconst 1, 1) := by decide +kernel
theorem d_L_law_600 : decode code 600 = .ok (.iadd, 1) := by decide +kernel
theorem d_L_law_601 : decode code 601 = .ok (.iaload, 1) := by decide +kernel
theorem d_L_law_602 : decode code 602 = .ok (.invokevirtual 108, 3) := by decide +kernel
theorem d_L_law_605 : decode code 605 = .ok (.istore 6, 2) := by decide +kernel
theorem d_L_law_607 : decode code 607 = .ok (.aload_n 2, 1) := by decide +kernel
theorem d_L_law_608 : decode code 608 = .ok (.invokevirtual 79, 3) := by decide +kernel
theorem d_L_law_611 : decode code 611 = .ok (.iload 5, 2) := by decide +kernel
theorem d_L_law_613 : decode code 613 = .ok (.if_icmp .eq 5, 3) := by decide +kernel
theorem d_L_law_616 : decode code 616 = .ok (.iconst 0, 1) := by decide +kernel
theorem d_L_law_617 : decode code 617 = .ok (.ireturn, 1) := by decide +kernel
theorem d_L_law_618 : decode code 618 = .ok (.iload 5, 2) := by decide +kernel
theorem d_L_law_620 : decode code 620 = .ok (.ifCond .ne 15, 3) := by decide +kernel
theorem d_L_law_623 : decode code 623 = .ok (.aload_n 3, 1) := by decide +kernel
theorem d_L_law_624 : decode code 624 = .ok (.iconst 0, 1) := by decide +kernel
theorem d_L_law_625 : decode code 625 = .ok (.laload, 1) := by decide +kernel
theorem d_L_law_626 : decode code 626 = .ok (.iload 6, 2) := by decide +kernel
theorem d_L_law_628 : decode code 628 = .ok (.i2l, 1) := by decide +kernel
theorem d_L_law_629 : decode code 629 = .ok (.lcmp, 1) := by decide +kernel
theorem d_L_law_630 : decode code 630 = .ok (.ifCond .eq 5, 3) := by decide +kernel
theorem d_L_law_633 : decode code 633 = .ok (.iconst 0, 1) := by decide +kernel
theorem d_L_law_634 : decode code 634 = .ok (.ireturn, 1) := by decide +kernel
theorem d_L_law_635 : decode code 635 = .ok (.goto 326, 3) := by decide +kernel
theorem d_L_law_638 : decode code 638 = .ok (.aload_n 1, 1) := by decide +kernel
theorem d_L_law_639 : decode code 639 = .ok (.aload_n 0, 1) := by decide +kernel
theorem d_L_law_640 : decode code 640 = .ok (.iload 4, 2) := by decide +kernel
theorem d_L_law_642 : decode code 642 = .ok (.iconst 1, 1) := by decide +kernel
theorem d_L_law_643 : decode code 643 = .ok (.iadd, 1) := by decide +kernel
theorem d_L_law_644 : decode code 644 = .ok (.iaload, 1) := by decide +kernel
theorem d_L_law_645 : decode code 645 = .ok (.aload_n 3, 1) := by decide +kernel
theorem d_L_law_646 : decode code 646 = .ok (.invokestatic 109, 3) := by decide +kernel
theorem d_L_law_649 : decode code 649 = .ok (.istore 5, 2) := by decide +kernel
theorem d_L_law_651 : decode code 651 = .ok (.aload_n 2, 1) := by decide +kernel
theorem d_L_law_652 : decode code 652 = .ok (.aload_n 0, 1) := by decide +kernel
theorem d_L_law_653 : decode code 653 = .ok (.iload 4, 2) := by decide +kernel
theorem d_L_law_655 : decode code 655 = .ok (.iconst 1, 1) := by decide +kernel
theorem d_L_law_656 : decode code 656 = .ok (.iadd, 1) := by decide +kernel
theorem d_L_law_657 : decode code 657 = .ok (.iaload, 1) := by decide +kernel
theorem d_L_law_658 : decode code 658 = .ok (.invokevirtual 111, 3) := by decide +kernel
theorem d_L_law_661 : decode code 661 = .ok (.lstore 6, 2) := by decide +kernel
theorem d_L_law_663 : decode code 663 = .ok (.aload_n 2, 1) := by decide +kernel
theorem d_L_law_664 : decode code 664 = .ok (.invokevirtual 79, 3) := by decide +kernel
theorem d_L_law_667 : decode code 667 = .ok (.iload 5, 2) := by decide +kernel
theorem d_L_law_669 : decode code 669 = .ok (.if_icmp .eq 5, 3) := by decide +kernel
theorem d_L_law_672 : decode code 672 = .ok (.iconst 0, 1) := by decide +kernel
theorem d_L_law_673 : decode code 673 = .ok (.ireturn, 1) := by decide +kernel
theorem d_L_law_674 : decode code 674 = .ok (.iload 5, 2) := by decide +kernel
theorem d_L_law_676 : decode code 676 = .ok (.ifCond .ne 14, 3) := by decide +kernel
theorem d_L_law_679 : decode code 679 = .ok (.aload_n 3, 1) := by decide +kernel
theorem d_L_law_680 : decode code 680 = .ok (.iconst 0, 1) := by decide +kernel
theorem d_L_law_681 : decode code 681 = .ok (.laload, 1) := by decide +kernel
theorem d_L_law_682 : decode code 682 = .ok (.lload 6, 2) := by decide +kernel
theorem d_L_law_684 : decode code 684 = .ok (.lcmp, 1) := by decide +kernel
theorem d_L_law_685 : decode code 685 = .ok (.ifCond .eq 5, 3) := by decide +kernel
theorem d_L_law_688 : decode code 688 = .ok (.iconst 0, 1) := by decide +kernel
theorem d_L_law_689 : decode code 689 = .ok (.ireturn, 1) := by decide +kernel
theorem d_L_law_690 : decode code 690 = .ok (.goto 271, 3) := by decide +kernel
theorem d_L_law_693 : decode code 693 = .ok (.aload_n 1, 1) := by decide +kernel
theorem d_L_law_694 : decode code 694 = .ok (.aload_n 3, 1) := by decide +kernel
theorem d_L_law_695 : decode code 695 = .ok (.invokestatic 112, 3) := by decide +kernel
theorem d_L_law_698 : decode code 698 = .ok (.istore 5, 2) := by decide +kernel
theorem d_L_law_700 : decode code 700 = .ok (.aload_n 2, 1) := by decide +kernel
theorem d_L_law_701 : decode code 701 = .ok (.invokevirtual 114, 3) := by decide +kernel
theorem d_L_law_704 : decode code 704 = .ok (.istore 6, 2) := by decide +kernel
theorem d_L_law_706 : decode code 706 = .ok (.aload_n 2, 1) := by decide +kernel
theorem d_L_law_707 : decode code 707 = .ok (.invokevirtual 79, 3) := by decide +kernel
theorem d_L_law_710 : decode code 710 = .ok (.iload 5, 2) := by decide +kernel
theorem d_L_law_712 : decode code 712 = .ok (.if_icmp .eq 5, 3) := by decide +kernel
theorem d_L_law_715 : decode code 715 = .ok (.iconst 0, 1) := by decide +kernel
theorem d_L_law_716 : decode code 716 = .ok (.ireturn, 1) := by decide +kernel
theorem d_L_law_717 : decode code 717 = .ok (.iload 5, 2) := by decide +kernel
theorem d_L_law_719 : decode code 719 = .ok (.ifCond .ne 15, 3) := by decide +kernel
theorem d_L_law_722 : decode code 722 = .ok (.aload_n 3, 1) := by decide +kernel
theorem d_L_law_723 : decode code 723 = .ok (.iconst 0, 1) := by decide +kernel
theorem d_L_law_724 : decode code 724 = .ok (.laload, 1) := by decide +kernel
theorem d_L_law_725 : decode code 725 = .ok (.iload 6, 2) := by decide +kernel
theorem d_L_law_727 : decode code 727 = .ok (.i2l, 1) := by decide +kernel
theorem d_L_law_728 : decode code 728 = .ok (.lcmp, 1) := by decide +kernel
theorem d_L_law_729 : decode code 729 = .ok (.ifCond .eq 5, 3) := by decide +kernel
theorem d_L_law_732 : decode code 732 = .ok (.iconst 0, 1) := by decide +kernel
theorem d_L_law_733 : decode code 733 = .ok (.ireturn, 1) := by decide +kernel
theorem d_L_law_734 : decode code 734 = .ok (.goto 227, 3) := by decide +kernel
theorem d_L_law_737 : decode code 737 = .ok (.aload_n 1, 1) := by decide +kernel
theorem d_L_law_738 : decode code 738 = .ok (.aload_n 0, 1) := by decide +kernel
theorem d_L_law_739 : decode code 739 = .ok (.iload 4, 2) := by decide +kernel
theorem d_L_law_741 : decode code 741 = .ok (.iconst 1, 1) := by decide +kernel
theorem d_L_law_742 : decode code 742 = .ok (.iadd, 1) := by decide +kernel
theorem d_L_law_743 : decode code 743 = .ok (.iaload, 1) := by decide +kernel
theorem d_L_law_744 : decode code 744 = .ok (.aload_n 3, 1) := by decide +kernel
theorem d_L_law_745 : decode code 745 = .ok (.invokestatic 115, 3) := by decide +kernel
theorem d_L_law_748 : decode code 748 = .ok (.istore 5, 2) := by decide +kernel
theorem d_L_law_750 : decode code 750 = .ok (.aload_n 2, 1) := by decide +kernel
theorem d_L_law_751 : decode code 751 = .ok (.aload_n 0, 1) := by decide +kernel
theorem d_L_law_752 : decode code 752 = .ok (.iload 4, 2) := by decide +kernel
theorem d_L_law_754 : decode code 754 = .ok (.iconst 1, 1) := by decide +kernel
theorem d_L_law_755 : decode code 755 = .ok (.iadd, 1) := by decide +kernel
theorem d_L_law_756 : decode code 756 = .ok (.iaload, 1) := by decide +kernel
theorem d_L_law_757 : decode code 757 = .ok (.invokevirtual 117, 3) := by decide +kernel
theorem d_L_law_760 : decode code 760 = .ok (.istore 6, 2) := by decide +kernel
theorem d_L_law_762 : decode code 762 = .ok (.aload_n 2, 1) := by decide +kernel
theorem d_L_law_763 : decode code 763 = .ok (.invokevirtual 79, 3) := by decide +kernel
theorem d_L_law_766 : decode code 766 = .ok (.iload 5, 2) := by decide +kernel
theorem d_L_law_768 : decode code 768 = .ok (.if_icmp .eq 5, 3) := by decide +kernel
theorem d_L_law_771 : decode code 771 = .ok (.iconst 0, 1) := by decide +kernel
theorem d_L_law_772 : decode code 772 = .ok (.ireturn, 1) := by decide +kernel
theorem d_L_law_773 : decode code 773 = .ok (.iload 5, 2) := by decide +kernel
theorem d_L_law_775 : decode code 775 = .ok (.ifCond .ne 15, 3) := by decide +kernel
theorem d_L_law_778 : decode code 778 = .ok (.aload_n 3, 1) := by decide +kernel
theorem d_L_law_779 : decode code 779 = .ok (.iconst 0, 1) := by decide +kernel
theorem d_L_law_780 : decode code 780 = .ok (.laload, 1) := by decide +kernel
theorem d_L_law_781 : decode code 781 = .ok (.iload 6, 2) := by decide +kernel
theorem d_L_law_783 : decode code 783 = .ok (.i2l, 1) := by decide +kernel
theorem d_L_law_784 : decode code 784 = .ok (.lcmp, 1) := by decide +kernel
theorem d_L_law_785 : decode code 785 = .ok (.ifCond .eq 5, 3) := by decide +kernel
theorem d_L_law_788 : decode code 788 = .ok (.iconst 0, 1) := by decide +kernel
theorem d_L_law_789 : decode code 789 = .ok (.ireturn, 1) := by decide +kernel
theorem d_L_law_790 : decode code 790 = .ok (.goto 171, 3) := by decide +kernel
theorem d_L_law_793 : decode code 793 = .ok (.aload_n 1, 1) := by decide +kernel
theorem d_L_law_794 : decode code 794 = .ok (.aload_n 0, 1) := by decide +kernel
theorem d_L_law_795 : decode code 795 = .ok (.iload 4, 2) := by decide +kernel
theorem d_L_law_797 : decode code 797 = .ok (.iconst 1, 1) := by decide +kernel
theorem d_L_law_798 : decode code 798 = .ok (.iadd, 1) := by decide +kernel
theorem d_L_law_799 : decode code 799 = .ok (.iaload, 1) := by decide +kernel
theorem d_L_law_800 : decode code 800 = .ok (.aload_n 0, 1) := by decide +kernel
theorem d_L_law_801 : decode code 801 = .ok (.iload 4, 2) := by decide +kernel
theorem d_L_law_803 : decode code 803 = .ok (.iconst 2, 1) := by decide +kernel
theorem d_L_law_804 : decode code 804 = .ok (.iadd, 1) := by decide +kernel
theorem d_L_law_805 : decode code 805 = .ok (.iaload, 1) := by decide +kernel
theorem d_L_law_806 : decode code 806 = .ok (.aload_n 3, 1) := by decide +kernel
theorem d_L_law_807 : decode code 807 = .ok (.invokestatic 118, 3) := by decide +kernel
theorem d_L_law_810 : decode code 810 = .ok (.istore 5, 2) := by decide +kernel
theorem d_L_law_812 : decode code 812 = .ok (.aload_n 2, 1) := by decide +kernel
theorem d_L_law_813 : decode code 813 = .ok (.aload_n 0, 1) := by decide +kernel
theorem d_L_law_814 : decode code 814 = .ok (.iload 4, 2) := by decide +kernel
theorem d_L_law_816 : decode code 816 = .ok (.iconst 1, 1) := by decide +kernel
theorem d_L_law_817 : decode code 817 = .ok (.iadd, 1) := by decide +kernel
theorem d_L_law_818 : decode code 818 = .ok (.iaload, 1) := by decide +kernel
theorem d_L_law_819 : decode code 819 = .ok (.aload_n 0, 1) := by decide +kernel
theorem d_L_law_820 : decode code 820 = .ok (.iload 4, 2) := by decide +kernel
theorem d_L_law_822 : decode code 822 = .ok (.iconst 2, 1) := by decide +kernel
theorem d_L_law_823 : decode code 823 = .ok (.iadd, 1) := by decide +kernel
theorem d_L_law_824 : decode code 824 = .ok (.iaload, 1) := by decide +kernel
theorem d_L_law_825 : decode code 825 = .ok (.invokevirtual 120, 3) := by decide +kernel
theorem d_L_law_828 : decode code 828 = .ok (.istore 6, 2) := by decide +kernel
theorem d_L_law_830 : decode code 830 = .ok (.aload_n 2, 1) := by decide +kernel
theorem d_L_law_831 : decode code 831 = .ok (.invokevirtual 79, 3) := by decide +kernel
theorem d_L_law_834 : decode code 834 = .ok (.iload 5, 2) := by decide +kernel
theorem d_L_law_836 : decode code 836 = .ok (.if_icmp .eq 5, 3) := by decide +kernel
theorem d_L_law_839 : decode code 839 = .ok (.iconst 0, 1) := by decide +kernel
theorem d_L_law_840 : decode code 840 = .ok (.ireturn, 1) := by decide +kernel
theorem d_L_law_841 : decode code 841 = .ok (.iload 5, 2) := by decide +kernel
theorem d_L_law_843 : decode code 843 = .ok (.ifCond .ne 15, 3) := by decide +kernel
theorem d_L_law_846 : decode code 846 = .ok (.aload_n 3, 1) := by decide +kernel
theorem d_L_law_847 : decode code 847 = .ok (.iconst 0, 1) := by decide +kernel
theorem d_L_law_848 : decode code 848 = .ok (.laload, 1) := by decide +kernel
theorem d_L_law_849 : decode code 849 = .ok (.iload 6, 2) := by decide +kernel
theorem d_L_law_851 : decode code 851 = .ok (.i2l, 1) := by decide +kernel
theorem d_L_law_852 : decode code 852 = .ok (.lcmp, 1) := by decide +kernel
theorem d_L_law_853 : decode code 853 = .ok (.ifCond .eq 5, 3) := by decide +kernel
theorem d_L_law_856 : decode code 856 = .ok (.iconst 0, 1) := by decide +kernel
theorem d_L_law_857 : decode code 857 = .ok (.ireturn, 1) := by decide +kernel
theorem d_L_law_858 : decode code 858 = .ok (.goto 103, 3) := by decide +kernel
theorem d_L_law_861 : decode code 861 = .ok (.aload_n 1, 1) := by decide +kernel
theorem d_L_law_862 : decode code 862 = .ok (.aload_n 0, 1) := by decide +kernel
theorem d_L_law_863 : decode code 863 = .ok (.iload 4, 2) := by decide +kernel
theorem d_L_law_865 : decode code 865 = .ok (.iconst 1, 1) := by decide +kernel
theorem d_L_law_866 : decode code 866 = .ok (.iadd, 1) := by decide +kernel
theorem d_L_law_867 : decode code 867 = .ok (.iaload, 1) := by decide +kernel
theorem d_L_law_868 : decode code 868 = .ok (.aload_n 3, 1) := by decide +kernel
theorem d_L_law_869 : decode code 869 = .ok (.invokestatic 121, 3) := by decide +kernel
theorem d_L_law_872 : decode code 872 = .ok (.istore 5, 2) := by decide +kernel
theorem d_L_law_874 : decode code 874 = .ok (.aload_n 2, 1) := by decide +kernel
theorem d_L_law_875 : decode code 875 = .ok (.aload_n 0, 1) := by decide +kernel
theorem d_L_law_876 : decode code 876 = .ok (.iload 4, 2) := by decide +kernel
theorem d_L_law_878 : decode code 878 = .ok (.iconst 1, 1) := by decide +kernel
theorem d_L_law_879 : decode code 879 = .ok (.iadd, 1) := by decide +kernel
theorem d_L_law_880 : decode code 880 = .ok (.iaload, 1) := by decide +kernel
theorem d_L_law_881 : decode code 881 = .ok (.invokevirtual 123, 3) := by decide +kernel
theorem d_L_law_884 : decode code 884 = .ok (.istore 6, 2) := by decide +kernel
theorem d_L_law_886 : decode code 886 = .ok (.aload_n 2, 1) := by decide +kernel
theorem d_L_law_887 : decode code 887 = .ok (.invokevirtual 79, 3) := by decide +kernel
theorem d_L_law_890 : decode code 890 = .ok (.iload 5, 2) := by decide +kernel
theorem d_L_law_892 : decode code 892 = .ok (.if_icmp .eq 5, 3) := by decide +kernel
theorem d_L_law_895 : decode code 895 = .ok (.iconst 0, 1) := by decide +kernel
theorem d_L_law_896 : decode code 896 = .ok (.ireturn, 1) := by decide +kernel
theorem d_L_law_897 : decode code 897 = .ok (.iload 5, 2) := by decide +kernel
theorem d_L_law_899 : decode code 899 = .ok (.ifCond .ne 15, 3) := by decide +kernel
theorem d_L_law_902 : decode code 902 = .ok (.aload_n 3, 1) := by decide +kernel
theorem d_L_law_903 : decode code 903 = .ok (.iconst 0, 1) := by decide +kernel
theorem d_L_law_904 : decode code 904 = .ok (.laload, 1) := by decide +kernel
theorem d_L_law_905 : decode code 905 = .ok (.iload 6, 2) := by decide +kernel
theorem d_L_law_907 : decode code 907 = .ok (.i2l, 1) := by decide +kernel
theorem d_L_law_908 : decode code 908 = .ok (.lcmp, 1) := by decide +kernel
theorem d_L_law_909 : decode code 909 = .ok (.ifCond .eq 5, 3) := by decide +kernel
theorem d_L_law_912 : decode code 912 = .ok (.iconst 0, 1) := by decide +kernel
theorem d_L_law_913 : decode code 913 = .ok (.ireturn, 1) := by decide +kernel
theorem d_L_law_914 : decode code 914 = .ok (.goto 47, 3) := by decide +kernel
theorem d_L_law_917 : decode code 917 = .ok (.aload_n 1, 1) := by decide +kernel
theorem d_L_law_918 : decode code 918 = .ok (.aload_n 3, 1) := by decide +kernel
theorem d_L_law_919 : decode code 919 = .ok (.invokestatic 124, 3) := by decide +kernel
theorem d_L_law_922 : decode code 922 = .ok (.istore 5, 2) := by decide +kernel
theorem d_L_law_924 : decode code 924 = .ok (.aload_n 2, 1) := by decide +kernel
theorem d_L_law_925 : decode code 925 = .ok (.invokevirtual 126, 3) := by decide +kernel
theorem d_L_law_928 : decode code 928 = .ok (.istore 6, 2) := by decide +kernel
theorem d_L_law_930 : decode code 930 = .ok (.aload_n 2, 1) := by decide +kernel
theorem d_L_law_931 : decode code 931 = .ok (.invokevirtual 79, 3) := by decide +kernel
theorem d_L_law_934 : decode code 934 = .ok (.iload 5, 2) := by decide +kernel
theorem d_L_law_936 : decode code 936 = .ok (.if_icmp .eq 5, 3) := by decide +kernel
theorem d_L_law_939 : decode code 939 = .ok (.iconst 0, 1) := by decide +kernel
theorem d_L_law_940 : decode code 940 = .ok (.ireturn, 1) := by decide +kernel
theorem d_L_law_941 : decode code 941 = .ok (.iload 5, 2) := by decide +kernel
theorem d_L_law_943 : decode code 943 = .ok (.ifCond .ne 15, 3) := by decide +kernel
theorem d_L_law_946 : decode code 946 = .ok (.aload_n 3, 1) := by decide +kernel
theorem d_L_law_947 : decode code 947 = .ok (.iconst 0, 1) := by decide +kernel
theorem d_L_law_948 : decode code 948 = .ok (.laload, 1) := by decide +kernel
theorem d_L_law_949 : decode code 949 = .ok (.iload 6, 2) := by decide +kernel
theorem d_L_law_951 : decode code 951 = .ok (.i2l, 1) := by decide +kernel
theorem d_L_law_952 : decode code 952 = .ok (.lcmp, 1) := by decide +kernel
theorem d_L_law_953 : decode code 953 = .ok (.ifCond .eq 5, 3) := by decide +kernel
theorem d_L_law_956 : decode code 956 = .ok (.iconst 0, 1) := by decide +kernel
theorem d_L_law_957 : decode code 957 = .ok (.ireturn, 1) := by decide +kernel
theorem d_L_law_958 : decode code 958 = .ok (.goto 3, 3) := by decide +kernel
theorem d_L_law_961 : decode code 961 = .ok (.iinc 4 3, 3) := by decide +kernel
theorem d_L_law_964 : decode code 964 = .ok (.goto (-941), 3) := by decide +kernel
theorem d_L_law_967 : decode code 967 = .ok (.iconst 1, 1) := by decide +kernel
theorem d_L_law_968 : decode code 968 = .ok (.ireturn, 1) := by decide +kernel
theorem ml_L_69 : Cond.methodLink R_L 69 y_F_init ∈ WS := ws_t (List.mem_of_getElem? (i := 22) (by decide +kernel)) (by decide +kernel)
theorem ml_L_73 : Cond.methodLink R_L 73 y_L_event ∈ WS := ws_t (List.mem_of_getElem? (i := 187) (by decide +kernel)) (by decide +kernel)
theorem ml_L_82 : Cond.methodLink R_L 82 y_L_chance ∈ WS := ws_t (List.mem_of_getElem? (i := 293) (by decide +kernel)) (by decide +kernel)
theorem ml_L_86 : Cond.methodLink R_L 86 y_L_hold ∈ WS := ws_t (List.mem_of_getElem? (i := 309) (by decide +kernel)) (by decide +kernel)
theorem ml_L_89 : Cond.methodLink R_L 89 y_L_gate ∈ WS := ws_t (List.mem_of_getElem? (i := 317) (by decide +kernel)) (by decide +kernel)
theorem ml_L_92 : Cond.methodLink R_L 92 y_L_input ∈ WS := ws_t (List.mem_of_getElem? (i := 331) (by decide +kernel)) (by decide +kernel)
theorem ml_L_95 : Cond.methodLink R_L 95 y_L_top ∈ WS := ws_t (List.mem_of_getElem? (i := 396) (by decide +kernel)) (by decide +kernel)
theorem ml_L_99 : Cond.methodLink R_L 99 y_L_value ∈ WS := ws_t (List.mem_of_getElem? (i := 403) (by decide +kernel)) (by decide +kernel)
theorem ml_L_102 : Cond.methodLink R_L 102 y_L_odds ∈ WS := ws_t (List.mem_of_getElem? (i := 458) (by decide +kernel)) (by decide +kernel)
theorem ml_L_106 : Cond.methodLink R_L 106 y_L_digit ∈ WS := ws_t (List.mem_of_getElem? (i := 470) (by decide +kernel)) (by decide +kernel)
theorem ml_L_109 : Cond.methodLink R_L 109 y_L_weight ∈ WS := ws_t (List.mem_of_getElem? (i := 483) (by decide +kernel)) (by decide +kernel)
theorem ml_L_112 : Cond.methodLink R_L 112 y_L_nodes ∈ WS := ws_t (List.mem_of_getElem? (i := 490) (by decide +kernel)) (by decide +kernel)
theorem ml_L_115 : Cond.methodLink R_L 115 y_L_primes ∈ WS := ws_t (List.mem_of_getElem? (i := 506) (by decide +kernel)) (by decide +kernel)
theorem ml_L_118 : Cond.methodLink R_L 118 y_L_prime ∈ WS := ws_t (List.mem_of_getElem? (i := 567) (by decide +kernel)) (by decide +kernel)
theorem ml_L_121 : Cond.methodLink R_L 121 y_L_share ∈ WS := ws_t (List.mem_of_getElem? (i := 600) (by decide +kernel)) (by decide +kernel)
theorem ml_L_124 : Cond.methodLink R_L 124 y_L_modules ∈ WS := ws_t (List.mem_of_getElem? (i := 613) (by decide +kernel)) (by decide +kernel)
theorem ml_L_72 : Cond.methodLink R_L 72 y_M_init ∈ WS := ws_t (List.mem_of_getElem? (i := 630) (by decide +kernel)) (by decide +kernel)
theorem ml_L_79 : Cond.methodLink R_L 79 y_M_thrown ∈ WS := ws_t (List.mem_of_getElem? (i := 693) (by decide +kernel)) (by decide +kernel)
theorem ml_L_78 : Cond.methodLink R_L 78 y_M_event ∈ WS := ws_t (List.mem_of_getElem? (i := 697) (by decide +kernel)) (by decide +kernel)
theorem ml_L_85 : Cond.methodLink R_L 85 y_M_chance ∈ WS := ws_t (List.mem_of_getElem? (i := 701) (by decide +kernel)) (by decide +kernel)
theorem ml_L_88 : Cond.methodLink R_L 88 y_M_hold ∈ WS := ws_t (List.mem_of_getElem? (i := 709) (by decide +kernel)) (by decide +kernel)
theorem ml_L_91 : Cond.methodLink R_L 91 y_M_gate ∈ WS := ws_t (List.mem_of_getElem? (i := 713) (by decide +kernel)) (by decide +kernel)
theorem ml_L_94 : Cond.methodLink R_L 94 y_M_input ∈ WS := ws_t (List.mem_of_getElem? (i := 717) (by decide +kernel)) (by decide +kernel)
theorem ml_L_98 : Cond.methodLink R_L 98 y_M_top ∈ WS := ws_t (List.mem_of_getElem? (i := 733) (by decide +kernel)) (by decide +kernel)
theorem ml_L_101 : Cond.methodLink R_L 101 y_M_value ∈ WS := ws_t (List.mem_of_getElem? (i := 737) (by decide +kernel)) (by decide +kernel)
theorem ml_L_105 : Cond.methodLink R_L 105 y_M_odds ∈ WS := ws_t (List.mem_of_getElem? (i := 757) (by decide +kernel)) (by decide +kernel)
theorem ml_L_108 : Cond.methodLink R_L 108 y_M_digit ∈ WS := ws_t (List.mem_of_getElem? (i := 765) (by decide +kernel)) (by decide +kernel)
theorem ml_L_111 : Cond.methodLink R_L 111 y_M_weight ∈ WS := ws_t (List.mem_of_getElem? (i := 770) (by decide +kernel)) (by decide +kernel)
theorem ml_L_114 : Cond.methodLink R_L 114 y_M_nodes ∈ WS := ws_t (List.mem_of_getElem? (i := 774) (by decide +kernel)) (by decide +kernel)
theorem ml_L_117 : Cond.methodLink R_L 117 y_M_primes ∈ WS := ws_t (List.mem_of_getElem? (i := 786) (by decide +kernel)) (by decide +kernel)
theorem ml_L_120 : Cond.methodLink R_L 120 y_M_prime ∈ WS := ws_t (List.mem_of_getElem? (i := 828) (by decide +kernel)) (by decide +kernel)
theorem ml_L_123 : Cond.methodLink R_L 123 y_M_share ∈ WS := ws_t (List.mem_of_getElem? (i := 832) (by decide +kernel)) (by decide +kernel)
theorem ml_L_126 : Cond.methodLink R_L 126 y_M_modules ∈ WS := ws_t (List.mem_of_getElem? (i := 836) (by decide +kernel)) (by decide +kernel)
