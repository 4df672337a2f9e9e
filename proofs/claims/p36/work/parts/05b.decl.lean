theorem dL_globs_508 : decode cL_globs 508 = .ok (.iconst 3, 1) := by decide +kernel
theorem dL_globs_509 : decode cL_globs 509 = .ok (.invokestatic 131, 3) := by decide +kernel
theorem dL_globs_512 : decode cL_globs 512 = .ok (.iconst 3, 1) := by decide +kernel
theorem dL_globs_513 : decode cL_globs 513 = .ok (.if_icmp .ne 295, 3) := by decide +kernel
theorem dL_globs_516 : decode cL_globs 516 = .ok (.aload_n 0, 1) := by decide +kernel
theorem dL_globs_517 : decode cL_globs 517 = .ok (.bipush 42, 2) := by decide +kernel
theorem dL_globs_519 : decode cL_globs 519 = .ok (.bipush 42, 2) := by decide +kernel
theorem dL_globs_521 : decode cL_globs 521 = .ok (.bipush 46, 2) := by decide +kernel
theorem dL_globs_523 : decode cL_globs 523 = .ok (.bipush 46, 2) := by decide +kernel
theorem dL_globs_525 : decode cL_globs 525 = .ok (.bipush 46, 2) := by decide +kernel
theorem dL_globs_527 : decode cL_globs 527 = .ok (.bipush 46, 2) := by decide +kernel
theorem dL_globs_529 : decode cL_globs 529 = .ok (.bipush 46, 2) := by decide +kernel
theorem dL_globs_531 : decode cL_globs 531 = .ok (.bipush 46, 2) := by decide +kernel
theorem dL_globs_533 : decode cL_globs 533 = .ok (.invokestatic 121, 3) := by decide +kernel
theorem dL_globs_536 : decode cL_globs 536 = .ok (.ifCond .eq 272, 3) := by decide +kernel
theorem dL_globs_539 : decode cL_globs 539 = .ok (.aload_n 0, 1) := by decide +kernel
theorem dL_globs_540 : decode cL_globs 540 = .ok (.iconst 3, 1) := by decide +kernel
theorem dL_globs_541 : decode cL_globs 541 = .ok (.invokestatic 131, 3) := by decide +kernel
theorem dL_globs_544 : decode cL_globs 544 = .ok (.bipush 7, 2) := by decide +kernel
theorem dL_globs_546 : decode cL_globs 546 = .ok (.if_icmp .ne 262, 3) := by decide +kernel
theorem dL_globs_549 : decode cL_globs 549 = .ok (.aload_n 0, 1) := by decide +kernel
theorem dL_globs_550 : decode cL_globs 550 = .ok (.bipush 42, 2) := by decide +kernel
theorem dL_globs_552 : decode cL_globs 552 = .ok (.bipush 42, 2) := by decide +kernel
theorem dL_globs_554 : decode cL_globs 554 = .ok (.bipush 47, 2) := by decide +kernel
theorem dL_globs_556 : decode cL_globs 556 = .ok (.bipush 100, 2) := by decide +kernel
theorem dL_globs_558 : decode cL_globs 558 = .ok (.bipush 46, 2) := by decide +kernel
theorem dL_globs_560 : decode cL_globs 560 = .ok (.bipush 46, 2) := by decide +kernel
theorem dL_globs_562 : decode cL_globs 562 = .ok (.bipush 46, 2) := by decide +kernel
theorem dL_globs_564 : decode cL_globs 564 = .ok (.bipush 46, 2) := by decide +kernel
theorem dL_globs_566 : decode cL_globs 566 = .ok (.invokestatic 121, 3) := by decide +kernel
theorem dL_globs_569 : decode cL_globs 569 = .ok (.ifCond .eq 239, 3) := by decide +kernel
theorem dL_globs_572 : decode cL_globs 572 = .ok (.aload_n 0, 1) := by decide +kernel
theorem dL_globs_573 : decode cL_globs 573 = .ok (.iconst 3, 1) := by decide +kernel
theorem dL_globs_574 : decode cL_globs 574 = .ok (.invokestatic 131, 3) := by decide +kernel
theorem dL_globs_577 : decode cL_globs 577 = .ok (.iconst 2, 1) := by decide +kernel
theorem dL_globs_578 : decode cL_globs 578 = .ok (.if_icmp .ne 230, 3) := by decide +kernel
theorem dL_globs_581 : decode cL_globs 581 = .ok (.aload_n 0, 1) := by decide +kernel
theorem dL_globs_582 : decode cL_globs 582 = .ok (.bipush 63, 2) := by decide +kernel
theorem dL_globs_584 : decode cL_globs 584 = .ok (.bipush 46, 2) := by decide +kernel
theorem dL_globs_586 : decode cL_globs 586 = .ok (.bipush 46, 2) := by decide +kernel
theorem dL_globs_588 : decode cL_globs 588 = .ok (.bipush 46, 2) := by decide +kernel
theorem dL_globs_590 : decode cL_globs 590 = .ok (.bipush 46, 2) := by decide +kernel
theorem dL_globs_592 : decode cL_globs 592 = .ok (.bipush 46, 2) := by decide +kernel
theorem dL_globs_594 : decode cL_globs 594 = .ok (.bipush 46, 2) := by decide +kernel
theorem dL_globs_596 : decode cL_globs 596 = .ok (.bipush 46, 2) := by decide +kernel
theorem dL_globs_598 : decode cL_globs 598 = .ok (.invokestatic 121, 3) := by decide +kernel
theorem dL_globs_601 : decode cL_globs 601 = .ok (.ifCond .eq 207, 3) := by decide +kernel
theorem dL_globs_604 : decode cL_globs 604 = .ok (.aload_n 0, 1) := by decide +kernel
theorem dL_globs_605 : decode cL_globs 605 = .ok (.iconst 3, 1) := by decide +kernel
theorem dL_globs_606 : decode cL_globs 606 = .ok (.invokestatic 131, 3) := by decide +kernel
theorem dL_globs_609 : decode cL_globs 609 = .ok (.iconst 4, 1) := by decide +kernel
theorem dL_globs_610 : decode cL_globs 610 = .ok (.if_icmp .ne 198, 3) := by decide +kernel
theorem dL_globs_613 : decode cL_globs 613 = .ok (.aload_n 0, 1) := by decide +kernel
theorem dL_globs_614 : decode cL_globs 614 = .ok (.bipush 42, 2) := by decide +kernel
theorem dL_globs_616 : decode cL_globs 616 = .ok (.bipush 42, 2) := by decide +kernel
theorem dL_globs_618 : decode cL_globs 618 = .ok (.bipush 47, 2) := by decide +kernel
theorem dL_globs_620 : decode cL_globs 620 = .ok (.bipush 63, 2) := by decide +kernel
theorem dL_globs_622 : decode cL_globs 622 = .ok (.bipush 46, 2) := by decide +kernel
theorem dL_globs_624 : decode cL_globs 624 = .ok (.bipush 46, 2) := by decide +kernel
theorem dL_globs_626 : decode cL_globs 626 = .ok (.bipush 46, 2) := by decide +kernel
theorem dL_globs_628 : decode cL_globs 628 = .ok (.bipush 46, 2) := by decide +kernel
theorem dL_globs_630 : decode cL_globs 630 = .ok (.invokestatic 121, 3) := by decide +kernel
theorem dL_globs_633 : decode cL_globs 633 = .ok (.ifCond .eq 175, 3) := by decide +kernel
theorem dL_globs_636 : decode cL_globs 636 = .ok (.aload_n 0, 1) := by decide +kernel
theorem dL_globs_637 : decode cL_globs 637 = .ok (.iconst 3, 1) := by decide +kernel
theorem dL_globs_638 : decode cL_globs 638 = .ok (.invokestatic 131, 3) := by decide +kernel
theorem dL_globs_641 : decode cL_globs 641 = .ok (.bipush 7, 2) := by decide +kernel
theorem dL_globs_643 : decode cL_globs 643 = .ok (.if_icmp .ne 165, 3) := by decide +kernel
theorem dL_globs_646 : decode cL_globs 646 = .ok (.aload_n 0, 1) := by decide +kernel
theorem dL_globs_647 : decode cL_globs 647 = .ok (.bipush 97, 2) := by decide +kernel
theorem dL_globs_649 : decode cL_globs 649 = .ok (.bipush 47, 2) := by decide +kernel
theorem dL_globs_651 : decode cL_globs 651 = .ok (.bipush 42, 2) := by decide +kernel
theorem dL_globs_653 : decode cL_globs 653 = .ok (.bipush 42, 2) := by decide +kernel
theorem dL_globs_655 : decode cL_globs 655 = .ok (.bipush 47, 2) := by decide +kernel
theorem dL_globs_657 : decode cL_globs 657 = .ok (.bipush 98, 2) := by decide +kernel
theorem dL_globs_659 : decode cL_globs 659 = .ok (.bipush 46, 2) := by decide +kernel
theorem dL_globs_661 : decode cL_globs 661 = .ok (.bipush 46, 2) := by decide +kernel
theorem dL_globs_663 : decode cL_globs 663 = .ok (.invokestatic 121, 3) := by decide +kernel
theorem dL_globs_666 : decode cL_globs 666 = .ok (.ifCond .eq 142, 3) := by decide +kernel
theorem dL_globs_669 : decode cL_globs 669 = .ok (.aload_n 0, 1) := by decide +kernel
theorem dL_globs_670 : decode cL_globs 670 = .ok (.iconst 3, 1) := by decide +kernel
theorem dL_globs_671 : decode cL_globs 671 = .ok (.invokestatic 131, 3) := by decide +kernel
theorem dL_globs_674 : decode cL_globs 674 = .ok (.iconst 1, 1) := by decide +kernel
theorem dL_globs_675 : decode cL_globs 675 = .ok (.if_icmp .ne 133, 3) := by decide +kernel
theorem dL_globs_678 : decode cL_globs 678 = .ok (.aload_n 0, 1) := by decide +kernel
theorem dL_globs_679 : decode cL_globs 679 = .ok (.bipush 42, 2) := by decide +kernel
theorem dL_globs_681 : decode cL_globs 681 = .ok (.bipush 47, 2) := by decide +kernel
theorem dL_globs_683 : decode cL_globs 683 = .ok (.bipush 42, 2) := by decide +kernel
theorem dL_globs_685 : decode cL_globs 685 = .ok (.bipush 47, 2) := by decide +kernel
theorem dL_globs_687 : decode cL_globs 687 = .ok (.bipush 42, 2) := by decide +kernel
theorem dL_globs_689 : decode cL_globs 689 = .ok (.bipush 46, 2) := by decide +kernel
theorem dL_globs_691 : decode cL_globs 691 = .ok (.bipush 46, 2) := by decide +kernel
theorem dL_globs_693 : decode cL_globs 693 = .ok (.bipush 46, 2) := by decide +kernel
theorem dL_globs_695 : decode cL_globs 695 = .ok (.invokestatic 121, 3) := by decide +kernel
theorem dL_globs_698 : decode cL_globs 698 = .ok (.ifCond .eq 110, 3) := by decide +kernel
theorem dL_globs_701 : decode cL_globs 701 = .ok (.aload_n 0, 1) := by decide +kernel
theorem dL_globs_702 : decode cL_globs 702 = .ok (.iconst 3, 1) := by decide +kernel
theorem dL_globs_703 : decode cL_globs 703 = .ok (.invokestatic 131, 3) := by decide +kernel
theorem dL_globs_706 : decode cL_globs 706 = .ok (.iconst 2, 1) := by decide +kernel
theorem dL_globs_707 : decode cL_globs 707 = .ok (.if_icmp .ne 101, 3) := by decide +kernel
theorem dL_globs_710 : decode cL_globs 710 = .ok (.aload_n 0, 1) := by decide +kernel
theorem dL_globs_711 : decode cL_globs 711 = .ok (.bipush 97, 2) := by decide +kernel
theorem dL_globs_713 : decode cL_globs 713 = .ok (.bipush 47, 2) := by decide +kernel
theorem dL_globs_715 : decode cL_globs 715 = .ok (.bipush 98, 2) := by decide +kernel
theorem dL_globs_717 : decode cL_globs 717 = .ok (.bipush 42, 2) := by decide +kernel
theorem dL_globs_719 : decode cL_globs 719 = .ok (.bipush 46, 2) := by decide +kernel
theorem dL_globs_721 : decode cL_globs 721 = .ok (.bipush 46, 2) := by decide +kernel
theorem dL_globs_723 : decode cL_globs 723 = .ok (.bipush 46, 2) := by decide +kernel
theorem dL_globs_725 : decode cL_globs 725 = .ok (.bipush 46, 2) := by decide +kernel
theorem dL_globs_727 : decode cL_globs 727 = .ok (.invokestatic 121, 3) := by decide +kernel
theorem dL_globs_730 : decode cL_globs 730 = .ok (.ifCond .eq 78, 3) := by decide +kernel
theorem dL_globs_733 : decode cL_globs 733 = .ok (.aload_n 0, 1) := by decide +kernel
theorem dL_globs_734 : decode cL_globs 734 = .ok (.iconst 3, 1) := by decide +kernel
theorem dL_globs_735 : decode cL_globs 735 = .ok (.invokestatic 131, 3) := by decide +kernel
theorem dL_globs_738 : decode cL_globs 738 = .ok (.iconst 1, 1) := by decide +kernel
theorem dL_globs_739 : decode cL_globs 739 = .ok (.if_icmp .ne 69, 3) := by decide +kernel
theorem dL_globs_742 : decode cL_globs 742 = .ok (.aload_n 0, 1) := by decide +kernel
theorem dL_globs_743 : decode cL_globs 743 = .ok (.bipush 42, 2) := by decide +kernel
theorem dL_globs_745 : decode cL_globs 745 = .ok (.bipush 42, 2) := by decide +kernel
theorem dL_globs_747 : decode cL_globs 747 = .ok (.bipush 47, 2) := by decide +kernel
theorem dL_globs_749 : decode cL_globs 749 = .ok (.bipush 42, 2) := by decide +kernel
theorem dL_globs_751 : decode cL_globs 751 = .ok (.bipush 42, 2) := by decide +kernel
theorem dL_globs_753 : decode cL_globs 753 = .ok (.bipush 47, 2) := by decide +kernel
theorem dL_globs_755 : decode cL_globs 755 = .ok (.bipush 97, 2) := by decide +kernel
theorem dL_globs_757 : decode cL_globs 757 = .ok (.bipush 46, 2) := by decide +kernel
theorem dL_globs_759 : decode cL_globs 759 = .ok (.invokestatic 121, 3) := by decide +kernel
theorem dL_globs_762 : decode cL_globs 762 = .ok (.ifCond .eq 46, 3) := by decide +kernel
theorem dL_globs_765 : decode cL_globs 765 = .ok (.aload_n 0, 1) := by decide +kernel
theorem dL_globs_766 : decode cL_globs 766 = .ok (.iconst 3, 1) := by decide +kernel
theorem dL_globs_767 : decode cL_globs 767 = .ok (.invokestatic 131, 3) := by decide +kernel
theorem dL_globs_770 : decode cL_globs 770 = .ok (.ifCond .ne 38, 3) := by decide +kernel
theorem dL_globs_773 : decode cL_globs 773 = .ok (.aload_n 0, 1) := by decide +kernel
theorem dL_globs_774 : decode cL_globs 774 = .ok (.bipush 97, 2) := by decide +kernel
theorem dL_globs_776 : decode cL_globs 776 = .ok (.bipush 42, 2) := by decide +kernel
theorem dL_globs_778 : decode cL_globs 778 = .ok (.bipush 42, 2) := by decide +kernel
theorem dL_globs_780 : decode cL_globs 780 = .ok (.bipush 46, 2) := by decide +kernel
theorem dL_globs_782 : decode cL_globs 782 = .ok (.bipush 46, 2) := by decide +kernel
theorem dL_globs_784 : decode cL_globs 784 = .ok (.bipush 46, 2) := by decide +kernel
theorem dL_globs_786 : decode cL_globs 786 = .ok (.bipush 46, 2) := by decide +kernel
theorem dL_globs_788 : decode cL_globs 788 = .ok (.bipush 46, 2) := by decide +kernel
theorem dL_globs_790 : decode cL_globs 790 = .ok (.invokestatic 121, 3) := by decide +kernel
theorem dL_globs_793 : decode cL_globs 793 = .ok (.ifCond .eq 15, 3) := by decide +kernel
theorem dL_globs_796 : decode cL_globs 796 = .ok (.aload_n 0, 1) := by decide +kernel
theorem dL_globs_797 : decode cL_globs 797 = .ok (.iconst 4, 1) := by decide +kernel
theorem dL_globs_798 : decode cL_globs 798 = .ok (.iconst 0, 1) := by decide +kernel
theorem dL_globs_799 : decode cL_globs 799 = .ok (.iconst 0, 1) := by decide +kernel
theorem dL_globs_800 : decode cL_globs 800 = .ok (.invokestatic 86, 3) := by decide +kernel
theorem dL_globs_803 : decode cL_globs 803 = .ok (.bipush (-33), 2) := by decide +kernel
theorem dL_globs_805 : decode cL_globs 805 = .ok (.if_icmp .eq 5, 3) := by decide +kernel
theorem dL_globs_808 : decode cL_globs 808 = .ok (.iconst 0, 1) := by decide +kernel
theorem dL_globs_809 : decode cL_globs 809 = .ok (.ireturn, 1) := by decide +kernel
theorem dL_globs_810 : decode cL_globs 810 = .ok (.aload_n 0, 1) := by decide +kernel
theorem dL_globs_811 : decode cL_globs 811 = .ok (.iconst 2, 1) := by decide +kernel
theorem dL_globs_812 : decode cL_globs 812 = .ok (.invokevirtual 21, 3) := by decide +kernel
theorem dL_globs_815 : decode cL_globs 815 = .ok (.iconst 4, 1) := by decide +kernel
theorem dL_globs_816 : decode cL_globs 816 = .ok (.if_icmp .ne 107, 3) := by decide +kernel
theorem dL_globs_819 : decode cL_globs 819 = .ok (.aload_n 0, 1) := by decide +kernel
theorem dL_globs_820 : decode cL_globs 820 = .ok (.iconst 2, 1) := by decide +kernel
theorem dL_globs_821 : decode cL_globs 821 = .ok (.iconst 2, 1) := by decide +kernel
theorem dL_globs_822 : decode cL_globs 822 = .ok (.iconst 5, 1) := by decide +kernel
theorem dL_globs_823 : decode cL_globs 823 = .ok (.invokestatic 86, 3) := by decide +kernel
theorem dL_globs_826 : decode cL_globs 826 = .ok (.bipush (-31), 2) := by decide +kernel
theorem dL_globs_828 : decode cL_globs 828 = .ok (.if_icmp .ne 95, 3) := by decide +kernel
theorem dL_globs_831 : decode cL_globs 831 = .ok (.aload_n 0, 1) := by decide +kernel
theorem dL_globs_832 : decode cL_globs 832 = .ok (.iconst 3, 1) := by decide +kernel
theorem dL_globs_833 : decode cL_globs 833 = .ok (.iconst 2, 1) := by decide +kernel
theorem dL_globs_834 : decode cL_globs 834 = .ok (.iconst 0, 1) := by decide +kernel
theorem dL_globs_835 : decode cL_globs 835 = .ok (.invokestatic 86, 3) := by decide +kernel
theorem dL_globs_838 : decode cL_globs 838 = .ok (.bipush (-31), 2) := by decide +kernel
theorem dL_globs_840 : decode cL_globs 840 = .ok (.if_icmp .ne 83, 3) := by decide +kernel
theorem dL_globs_843 : decode cL_globs 843 = .ok (.aload_n 0, 1) := by decide +kernel
theorem dL_globs_844 : decode cL_globs 844 = .ok (.invokevirtual 99, 3) := by decide +kernel
theorem dL_globs_847 : decode cL_globs 847 = .ok (.iconst 3, 1) := by decide +kernel
theorem dL_globs_848 : decode cL_globs 848 = .ok (.if_icmp .ne 75, 3) := by decide +kernel
theorem dL_globs_851 : decode cL_globs 851 = .ok (.aload_n 0, 1) := by decide +kernel
theorem dL_globs_852 : decode cL_globs 852 = .ok (.bipush 101, 2) := by decide +kernel
theorem dL_globs_854 : decode cL_globs 854 = .ok (.bipush 46, 2) := by decide +kernel
theorem dL_globs_856 : decode cL_globs 856 = .ok (.bipush 46, 2) := by decide +kernel
theorem dL_globs_858 : decode cL_globs 858 = .ok (.bipush 46, 2) := by decide +kernel
theorem dL_globs_860 : decode cL_globs 860 = .ok (.bipush 46, 2) := by decide +kernel
theorem dL_globs_862 : decode cL_globs 862 = .ok (.bipush 46, 2) := by decide +kernel
theorem dL_globs_864 : decode cL_globs 864 = .ok (.bipush 46, 2) := by decide +kernel
theorem dL_globs_866 : decode cL_globs 866 = .ok (.bipush 46, 2) := by decide +kernel
theorem dL_globs_868 : decode cL_globs 868 = .ok (.invokestatic 121, 3) := by decide +kernel
theorem dL_globs_871 : decode cL_globs 871 = .ok (.ifCond .eq 52, 3) := by decide +kernel
theorem dL_globs_874 : decode cL_globs 874 = .ok (.aload_n 0, 1) := by decide +kernel
theorem dL_globs_875 : decode cL_globs 875 = .ok (.invokevirtual 125, 3) := by decide +kernel
theorem dL_globs_878 : decode cL_globs 878 = .ok (.iconst 2, 1) := by decide +kernel
theorem dL_globs_879 : decode cL_globs 879 = .ok (.if_icmp .ne 44, 3) := by decide +kernel
theorem dL_globs_882 : decode cL_globs 882 = .ok (.aload_n 0, 1) := by decide +kernel
theorem dL_globs_883 : decode cL_globs 883 = .ok (.iconst 4, 1) := by decide +kernel
theorem dL_globs_884 : decode cL_globs 884 = .ok (.iconst 2, 1) := by decide +kernel
theorem dL_globs_885 : decode cL_globs 885 = .ok (.iconst 0, 1) := by decide +kernel
theorem dL_globs_886 : decode cL_globs 886 = .ok (.invokestatic 86, 3) := by decide +kernel
theorem dL_globs_889 : decode cL_globs 889 = .ok (.iconst 1, 1) := by decide +kernel
theorem dL_globs_890 : decode cL_globs 890 = .ok (.if_icmp .ne 33, 3) := by decide +kernel
theorem dL_globs_893 : decode cL_globs 893 = .ok (.aload_n 0, 1) := by decide +kernel
theorem dL_globs_894 : decode cL_globs 894 = .ok (.bipush 9, 2) := by decide +kernel
theorem dL_globs_896 : decode cL_globs 896 = .ok (.invokevirtual 13, 3) := by decide +kernel
theorem dL_globs_899 : decode cL_globs 899 = .ok (.iconst 2, 1) := by decide +kernel
theorem dL_globs_900 : decode cL_globs 900 = .ok (.if_icmp .ne 23, 3) := by decide +kernel
theorem dL_globs_903 : decode cL_globs 903 = .ok (.aload_n 0, 1) := by decide +kernel
theorem dL_globs_904 : decode cL_globs 904 = .ok (.iconst 2, 1) := by decide +kernel
theorem dL_globs_905 : decode cL_globs 905 = .ok (.iconst 5, 1) := by decide +kernel
theorem dL_globs_906 : decode cL_globs 906 = .ok (.invokevirtual 17, 3) := by decide +kernel
theorem dL_globs_909 : decode cL_globs 909 = .ok (.bipush 9, 2) := by decide +kernel
theorem dL_globs_911 : decode cL_globs 911 = .ok (.if_icmp .ne 12, 3) := by decide +kernel
theorem dL_globs_914 : decode cL_globs 914 = .ok (.aload_n 0, 1) := by decide +kernel
theorem dL_globs_915 : decode cL_globs 915 = .ok (.invokevirtual 99, 3) := by decide +kernel
theorem dL_globs_918 : decode cL_globs 918 = .ok (.bipush 7, 2) := by decide +kernel
theorem dL_globs_920 : decode cL_globs 920 = .ok (.if_icmp .eq 5, 3) := by decide +kernel
theorem dL_globs_923 : decode cL_globs 923 = .ok (.iconst 0, 1) := by decide +kernel
theorem dL_globs_924 : decode cL_globs 924 = .ok (.ireturn, 1) := by decide +kernel
theorem dL_globs_925 : decode cL_globs 925 = .ok (.aload_n 0, 1) := by decide +kernel
theorem dL_globs_926 : decode cL_globs 926 = .ok (.invokevirtual 92, 3) := by decide +kernel
theorem dL_globs_929 : decode cL_globs 929 = .ok (.pop, 1) := by decide +kernel
theorem dL_globs_930 : decode cL_globs 930 = .ok (.iconst 0, 1) := by decide +kernel
theorem dL_globs_931 : decode cL_globs 931 = .ok (.istore_n 1, 1) := by decide +kernel
theorem dL_globs_932 : decode cL_globs 932 = .ok (.iload_n 1, 1) := by decide +kernel
theorem dL_globs_933 : decode cL_globs 933 = .ok (.bipush 24, 2) := by decide +kernel
theorem dL_globs_935 : decode cL_globs 935 = .ok (.if_icmp .ge 52, 3) := by decide +kernel
theorem dL_globs_938 : decode cL_globs 938 = .ok (.aload_n 0, 1) := by decide +kernel
theorem dL_globs_939 : decode cL_globs 939 = .ok (.iload_n 1, 1) := by decide +kernel
theorem dL_globs_940 : decode cL_globs 940 = .ok (.iconst 2, 1) := by decide +kernel
theorem dL_globs_941 : decode cL_globs 941 = .ok (.irem, 1) := by decide +kernel
theorem dL_globs_942 : decode cL_globs 942 = .ok (.ifCond .ne 8, 3) := by decide +kernel
theorem dL_globs_945 : decode cL_globs 945 = .ok (.bipush 122, 2) := by decide +kernel
theorem dL_globs_947 : decode cL_globs 947 = .ok (.goto 5, 3) := by decide +kernel
theorem dL_globs_950 : decode cL_globs 950 = .ok (.bipush 47, 2) := by decide +kernel
theorem dL_globs_952 : decode cL_globs 952 = .ok (.invokevirtual 7, 3) := by decide +kernel
theorem dL_globs_955 : decode cL_globs 955 = .ok (.iload_n 1, 1) := by decide +kernel
theorem dL_globs_956 : decode cL_globs 956 = .ok (.iconst 1, 1) := by decide +kernel
theorem dL_globs_957 : decode cL_globs 957 = .ok (.iadd, 1) := by decide +kernel
theorem dL_globs_958 : decode cL_globs 958 = .ok (.if_icmp .ne 21, 3) := by decide +kernel
theorem dL_globs_961 : decode cL_globs 961 = .ok (.aload_n 0, 1) := by decide +kernel
theorem dL_globs_962 : decode cL_globs 962 = .ok (.invokestatic 117, 3) := by decide +kernel
theorem dL_globs_965 : decode cL_globs 965 = .ok (.iload_n 1, 1) := by decide +kernel
theorem dL_globs_966 : decode cL_globs 966 = .ok (.iconst 2, 1) := by decide +kernel
theorem dL_globs_967 : decode cL_globs 967 = .ok (.irem, 1) := by decide +kernel
theorem dL_globs_968 : decode cL_globs 968 = .ok (.ifCond .ne 7, 3) := by decide +kernel
theorem dL_globs_971 : decode cL_globs 971 = .ok (.iconst 3, 1) := by decide +kernel
theorem dL_globs_972 : decode cL_globs 972 = .ok (.goto 4, 3) := by decide +kernel
theorem dL_globs_975 : decode cL_globs 975 = .ok (.iconst 0, 1) := by decide +kernel
theorem dL_globs_976 : decode cL_globs 976 = .ok (.if_icmp .eq 5, 3) := by decide +kernel
theorem dL_globs_979 : decode cL_globs 979 = .ok (.iconst 0, 1) := by decide +kernel
theorem dL_globs_980 : decode cL_globs 980 = .ok (.ireturn, 1) := by decide +kernel
theorem dL_globs_981 : decode cL_globs 981 = .ok (.iinc 1 1, 3) := by decide +kernel
theorem dL_globs_984 : decode cL_globs 984 = .ok (.goto (-52), 3) := by decide +kernel
theorem dL_globs_987 : decode cL_globs 987 = .ok (.aload_n 0, 1) := by decide +kernel
theorem dL_globs_988 : decode cL_globs 988 = .ok (.iconst 0, 1) := by decide +kernel
