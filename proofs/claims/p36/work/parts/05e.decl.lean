theorem dL_runs_480 : decode cL_runs 480 = .ok (.iconst 3, 1) := by decide +kernel
theorem dL_runs_481 : decode cL_runs 481 = .ok (.invokestatic 138, 3) := by decide +kernel
theorem dL_runs_484 : decode cL_runs 484 = .ok (.ifCond .ne 5, 3) := by decide +kernel
theorem dL_runs_487 : decode cL_runs 487 = .ok (.iconst 0, 1) := by decide +kernel
theorem dL_runs_488 : decode cL_runs 488 = .ok (.ireturn, 1) := by decide +kernel
theorem dL_runs_489 : decode cL_runs 489 = .ok (.aload_n 0, 1) := by decide +kernel
theorem dL_runs_490 : decode cL_runs 490 = .ok (.iconst 0, 1) := by decide +kernel
theorem dL_runs_491 : decode cL_runs 491 = .ok (.bipush 7, 2) := by decide +kernel
theorem dL_runs_493 : decode cL_runs 493 = .ok (.invokevirtual 17, 3) := by decide +kernel
theorem dL_runs_496 : decode cL_runs 496 = .ok (.iconst 1, 1) := by decide +kernel
theorem dL_runs_497 : decode cL_runs 497 = .ok (.if_icmp .ne 187, 3) := by decide +kernel
theorem dL_runs_500 : decode cL_runs 500 = .ok (.aload_n 0, 1) := by decide +kernel
theorem dL_runs_501 : decode cL_runs 501 = .ok (.invokevirtual 135, 3) := by decide +kernel
theorem dL_runs_504 : decode cL_runs 504 = .ok (.bipush 13, 2) := by decide +kernel
theorem dL_runs_506 : decode cL_runs 506 = .ok (.if_icmp .ne 178, 3) := by decide +kernel
theorem dL_runs_509 : decode cL_runs 509 = .ok (.aload_n 0, 1) := by decide +kernel
theorem dL_runs_510 : decode cL_runs 510 = .ok (.iconst 0, 1) := by decide +kernel
theorem dL_runs_511 : decode cL_runs 511 = .ok (.invokevirtual 55, 3) := by decide +kernel
theorem dL_runs_514 : decode cL_runs 514 = .ok (.iconst 2, 1) := by decide +kernel
theorem dL_runs_515 : decode cL_runs 515 = .ok (.if_icmp .ne 169, 3) := by decide +kernel
theorem dL_runs_518 : decode cL_runs 518 = .ok (.aload_n 0, 1) := by decide +kernel
theorem dL_runs_519 : decode cL_runs 519 = .ok (.iconst 2, 1) := by decide +kernel
theorem dL_runs_520 : decode cL_runs 520 = .ok (.invokevirtual 55, 3) := by decide +kernel
theorem dL_runs_523 : decode cL_runs 523 = .ok (.iconst 3, 1) := by decide +kernel
theorem dL_runs_524 : decode cL_runs 524 = .ok (.if_icmp .ne 160, 3) := by decide +kernel
theorem dL_runs_527 : decode cL_runs 527 = .ok (.aload_n 0, 1) := by decide +kernel
theorem dL_runs_528 : decode cL_runs 528 = .ok (.iconst 3, 1) := by decide +kernel
theorem dL_runs_529 : decode cL_runs 529 = .ok (.invokevirtual 55, 3) := by decide +kernel
theorem dL_runs_532 : decode cL_runs 532 = .ok (.iconst 3, 1) := by decide +kernel
theorem dL_runs_533 : decode cL_runs 533 = .ok (.if_icmp .ne 151, 3) := by decide +kernel
theorem dL_runs_536 : decode cL_runs 536 = .ok (.aload_n 0, 1) := by decide +kernel
theorem dL_runs_537 : decode cL_runs 537 = .ok (.iconst 0, 1) := by decide +kernel
theorem dL_runs_538 : decode cL_runs 538 = .ok (.iconst 1, 1) := by decide +kernel
theorem dL_runs_539 : decode cL_runs 539 = .ok (.invokevirtual 17, 3) := by decide +kernel
theorem dL_runs_542 : decode cL_runs 542 = .ok (.bipush 7, 2) := by decide +kernel
theorem dL_runs_544 : decode cL_runs 544 = .ok (.if_icmp .ne 140, 3) := by decide +kernel
theorem dL_runs_547 : decode cL_runs 547 = .ok (.aload_n 0, 1) := by decide +kernel
theorem dL_runs_548 : decode cL_runs 548 = .ok (.invokevirtual 135, 3) := by decide +kernel
theorem dL_runs_551 : decode cL_runs 551 = .ok (.ifCond .ne 133, 3) := by decide +kernel
theorem dL_runs_554 : decode cL_runs 554 = .ok (.aload_n 0, 1) := by decide +kernel
theorem dL_runs_555 : decode cL_runs 555 = .ok (.iconst 0, 1) := by decide +kernel
theorem dL_runs_556 : decode cL_runs 556 = .ok (.bipush 7, 2) := by decide +kernel
theorem dL_runs_558 : decode cL_runs 558 = .ok (.invokevirtual 17, 3) := by decide +kernel
theorem dL_runs_561 : decode cL_runs 561 = .ok (.iconst 1, 1) := by decide +kernel
theorem dL_runs_562 : decode cL_runs 562 = .ok (.if_icmp .ne 122, 3) := by decide +kernel
theorem dL_runs_565 : decode cL_runs 565 = .ok (.aload_n 0, 1) := by decide +kernel
theorem dL_runs_566 : decode cL_runs 566 = .ok (.iconst 0, 1) := by decide +kernel
theorem dL_runs_567 : decode cL_runs 567 = .ok (.invokevirtual 58, 3) := by decide +kernel
theorem dL_runs_570 : decode cL_runs 570 = .ok (.iconst 5, 1) := by decide +kernel
theorem dL_runs_571 : decode cL_runs 571 = .ok (.if_icmp .ne 113, 3) := by decide +kernel
theorem dL_runs_574 : decode cL_runs 574 = .ok (.aload_n 0, 1) := by decide +kernel
theorem dL_runs_575 : decode cL_runs 575 = .ok (.iconst 2, 1) := by decide +kernel
theorem dL_runs_576 : decode cL_runs 576 = .ok (.invokevirtual 52, 3) := by decide +kernel
theorem dL_runs_579 : decode cL_runs 579 = .ok (.ifCond .ne 105, 3) := by decide +kernel
theorem dL_runs_582 : decode cL_runs 582 = .ok (.aload_n 0, 1) := by decide +kernel
theorem dL_runs_583 : decode cL_runs 583 = .ok (.iconst 2, 1) := by decide +kernel
theorem dL_runs_584 : decode cL_runs 584 = .ok (.invokevirtual 58, 3) := by decide +kernel
theorem dL_runs_587 : decode cL_runs 587 = .ok (.bipush 6, 2) := by decide +kernel
theorem dL_runs_589 : decode cL_runs 589 = .ok (.if_icmp .ne 95, 3) := by decide +kernel
theorem dL_runs_592 : decode cL_runs 592 = .ok (.aload_n 0, 1) := by decide +kernel
theorem dL_runs_593 : decode cL_runs 593 = .ok (.iconst 3, 1) := by decide +kernel
theorem dL_runs_594 : decode cL_runs 594 = .ok (.invokevirtual 58, 3) := by decide +kernel
theorem dL_runs_597 : decode cL_runs 597 = .ok (.bipush 7, 2) := by decide +kernel
theorem dL_runs_599 : decode cL_runs 599 = .ok (.if_icmp .ne 85, 3) := by decide +kernel
theorem dL_runs_602 : decode cL_runs 602 = .ok (.aload_n 0, 1) := by decide +kernel
theorem dL_runs_603 : decode cL_runs 603 = .ok (.iconst 0, 1) := by decide +kernel
theorem dL_runs_604 : decode cL_runs 604 = .ok (.iconst 1, 1) := by decide +kernel
theorem dL_runs_605 : decode cL_runs 605 = .ok (.invokevirtual 17, 3) := by decide +kernel
theorem dL_runs_608 : decode cL_runs 608 = .ok (.bipush 7, 2) := by decide +kernel
theorem dL_runs_610 : decode cL_runs 610 = .ok (.if_icmp .ne 74, 3) := by decide +kernel
theorem dL_runs_613 : decode cL_runs 613 = .ok (.aload_n 0, 1) := by decide +kernel
theorem dL_runs_614 : decode cL_runs 614 = .ok (.iconst 0, 1) := by decide +kernel
theorem dL_runs_615 : decode cL_runs 615 = .ok (.invokevirtual 52, 3) := by decide +kernel
theorem dL_runs_618 : decode cL_runs 618 = .ok (.iconst 1, 1) := by decide +kernel
theorem dL_runs_619 : decode cL_runs 619 = .ok (.if_icmp .ne 65, 3) := by decide +kernel
theorem dL_runs_622 : decode cL_runs 622 = .ok (.aload_n 0, 1) := by decide +kernel
theorem dL_runs_623 : decode cL_runs 623 = .ok (.iconst 2, 1) := by decide +kernel
theorem dL_runs_624 : decode cL_runs 624 = .ok (.invokevirtual 52, 3) := by decide +kernel
theorem dL_runs_627 : decode cL_runs 627 = .ok (.iconst 3, 1) := by decide +kernel
theorem dL_runs_628 : decode cL_runs 628 = .ok (.if_icmp .ne 56, 3) := by decide +kernel
theorem dL_runs_631 : decode cL_runs 631 = .ok (.aload_n 0, 1) := by decide +kernel
theorem dL_runs_632 : decode cL_runs 632 = .ok (.iconst 3, 1) := by decide +kernel
theorem dL_runs_633 : decode cL_runs 633 = .ok (.invokevirtual 52, 3) := by decide +kernel
theorem dL_runs_636 : decode cL_runs 636 = .ok (.iconst 4, 1) := by decide +kernel
theorem dL_runs_637 : decode cL_runs 637 = .ok (.if_icmp .ne 47, 3) := by decide +kernel
theorem dL_runs_640 : decode cL_runs 640 = .ok (.aload_n 0, 1) := by decide +kernel
theorem dL_runs_641 : decode cL_runs 641 = .ok (.invokevirtual 135, 3) := by decide +kernel
theorem dL_runs_644 : decode cL_runs 644 = .ok (.ifCond .ne 40, 3) := by decide +kernel
theorem dL_runs_647 : decode cL_runs 647 = .ok (.aload_n 0, 1) := by decide +kernel
theorem dL_runs_648 : decode cL_runs 648 = .ok (.iconst 1, 1) := by decide +kernel
theorem dL_runs_649 : decode cL_runs 649 = .ok (.invokevirtual 21, 3) := by decide +kernel
theorem dL_runs_652 : decode cL_runs 652 = .ok (.iconst 3, 1) := by decide +kernel
theorem dL_runs_653 : decode cL_runs 653 = .ok (.if_icmp .ne 31, 3) := by decide +kernel
theorem dL_runs_656 : decode cL_runs 656 = .ok (.aload_n 0, 1) := by decide +kernel
theorem dL_runs_657 : decode cL_runs 657 = .ok (.iconst 0, 1) := by decide +kernel
theorem dL_runs_658 : decode cL_runs 658 = .ok (.invokevirtual 37, 3) := by decide +kernel
theorem dL_runs_661 : decode cL_runs 661 = .ok (.iconst 1, 1) := by decide +kernel
theorem dL_runs_662 : decode cL_runs 662 = .ok (.if_icmp .ne 22, 3) := by decide +kernel
theorem dL_runs_665 : decode cL_runs 665 = .ok (.aload_n 0, 1) := by decide +kernel
theorem dL_runs_666 : decode cL_runs 666 = .ok (.iconst 0, 1) := by decide +kernel
theorem dL_runs_667 : decode cL_runs 667 = .ok (.invokevirtual 55, 3) := by decide +kernel
theorem dL_runs_670 : decode cL_runs 670 = .ok (.iconst 2, 1) := by decide +kernel
theorem dL_runs_671 : decode cL_runs 671 = .ok (.if_icmp .ne 13, 3) := by decide +kernel
theorem dL_runs_674 : decode cL_runs 674 = .ok (.aload_n 0, 1) := by decide +kernel
theorem dL_runs_675 : decode cL_runs 675 = .ok (.iconst 1, 1) := by decide +kernel
theorem dL_runs_676 : decode cL_runs 676 = .ok (.invokevirtual 46, 3) := by decide +kernel
theorem dL_runs_679 : decode cL_runs 679 = .ok (.bipush 13, 2) := by decide +kernel
theorem dL_runs_681 : decode cL_runs 681 = .ok (.if_icmp .eq 5, 3) := by decide +kernel
theorem dL_runs_684 : decode cL_runs 684 = .ok (.iconst 0, 1) := by decide +kernel
theorem dL_runs_685 : decode cL_runs 685 = .ok (.ireturn, 1) := by decide +kernel
theorem dL_runs_686 : decode cL_runs 686 = .ok (.aload_n 0, 1) := by decide +kernel
theorem dL_runs_687 : decode cL_runs 687 = .ok (.iconst 3, 1) := by decide +kernel
theorem dL_runs_688 : decode cL_runs 688 = .ok (.iconst 2, 1) := by decide +kernel
theorem dL_runs_689 : decode cL_runs 689 = .ok (.invokevirtual 65, 3) := by decide +kernel
theorem dL_runs_692 : decode cL_runs 692 = .ok (.ifCond .ne 184, 3) := by decide +kernel
theorem dL_runs_695 : decode cL_runs 695 = .ok (.aload_n 0, 1) := by decide +kernel
theorem dL_runs_696 : decode cL_runs 696 = .ok (.iconst 2, 1) := by decide +kernel
theorem dL_runs_697 : decode cL_runs 697 = .ok (.iconst 2, 1) := by decide +kernel
theorem dL_runs_698 : decode cL_runs 698 = .ok (.invokevirtual 65, 3) := by decide +kernel
theorem dL_runs_701 : decode cL_runs 701 = .ok (.iconst 1, 1) := by decide +kernel
theorem dL_runs_702 : decode cL_runs 702 = .ok (.if_icmp .ne 174, 3) := by decide +kernel
theorem dL_runs_705 : decode cL_runs 705 = .ok (.aload_n 0, 1) := by decide +kernel
theorem dL_runs_706 : decode cL_runs 706 = .ok (.iconst 0, 1) := by decide +kernel
theorem dL_runs_707 : decode cL_runs 707 = .ok (.iconst 2, 1) := by decide +kernel
theorem dL_runs_708 : decode cL_runs 708 = .ok (.invokevirtual 65, 3) := by decide +kernel
theorem dL_runs_711 : decode cL_runs 711 = .ok (.iconst 1, 1) := by decide +kernel
theorem dL_runs_712 : decode cL_runs 712 = .ok (.if_icmp .ne 164, 3) := by decide +kernel
theorem dL_runs_715 : decode cL_runs 715 = .ok (.aload_n 0, 1) := by decide +kernel
theorem dL_runs_716 : decode cL_runs 716 = .ok (.iconst 1, 1) := by decide +kernel
theorem dL_runs_717 : decode cL_runs 717 = .ok (.iconst 2, 1) := by decide +kernel
theorem dL_runs_718 : decode cL_runs 718 = .ok (.invokevirtual 65, 3) := by decide +kernel
theorem dL_runs_721 : decode cL_runs 721 = .ok (.iconst (-1), 1) := by decide +kernel
theorem dL_runs_722 : decode cL_runs 722 = .ok (.if_icmp .ne 154, 3) := by decide +kernel
theorem dL_runs_725 : decode cL_runs 725 = .ok (.aload_n 0, 1) := by decide +kernel
theorem dL_runs_726 : decode cL_runs 726 = .ok (.iconst 1, 1) := by decide +kernel
theorem dL_runs_727 : decode cL_runs 727 = .ok (.invokevirtual 68, 3) := by decide +kernel
theorem dL_runs_730 : decode cL_runs 730 = .ok (.bipush 60, 2) := by decide +kernel
theorem dL_runs_732 : decode cL_runs 732 = .ok (.if_icmp .ne 144, 3) := by decide +kernel
theorem dL_runs_735 : decode cL_runs 735 = .ok (.aload_n 0, 1) := by decide +kernel
theorem dL_runs_736 : decode cL_runs 736 = .ok (.iconst 2, 1) := by decide +kernel
theorem dL_runs_737 : decode cL_runs 737 = .ok (.invokevirtual 68, 3) := by decide +kernel
theorem dL_runs_740 : decode cL_runs 740 = .ok (.bipush 30, 2) := by decide +kernel
theorem dL_runs_742 : decode cL_runs 742 = .ok (.if_icmp .ne 134, 3) := by decide +kernel
theorem dL_runs_745 : decode cL_runs 745 = .ok (.aload_n 0, 1) := by decide +kernel
theorem dL_runs_746 : decode cL_runs 746 = .ok (.bipush 8, 2) := by decide +kernel
theorem dL_runs_748 : decode cL_runs 748 = .ok (.invokevirtual 68, 3) := by decide +kernel
theorem dL_runs_751 : decode cL_runs 751 = .ok (.bipush 30, 2) := by decide +kernel
theorem dL_runs_753 : decode cL_runs 753 = .ok (.if_icmp .ne 123, 3) := by decide +kernel
theorem dL_runs_756 : decode cL_runs 756 = .ok (.aload_n 0, 1) := by decide +kernel
theorem dL_runs_757 : decode cL_runs 757 = .ok (.bipush 30, 2) := by decide +kernel
theorem dL_runs_759 : decode cL_runs 759 = .ok (.invokevirtual 71, 3) := by decide +kernel
theorem dL_runs_762 : decode cL_runs 762 = .ok (.iconst 2, 1) := by decide +kernel
theorem dL_runs_763 : decode cL_runs 763 = .ok (.if_icmp .ne 113, 3) := by decide +kernel
theorem dL_runs_766 : decode cL_runs 766 = .ok (.aload_n 0, 1) := by decide +kernel
theorem dL_runs_767 : decode cL_runs 767 = .ok (.bipush 29, 2) := by decide +kernel
theorem dL_runs_769 : decode cL_runs 769 = .ok (.invokevirtual 71, 3) := by decide +kernel
theorem dL_runs_772 : decode cL_runs 772 = .ok (.iconst (-1), 1) := by decide +kernel
theorem dL_runs_773 : decode cL_runs 773 = .ok (.if_icmp .ne 103, 3) := by decide +kernel
theorem dL_runs_776 : decode cL_runs 776 = .ok (.aload_n 0, 1) := by decide +kernel
theorem dL_runs_777 : decode cL_runs 777 = .ok (.bipush 60, 2) := by decide +kernel
theorem dL_runs_779 : decode cL_runs 779 = .ok (.invokevirtual 71, 3) := by decide +kernel
theorem dL_runs_782 : decode cL_runs 782 = .ok (.iconst 1, 1) := by decide +kernel
theorem dL_runs_783 : decode cL_runs 783 = .ok (.if_icmp .ne 93, 3) := by decide +kernel
theorem dL_runs_786 : decode cL_runs 786 = .ok (.aload_n 0, 1) := by decide +kernel
theorem dL_runs_787 : decode cL_runs 787 = .ok (.bipush 59, 2) := by decide +kernel
theorem dL_runs_789 : decode cL_runs 789 = .ok (.invokevirtual 71, 3) := by decide +kernel
theorem dL_runs_792 : decode cL_runs 792 = .ok (.iconst 2, 1) := by decide +kernel
theorem dL_runs_793 : decode cL_runs 793 = .ok (.if_icmp .ne 83, 3) := by decide +kernel
theorem dL_runs_796 : decode cL_runs 796 = .ok (.aload_n 0, 1) := by decide +kernel
theorem dL_runs_797 : decode cL_runs 797 = .ok (.invokevirtual 61, 3) := by decide +kernel
theorem dL_runs_800 : decode cL_runs 800 = .ok (.iconst 3, 1) := by decide +kernel
theorem dL_runs_801 : decode cL_runs 801 = .ok (.if_icmp .ne 75, 3) := by decide +kernel
theorem dL_runs_804 : decode cL_runs 804 = .ok (.aload_n 0, 1) := by decide +kernel
theorem dL_runs_805 : decode cL_runs 805 = .ok (.invokevirtual 105, 3) := by decide +kernel
theorem dL_runs_808 : decode cL_runs 808 = .ok (.bipush 10, 2) := by decide +kernel
theorem dL_runs_810 : decode cL_runs 810 = .ok (.if_icmp .ne 66, 3) := by decide +kernel
theorem dL_runs_813 : decode cL_runs 813 = .ok (.aload_n 0, 1) := by decide +kernel
theorem dL_runs_814 : decode cL_runs 814 = .ok (.iconst 3, 1) := by decide +kernel
theorem dL_runs_815 : decode cL_runs 815 = .ok (.invokevirtual 68, 3) := by decide +kernel
theorem dL_runs_818 : decode cL_runs 818 = .ok (.ifCond .ne 58, 3) := by decide +kernel
theorem dL_runs_821 : decode cL_runs 821 = .ok (.aload_n 0, 1) := by decide +kernel
theorem dL_runs_822 : decode cL_runs 822 = .ok (.iconst 1, 1) := by decide +kernel
theorem dL_runs_823 : decode cL_runs 823 = .ok (.invokevirtual 71, 3) := by decide +kernel
theorem dL_runs_826 : decode cL_runs 826 = .ok (.iconst 1, 1) := by decide +kernel
theorem dL_runs_827 : decode cL_runs 827 = .ok (.if_icmp .ne 49, 3) := by decide +kernel
theorem dL_runs_830 : decode cL_runs 830 = .ok (.aload_n 0, 1) := by decide +kernel
theorem dL_runs_831 : decode cL_runs 831 = .ok (.iconst 3, 1) := by decide +kernel
theorem dL_runs_832 : decode cL_runs 832 = .ok (.iconst 1, 1) := by decide +kernel
theorem dL_runs_833 : decode cL_runs 833 = .ok (.invokevirtual 34, 3) := by decide +kernel
theorem dL_runs_836 : decode cL_runs 836 = .ok (.iconst 2, 1) := by decide +kernel
theorem dL_runs_837 : decode cL_runs 837 = .ok (.if_icmp .ne 39, 3) := by decide +kernel
theorem dL_runs_840 : decode cL_runs 840 = .ok (.aload_n 0, 1) := by decide +kernel
theorem dL_runs_841 : decode cL_runs 841 = .ok (.iconst 3, 1) := by decide +kernel
theorem dL_runs_842 : decode cL_runs 842 = .ok (.invokevirtual 55, 3) := by decide +kernel
theorem dL_runs_845 : decode cL_runs 845 = .ok (.iconst 3, 1) := by decide +kernel
theorem dL_runs_846 : decode cL_runs 846 = .ok (.if_icmp .ne 30, 3) := by decide +kernel
theorem dL_runs_849 : decode cL_runs 849 = .ok (.aload_n 0, 1) := by decide +kernel
theorem dL_runs_850 : decode cL_runs 850 = .ok (.invokevirtual 135, 3) := by decide +kernel
theorem dL_runs_853 : decode cL_runs 853 = .ok (.bipush 8, 2) := by decide +kernel
theorem dL_runs_855 : decode cL_runs 855 = .ok (.if_icmp .ne 21, 3) := by decide +kernel
theorem dL_runs_858 : decode cL_runs 858 = .ok (.aload_n 0, 1) := by decide +kernel
theorem dL_runs_859 : decode cL_runs 859 = .ok (.iconst 3, 1) := by decide +kernel
theorem dL_runs_860 : decode cL_runs 860 = .ok (.invokevirtual 58, 3) := by decide +kernel
theorem dL_runs_863 : decode cL_runs 863 = .ok (.bipush 11, 2) := by decide +kernel
theorem dL_runs_865 : decode cL_runs 865 = .ok (.if_icmp .ne 11, 3) := by decide +kernel
theorem dL_runs_868 : decode cL_runs 868 = .ok (.aload_n 0, 1) := by decide +kernel
theorem dL_runs_869 : decode cL_runs 869 = .ok (.iconst 3, 1) := by decide +kernel
theorem dL_runs_870 : decode cL_runs 870 = .ok (.invokestatic 138, 3) := by decide +kernel
theorem dL_runs_873 : decode cL_runs 873 = .ok (.ifCond .ne 5, 3) := by decide +kernel
theorem dL_runs_876 : decode cL_runs 876 = .ok (.iconst 0, 1) := by decide +kernel
theorem dL_runs_877 : decode cL_runs 877 = .ok (.ireturn, 1) := by decide +kernel
theorem dL_runs_878 : decode cL_runs 878 = .ok (.aload_n 0, 1) := by decide +kernel
theorem dL_runs_879 : decode cL_runs 879 = .ok (.iconst 0, 1) := by decide +kernel
theorem dL_runs_880 : decode cL_runs 880 = .ok (.invokevirtual 77, 3) := by decide +kernel
theorem dL_runs_883 : decode cL_runs 883 = .ok (.iconst (-1), 1) := by decide +kernel
theorem dL_runs_884 : decode cL_runs 884 = .ok (.if_icmp .ne 234, 3) := by decide +kernel
theorem dL_runs_887 : decode cL_runs 887 = .ok (.aload_n 0, 1) := by decide +kernel
theorem dL_runs_888 : decode cL_runs 888 = .ok (.bipush 42, 2) := by decide +kernel
theorem dL_runs_890 : decode cL_runs 890 = .ok (.bipush 42, 2) := by decide +kernel
theorem dL_runs_892 : decode cL_runs 892 = .ok (.bipush 46, 2) := by decide +kernel
theorem dL_runs_894 : decode cL_runs 894 = .ok (.bipush 46, 2) := by decide +kernel
theorem dL_runs_896 : decode cL_runs 896 = .ok (.bipush 46, 2) := by decide +kernel
theorem dL_runs_898 : decode cL_runs 898 = .ok (.bipush 46, 2) := by decide +kernel
theorem dL_runs_900 : decode cL_runs 900 = .ok (.bipush 46, 2) := by decide +kernel
theorem dL_runs_902 : decode cL_runs 902 = .ok (.bipush 46, 2) := by decide +kernel
theorem dL_runs_904 : decode cL_runs 904 = .ok (.invokestatic 121, 3) := by decide +kernel
theorem dL_runs_907 : decode cL_runs 907 = .ok (.ifCond .eq 211, 3) := by decide +kernel
theorem dL_runs_910 : decode cL_runs 910 = .ok (.aload_n 0, 1) := by decide +kernel
theorem dL_runs_911 : decode cL_runs 911 = .ok (.iconst 3, 1) := by decide +kernel
theorem dL_runs_912 : decode cL_runs 912 = .ok (.invokevirtual 74, 3) := by decide +kernel
theorem dL_runs_915 : decode cL_runs 915 = .ok (.iconst 1, 1) := by decide +kernel
theorem dL_runs_916 : decode cL_runs 916 = .ok (.if_icmp .ne 202, 3) := by decide +kernel
theorem dL_runs_919 : decode cL_runs 919 = .ok (.aload_n 0, 1) := by decide +kernel
theorem dL_runs_920 : decode cL_runs 920 = .ok (.bipush 97, 2) := by decide +kernel
theorem dL_runs_922 : decode cL_runs 922 = .ok (.bipush 47, 2) := by decide +kernel
theorem dL_runs_924 : decode cL_runs 924 = .ok (.bipush 63, 2) := by decide +kernel
theorem dL_runs_926 : decode cL_runs 926 = .ok (.bipush 46, 2) := by decide +kernel
theorem dL_runs_928 : decode cL_runs 928 = .ok (.bipush 46, 2) := by decide +kernel
theorem dL_runs_930 : decode cL_runs 930 = .ok (.bipush 46, 2) := by decide +kernel
theorem dL_runs_932 : decode cL_runs 932 = .ok (.bipush 46, 2) := by decide +kernel
theorem dL_runs_934 : decode cL_runs 934 = .ok (.bipush 46, 2) := by decide +kernel
theorem dL_runs_936 : decode cL_runs 936 = .ok (.invokestatic 121, 3) := by decide +kernel
theorem dL_runs_939 : decode cL_runs 939 = .ok (.ifCond .eq 179, 3) := by decide +kernel
theorem dL_runs_942 : decode cL_runs 942 = .ok (.aload_n 0, 1) := by decide +kernel
theorem dL_runs_943 : decode cL_runs 943 = .ok (.iconst 5, 1) := by decide +kernel
theorem dL_runs_944 : decode cL_runs 944 = .ok (.invokevirtual 74, 3) := by decide +kernel
theorem dL_runs_947 : decode cL_runs 947 = .ok (.iconst 2, 1) := by decide +kernel
theorem dL_runs_948 : decode cL_runs 948 = .ok (.if_icmp .ne 170, 3) := by decide +kernel
theorem dL_runs_951 : decode cL_runs 951 = .ok (.aload_n 0, 1) := by decide +kernel
theorem dL_runs_952 : decode cL_runs 952 = .ok (.iconst 2, 1) := by decide +kernel
