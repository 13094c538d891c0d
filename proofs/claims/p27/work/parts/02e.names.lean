theorem dL_holds_559 : decode cL_holds 559 = .ok (.istore 14, 2) := by decide +kernel
theorem dL_holds_561 : decode cL_holds 561 = .ok (.iload 18, 2) := by decide +kernel
theorem dL_holds_563 : decode cL_holds 563 = .ok (.iconst 1, 1) := by decide +kernel
theorem dL_holds_564 : decode cL_holds 564 = .ok (.if_icmp .le 40, 3) := by decide +kernel
theorem dL_holds_567 : decode cL_holds 567 = .ok (.iload 15, 2) := by decide +kernel
theorem dL_holds_569 : decode cL_holds 569 = .ok (.ifCond .eq 27, 3) := by decide +kernel
theorem dL_holds_572 : decode cL_holds 572 = .ok (.iload 19, 2) := by decide +kernel
theorem dL_holds_574 : decode cL_holds 574 = .ok (.iload 16, 2) := by decide +kernel
theorem dL_holds_576 : decode cL_holds 576 = .ok (.if_icmp .gt 20, 3) := by decide +kernel
theorem dL_holds_579 : decode cL_holds 579 = .ok (.iload 19, 2) := by decide +kernel
theorem dL_holds_581 : decode cL_holds 581 = .ok (.iload 16, 2) := by decide +kernel
theorem dL_holds_583 : decode cL_holds 583 = .ok (.if_icmp .ne 21, 3) := by decide +kernel
theorem dL_holds_586 : decode cL_holds 586 = .ok (.iload 17, 2) := by decide +kernel
theorem dL_holds_588 : decode cL_holds 588 = .ok (.iload 15, 2) := by decide +kernel
theorem dL_holds_590 : decode cL_holds 590 = .ok (.invokestatic 65, 3) := by decide +kernel
theorem dL_holds_593 : decode cL_holds 593 = .ok (.ifCond .eq 11, 3) := by decide +kernel
theorem dL_holds_596 : decode cL_holds 596 = .ok (.iload 17, 2) := by decide +kernel
theorem dL_holds_598 : decode cL_holds 598 = .ok (.istore 15, 2) := by decide +kernel
theorem dL_holds_600 : decode cL_holds 600 = .ok (.iload 19, 2) := by decide +kernel
theorem dL_holds_602 : decode cL_holds 602 = .ok (.istore 16, 2) := by decide +kernel
theorem dL_holds_604 : decode cL_holds 604 = .ok (.iinc 17 1, 3) := by decide +kernel
theorem dL_holds_607 : decode cL_holds 607 = .ok (.goto (-239), 3) := by decide +kernel
theorem dL_holds_610 : decode cL_holds 610 = .ok (.iconst (-1), 1) := by decide +kernel
theorem dL_holds_611 : decode cL_holds 611 = .ok (.istore 17, 2) := by decide +kernel
theorem dL_holds_613 : decode cL_holds 613 = .ok (.bipush 8, 2) := by decide +kernel
theorem dL_holds_615 : decode cL_holds 615 = .ok (.istore 18, 2) := by decide +kernel
theorem dL_holds_617 : decode cL_holds 617 = .ok (.iload 18, 2) := by decide +kernel
theorem dL_holds_619 : decode cL_holds 619 = .ok (.ifCond .lt 73, 3) := by decide +kernel
theorem dL_holds_622 : decode cL_holds 622 = .ok (.iload 11, 2) := by decide +kernel
theorem dL_holds_624 : decode cL_holds 624 = .ok (.ifCond .eq 68, 3) := by decide +kernel
theorem dL_holds_627 : decode cL_holds 627 = .ok (.aload_n 0, 1) := by decide +kernel
theorem dL_holds_628 : decode cL_holds 628 = .ok (.iload 18, 2) := by decide +kernel
theorem dL_holds_630 : decode cL_holds 630 = .ok (.bipush 6, 2) := by decide +kernel
theorem dL_holds_632 : decode cL_holds 632 = .ok (.invokevirtual 21, 3) := by decide +kernel
theorem dL_holds_635 : decode cL_holds 635 = .ok (.aload 6, 2) := by decide +kernel
theorem dL_holds_637 : decode cL_holds 637 = .ok (.iload 18, 2) := by decide +kernel
theorem dL_holds_639 : decode cL_holds 639 = .ok (.iaload, 1) := by decide +kernel
theorem dL_holds_640 : decode cL_holds 640 = .ok (.if_icmp .ne 7, 3) := by decide +kernel
theorem dL_holds_643 : decode cL_holds 643 = .ok (.iconst 1, 1) := by decide +kernel
theorem dL_holds_644 : decode cL_holds 644 = .ok (.goto 4, 3) := by decide +kernel
theorem dL_holds_647 : decode cL_holds 647 = .ok (.iconst 0, 1) := by decide +kernel
theorem dL_holds_648 : decode cL_holds 648 = .ok (.istore 11, 2) := by decide +kernel
theorem dL_holds_650 : decode cL_holds 650 = .ok (.aload 7, 2) := by decide +kernel
theorem dL_holds_652 : decode cL_holds 652 = .ok (.iload 18, 2) := by decide +kernel
theorem dL_holds_654 : decode cL_holds 654 = .ok (.iaload, 1) := by decide +kernel
theorem dL_holds_655 : decode cL_holds 655 = .ok (.ifCond .le 27, 3) := by decide +kernel
theorem dL_holds_658 : decode cL_holds 658 = .ok (.iload 17, 2) := by decide +kernel
theorem dL_holds_660 : decode cL_holds 660 = .ok (.iconst (-1), 1) := by decide +kernel
theorem dL_holds_661 : decode cL_holds 661 = .ok (.if_icmp .eq 16, 3) := by decide +kernel
theorem dL_holds_664 : decode cL_holds 664 = .ok (.aload 7, 2) := by decide +kernel
theorem dL_holds_666 : decode cL_holds 666 = .ok (.iload 18, 2) := by decide +kernel
theorem dL_holds_668 : decode cL_holds 668 = .ok (.iaload, 1) := by decide +kernel
theorem dL_holds_669 : decode cL_holds 669 = .ok (.aload 7, 2) := by decide +kernel
theorem dL_holds_671 : decode cL_holds 671 = .ok (.iload 17, 2) := by decide +kernel
theorem dL_holds_673 : decode cL_holds 673 = .ok (.iaload, 1) := by decide +kernel
theorem dL_holds_674 : decode cL_holds 674 = .ok (.if_icmp .lt 8, 3) := by decide +kernel
theorem dL_holds_677 : decode cL_holds 677 = .ok (.iload 18, 2) := by decide +kernel
theorem dL_holds_679 : decode cL_holds 679 = .ok (.goto 5, 3) := by decide +kernel
theorem dL_holds_682 : decode cL_holds 682 = .ok (.iload 17, 2) := by decide +kernel
theorem dL_holds_684 : decode cL_holds 684 = .ok (.istore 17, 2) := by decide +kernel
theorem dL_holds_686 : decode cL_holds 686 = .ok (.iinc 18 (-1), 3) := by decide +kernel
theorem dL_holds_689 : decode cL_holds 689 = .ok (.goto (-72), 3) := by decide +kernel
theorem dL_holds_692 : decode cL_holds 692 = .ok (.iload 11, 2) := by decide +kernel
theorem dL_holds_694 : decode cL_holds 694 = .ok (.ifCond .eq 99, 3) := by decide +kernel
theorem dL_holds_697 : decode cL_holds 697 = .ok (.iload 8, 2) := by decide +kernel
theorem dL_holds_699 : decode cL_holds 699 = .ok (.aload_n 0, 1) := by decide +kernel
theorem dL_holds_700 : decode cL_holds 700 = .ok (.iconst 0, 1) := by decide +kernel
theorem dL_holds_701 : decode cL_holds 701 = .ok (.invokevirtual 15, 3) := by decide +kernel
theorem dL_holds_704 : decode cL_holds 704 = .ok (.if_icmp .ne 89, 3) := by decide +kernel
theorem dL_holds_707 : decode cL_holds 707 = .ok (.iload 9, 2) := by decide +kernel
theorem dL_holds_709 : decode cL_holds 709 = .ok (.aload_n 0, 1) := by decide +kernel
theorem dL_holds_710 : decode cL_holds 710 = .ok (.iconst 1, 1) := by decide +kernel
theorem dL_holds_711 : decode cL_holds 711 = .ok (.invokevirtual 15, 3) := by decide +kernel
theorem dL_holds_714 : decode cL_holds 714 = .ok (.if_icmp .ne 79, 3) := by decide +kernel
theorem dL_holds_717 : decode cL_holds 717 = .ok (.iload 10, 2) := by decide +kernel
theorem dL_holds_719 : decode cL_holds 719 = .ok (.aload_n 0, 1) := by decide +kernel
theorem dL_holds_720 : decode cL_holds 720 = .ok (.iconst 2, 1) := by decide +kernel
theorem dL_holds_721 : decode cL_holds 721 = .ok (.invokevirtual 15, 3) := by decide +kernel
theorem dL_holds_724 : decode cL_holds 724 = .ok (.if_icmp .ne 69, 3) := by decide +kernel
theorem dL_holds_727 : decode cL_holds 727 = .ok (.iload 12, 2) := by decide +kernel
theorem dL_holds_729 : decode cL_holds 729 = .ok (.aload_n 0, 1) := by decide +kernel
theorem dL_holds_730 : decode cL_holds 730 = .ok (.iconst 4, 1) := by decide +kernel
theorem dL_holds_731 : decode cL_holds 731 = .ok (.invokevirtual 15, 3) := by decide +kernel
theorem dL_holds_734 : decode cL_holds 734 = .ok (.if_icmp .ne 59, 3) := by decide +kernel
theorem dL_holds_737 : decode cL_holds 737 = .ok (.iload 12, 2) := by decide +kernel
theorem dL_holds_739 : decode cL_holds 739 = .ok (.aload_n 0, 1) := by decide +kernel
theorem dL_holds_740 : decode cL_holds 740 = .ok (.iconst 5, 1) := by decide +kernel
theorem dL_holds_741 : decode cL_holds 741 = .ok (.invokevirtual 15, 3) := by decide +kernel
theorem dL_holds_744 : decode cL_holds 744 = .ok (.if_icmp .ne 49, 3) := by decide +kernel
theorem dL_holds_747 : decode cL_holds 747 = .ok (.iload 13, 2) := by decide +kernel
theorem dL_holds_749 : decode cL_holds 749 = .ok (.aload_n 0, 1) := by decide +kernel
theorem dL_holds_750 : decode cL_holds 750 = .ok (.bipush 6, 2) := by decide +kernel
theorem dL_holds_752 : decode cL_holds 752 = .ok (.invokevirtual 15, 3) := by decide +kernel
theorem dL_holds_755 : decode cL_holds 755 = .ok (.if_icmp .ne 38, 3) := by decide +kernel
theorem dL_holds_758 : decode cL_holds 758 = .ok (.iload 14, 2) := by decide +kernel
theorem dL_holds_760 : decode cL_holds 760 = .ok (.aload_n 0, 1) := by decide +kernel
theorem dL_holds_761 : decode cL_holds 761 = .ok (.bipush 7, 2) := by decide +kernel
theorem dL_holds_763 : decode cL_holds 763 = .ok (.invokevirtual 15, 3) := by decide +kernel
theorem dL_holds_766 : decode cL_holds 766 = .ok (.if_icmp .ne 27, 3) := by decide +kernel
theorem dL_holds_769 : decode cL_holds 769 = .ok (.iload 14, 2) := by decide +kernel
theorem dL_holds_771 : decode cL_holds 771 = .ok (.aload_n 0, 1) := by decide +kernel
theorem dL_holds_772 : decode cL_holds 772 = .ok (.bipush 8, 2) := by decide +kernel
theorem dL_holds_774 : decode cL_holds 774 = .ok (.invokevirtual 15, 3) := by decide +kernel
theorem dL_holds_777 : decode cL_holds 777 = .ok (.if_icmp .ne 16, 3) := by decide +kernel
theorem dL_holds_780 : decode cL_holds 780 = .ok (.iload 17, 2) := by decide +kernel
theorem dL_holds_782 : decode cL_holds 782 = .ok (.aload_n 0, 1) := by decide +kernel
theorem dL_holds_783 : decode cL_holds 783 = .ok (.invokevirtual 69, 3) := by decide +kernel
theorem dL_holds_786 : decode cL_holds 786 = .ok (.if_icmp .ne 7, 3) := by decide +kernel
theorem dL_holds_789 : decode cL_holds 789 = .ok (.iconst 1, 1) := by decide +kernel
theorem dL_holds_790 : decode cL_holds 790 = .ok (.goto 4, 3) := by decide +kernel
theorem dL_holds_793 : decode cL_holds 793 = .ok (.iconst 0, 1) := by decide +kernel
theorem dL_holds_794 : decode cL_holds 794 = .ok (.istore 11, 2) := by decide +kernel
theorem dL_holds_796 : decode cL_holds 796 = .ok (.iload 11, 2) := by decide +kernel
theorem dL_holds_798 : decode cL_holds 798 = .ok (.ifCond .eq 72, 3) := by decide +kernel
theorem dL_holds_801 : decode cL_holds 801 = .ok (.aload_n 0, 1) := by decide +kernel
theorem dL_holds_802 : decode cL_holds 802 = .ok (.iconst 0, 1) := by decide +kernel
theorem dL_holds_803 : decode cL_holds 803 = .ok (.invokevirtual 39, 3) := by decide +kernel
theorem dL_holds_806 : decode cL_holds 806 = .ok (.iload 15, 2) := by decide +kernel
theorem dL_holds_808 : decode cL_holds 808 = .ok (.ifCond .ne 7, 3) := by decide +kernel
theorem dL_holds_811 : decode cL_holds 811 = .ok (.iconst (-1), 1) := by decide +kernel
theorem dL_holds_812 : decode cL_holds 812 = .ok (.goto 5, 3) := by decide +kernel
theorem dL_holds_815 : decode cL_holds 815 = .ok (.iload 16, 2) := by decide +kernel
theorem dL_holds_817 : decode cL_holds 817 = .ok (.if_icmp .ne 53, 3) := by decide +kernel
theorem dL_holds_820 : decode cL_holds 820 = .ok (.aload_n 0, 1) := by decide +kernel
theorem dL_holds_821 : decode cL_holds 821 = .ok (.iconst 1, 1) := by decide +kernel
theorem dL_holds_822 : decode cL_holds 822 = .ok (.invokevirtual 39, 3) := by decide +kernel
theorem dL_holds_825 : decode cL_holds 825 = .ok (.iload 15, 2) := by decide +kernel
theorem dL_holds_827 : decode cL_holds 827 = .ok (.ifCond .ne 7, 3) := by decide +kernel
theorem dL_holds_830 : decode cL_holds 830 = .ok (.iconst (-1), 1) := by decide +kernel
theorem dL_holds_831 : decode cL_holds 831 = .ok (.goto 5, 3) := by decide +kernel
theorem dL_holds_834 : decode cL_holds 834 = .ok (.iload 15, 2) := by decide +kernel
theorem dL_holds_836 : decode cL_holds 836 = .ok (.if_icmp .ne 34, 3) := by decide +kernel
theorem dL_holds_839 : decode cL_holds 839 = .ok (.aload_n 0, 1) := by decide +kernel
theorem dL_holds_840 : decode cL_holds 840 = .ok (.invokevirtual 72, 3) := by decide +kernel
theorem dL_holds_843 : decode cL_holds 843 = .ok (.iload 9, 2) := by decide +kernel
theorem dL_holds_845 : decode cL_holds 845 = .ok (.ifCond .ne 7, 3) := by decide +kernel
theorem dL_holds_848 : decode cL_holds 848 = .ok (.dconst 1, 1) := by decide +kernel
theorem dL_holds_849 : decode cL_holds 849 = .ok (.goto 13, 3) := by decide +kernel
theorem dL_holds_852 : decode cL_holds 852 = .ok (.iload 9, 2) := by decide +kernel
theorem dL_holds_854 : decode cL_holds 854 = .ok (.iload 10, 2) := by decide +kernel
theorem dL_holds_856 : decode cL_holds 856 = .ok (.isub, 1) := by decide +kernel
theorem dL_holds_857 : decode cL_holds 857 = .ok (.i2d, 1) := by decide +kernel
theorem dL_holds_858 : decode cL_holds 858 = .ok (.iload 9, 2) := by decide +kernel
theorem dL_holds_860 : decode cL_holds 860 = .ok (.i2d, 1) := by decide +kernel
theorem dL_holds_861 : decode cL_holds 861 = .ok (.ddiv, 1) := by decide +kernel
theorem dL_holds_862 : decode cL_holds 862 = .ok (.dcmp .l, 1) := by decide +kernel
theorem dL_holds_863 : decode cL_holds 863 = .ok (.ifCond .ne 7, 3) := by decide +kernel
theorem dL_holds_866 : decode cL_holds 866 = .ok (.iconst 1, 1) := by decide +kernel
theorem dL_holds_867 : decode cL_holds 867 = .ok (.goto 4, 3) := by decide +kernel
theorem dL_holds_870 : decode cL_holds 870 = .ok (.iconst 0, 1) := by decide +kernel
theorem dL_holds_871 : decode cL_holds 871 = .ok (.istore 11, 2) := by decide +kernel
theorem dL_holds_873 : decode cL_holds 873 = .ok (.iconst 0, 1) := by decide +kernel
theorem dL_holds_874 : decode cL_holds 874 = .ok (.istore 18, 2) := by decide +kernel
theorem dL_holds_876 : decode cL_holds 876 = .ok (.iload 18, 2) := by decide +kernel
theorem dL_holds_878 : decode cL_holds 878 = .ok (.iload 13, 2) := by decide +kernel
theorem dL_holds_880 : decode cL_holds 880 = .ok (.if_icmp .ge 69, 3) := by decide +kernel
theorem dL_holds_883 : decode cL_holds 883 = .ok (.iload 18, 2) := by decide +kernel
theorem dL_holds_885 : decode cL_holds 885 = .ok (.bipush 40, 2) := by decide +kernel
theorem dL_holds_887 : decode cL_holds 887 = .ok (.if_icmp .ge 62, 3) := by decide +kernel
theorem dL_holds_890 : decode cL_holds 890 = .ok (.iload 11, 2) := by decide +kernel
theorem dL_holds_892 : decode cL_holds 892 = .ok (.ifCond .eq 57, 3) := by decide +kernel
theorem dL_holds_895 : decode cL_holds 895 = .ok (.aload_n 0, 1) := by decide +kernel
theorem dL_holds_896 : decode cL_holds 896 = .ok (.iload 18, 2) := by decide +kernel
theorem dL_holds_898 : decode cL_holds 898 = .ok (.invokevirtual 76, 3) := by decide +kernel
theorem dL_holds_901 : decode cL_holds 901 = .ok (.istore 19, 2) := by decide +kernel
theorem dL_holds_903 : decode cL_holds 903 = .ok (.aload_n 1, 1) := by decide +kernel
theorem dL_holds_904 : decode cL_holds 904 = .ok (.aload_n 2, 1) := by decide +kernel
theorem dL_holds_905 : decode cL_holds 905 = .ok (.aload_n 3, 1) := by decide +kernel
theorem dL_holds_906 : decode cL_holds 906 = .ok (.iload 19, 2) := by decide +kernel
theorem dL_holds_908 : decode cL_holds 908 = .ok (.invokestatic 61, 3) := by decide +kernel
theorem dL_holds_911 : decode cL_holds 911 = .ok (.iconst 2, 1) := by decide +kernel
theorem dL_holds_912 : decode cL_holds 912 = .ok (.if_icmp .ne 28, 3) := by decide +kernel
theorem dL_holds_915 : decode cL_holds 915 = .ok (.iload 18, 2) := by decide +kernel
theorem dL_holds_917 : decode cL_holds 917 = .ok (.ifCond .eq 19, 3) := by decide +kernel
theorem dL_holds_920 : decode cL_holds 920 = .ok (.aload_n 0, 1) := by decide +kernel
theorem dL_holds_921 : decode cL_holds 921 = .ok (.iload 18, 2) := by decide +kernel
theorem dL_holds_923 : decode cL_holds 923 = .ok (.iconst 1, 1) := by decide +kernel
theorem dL_holds_924 : decode cL_holds 924 = .ok (.isub, 1) := by decide +kernel
theorem dL_holds_925 : decode cL_holds 925 = .ok (.invokevirtual 76, 3) := by decide +kernel
theorem dL_holds_928 : decode cL_holds 928 = .ok (.iload 19, 2) := by decide +kernel
theorem dL_holds_930 : decode cL_holds 930 = .ok (.invokestatic 65, 3) := by decide +kernel
theorem dL_holds_933 : decode cL_holds 933 = .ok (.ifCond .eq 7, 3) := by decide +kernel
theorem dL_holds_936 : decode cL_holds 936 = .ok (.iconst 1, 1) := by decide +kernel
theorem dL_holds_937 : decode cL_holds 937 = .ok (.goto 4, 3) := by decide +kernel
theorem dL_holds_940 : decode cL_holds 940 = .ok (.iconst 0, 1) := by decide +kernel
theorem dL_holds_941 : decode cL_holds 941 = .ok (.istore 11, 2) := by decide +kernel
theorem dL_holds_943 : decode cL_holds 943 = .ok (.iinc 18 1, 3) := by decide +kernel
theorem dL_holds_946 : decode cL_holds 946 = .ok (.goto (-70), 3) := by decide +kernel
theorem dL_holds_949 : decode cL_holds 949 = .ok (.iconst 0, 1) := by decide +kernel
theorem dL_holds_950 : decode cL_holds 950 = .ok (.istore 18, 2) := by decide +kernel
theorem dL_holds_952 : decode cL_holds 952 = .ok (.iconst 0, 1) := by decide +kernel
theorem dL_holds_953 : decode cL_holds 953 = .ok (.istore 19, 2) := by decide +kernel
theorem dL_holds_955 : decode cL_holds 955 = .ok (.iload 19, 2) := by decide +kernel
theorem dL_holds_957 : decode cL_holds 957 = .ok (.aload_n 0, 1) := by decide +kernel
theorem dL_holds_958 : decode cL_holds 958 = .ok (.iconst 3, 1) := by decide +kernel
theorem dL_holds_959 : decode cL_holds 959 = .ok (.invokevirtual 15, 3) := by decide +kernel
theorem dL_holds_962 : decode cL_holds 962 = .ok (.if_icmp .ge 29, 3) := by decide +kernel
theorem dL_holds_965 : decode cL_holds 965 = .ok (.iload 18, 2) := by decide +kernel
theorem dL_holds_967 : decode cL_holds 967 = .ok (.aload_n 0, 1) := by decide +kernel
theorem dL_holds_968 : decode cL_holds 968 = .ok (.iload 19, 2) := by decide +kernel
theorem dL_holds_970 : decode cL_holds 970 = .ok (.iconst 0, 1) := by decide +kernel
theorem dL_holds_971 : decode cL_holds 971 = .ok (.invokevirtual 46, 3) := by decide +kernel
theorem dL_holds_974 : decode cL_holds 974 = .ok (.aload_n 0, 1) := by decide +kernel
theorem dL_holds_975 : decode cL_holds 975 = .ok (.iload 19, 2) := by decide +kernel
theorem dL_holds_977 : decode cL_holds 977 = .ok (.iconst 2, 1) := by decide +kernel
theorem dL_holds_978 : decode cL_holds 978 = .ok (.invokevirtual 46, 3) := by decide +kernel
theorem dL_holds_981 : decode cL_holds 981 = .ok (.imul, 1) := by decide +kernel
theorem dL_holds_982 : decode cL_holds 982 = .ok (.iadd, 1) := by decide +kernel
theorem dL_holds_983 : decode cL_holds 983 = .ok (.istore 18, 2) := by decide +kernel
theorem dL_holds_985 : decode cL_holds 985 = .ok (.iinc 19 1, 3) := by decide +kernel
theorem dL_holds_988 : decode cL_holds 988 = .ok (.goto (-33), 3) := by decide +kernel
theorem dL_holds_991 : decode cL_holds 991 = .ok (.iload 11, 2) := by decide +kernel
theorem dL_holds_993 : decode cL_holds 993 = .ok (.ifCond .eq 36, 3) := by decide +kernel
theorem dL_holds_996 : decode cL_holds 996 = .ok (.aload_n 0, 1) := by decide +kernel
theorem dL_holds_997 : decode cL_holds 997 = .ok (.iload 13, 2) := by decide +kernel
theorem dL_holds_999 : decode cL_holds 999 = .ok (.invokevirtual 76, 3) := by decide +kernel
theorem dL_holds_1002 : decode cL_holds 1002 = .ok (.iconst (-1), 1) := by decide +kernel
theorem dL_holds_1003 : decode cL_holds 1003 = .ok (.if_icmp .ne 26, 3) := by decide +kernel
theorem dL_holds_1006 : decode cL_holds 1006 = .ok (.iload 18, 2) := by decide +kernel
theorem dL_holds_1008 : decode cL_holds 1008 = .ok (.iload 9, 2) := by decide +kernel
theorem dL_holds_1010 : decode cL_holds 1010 = .ok (.iload 10, 2) := by decide +kernel
theorem dL_holds_1012 : decode cL_holds 1012 = .ok (.isub, 1) := by decide +kernel
theorem dL_holds_1013 : decode cL_holds 1013 = .ok (.if_icmp .ne 16, 3) := by decide +kernel
theorem dL_holds_1016 : decode cL_holds 1016 = .ok (.aload_n 0, 1) := by decide +kernel
theorem dL_holds_1017 : decode cL_holds 1017 = .ok (.invokevirtual 49, 3) := by decide +kernel
theorem dL_holds_1020 : decode cL_holds 1020 = .ok (.iload 10, 2) := by decide +kernel
theorem dL_holds_1022 : decode cL_holds 1022 = .ok (.if_icmp .gt 7, 3) := by decide +kernel
theorem dL_holds_1025 : decode cL_holds 1025 = .ok (.iconst 1, 1) := by decide +kernel
theorem dL_holds_1026 : decode cL_holds 1026 = .ok (.goto 4, 3) := by decide +kernel
theorem dL_holds_1029 : decode cL_holds 1029 = .ok (.iconst 0, 1) := by decide +kernel
theorem dL_holds_1030 : decode cL_holds 1030 = .ok (.ireturn, 1) := by decide +kernel
set_option maxRecDepth 20000 in
theorem ggL_law_X4_init : GoodIn wsL_law wsX4_init := goodIn_r _ [5, 6, 7, 8, 9, 10, 11, 12, 13, 14, 15, 16, 17, 18, 19, 20, 21, 22, 23, 24, 25, 26, 27, 28, 29, 30, 31, 32, 33, 34, 35, 36, 37, 38, 39, 40, 41, 42, 43, 44, 45, 46, 47, 48, 49, 50, 51, 52, 53, 54, 55, 56, 57, 58, 59, 60, 319, 320, 321, 322, 323, 324, 325, 326, 327, 328, 310, 311, 312, 313, 314, 315, 316, 317, 318, 329, 330, 331, 332, 333, 334, 335, 336, 337, 338, 339, 340, 341, 342, 343, 344] (by decide +kernel) (by decide +kernel)
set_option maxRecDepth 20000 in
theorem gL_law_X4_init : GoodIn wsL_law (wsX4_init) := ggL_law_X4_init
