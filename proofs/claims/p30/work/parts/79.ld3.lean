theorem dL_law_698 : decode cL_law 698 = .ok (.invokevirtual 26, 3) := by decide +kernel
theorem dL_law_701 : decode cL_law 701 = .ok (.iload 8, 2) := by decide +kernel
theorem dL_law_703 : decode cL_law 703 = .ok (.if_icmp .ne 20, 3) := by decide +kernel
theorem dL_law_706 : decode cL_law 706 = .ok (.aload_n 1, 1) := by decide +kernel
theorem dL_law_707 : decode cL_law 707 = .ok (.iload 10, 2) := by decide +kernel
theorem dL_law_709 : decode cL_law 709 = .ok (.iconst 1, 1) := by decide +kernel
theorem dL_law_710 : decode cL_law 710 = .ok (.isub, 1) := by decide +kernel
theorem dL_law_711 : decode cL_law 711 = .ok (.bipush 6, 2) := by decide +kernel
theorem dL_law_713 : decode cL_law 713 = .ok (.invokevirtual 26, 3) := by decide +kernel
theorem dL_law_716 : decode cL_law 716 = .ok (.ifCond .ne 7, 3) := by decide +kernel
theorem dL_law_719 : decode cL_law 719 = .ok (.iconst 1, 1) := by decide +kernel
theorem dL_law_720 : decode cL_law 720 = .ok (.goto 4, 3) := by decide +kernel
theorem dL_law_723 : decode cL_law 723 = .ok (.iconst 0, 1) := by decide +kernel
theorem dL_law_724 : decode cL_law 724 = .ok (.istore_n 2, 1) := by decide +kernel
theorem dL_law_725 : decode cL_law 725 = .ok (.iinc 14 1, 3) := by decide +kernel
theorem dL_law_728 : decode cL_law 728 = .ok (.goto (-114), 3) := by decide +kernel
theorem dL_law_731 : decode cL_law 731 = .ok (.iload_n 2, 1) := by decide +kernel
theorem dL_law_732 : decode cL_law 732 = .ok (.ifCond .eq 22, 3) := by decide +kernel
theorem dL_law_735 : decode cL_law 735 = .ok (.iload 11, 2) := by decide +kernel
theorem dL_law_737 : decode cL_law 737 = .ok (.ifCond .lt 13, 3) := by decide +kernel
theorem dL_law_740 : decode cL_law 740 = .ok (.aload_n 1, 1) := by decide +kernel
theorem dL_law_741 : decode cL_law 741 = .ok (.iconst 4, 1) := by decide +kernel
theorem dL_law_742 : decode cL_law 742 = .ok (.invokevirtual 13, 3) := by decide +kernel
theorem dL_law_745 : decode cL_law 745 = .ok (.iload 10, 2) := by decide +kernel
theorem dL_law_747 : decode cL_law 747 = .ok (.if_icmp .ne 7, 3) := by decide +kernel
theorem dL_law_750 : decode cL_law 750 = .ok (.iconst 1, 1) := by decide +kernel
theorem dL_law_751 : decode cL_law 751 = .ok (.goto 4, 3) := by decide +kernel
theorem dL_law_754 : decode cL_law 754 = .ok (.iconst 0, 1) := by decide +kernel
theorem dL_law_755 : decode cL_law 755 = .ok (.istore_n 2, 1) := by decide +kernel
theorem dL_law_756 : decode cL_law 756 = .ok (.goto 379, 3) := by decide +kernel
theorem dL_law_759 : decode cL_law 759 = .ok (.aload_n 1, 1) := by decide +kernel
theorem dL_law_760 : decode cL_law 760 = .ok (.iload 8, 2) := by decide +kernel
theorem dL_law_762 : decode cL_law 762 = .ok (.invokevirtual 58, 3) := by decide +kernel
theorem dL_law_765 : decode cL_law 765 = .ok (.istore 11, 2) := by decide +kernel
theorem dL_law_767 : decode cL_law 767 = .ok (.iload 11, 2) := by decide +kernel
theorem dL_law_769 : decode cL_law 769 = .ok (.ifCond .lt 23, 3) := by decide +kernel
theorem dL_law_772 : decode cL_law 772 = .ok (.aload_n 1, 1) := by decide +kernel
theorem dL_law_773 : decode cL_law 773 = .ok (.iload 8, 2) := by decide +kernel
theorem dL_law_775 : decode cL_law 775 = .ok (.iconst 5, 1) := by decide +kernel
theorem dL_law_776 : decode cL_law 776 = .ok (.invokevirtual 22, 3) := by decide +kernel
theorem dL_law_779 : decode cL_law 779 = .ok (.ifCond .ne 17, 3) := by decide +kernel
theorem dL_law_782 : decode cL_law 782 = .ok (.aload_n 1, 1) := by decide +kernel
theorem dL_law_783 : decode cL_law 783 = .ok (.iconst 4, 1) := by decide +kernel
theorem dL_law_784 : decode cL_law 784 = .ok (.invokevirtual 13, 3) := by decide +kernel
theorem dL_law_787 : decode cL_law 787 = .ok (.iload 10, 2) := by decide +kernel
theorem dL_law_789 : decode cL_law 789 = .ok (.if_icmp .ne 7, 3) := by decide +kernel
theorem dL_law_792 : decode cL_law 792 = .ok (.iconst 1, 1) := by decide +kernel
theorem dL_law_793 : decode cL_law 793 = .ok (.goto 4, 3) := by decide +kernel
theorem dL_law_796 : decode cL_law 796 = .ok (.iconst 0, 1) := by decide +kernel
theorem dL_law_797 : decode cL_law 797 = .ok (.istore_n 2, 1) := by decide +kernel
theorem dL_law_798 : decode cL_law 798 = .ok (.goto 337, 3) := by decide +kernel
theorem dL_law_801 : decode cL_law 801 = .ok (.iload 10, 2) := by decide +kernel
theorem dL_law_803 : decode cL_law 803 = .ok (.ifCond .ne 7, 3) := by decide +kernel
theorem dL_law_806 : decode cL_law 806 = .ok (.iconst 0, 1) := by decide +kernel
theorem dL_law_807 : decode cL_law 807 = .ok (.goto 12, 3) := by decide +kernel
theorem dL_law_810 : decode cL_law 810 = .ok (.aload_n 1, 1) := by decide +kernel
theorem dL_law_811 : decode cL_law 811 = .ok (.iload 5, 2) := by decide +kernel
theorem dL_law_813 : decode cL_law 813 = .ok (.iload 10, 2) := by decide +kernel
theorem dL_law_815 : decode cL_law 815 = .ok (.irem, 1) := by decide +kernel
theorem dL_law_816 : decode cL_law 816 = .ok (.invokevirtual 61, 3) := by decide +kernel
theorem dL_law_819 : decode cL_law 819 = .ok (.istore 11, 2) := by decide +kernel
theorem dL_law_821 : decode cL_law 821 = .ok (.iload 11, 2) := by decide +kernel
theorem dL_law_823 : decode cL_law 823 = .ok (.ifCond .lt 33, 3) := by decide +kernel
theorem dL_law_826 : decode cL_law 826 = .ok (.iload 10, 2) := by decide +kernel
theorem dL_law_828 : decode cL_law 828 = .ok (.ifCond .eq 28, 3) := by decide +kernel
theorem dL_law_831 : decode cL_law 831 = .ok (.aload_n 1, 1) := by decide +kernel
theorem dL_law_832 : decode cL_law 832 = .ok (.iload 5, 2) := by decide +kernel
theorem dL_law_834 : decode cL_law 834 = .ok (.iload 10, 2) := by decide +kernel
theorem dL_law_836 : decode cL_law 836 = .ok (.irem, 1) := by decide +kernel
theorem dL_law_837 : decode cL_law 837 = .ok (.bipush 6, 2) := by decide +kernel
theorem dL_law_839 : decode cL_law 839 = .ok (.invokevirtual 26, 3) := by decide +kernel
theorem dL_law_842 : decode cL_law 842 = .ok (.iconst 1, 1) := by decide +kernel
theorem dL_law_843 : decode cL_law 843 = .ok (.if_icmp .ne 17, 3) := by decide +kernel
theorem dL_law_846 : decode cL_law 846 = .ok (.iload 11, 2) := by decide +kernel
theorem dL_law_848 : decode cL_law 848 = .ok (.aload_n 1, 1) := by decide +kernel
theorem dL_law_849 : decode cL_law 849 = .ok (.iconst 5, 1) := by decide +kernel
theorem dL_law_850 : decode cL_law 850 = .ok (.invokevirtual 13, 3) := by decide +kernel
theorem dL_law_853 : decode cL_law 853 = .ok (.if_icmp .ne 7, 3) := by decide +kernel
theorem dL_law_856 : decode cL_law 856 = .ok (.iconst 1, 1) := by decide +kernel
theorem dL_law_857 : decode cL_law 857 = .ok (.goto 4, 3) := by decide +kernel
theorem dL_law_860 : decode cL_law 860 = .ok (.iconst 0, 1) := by decide +kernel
theorem dL_law_861 : decode cL_law 861 = .ok (.istore_n 2, 1) := by decide +kernel
theorem dL_law_862 : decode cL_law 862 = .ok (.goto 273, 3) := by decide +kernel
theorem dL_law_865 : decode cL_law 865 = .ok (.aload_n 1, 1) := by decide +kernel
theorem dL_law_866 : decode cL_law 866 = .ok (.iconst 0, 1) := by decide +kernel
theorem dL_law_867 : decode cL_law 867 = .ok (.invokevirtual 84, 3) := by decide +kernel
theorem dL_law_870 : decode cL_law 870 = .ok (.istore 12, 2) := by decide +kernel
theorem dL_law_872 : decode cL_law 872 = .ok (.iload 12, 2) := by decide +kernel
theorem dL_law_874 : decode cL_law 874 = .ok (.ifCond .ge 7, 3) := by decide +kernel
theorem dL_law_877 : decode cL_law 877 = .ok (.iconst 0, 1) := by decide +kernel
theorem dL_law_878 : decode cL_law 878 = .ok (.goto 10, 3) := by decide +kernel
theorem dL_law_881 : decode cL_law 881 = .ok (.aload_n 1, 1) := by decide +kernel
theorem dL_law_882 : decode cL_law 882 = .ok (.iload 12, 2) := by decide +kernel
theorem dL_law_884 : decode cL_law 884 = .ok (.iconst 1, 1) := by decide +kernel
theorem dL_law_885 : decode cL_law 885 = .ok (.invokevirtual 26, 3) := by decide +kernel
theorem dL_law_888 : decode cL_law 888 = .ok (.istore 13, 2) := by decide +kernel
theorem dL_law_890 : decode cL_law 890 = .ok (.iload 12, 2) := by decide +kernel
theorem dL_law_892 : decode cL_law 892 = .ok (.ifCond .ge 7, 3) := by decide +kernel
theorem dL_law_895 : decode cL_law 895 = .ok (.iconst 0, 1) := by decide +kernel
theorem dL_law_896 : decode cL_law 896 = .ok (.goto 18, 3) := by decide +kernel
theorem dL_law_899 : decode cL_law 899 = .ok (.aload_n 1, 1) := by decide +kernel
theorem dL_law_900 : decode cL_law 900 = .ok (.iload 12, 2) := by decide +kernel
theorem dL_law_902 : decode cL_law 902 = .ok (.iconst 5, 1) := by decide +kernel
theorem dL_law_903 : decode cL_law 903 = .ok (.invokevirtual 26, 3) := by decide +kernel
theorem dL_law_906 : decode cL_law 906 = .ok (.aload_n 1, 1) := by decide +kernel
theorem dL_law_907 : decode cL_law 907 = .ok (.iload 12, 2) := by decide +kernel
theorem dL_law_909 : decode cL_law 909 = .ok (.iconst 4, 1) := by decide +kernel
theorem dL_law_910 : decode cL_law 910 = .ok (.invokevirtual 26, 3) := by decide +kernel
theorem dL_law_913 : decode cL_law 913 = .ok (.isub, 1) := by decide +kernel
theorem dL_law_914 : decode cL_law 914 = .ok (.istore 14, 2) := by decide +kernel
theorem dL_law_916 : decode cL_law 916 = .ok (.iload 12, 2) := by decide +kernel
theorem dL_law_918 : decode cL_law 918 = .ok (.ifCond .ge 7, 3) := by decide +kernel
theorem dL_law_921 : decode cL_law 921 = .ok (.iconst 0, 1) := by decide +kernel
theorem dL_law_922 : decode cL_law 922 = .ok (.goto 10, 3) := by decide +kernel
theorem dL_law_925 : decode cL_law 925 = .ok (.aload_n 1, 1) := by decide +kernel
theorem dL_law_926 : decode cL_law 926 = .ok (.iload 13, 2) := by decide +kernel
theorem dL_law_928 : decode cL_law 928 = .ok (.iconst 4, 1) := by decide +kernel
theorem dL_law_929 : decode cL_law 929 = .ok (.invokevirtual 22, 3) := by decide +kernel
theorem dL_law_932 : decode cL_law 932 = .ok (.istore 15, 2) := by decide +kernel
theorem dL_law_934 : decode cL_law 934 = .ok (.aload_n 1, 1) := by decide +kernel
theorem dL_law_935 : decode cL_law 935 = .ok (.invokevirtual 94, 3) := by decide +kernel
theorem dL_law_938 : decode cL_law 938 = .ok (.istore 11, 2) := by decide +kernel
theorem dL_law_940 : decode cL_law 940 = .ok (.iload 11, 2) := by decide +kernel
theorem dL_law_942 : decode cL_law 942 = .ok (.ifCond .ge 16, 3) := by decide +kernel
theorem dL_law_945 : decode cL_law 945 = .ok (.iload 12, 2) := by decide +kernel
theorem dL_law_947 : decode cL_law 947 = .ok (.ifCond .ge 7, 3) := by decide +kernel
theorem dL_law_950 : decode cL_law 950 = .ok (.iconst 1, 1) := by decide +kernel
theorem dL_law_951 : decode cL_law 951 = .ok (.goto 80, 3) := by decide +kernel
theorem dL_law_954 : decode cL_law 954 = .ok (.iconst 0, 1) := by decide +kernel
theorem dL_law_955 : decode cL_law 955 = .ok (.goto 76, 3) := by decide +kernel
theorem dL_law_958 : decode cL_law 958 = .ok (.iload 11, 2) := by decide +kernel
theorem dL_law_960 : decode cL_law 960 = .ok (.iload 14, 2) := by decide +kernel
theorem dL_law_962 : decode cL_law 962 = .ok (.ifCond .ge 7, 3) := by decide +kernel
theorem dL_law_965 : decode cL_law 965 = .ok (.iconst 0, 1) := by decide +kernel
theorem dL_law_966 : decode cL_law 966 = .ok (.goto 17, 3) := by decide +kernel
theorem dL_law_969 : decode cL_law 969 = .ok (.iload 14, 2) := by decide +kernel
theorem dL_law_971 : decode cL_law 971 = .ok (.iload 15, 2) := by decide +kernel
theorem dL_law_973 : decode cL_law 973 = .ok (.if_icmp .ge 8, 3) := by decide +kernel
theorem dL_law_976 : decode cL_law 976 = .ok (.iload 14, 2) := by decide +kernel
theorem dL_law_978 : decode cL_law 978 = .ok (.goto 5, 3) := by decide +kernel
theorem dL_law_981 : decode cL_law 981 = .ok (.iload 15, 2) := by decide +kernel
theorem dL_law_983 : decode cL_law 983 = .ok (.if_icmp .ne 47, 3) := by decide +kernel
theorem dL_law_986 : decode cL_law 986 = .ok (.aload_n 1, 1) := by decide +kernel
theorem dL_law_987 : decode cL_law 987 = .ok (.iload 12, 2) := by decide +kernel
theorem dL_law_989 : decode cL_law 989 = .ok (.bipush 6, 2) := by decide +kernel
theorem dL_law_991 : decode cL_law 991 = .ok (.invokevirtual 26, 3) := by decide +kernel
theorem dL_law_994 : decode cL_law 994 = .ok (.iconst 2, 1) := by decide +kernel
theorem dL_law_995 : decode cL_law 995 = .ok (.if_icmp .ne 35, 3) := by decide +kernel
theorem dL_law_998 : decode cL_law 998 = .ok (.iload 11, 2) := by decide +kernel
theorem dL_law_1000 : decode cL_law 1000 = .ok (.iload 14, 2) := by decide +kernel
theorem dL_law_1002 : decode cL_law 1002 = .ok (.if_icmp .ge 13, 3) := by decide +kernel
theorem dL_law_1005 : decode cL_law 1005 = .ok (.aload_n 1, 1) := by decide +kernel
theorem dL_law_1006 : decode cL_law 1006 = .ok (.iload 13, 2) := by decide +kernel
