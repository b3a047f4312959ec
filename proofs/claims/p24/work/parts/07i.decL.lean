theorem dL_acts_701 : decode cL_acts 701 = .ok (.iconst 1, 1) := by decide +kernel
theorem dL_acts_702 : decode cL_acts 702 = .ok (.goto 4, 3) := by decide +kernel
theorem dL_acts_705 : decode cL_acts 705 = .ok (.iconst 0, 1) := by decide +kernel
theorem dL_acts_706 : decode cL_acts 706 = .ok (.ireturn, 1) := by decide +kernel
theorem dL_acts_707 : decode cL_acts 707 = .ok (.iload 7, 2) := by decide +kernel
theorem dL_acts_709 : decode cL_acts 709 = .ok (.bipush 9, 2) := by decide +kernel
theorem dL_acts_711 : decode cL_acts 711 = .ok (.if_icmp .ge 67, 3) := by decide +kernel
theorem dL_acts_714 : decode cL_acts 714 = .ok (.aload_n 0, 1) := by decide +kernel
theorem dL_acts_715 : decode cL_acts 715 = .ok (.iload 9, 2) := by decide +kernel
theorem dL_acts_717 : decode cL_acts 717 = .ok (.iload 8, 2) := by decide +kernel
theorem dL_acts_719 : decode cL_acts 719 = .ok (.invokestatic 143, 3) := by decide +kernel
theorem dL_acts_722 : decode cL_acts 722 = .ok (.ifCond .ne 54, 3) := by decide +kernel
theorem dL_acts_725 : decode cL_acts 725 = .ok (.aload_n 1, 1) := by decide +kernel
theorem dL_acts_726 : decode cL_acts 726 = .ok (.iload 9, 2) := by decide +kernel
theorem dL_acts_728 : decode cL_acts 728 = .ok (.iload 8, 2) := by decide +kernel
theorem dL_acts_730 : decode cL_acts 730 = .ok (.invokestatic 143, 3) := by decide +kernel
theorem dL_acts_733 : decode cL_acts 733 = .ok (.ifCond .ne 43, 3) := by decide +kernel
theorem dL_acts_736 : decode cL_acts 736 = .ok (.aload_n 0, 1) := by decide +kernel
theorem dL_acts_737 : decode cL_acts 737 = .ok (.iload 9, 2) := by decide +kernel
theorem dL_acts_739 : decode cL_acts 739 = .ok (.invokestatic 85, 3) := by decide +kernel
theorem dL_acts_742 : decode cL_acts 742 = .ok (.bipush 100, 2) := by decide +kernel
theorem dL_acts_744 : decode cL_acts 744 = .ok (.iload 8, 2) := by decide +kernel
theorem dL_acts_746 : decode cL_acts 746 = .ok (.imul, 1) := by decide +kernel
theorem dL_acts_747 : decode cL_acts 747 = .ok (.if_icmp .ne 29, 3) := by decide +kernel
theorem dL_acts_750 : decode cL_acts 750 = .ok (.aload_n 0, 1) := by decide +kernel
theorem dL_acts_751 : decode cL_acts 751 = .ok (.iconst 4, 1) := by decide +kernel
theorem dL_acts_752 : decode cL_acts 752 = .ok (.iconst 0, 1) := by decide +kernel
theorem dL_acts_753 : decode cL_acts 753 = .ok (.invokestatic 143, 3) := by decide +kernel
theorem dL_acts_756 : decode cL_acts 756 = .ok (.ldc 18, 2) := by decide +kernel
theorem dL_acts_758 : decode cL_acts 758 = .ok (.if_icmp .ne 18, 3) := by decide +kernel
theorem dL_acts_761 : decode cL_acts 761 = .ok (.aload_n 0, 1) := by decide +kernel
theorem dL_acts_762 : decode cL_acts 762 = .ok (.iconst 0, 1) := by decide +kernel
theorem dL_acts_763 : decode cL_acts 763 = .ok (.iconst 5, 1) := by decide +kernel
theorem dL_acts_764 : decode cL_acts 764 = .ok (.invokestatic 143, 3) := by decide +kernel
theorem dL_acts_767 : decode cL_acts 767 = .ok (.ldc 18, 2) := by decide +kernel
theorem dL_acts_769 : decode cL_acts 769 = .ok (.if_icmp .ne 7, 3) := by decide +kernel
theorem dL_acts_772 : decode cL_acts 772 = .ok (.iconst 1, 1) := by decide +kernel
theorem dL_acts_773 : decode cL_acts 773 = .ok (.goto 4, 3) := by decide +kernel
theorem dL_acts_776 : decode cL_acts 776 = .ok (.iconst 0, 1) := by decide +kernel
theorem dL_acts_777 : decode cL_acts 777 = .ok (.ireturn, 1) := by decide +kernel
theorem dL_acts_778 : decode cL_acts 778 = .ok (.iload 7, 2) := by decide +kernel
theorem dL_acts_780 : decode cL_acts 780 = .ok (.bipush 9, 2) := by decide +kernel
theorem dL_acts_782 : decode cL_acts 782 = .ok (.if_icmp .ne 196, 3) := by decide +kernel
theorem dL_acts_785 : decode cL_acts 785 = .ok (.aload_n 0, 1) := by decide +kernel
theorem dL_acts_786 : decode cL_acts 786 = .ok (.iload 9, 2) := by decide +kernel
theorem dL_acts_788 : decode cL_acts 788 = .ok (.invokestatic 85, 3) := by decide +kernel
theorem dL_acts_791 : decode cL_acts 791 = .ok (.istore 11, 2) := by decide +kernel
theorem dL_acts_793 : decode cL_acts 793 = .ok (.iload 6, 2) := by decide +kernel
theorem dL_acts_795 : decode cL_acts 795 = .ok (.iconst 2, 1) := by decide +kernel
theorem dL_acts_796 : decode cL_acts 796 = .ok (.invokestatic 132, 3) := by decide +kernel
theorem dL_acts_799 : decode cL_acts 799 = .ok (.ifCond .ne 90, 3) := by decide +kernel
theorem dL_acts_802 : decode cL_acts 802 = .ok (.aload_n 0, 1) := by decide +kernel
theorem dL_acts_803 : decode cL_acts 803 = .ok (.iload 9, 2) := by decide +kernel
theorem dL_acts_805 : decode cL_acts 805 = .ok (.invokestatic 145, 3) := by decide +kernel
theorem dL_acts_808 : decode cL_acts 808 = .ok (.iload 11, 2) := by decide +kernel
theorem dL_acts_810 : decode cL_acts 810 = .ok (.ifCond .ge 7, 3) := by decide +kernel
theorem dL_acts_813 : decode cL_acts 813 = .ok (.iconst 0, 1) := by decide +kernel
theorem dL_acts_814 : decode cL_acts 814 = .ok (.goto 4, 3) := by decide +kernel
theorem dL_acts_817 : decode cL_acts 817 = .ok (.iconst 1, 1) := by decide +kernel
theorem dL_acts_818 : decode cL_acts 818 = .ok (.if_icmp .ne 69, 3) := by decide +kernel
theorem dL_acts_821 : decode cL_acts 821 = .ok (.aload_n 1, 1) := by decide +kernel
theorem dL_acts_822 : decode cL_acts 822 = .ok (.iload 9, 2) := by decide +kernel
theorem dL_acts_824 : decode cL_acts 824 = .ok (.invokestatic 145, 3) := by decide +kernel
theorem dL_acts_827 : decode cL_acts 827 = .ok (.iload 11, 2) := by decide +kernel
theorem dL_acts_829 : decode cL_acts 829 = .ok (.ifCond .ge 7, 3) := by decide +kernel
theorem dL_acts_832 : decode cL_acts 832 = .ok (.iconst 0, 1) := by decide +kernel
theorem dL_acts_833 : decode cL_acts 833 = .ok (.goto 4, 3) := by decide +kernel
theorem dL_acts_836 : decode cL_acts 836 = .ok (.iconst 1, 1) := by decide +kernel
theorem dL_acts_837 : decode cL_acts 837 = .ok (.if_icmp .ne 50, 3) := by decide +kernel
theorem dL_acts_840 : decode cL_acts 840 = .ok (.aload_n 0, 1) := by decide +kernel
theorem dL_acts_841 : decode cL_acts 841 = .ok (.iload 9, 2) := by decide +kernel
theorem dL_acts_843 : decode cL_acts 843 = .ok (.invokestatic 85, 3) := by decide +kernel
theorem dL_acts_846 : decode cL_acts 846 = .ok (.iconst (-1), 1) := by decide +kernel
theorem dL_acts_847 : decode cL_acts 847 = .ok (.if_icmp .ne 40, 3) := by decide +kernel
theorem dL_acts_850 : decode cL_acts 850 = .ok (.aload_n 0, 1) := by decide +kernel
theorem dL_acts_851 : decode cL_acts 851 = .ok (.iload 9, 2) := by decide +kernel
theorem dL_acts_853 : decode cL_acts 853 = .ok (.iconst 1, 1) := by decide +kernel
theorem dL_acts_854 : decode cL_acts 854 = .ok (.invokestatic 147, 3) := by decide +kernel
theorem dL_acts_857 : decode cL_acts 857 = .ok (.ldc 43, 2) := by decide +kernel
theorem dL_acts_859 : decode cL_acts 859 = .ok (.if_icmp .ne 28, 3) := by decide +kernel
theorem dL_acts_862 : decode cL_acts 862 = .ok (.aload_n 0, 1) := by decide +kernel
theorem dL_acts_863 : decode cL_acts 863 = .ok (.iload 9, 2) := by decide +kernel
theorem dL_acts_865 : decode cL_acts 865 = .ok (.invokestatic 149, 3) := by decide +kernel
theorem dL_acts_868 : decode cL_acts 868 = .ok (.ldc 43, 2) := by decide +kernel
theorem dL_acts_870 : decode cL_acts 870 = .ok (.if_icmp .ne 17, 3) := by decide +kernel
theorem dL_acts_873 : decode cL_acts 873 = .ok (.aload_n 0, 1) := by decide +kernel
theorem dL_acts_874 : decode cL_acts 874 = .ok (.iconst 4, 1) := by decide +kernel
theorem dL_acts_875 : decode cL_acts 875 = .ok (.invokestatic 145, 3) := by decide +kernel
theorem dL_acts_878 : decode cL_acts 878 = .ok (.ldc 18, 2) := by decide +kernel
theorem dL_acts_880 : decode cL_acts 880 = .ok (.if_icmp .ne 7, 3) := by decide +kernel
theorem dL_acts_883 : decode cL_acts 883 = .ok (.iconst 1, 1) := by decide +kernel
theorem dL_acts_884 : decode cL_acts 884 = .ok (.goto 4, 3) := by decide +kernel
theorem dL_acts_887 : decode cL_acts 887 = .ok (.iconst 0, 1) := by decide +kernel
theorem dL_acts_888 : decode cL_acts 888 = .ok (.ireturn, 1) := by decide +kernel
theorem dL_acts_889 : decode cL_acts 889 = .ok (.iload 11, 2) := by decide +kernel
theorem dL_acts_891 : decode cL_acts 891 = .ok (.ifCond .ge 8, 3) := by decide +kernel
theorem dL_acts_894 : decode cL_acts 894 = .ok (.ldc 43, 2) := by decide +kernel
theorem dL_acts_896 : decode cL_acts 896 = .ok (.goto 16, 3) := by decide +kernel
theorem dL_acts_899 : decode cL_acts 899 = .ok (.iload 11, 2) := by decide +kernel
theorem dL_acts_901 : decode cL_acts 901 = .ok (.bipush 100, 2) := by decide +kernel
theorem dL_acts_903 : decode cL_acts 903 = .ok (.irem, 1) := by decide +kernel
theorem dL_acts_904 : decode cL_acts 904 = .ok (.ifCond .le 7, 3) := by decide +kernel
theorem dL_acts_907 : decode cL_acts 907 = .ok (.iconst 1, 1) := by decide +kernel
theorem dL_acts_908 : decode cL_acts 908 = .ok (.goto 4, 3) := by decide +kernel
theorem dL_acts_911 : decode cL_acts 911 = .ok (.iconst 0, 1) := by decide +kernel
theorem dL_acts_912 : decode cL_acts 912 = .ok (.istore 12, 2) := by decide +kernel
theorem dL_acts_914 : decode cL_acts 914 = .ok (.aload_n 0, 1) := by decide +kernel
theorem dL_acts_915 : decode cL_acts 915 = .ok (.iload 9, 2) := by decide +kernel
theorem dL_acts_917 : decode cL_acts 917 = .ok (.invokestatic 149, 3) := by decide +kernel
theorem dL_acts_920 : decode cL_acts 920 = .ok (.iload 12, 2) := by decide +kernel
theorem dL_acts_922 : decode cL_acts 922 = .ok (.if_icmp .ne 54, 3) := by decide +kernel
theorem dL_acts_925 : decode cL_acts 925 = .ok (.aload_n 1, 1) := by decide +kernel
theorem dL_acts_926 : decode cL_acts 926 = .ok (.iload 9, 2) := by decide +kernel
theorem dL_acts_928 : decode cL_acts 928 = .ok (.invokestatic 149, 3) := by decide +kernel
theorem dL_acts_931 : decode cL_acts 931 = .ok (.iload 12, 2) := by decide +kernel
theorem dL_acts_933 : decode cL_acts 933 = .ok (.if_icmp .ne 43, 3) := by decide +kernel
theorem dL_acts_936 : decode cL_acts 936 = .ok (.aload_n 0, 1) := by decide +kernel
theorem dL_acts_937 : decode cL_acts 937 = .ok (.iload 9, 2) := by decide +kernel
theorem dL_acts_939 : decode cL_acts 939 = .ok (.invokestatic 85, 3) := by decide +kernel
theorem dL_acts_942 : decode cL_acts 942 = .ok (.iload 11, 2) := by decide +kernel
theorem dL_acts_944 : decode cL_acts 944 = .ok (.ifCond .ge 7, 3) := by decide +kernel
theorem dL_acts_947 : decode cL_acts 947 = .ok (.iconst (-1), 1) := by decide +kernel
theorem dL_acts_948 : decode cL_acts 948 = .ok (.goto 11, 3) := by decide +kernel
theorem dL_acts_951 : decode cL_acts 951 = .ok (.iload 11, 2) := by decide +kernel
theorem dL_acts_953 : decode cL_acts 953 = .ok (.iload 11, 2) := by decide +kernel
theorem dL_acts_955 : decode cL_acts 955 = .ok (.bipush 100, 2) := by decide +kernel
theorem dL_acts_957 : decode cL_acts 957 = .ok (.irem, 1) := by decide +kernel
theorem dL_acts_958 : decode cL_acts 958 = .ok (.isub, 1) := by decide +kernel
theorem dL_acts_959 : decode cL_acts 959 = .ok (.if_icmp .ne 17, 3) := by decide +kernel
theorem dL_acts_962 : decode cL_acts 962 = .ok (.aload_n 0, 1) := by decide +kernel
theorem dL_acts_963 : decode cL_acts 963 = .ok (.iconst 4, 1) := by decide +kernel
theorem dL_acts_964 : decode cL_acts 964 = .ok (.invokestatic 149, 3) := by decide +kernel
theorem dL_acts_967 : decode cL_acts 967 = .ok (.ldc 18, 2) := by decide +kernel
theorem dL_acts_969 : decode cL_acts 969 = .ok (.if_icmp .ne 7, 3) := by decide +kernel
theorem dL_acts_972 : decode cL_acts 972 = .ok (.iconst 1, 1) := by decide +kernel
theorem dL_acts_973 : decode cL_acts 973 = .ok (.goto 4, 3) := by decide +kernel
theorem dL_acts_976 : decode cL_acts 976 = .ok (.iconst 0, 1) := by decide +kernel
theorem dL_acts_977 : decode cL_acts 977 = .ok (.ireturn, 1) := by decide +kernel
theorem dL_acts_978 : decode cL_acts 978 = .ok (.iload 7, 2) := by decide +kernel
theorem dL_acts_980 : decode cL_acts 980 = .ok (.bipush 15, 2) := by decide +kernel
