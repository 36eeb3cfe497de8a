/-! THE LAW'S CASES, 2 -/
theorem dL_law_732 : decode cL_law 732 = .ok (.aload_n 1, 1) := dqo_43 (kb_11 28 rfl)
theorem dL_law_733 : decode cL_law 733 = .ok (.aload_n 0, 1) := dqo_42 (kb_11 29 rfl)
theorem dL_law_734 : decode cL_law 734 = .ok (.iload 4, 2) := dqo_21 4 (kb_11 30 rfl) (kb_11 31 rfl)
theorem dL_law_736 : decode cL_law 736 = .ok (.iconst 1, 1) := dqo_4 (kb_11 32 rfl)
theorem dL_law_737 : decode cL_law 737 = .ok (.iadd, 1) := dqo_96 (kb_11 33 rfl)
theorem dL_law_738 : decode cL_law 738 = .ok (.iaload, 1) := dqo_46 (kb_11 34 rfl)
theorem dL_law_739 : decode cL_law 739 = .ok (.aload_n 0, 1) := dqo_42 (kb_11 35 rfl)
theorem dL_law_740 : decode cL_law 740 = .ok (.iload 4, 2) := dqo_21 4 (kb_11 36 rfl) (kb_11 37 rfl)
theorem dL_law_742 : decode cL_law 742 = .ok (.iconst 2, 1) := dqo_5 (kb_11 38 rfl)
theorem dL_law_743 : decode cL_law 743 = .ok (.iadd, 1) := dqo_96 (kb_11 39 rfl)
theorem dL_law_744 : decode cL_law 744 = .ok (.iaload, 1) := dqo_46 (kb_11 40 rfl)
theorem dL_law_745 : decode cL_law 745 = .ok (.aload_n 3, 1) := dqo_45 (kb_11 41 rfl)
theorem dL_law_746 : decode cL_law 746 = .ok (.invokestatic 217, 3) := dqo_184 0 217 (kb_11 42 rfl) (kb_11 43 rfl) (kb_11 44 rfl)
theorem dL_law_749 : decode cL_law 749 = .ok (.istore 5, 2) := dqo_54 5 (kb_11 45 rfl) (kb_11 46 rfl)
theorem dL_law_751 : decode cL_law 751 = .ok (.aload_n 2, 1) := dqo_44 (kb_11 47 rfl)
theorem dL_law_752 : decode cL_law 752 = .ok (.aload_n 0, 1) := dqo_42 (kb_11 48 rfl)
theorem dL_law_753 : decode cL_law 753 = .ok (.iload 4, 2) := dqo_21 4 (kb_11 49 rfl) (kb_11 50 rfl)
theorem dL_law_755 : decode cL_law 755 = .ok (.iconst 1, 1) := dqo_4 (kb_11 51 rfl)
theorem dL_law_756 : decode cL_law 756 = .ok (.iadd, 1) := dqo_96 (kb_11 52 rfl)
theorem dL_law_757 : decode cL_law 757 = .ok (.iaload, 1) := dqo_46 (kb_11 53 rfl)
theorem dL_law_758 : decode cL_law 758 = .ok (.aload_n 0, 1) := dqo_42 (kb_11 54 rfl)
theorem dL_law_759 : decode cL_law 759 = .ok (.iload 4, 2) := dqo_21 4 (kb_11 55 rfl) (kb_11 56 rfl)
theorem dL_law_761 : decode cL_law 761 = .ok (.iconst 2, 1) := dqo_5 (kb_11 57 rfl)
theorem dL_law_762 : decode cL_law 762 = .ok (.iadd, 1) := dqo_96 (kb_11 58 rfl)
theorem dL_law_763 : decode cL_law 763 = .ok (.iaload, 1) := dqo_46 (kb_11 59 rfl)
theorem dL_law_764 : decode cL_law 764 = .ok (.invokevirtual 219, 3) := dqo_182 0 219 (kb_11 60 rfl) (kb_11 61 rfl) (kb_11 62 rfl)
theorem dL_law_767 : decode cL_law 767 = .ok (.istore 6, 2) := dqo_54 6 (kb_11 63 rfl) (kb_12 0 rfl)
theorem dL_law_769 : decode cL_law 769 = .ok (.goto 1360, 3) := dqo_167 5 80 (by decide) (kb_12 1 rfl) (kb_12 2 rfl) (kb_12 3 rfl)
theorem dL_law_772 : decode cL_law 772 = .ok (.aload_n 1, 1) := dqo_43 (kb_12 4 rfl)
theorem dL_law_773 : decode cL_law 773 = .ok (.aload_n 0, 1) := dqo_42 (kb_12 5 rfl)
theorem dL_law_774 : decode cL_law 774 = .ok (.iload 4, 2) := dqo_21 4 (kb_12 6 rfl) (kb_12 7 rfl)
theorem dL_law_776 : decode cL_law 776 = .ok (.iconst 1, 1) := dqo_4 (kb_12 8 rfl)
theorem dL_law_777 : decode cL_law 777 = .ok (.iadd, 1) := dqo_96 (kb_12 9 rfl)
theorem dL_law_778 : decode cL_law 778 = .ok (.iaload, 1) := dqo_46 (kb_12 10 rfl)
theorem dL_law_779 : decode cL_law 779 = .ok (.aload_n 0, 1) := dqo_42 (kb_12 11 rfl)
theorem dL_law_780 : decode cL_law 780 = .ok (.iload 4, 2) := dqo_21 4 (kb_12 12 rfl) (kb_12 13 rfl)
theorem dL_law_782 : decode cL_law 782 = .ok (.iconst 2, 1) := dqo_5 (kb_12 14 rfl)
theorem dL_law_783 : decode cL_law 783 = .ok (.iadd, 1) := dqo_96 (kb_12 15 rfl)
theorem dL_law_784 : decode cL_law 784 = .ok (.iaload, 1) := dqo_46 (kb_12 16 rfl)
theorem dL_law_785 : decode cL_law 785 = .ok (.aload_n 3, 1) := dqo_45 (kb_12 17 rfl)
theorem dL_law_786 : decode cL_law 786 = .ok (.invokestatic 220, 3) := dqo_184 0 220 (kb_12 18 rfl) (kb_12 19 rfl) (kb_12 20 rfl)
theorem dL_law_789 : decode cL_law 789 = .ok (.istore 5, 2) := dqo_54 5 (kb_12 21 rfl) (kb_12 22 rfl)
theorem dL_law_791 : decode cL_law 791 = .ok (.aload_n 2, 1) := dqo_44 (kb_12 23 rfl)
theorem dL_law_792 : decode cL_law 792 = .ok (.aload_n 0, 1) := dqo_42 (kb_12 24 rfl)
theorem dL_law_793 : decode cL_law 793 = .ok (.iload 4, 2) := dqo_21 4 (kb_12 25 rfl) (kb_12 26 rfl)
theorem dL_law_795 : decode cL_law 795 = .ok (.iconst 1, 1) := dqo_4 (kb_12 27 rfl)
theorem dL_law_796 : decode cL_law 796 = .ok (.iadd, 1) := dqo_96 (kb_12 28 rfl)
theorem dL_law_797 : decode cL_law 797 = .ok (.iaload, 1) := dqo_46 (kb_12 29 rfl)
theorem dL_law_798 : decode cL_law 798 = .ok (.aload_n 0, 1) := dqo_42 (kb_12 30 rfl)
theorem dL_law_799 : decode cL_law 799 = .ok (.iload 4, 2) := dqo_21 4 (kb_12 31 rfl) (kb_12 32 rfl)
theorem dL_law_801 : decode cL_law 801 = .ok (.iconst 2, 1) := dqo_5 (kb_12 33 rfl)
theorem dL_law_802 : decode cL_law 802 = .ok (.iadd, 1) := dqo_96 (kb_12 34 rfl)
theorem dL_law_803 : decode cL_law 803 = .ok (.iaload, 1) := dqo_46 (kb_12 35 rfl)
theorem dL_law_804 : decode cL_law 804 = .ok (.invokevirtual 222, 3) := dqo_182 0 222 (kb_12 36 rfl) (kb_12 37 rfl) (kb_12 38 rfl)
theorem dL_law_807 : decode cL_law 807 = .ok (.istore 6, 2) := dqo_54 6 (kb_12 39 rfl) (kb_12 40 rfl)
theorem dL_law_809 : decode cL_law 809 = .ok (.goto 1320, 3) := dqo_167 5 40 (by decide) (kb_12 41 rfl) (kb_12 42 rfl) (kb_12 43 rfl)
theorem dL_law_812 : decode cL_law 812 = .ok (.aload_n 1, 1) := dqo_43 (kb_12 44 rfl)
theorem dL_law_813 : decode cL_law 813 = .ok (.aload_n 0, 1) := dqo_42 (kb_12 45 rfl)
theorem dL_law_814 : decode cL_law 814 = .ok (.iload 4, 2) := dqo_21 4 (kb_12 46 rfl) (kb_12 47 rfl)
theorem dL_law_816 : decode cL_law 816 = .ok (.iconst 1, 1) := dqo_4 (kb_12 48 rfl)
theorem dL_law_817 : decode cL_law 817 = .ok (.iadd, 1) := dqo_96 (kb_12 49 rfl)
theorem dL_law_818 : decode cL_law 818 = .ok (.iaload, 1) := dqo_46 (kb_12 50 rfl)
theorem dL_law_819 : decode cL_law 819 = .ok (.aload_n 3, 1) := dqo_45 (kb_12 51 rfl)
theorem dL_law_820 : decode cL_law 820 = .ok (.invokestatic 223, 3) := dqo_184 0 223 (kb_12 52 rfl) (kb_12 53 rfl) (kb_12 54 rfl)
theorem dL_law_823 : decode cL_law 823 = .ok (.istore 5, 2) := dqo_54 5 (kb_12 55 rfl) (kb_12 56 rfl)
theorem dL_law_825 : decode cL_law 825 = .ok (.aload_n 2, 1) := dqo_44 (kb_12 57 rfl)
theorem dL_law_826 : decode cL_law 826 = .ok (.aload_n 0, 1) := dqo_42 (kb_12 58 rfl)
theorem dL_law_827 : decode cL_law 827 = .ok (.iload 4, 2) := dqo_21 4 (kb_12 59 rfl) (kb_12 60 rfl)
theorem dL_law_829 : decode cL_law 829 = .ok (.iconst 1, 1) := dqo_4 (kb_12 61 rfl)
theorem dL_law_830 : decode cL_law 830 = .ok (.iadd, 1) := dqo_96 (kb_12 62 rfl)
theorem dL_law_831 : decode cL_law 831 = .ok (.iaload, 1) := dqo_46 (kb_12 63 rfl)
theorem dL_law_832 : decode cL_law 832 = .ok (.invokevirtual 225, 3) := dqo_182 0 225 (kb_13 0 rfl) (kb_13 1 rfl) (kb_13 2 rfl)
theorem dL_law_835 : decode cL_law 835 = .ok (.istore 6, 2) := dqo_54 6 (kb_13 3 rfl) (kb_13 4 rfl)
theorem dL_law_837 : decode cL_law 837 = .ok (.goto 1292, 3) := dqo_167 5 12 (by decide) (kb_13 5 rfl) (kb_13 6 rfl) (kb_13 7 rfl)
theorem dL_law_840 : decode cL_law 840 = .ok (.aload_n 1, 1) := dqo_43 (kb_13 8 rfl)
theorem dL_law_841 : decode cL_law 841 = .ok (.aload_n 0, 1) := dqo_42 (kb_13 9 rfl)
theorem dL_law_842 : decode cL_law 842 = .ok (.iload 4, 2) := dqo_21 4 (kb_13 10 rfl) (kb_13 11 rfl)
theorem dL_law_844 : decode cL_law 844 = .ok (.iconst 1, 1) := dqo_4 (kb_13 12 rfl)
theorem dL_law_845 : decode cL_law 845 = .ok (.iadd, 1) := dqo_96 (kb_13 13 rfl)
theorem dL_law_846 : decode cL_law 846 = .ok (.iaload, 1) := dqo_46 (kb_13 14 rfl)
theorem dL_law_847 : decode cL_law 847 = .ok (.aload_n 0, 1) := dqo_42 (kb_13 15 rfl)
theorem dL_law_848 : decode cL_law 848 = .ok (.iload 4, 2) := dqo_21 4 (kb_13 16 rfl) (kb_13 17 rfl)
theorem dL_law_850 : decode cL_law 850 = .ok (.iconst 2, 1) := dqo_5 (kb_13 18 rfl)
theorem dL_law_851 : decode cL_law 851 = .ok (.iadd, 1) := dqo_96 (kb_13 19 rfl)
theorem dL_law_852 : decode cL_law 852 = .ok (.iaload, 1) := dqo_46 (kb_13 20 rfl)
theorem dL_law_853 : decode cL_law 853 = .ok (.aload_n 3, 1) := dqo_45 (kb_13 21 rfl)
theorem dL_law_854 : decode cL_law 854 = .ok (.invokestatic 226, 3) := dqo_184 0 226 (kb_13 22 rfl) (kb_13 23 rfl) (kb_13 24 rfl)
theorem dL_law_857 : decode cL_law 857 = .ok (.istore 5, 2) := dqo_54 5 (kb_13 25 rfl) (kb_13 26 rfl)
theorem dL_law_859 : decode cL_law 859 = .ok (.aload_n 2, 1) := dqo_44 (kb_13 27 rfl)
theorem dL_law_860 : decode cL_law 860 = .ok (.aload_n 0, 1) := dqo_42 (kb_13 28 rfl)
theorem dL_law_861 : decode cL_law 861 = .ok (.iload 4, 2) := dqo_21 4 (kb_13 29 rfl) (kb_13 30 rfl)
theorem dL_law_863 : decode cL_law 863 = .ok (.iconst 1, 1) := dqo_4 (kb_13 31 rfl)
theorem dL_law_864 : decode cL_law 864 = .ok (.iadd, 1) := dqo_96 (kb_13 32 rfl)
theorem dL_law_865 : decode cL_law 865 = .ok (.iaload, 1) := dqo_46 (kb_13 33 rfl)
theorem dL_law_866 : decode cL_law 866 = .ok (.aload_n 0, 1) := dqo_42 (kb_13 34 rfl)
theorem dL_law_867 : decode cL_law 867 = .ok (.iload 4, 2) := dqo_21 4 (kb_13 35 rfl) (kb_13 36 rfl)
theorem dL_law_869 : decode cL_law 869 = .ok (.iconst 2, 1) := dqo_5 (kb_13 37 rfl)
theorem dL_law_870 : decode cL_law 870 = .ok (.iadd, 1) := dqo_96 (kb_13 38 rfl)
theorem dL_law_871 : decode cL_law 871 = .ok (.iaload, 1) := dqo_46 (kb_13 39 rfl)
theorem dL_law_872 : decode cL_law 872 = .ok (.invokevirtual 228, 3) := dqo_182 0 228 (kb_13 40 rfl) (kb_13 41 rfl) (kb_13 42 rfl)
theorem dL_law_875 : decode cL_law 875 = .ok (.istore 6, 2) := dqo_54 6 (kb_13 43 rfl) (kb_13 44 rfl)
theorem dL_law_877 : decode cL_law 877 = .ok (.goto 1252, 3) := dqo_167 4 228 (by decide) (kb_13 45 rfl) (kb_13 46 rfl) (kb_13 47 rfl)
theorem dL_law_880 : decode cL_law 880 = .ok (.aload_n 1, 1) := dqo_43 (kb_13 48 rfl)
theorem dL_law_881 : decode cL_law 881 = .ok (.aload_n 0, 1) := dqo_42 (kb_13 49 rfl)
theorem dL_law_882 : decode cL_law 882 = .ok (.iload 4, 2) := dqo_21 4 (kb_13 50 rfl) (kb_13 51 rfl)
theorem dL_law_884 : decode cL_law 884 = .ok (.iconst 1, 1) := dqo_4 (kb_13 52 rfl)
theorem dL_law_885 : decode cL_law 885 = .ok (.iadd, 1) := dqo_96 (kb_13 53 rfl)
theorem dL_law_886 : decode cL_law 886 = .ok (.iaload, 1) := dqo_46 (kb_13 54 rfl)
theorem dL_law_887 : decode cL_law 887 = .ok (.aload_n 0, 1) := dqo_42 (kb_13 55 rfl)
theorem dL_law_888 : decode cL_law 888 = .ok (.iload 4, 2) := dqo_21 4 (kb_13 56 rfl) (kb_13 57 rfl)
theorem dL_law_890 : decode cL_law 890 = .ok (.iconst 2, 1) := dqo_5 (kb_13 58 rfl)
theorem dL_law_891 : decode cL_law 891 = .ok (.iadd, 1) := dqo_96 (kb_13 59 rfl)
theorem dL_law_892 : decode cL_law 892 = .ok (.iaload, 1) := dqo_46 (kb_13 60 rfl)
theorem dL_law_893 : decode cL_law 893 = .ok (.aload_n 3, 1) := dqo_45 (kb_13 61 rfl)
theorem dL_law_894 : decode cL_law 894 = .ok (.invokestatic 229, 3) := dqo_184 0 229 (kb_13 62 rfl) (kb_13 63 rfl) (kb_14 0 rfl)
theorem dL_law_897 : decode cL_law 897 = .ok (.istore 5, 2) := dqo_54 5 (kb_14 1 rfl) (kb_14 2 rfl)
theorem dL_law_899 : decode cL_law 899 = .ok (.aload_n 2, 1) := dqo_44 (kb_14 3 rfl)
theorem dL_law_900 : decode cL_law 900 = .ok (.aload_n 0, 1) := dqo_42 (kb_14 4 rfl)
theorem dL_law_901 : decode cL_law 901 = .ok (.iload 4, 2) := dqo_21 4 (kb_14 5 rfl) (kb_14 6 rfl)
theorem dL_law_903 : decode cL_law 903 = .ok (.iconst 1, 1) := dqo_4 (kb_14 7 rfl)
theorem dL_law_904 : decode cL_law 904 = .ok (.iadd, 1) := dqo_96 (kb_14 8 rfl)
theorem dL_law_905 : decode cL_law 905 = .ok (.iaload, 1) := dqo_46 (kb_14 9 rfl)
theorem dL_law_906 : decode cL_law 906 = .ok (.aload_n 0, 1) := dqo_42 (kb_14 10 rfl)
theorem dL_law_907 : decode cL_law 907 = .ok (.iload 4, 2) := dqo_21 4 (kb_14 11 rfl) (kb_14 12 rfl)
theorem dL_law_909 : decode cL_law 909 = .ok (.iconst 2, 1) := dqo_5 (kb_14 13 rfl)
theorem dL_law_910 : decode cL_law 910 = .ok (.iadd, 1) := dqo_96 (kb_14 14 rfl)
theorem dL_law_911 : decode cL_law 911 = .ok (.iaload, 1) := dqo_46 (kb_14 15 rfl)
theorem dL_law_912 : decode cL_law 912 = .ok (.invokevirtual 231, 3) := dqo_182 0 231 (kb_14 16 rfl) (kb_14 17 rfl) (kb_14 18 rfl)
theorem dL_law_915 : decode cL_law 915 = .ok (.istore 6, 2) := dqo_54 6 (kb_14 19 rfl) (kb_14 20 rfl)
theorem dL_law_917 : decode cL_law 917 = .ok (.goto 1212, 3) := dqo_167 4 188 (by decide) (kb_14 21 rfl) (kb_14 22 rfl) (kb_14 23 rfl)
theorem dL_law_920 : decode cL_law 920 = .ok (.aload_n 1, 1) := dqo_43 (kb_14 24 rfl)
theorem dL_law_921 : decode cL_law 921 = .ok (.aload_n 0, 1) := dqo_42 (kb_14 25 rfl)
theorem dL_law_922 : decode cL_law 922 = .ok (.iload 4, 2) := dqo_21 4 (kb_14 26 rfl) (kb_14 27 rfl)
theorem dL_law_924 : decode cL_law 924 = .ok (.iconst 1, 1) := dqo_4 (kb_14 28 rfl)
theorem dL_law_925 : decode cL_law 925 = .ok (.iadd, 1) := dqo_96 (kb_14 29 rfl)
theorem dL_law_926 : decode cL_law 926 = .ok (.iaload, 1) := dqo_46 (kb_14 30 rfl)
theorem dL_law_927 : decode cL_law 927 = .ok (.aload_n 0, 1) := dqo_42 (kb_14 31 rfl)
theorem dL_law_928 : decode cL_law 928 = .ok (.iload 4, 2) := dqo_21 4 (kb_14 32 rfl) (kb_14 33 rfl)
theorem dL_law_930 : decode cL_law 930 = .ok (.iconst 2, 1) := dqo_5 (kb_14 34 rfl)
theorem dL_law_931 : decode cL_law 931 = .ok (.iadd, 1) := dqo_96 (kb_14 35 rfl)
theorem dL_law_932 : decode cL_law 932 = .ok (.iaload, 1) := dqo_46 (kb_14 36 rfl)
theorem dL_law_933 : decode cL_law 933 = .ok (.aload_n 3, 1) := dqo_45 (kb_14 37 rfl)
theorem dL_law_934 : decode cL_law 934 = .ok (.invokestatic 232, 3) := dqo_184 0 232 (kb_14 38 rfl) (kb_14 39 rfl) (kb_14 40 rfl)
theorem dL_law_937 : decode cL_law 937 = .ok (.istore 5, 2) := dqo_54 5 (kb_14 41 rfl) (kb_14 42 rfl)
theorem dL_law_939 : decode cL_law 939 = .ok (.aload_n 2, 1) := dqo_44 (kb_14 43 rfl)
theorem dL_law_940 : decode cL_law 940 = .ok (.aload_n 0, 1) := dqo_42 (kb_14 44 rfl)
theorem dL_law_941 : decode cL_law 941 = .ok (.iload 4, 2) := dqo_21 4 (kb_14 45 rfl) (kb_14 46 rfl)
theorem dL_law_943 : decode cL_law 943 = .ok (.iconst 1, 1) := dqo_4 (kb_14 47 rfl)
theorem dL_law_944 : decode cL_law 944 = .ok (.iadd, 1) := dqo_96 (kb_14 48 rfl)
theorem dL_law_945 : decode cL_law 945 = .ok (.iaload, 1) := dqo_46 (kb_14 49 rfl)
theorem dL_law_946 : decode cL_law 946 = .ok (.aload_n 0, 1) := dqo_42 (kb_14 50 rfl)
theorem dL_law_947 : decode cL_law 947 = .ok (.iload 4, 2) := dqo_21 4 (kb_14 51 rfl) (kb_14 52 rfl)
theorem dL_law_949 : decode cL_law 949 = .ok (.iconst 2, 1) := dqo_5 (kb_14 53 rfl)
theorem dL_law_950 : decode cL_law 950 = .ok (.iadd, 1) := dqo_96 (kb_14 54 rfl)
theorem dL_law_951 : decode cL_law 951 = .ok (.iaload, 1) := dqo_46 (kb_14 55 rfl)
theorem dL_law_952 : decode cL_law 952 = .ok (.invokevirtual 234, 3) := dqo_182 0 234 (kb_14 56 rfl) (kb_14 57 rfl) (kb_14 58 rfl)
theorem dL_law_955 : decode cL_law 955 = .ok (.istore 6, 2) := dqo_54 6 (kb_14 59 rfl) (kb_14 60 rfl)
theorem dL_law_957 : decode cL_law 957 = .ok (.goto 1172, 3) := dqo_167 4 148 (by decide) (kb_14 61 rfl) (kb_14 62 rfl) (kb_14 63 rfl)
theorem dL_law_960 : decode cL_law 960 = .ok (.aload_n 1, 1) := dqo_43 (kb_15 0 rfl)
theorem dL_law_961 : decode cL_law 961 = .ok (.aload_n 0, 1) := dqo_42 (kb_15 1 rfl)
theorem dL_law_962 : decode cL_law 962 = .ok (.iload 4, 2) := dqo_21 4 (kb_15 2 rfl) (kb_15 3 rfl)
theorem dL_law_964 : decode cL_law 964 = .ok (.iconst 1, 1) := dqo_4 (kb_15 4 rfl)
theorem dL_law_965 : decode cL_law 965 = .ok (.iadd, 1) := dqo_96 (kb_15 5 rfl)
theorem dL_law_966 : decode cL_law 966 = .ok (.iaload, 1) := dqo_46 (kb_15 6 rfl)
theorem dL_law_967 : decode cL_law 967 = .ok (.aload_n 0, 1) := dqo_42 (kb_15 7 rfl)
theorem dL_law_968 : decode cL_law 968 = .ok (.iload 4, 2) := dqo_21 4 (kb_15 8 rfl) (kb_15 9 rfl)
theorem dL_law_970 : decode cL_law 970 = .ok (.iconst 2, 1) := dqo_5 (kb_15 10 rfl)
theorem dL_law_971 : decode cL_law 971 = .ok (.iadd, 1) := dqo_96 (kb_15 11 rfl)
theorem dL_law_972 : decode cL_law 972 = .ok (.iaload, 1) := dqo_46 (kb_15 12 rfl)
theorem dL_law_973 : decode cL_law 973 = .ok (.aload_n 0, 1) := dqo_42 (kb_15 13 rfl)
theorem dL_law_974 : decode cL_law 974 = .ok (.iload 4, 2) := dqo_21 4 (kb_15 14 rfl) (kb_15 15 rfl)
theorem dL_law_976 : decode cL_law 976 = .ok (.iconst 3, 1) := dqo_6 (kb_15 16 rfl)
theorem dL_law_977 : decode cL_law 977 = .ok (.iadd, 1) := dqo_96 (kb_15 17 rfl)
theorem dL_law_978 : decode cL_law 978 = .ok (.iaload, 1) := dqo_46 (kb_15 18 rfl)
theorem dL_law_979 : decode cL_law 979 = .ok (.aload_n 3, 1) := dqo_45 (kb_15 19 rfl)
theorem dL_law_980 : decode cL_law 980 = .ok (.invokestatic 235, 3) := dqo_184 0 235 (kb_15 20 rfl) (kb_15 21 rfl) (kb_15 22 rfl)
theorem dL_law_983 : decode cL_law 983 = .ok (.istore 5, 2) := dqo_54 5 (kb_15 23 rfl) (kb_15 24 rfl)
theorem dL_law_985 : decode cL_law 985 = .ok (.aload_n 2, 1) := dqo_44 (kb_15 25 rfl)
theorem dL_law_986 : decode cL_law 986 = .ok (.aload_n 0, 1) := dqo_42 (kb_15 26 rfl)
theorem dL_law_987 : decode cL_law 987 = .ok (.iload 4, 2) := dqo_21 4 (kb_15 27 rfl) (kb_15 28 rfl)
theorem dL_law_989 : decode cL_law 989 = .ok (.iconst 1, 1) := dqo_4 (kb_15 29 rfl)
theorem dL_law_990 : decode cL_law 990 = .ok (.iadd, 1) := dqo_96 (kb_15 30 rfl)
theorem dL_law_991 : decode cL_law 991 = .ok (.iaload, 1) := dqo_46 (kb_15 31 rfl)
theorem dL_law_992 : decode cL_law 992 = .ok (.aload_n 0, 1) := dqo_42 (kb_15 32 rfl)
theorem dL_law_993 : decode cL_law 993 = .ok (.iload 4, 2) := dqo_21 4 (kb_15 33 rfl) (kb_15 34 rfl)
theorem dL_law_995 : decode cL_law 995 = .ok (.iconst 2, 1) := dqo_5 (kb_15 35 rfl)
theorem dL_law_996 : decode cL_law 996 = .ok (.iadd, 1) := dqo_96 (kb_15 36 rfl)
theorem dL_law_997 : decode cL_law 997 = .ok (.iaload, 1) := dqo_46 (kb_15 37 rfl)
theorem dL_law_998 : decode cL_law 998 = .ok (.aload_n 0, 1) := dqo_42 (kb_15 38 rfl)
theorem dL_law_999 : decode cL_law 999 = .ok (.iload 4, 2) := dqo_21 4 (kb_15 39 rfl) (kb_15 40 rfl)
theorem dL_law_1001 : decode cL_law 1001 = .ok (.iconst 3, 1) := dqo_6 (kb_15 41 rfl)
theorem dL_law_1002 : decode cL_law 1002 = .ok (.iadd, 1) := dqo_96 (kb_15 42 rfl)
theorem dL_law_1003 : decode cL_law 1003 = .ok (.iaload, 1) := dqo_46 (kb_15 43 rfl)
theorem dL_law_1004 : decode cL_law 1004 = .ok (.invokevirtual 237, 3) := dqo_182 0 237 (kb_15 44 rfl) (kb_15 45 rfl) (kb_15 46 rfl)
theorem dL_law_1007 : decode cL_law 1007 = .ok (.istore 6, 2) := dqo_54 6 (kb_15 47 rfl) (kb_15 48 rfl)
theorem dL_law_1009 : decode cL_law 1009 = .ok (.goto 1120, 3) := dqo_167 4 96 (by decide) (kb_15 49 rfl) (kb_15 50 rfl) (kb_15 51 rfl)
theorem dL_law_1012 : decode cL_law 1012 = .ok (.aload_n 1, 1) := dqo_43 (kb_15 52 rfl)
theorem dL_law_1013 : decode cL_law 1013 = .ok (.aload_n 0, 1) := dqo_42 (kb_15 53 rfl)
theorem dL_law_1014 : decode cL_law 1014 = .ok (.iload 4, 2) := dqo_21 4 (kb_15 54 rfl) (kb_15 55 rfl)
theorem dL_law_1016 : decode cL_law 1016 = .ok (.iconst 1, 1) := dqo_4 (kb_15 56 rfl)
theorem dL_law_1017 : decode cL_law 1017 = .ok (.iadd, 1) := dqo_96 (kb_15 57 rfl)
theorem dL_law_1018 : decode cL_law 1018 = .ok (.iaload, 1) := dqo_46 (kb_15 58 rfl)
theorem dL_law_1019 : decode cL_law 1019 = .ok (.aload_n 0, 1) := dqo_42 (kb_15 59 rfl)
theorem dL_law_1020 : decode cL_law 1020 = .ok (.iload 4, 2) := dqo_21 4 (kb_15 60 rfl) (kb_15 61 rfl)
theorem dL_law_1022 : decode cL_law 1022 = .ok (.iconst 2, 1) := dqo_5 (kb_15 62 rfl)
theorem dL_law_1023 : decode cL_law 1023 = .ok (.iadd, 1) := dqo_96 (kb_15 63 rfl)
theorem dL_law_1024 : decode cL_law 1024 = .ok (.iaload, 1) := dqo_46 (kb_16 0 rfl)
theorem dL_law_1025 : decode cL_law 1025 = .ok (.aload_n 3, 1) := dqo_45 (kb_16 1 rfl)
theorem dL_law_1026 : decode cL_law 1026 = .ok (.invokestatic 238, 3) := dqo_184 0 238 (kb_16 2 rfl) (kb_16 3 rfl) (kb_16 4 rfl)
theorem dL_law_1029 : decode cL_law 1029 = .ok (.istore 5, 2) := dqo_54 5 (kb_16 5 rfl) (kb_16 6 rfl)
theorem dL_law_1031 : decode cL_law 1031 = .ok (.aload_n 2, 1) := dqo_44 (kb_16 7 rfl)
theorem dL_law_1032 : decode cL_law 1032 = .ok (.aload_n 0, 1) := dqo_42 (kb_16 8 rfl)
theorem dL_law_1033 : decode cL_law 1033 = .ok (.iload 4, 2) := dqo_21 4 (kb_16 9 rfl) (kb_16 10 rfl)
theorem dL_law_1035 : decode cL_law 1035 = .ok (.iconst 1, 1) := dqo_4 (kb_16 11 rfl)
theorem dL_law_1036 : decode cL_law 1036 = .ok (.iadd, 1) := dqo_96 (kb_16 12 rfl)
theorem dL_law_1037 : decode cL_law 1037 = .ok (.iaload, 1) := dqo_46 (kb_16 13 rfl)
theorem dL_law_1038 : decode cL_law 1038 = .ok (.aload_n 0, 1) := dqo_42 (kb_16 14 rfl)
theorem dL_law_1039 : decode cL_law 1039 = .ok (.iload 4, 2) := dqo_21 4 (kb_16 15 rfl) (kb_16 16 rfl)
theorem dL_law_1041 : decode cL_law 1041 = .ok (.iconst 2, 1) := dqo_5 (kb_16 17 rfl)
theorem dL_law_1042 : decode cL_law 1042 = .ok (.iadd, 1) := dqo_96 (kb_16 18 rfl)
theorem dL_law_1043 : decode cL_law 1043 = .ok (.iaload, 1) := dqo_46 (kb_16 19 rfl)
theorem dL_law_1044 : decode cL_law 1044 = .ok (.invokevirtual 240, 3) := dqo_182 0 240 (kb_16 20 rfl) (kb_16 21 rfl) (kb_16 22 rfl)
theorem dL_law_1047 : decode cL_law 1047 = .ok (.istore 6, 2) := dqo_54 6 (kb_16 23 rfl) (kb_16 24 rfl)
theorem dL_law_1049 : decode cL_law 1049 = .ok (.goto 1080, 3) := dqo_167 4 56 (by decide) (kb_16 25 rfl) (kb_16 26 rfl) (kb_16 27 rfl)
theorem dL_law_1052 : decode cL_law 1052 = .ok (.aload_n 1, 1) := dqo_43 (kb_16 28 rfl)
theorem dL_law_1053 : decode cL_law 1053 = .ok (.aload_n 0, 1) := dqo_42 (kb_16 29 rfl)
theorem dL_law_1054 : decode cL_law 1054 = .ok (.iload 4, 2) := dqo_21 4 (kb_16 30 rfl) (kb_16 31 rfl)
theorem dL_law_1056 : decode cL_law 1056 = .ok (.iconst 1, 1) := dqo_4 (kb_16 32 rfl)
theorem dL_law_1057 : decode cL_law 1057 = .ok (.iadd, 1) := dqo_96 (kb_16 33 rfl)
theorem dL_law_1058 : decode cL_law 1058 = .ok (.iaload, 1) := dqo_46 (kb_16 34 rfl)
theorem dL_law_1059 : decode cL_law 1059 = .ok (.aload_n 0, 1) := dqo_42 (kb_16 35 rfl)
theorem dL_law_1060 : decode cL_law 1060 = .ok (.iload 4, 2) := dqo_21 4 (kb_16 36 rfl) (kb_16 37 rfl)
theorem dL_law_1062 : decode cL_law 1062 = .ok (.iconst 2, 1) := dqo_5 (kb_16 38 rfl)
theorem dL_law_1063 : decode cL_law 1063 = .ok (.iadd, 1) := dqo_96 (kb_16 39 rfl)
theorem dL_law_1064 : decode cL_law 1064 = .ok (.iaload, 1) := dqo_46 (kb_16 40 rfl)
theorem dL_law_1065 : decode cL_law 1065 = .ok (.aload_n 3, 1) := dqo_45 (kb_16 41 rfl)
theorem dL_law_1066 : decode cL_law 1066 = .ok (.invokestatic 241, 3) := dqo_184 0 241 (kb_16 42 rfl) (kb_16 43 rfl) (kb_16 44 rfl)
theorem dL_law_1069 : decode cL_law 1069 = .ok (.istore 5, 2) := dqo_54 5 (kb_16 45 rfl) (kb_16 46 rfl)
theorem dL_law_1071 : decode cL_law 1071 = .ok (.aload_n 2, 1) := dqo_44 (kb_16 47 rfl)
theorem dL_law_1072 : decode cL_law 1072 = .ok (.aload_n 0, 1) := dqo_42 (kb_16 48 rfl)
theorem dL_law_1073 : decode cL_law 1073 = .ok (.iload 4, 2) := dqo_21 4 (kb_16 49 rfl) (kb_16 50 rfl)
theorem dL_law_1075 : decode cL_law 1075 = .ok (.iconst 1, 1) := dqo_4 (kb_16 51 rfl)
theorem dL_law_1076 : decode cL_law 1076 = .ok (.iadd, 1) := dqo_96 (kb_16 52 rfl)
theorem dL_law_1077 : decode cL_law 1077 = .ok (.iaload, 1) := dqo_46 (kb_16 53 rfl)
theorem dL_law_1078 : decode cL_law 1078 = .ok (.aload_n 0, 1) := dqo_42 (kb_16 54 rfl)
theorem dL_law_1079 : decode cL_law 1079 = .ok (.iload 4, 2) := dqo_21 4 (kb_16 55 rfl) (kb_16 56 rfl)
theorem dL_law_1081 : decode cL_law 1081 = .ok (.iconst 2, 1) := dqo_5 (kb_16 57 rfl)
theorem dL_law_1082 : decode cL_law 1082 = .ok (.iadd, 1) := dqo_96 (kb_16 58 rfl)
theorem dL_law_1083 : decode cL_law 1083 = .ok (.iaload, 1) := dqo_46 (kb_16 59 rfl)
theorem dL_law_1084 : decode cL_law 1084 = .ok (.invokevirtual 243, 3) := dqo_182 0 243 (kb_16 60 rfl) (kb_16 61 rfl) (kb_16 62 rfl)
theorem dL_law_1087 : decode cL_law 1087 = .ok (.istore 6, 2) := dqo_54 6 (kb_16 63 rfl) (kb_17 0 rfl)
theorem dL_law_1089 : decode cL_law 1089 = .ok (.goto 1040, 3) := dqo_167 4 16 (by decide) (kb_17 1 rfl) (kb_17 2 rfl) (kb_17 3 rfl)
theorem dL_law_1092 : decode cL_law 1092 = .ok (.aload_n 1, 1) := dqo_43 (kb_17 4 rfl)
theorem dL_law_1093 : decode cL_law 1093 = .ok (.aload_n 0, 1) := dqo_42 (kb_17 5 rfl)
theorem dL_law_1094 : decode cL_law 1094 = .ok (.iload 4, 2) := dqo_21 4 (kb_17 6 rfl) (kb_17 7 rfl)
theorem dL_law_1096 : decode cL_law 1096 = .ok (.iconst 1, 1) := dqo_4 (kb_17 8 rfl)
theorem dL_law_1097 : decode cL_law 1097 = .ok (.iadd, 1) := dqo_96 (kb_17 9 rfl)
theorem dL_law_1098 : decode cL_law 1098 = .ok (.iaload, 1) := dqo_46 (kb_17 10 rfl)
theorem dL_law_1099 : decode cL_law 1099 = .ok (.aload_n 0, 1) := dqo_42 (kb_17 11 rfl)
theorem dL_law_1100 : decode cL_law 1100 = .ok (.iload 4, 2) := dqo_21 4 (kb_17 12 rfl) (kb_17 13 rfl)
theorem dL_law_1102 : decode cL_law 1102 = .ok (.iconst 2, 1) := dqo_5 (kb_17 14 rfl)
theorem dL_law_1103 : decode cL_law 1103 = .ok (.iadd, 1) := dqo_96 (kb_17 15 rfl)
theorem dL_law_1104 : decode cL_law 1104 = .ok (.iaload, 1) := dqo_46 (kb_17 16 rfl)
theorem dL_law_1105 : decode cL_law 1105 = .ok (.aload_n 3, 1) := dqo_45 (kb_17 17 rfl)
theorem dL_law_1106 : decode cL_law 1106 = .ok (.invokestatic 244, 3) := dqo_184 0 244 (kb_17 18 rfl) (kb_17 19 rfl) (kb_17 20 rfl)
theorem dL_law_1109 : decode cL_law 1109 = .ok (.istore 5, 2) := dqo_54 5 (kb_17 21 rfl) (kb_17 22 rfl)
theorem dL_law_1111 : decode cL_law 1111 = .ok (.aload_n 2, 1) := dqo_44 (kb_17 23 rfl)
theorem dL_law_1112 : decode cL_law 1112 = .ok (.aload_n 0, 1) := dqo_42 (kb_17 24 rfl)
theorem dL_law_1113 : decode cL_law 1113 = .ok (.iload 4, 2) := dqo_21 4 (kb_17 25 rfl) (kb_17 26 rfl)
theorem dL_law_1115 : decode cL_law 1115 = .ok (.iconst 1, 1) := dqo_4 (kb_17 27 rfl)
theorem dL_law_1116 : decode cL_law 1116 = .ok (.iadd, 1) := dqo_96 (kb_17 28 rfl)
theorem dL_law_1117 : decode cL_law 1117 = .ok (.iaload, 1) := dqo_46 (kb_17 29 rfl)
theorem dL_law_1118 : decode cL_law 1118 = .ok (.aload_n 0, 1) := dqo_42 (kb_17 30 rfl)
theorem dL_law_1119 : decode cL_law 1119 = .ok (.iload 4, 2) := dqo_21 4 (kb_17 31 rfl) (kb_17 32 rfl)
theorem dL_law_1121 : decode cL_law 1121 = .ok (.iconst 2, 1) := dqo_5 (kb_17 33 rfl)
theorem dL_law_1122 : decode cL_law 1122 = .ok (.iadd, 1) := dqo_96 (kb_17 34 rfl)
theorem dL_law_1123 : decode cL_law 1123 = .ok (.iaload, 1) := dqo_46 (kb_17 35 rfl)
theorem dL_law_1124 : decode cL_law 1124 = .ok (.invokevirtual 246, 3) := dqo_182 0 246 (kb_17 36 rfl) (kb_17 37 rfl) (kb_17 38 rfl)
theorem dL_law_1127 : decode cL_law 1127 = .ok (.istore 6, 2) := dqo_54 6 (kb_17 39 rfl) (kb_17 40 rfl)
theorem dL_law_1129 : decode cL_law 1129 = .ok (.goto 1000, 3) := dqo_167 3 232 (by decide) (kb_17 41 rfl) (kb_17 42 rfl) (kb_17 43 rfl)
theorem dL_law_1132 : decode cL_law 1132 = .ok (.aload_n 1, 1) := dqo_43 (kb_17 44 rfl)
theorem dL_law_1133 : decode cL_law 1133 = .ok (.aload_n 0, 1) := dqo_42 (kb_17 45 rfl)
theorem dL_law_1134 : decode cL_law 1134 = .ok (.iload 4, 2) := dqo_21 4 (kb_17 46 rfl) (kb_17 47 rfl)
theorem dL_law_1136 : decode cL_law 1136 = .ok (.iconst 1, 1) := dqo_4 (kb_17 48 rfl)
theorem dL_law_1137 : decode cL_law 1137 = .ok (.iadd, 1) := dqo_96 (kb_17 49 rfl)
theorem dL_law_1138 : decode cL_law 1138 = .ok (.iaload, 1) := dqo_46 (kb_17 50 rfl)
theorem dL_law_1139 : decode cL_law 1139 = .ok (.aload_n 0, 1) := dqo_42 (kb_17 51 rfl)
theorem dL_law_1140 : decode cL_law 1140 = .ok (.iload 4, 2) := dqo_21 4 (kb_17 52 rfl) (kb_17 53 rfl)
theorem dL_law_1142 : decode cL_law 1142 = .ok (.iconst 2, 1) := dqo_5 (kb_17 54 rfl)
theorem dL_law_1143 : decode cL_law 1143 = .ok (.iadd, 1) := dqo_96 (kb_17 55 rfl)
theorem dL_law_1144 : decode cL_law 1144 = .ok (.iaload, 1) := dqo_46 (kb_17 56 rfl)
theorem dL_law_1145 : decode cL_law 1145 = .ok (.aload_n 3, 1) := dqo_45 (kb_17 57 rfl)
theorem dL_law_1146 : decode cL_law 1146 = .ok (.invokestatic 247, 3) := dqo_184 0 247 (kb_17 58 rfl) (kb_17 59 rfl) (kb_17 60 rfl)
theorem dL_law_1149 : decode cL_law 1149 = .ok (.istore 5, 2) := dqo_54 5 (kb_17 61 rfl) (kb_17 62 rfl)
theorem dL_law_1151 : decode cL_law 1151 = .ok (.aload_n 2, 1) := dqo_44 (kb_17 63 rfl)
theorem dL_law_1152 : decode cL_law 1152 = .ok (.aload_n 0, 1) := dqo_42 (kb_18 0 rfl)
theorem dL_law_1153 : decode cL_law 1153 = .ok (.iload 4, 2) := dqo_21 4 (kb_18 1 rfl) (kb_18 2 rfl)
theorem dL_law_1155 : decode cL_law 1155 = .ok (.iconst 1, 1) := dqo_4 (kb_18 3 rfl)
theorem dL_law_1156 : decode cL_law 1156 = .ok (.iadd, 1) := dqo_96 (kb_18 4 rfl)
theorem dL_law_1157 : decode cL_law 1157 = .ok (.iaload, 1) := dqo_46 (kb_18 5 rfl)
theorem dL_law_1158 : decode cL_law 1158 = .ok (.aload_n 0, 1) := dqo_42 (kb_18 6 rfl)
theorem dL_law_1159 : decode cL_law 1159 = .ok (.iload 4, 2) := dqo_21 4 (kb_18 7 rfl) (kb_18 8 rfl)
theorem dL_law_1161 : decode cL_law 1161 = .ok (.iconst 2, 1) := dqo_5 (kb_18 9 rfl)
theorem dL_law_1162 : decode cL_law 1162 = .ok (.iadd, 1) := dqo_96 (kb_18 10 rfl)
theorem dL_law_1163 : decode cL_law 1163 = .ok (.iaload, 1) := dqo_46 (kb_18 11 rfl)
theorem dL_law_1164 : decode cL_law 1164 = .ok (.invokevirtual 249, 3) := dqo_182 0 249 (kb_18 12 rfl) (kb_18 13 rfl) (kb_18 14 rfl)
theorem dL_law_1167 : decode cL_law 1167 = .ok (.istore 6, 2) := dqo_54 6 (kb_18 15 rfl) (kb_18 16 rfl)
theorem dL_law_1169 : decode cL_law 1169 = .ok (.goto 960, 3) := dqo_167 3 192 (by decide) (kb_18 17 rfl) (kb_18 18 rfl) (kb_18 19 rfl)
theorem dL_law_1172 : decode cL_law 1172 = .ok (.aload_n 1, 1) := dqo_43 (kb_18 20 rfl)
theorem dL_law_1173 : decode cL_law 1173 = .ok (.aload_n 0, 1) := dqo_42 (kb_18 21 rfl)
theorem dL_law_1174 : decode cL_law 1174 = .ok (.iload 4, 2) := dqo_21 4 (kb_18 22 rfl) (kb_18 23 rfl)
theorem dL_law_1176 : decode cL_law 1176 = .ok (.iconst 1, 1) := dqo_4 (kb_18 24 rfl)
theorem dL_law_1177 : decode cL_law 1177 = .ok (.iadd, 1) := dqo_96 (kb_18 25 rfl)
theorem dL_law_1178 : decode cL_law 1178 = .ok (.iaload, 1) := dqo_46 (kb_18 26 rfl)
theorem dL_law_1179 : decode cL_law 1179 = .ok (.aload_n 0, 1) := dqo_42 (kb_18 27 rfl)
theorem dL_law_1180 : decode cL_law 1180 = .ok (.iload 4, 2) := dqo_21 4 (kb_18 28 rfl) (kb_18 29 rfl)
theorem dL_law_1182 : decode cL_law 1182 = .ok (.iconst 2, 1) := dqo_5 (kb_18 30 rfl)
theorem dL_law_1183 : decode cL_law 1183 = .ok (.iadd, 1) := dqo_96 (kb_18 31 rfl)
theorem dL_law_1184 : decode cL_law 1184 = .ok (.iaload, 1) := dqo_46 (kb_18 32 rfl)
theorem dL_law_1185 : decode cL_law 1185 = .ok (.aload_n 0, 1) := dqo_42 (kb_18 33 rfl)
theorem dL_law_1186 : decode cL_law 1186 = .ok (.iload 4, 2) := dqo_21 4 (kb_18 34 rfl) (kb_18 35 rfl)
theorem dL_law_1188 : decode cL_law 1188 = .ok (.iconst 3, 1) := dqo_6 (kb_18 36 rfl)
theorem dL_law_1189 : decode cL_law 1189 = .ok (.iadd, 1) := dqo_96 (kb_18 37 rfl)
theorem dL_law_1190 : decode cL_law 1190 = .ok (.iaload, 1) := dqo_46 (kb_18 38 rfl)
theorem dL_law_1191 : decode cL_law 1191 = .ok (.aload_n 3, 1) := dqo_45 (kb_18 39 rfl)
theorem dL_law_1192 : decode cL_law 1192 = .ok (.invokestatic 250, 3) := dqo_184 0 250 (kb_18 40 rfl) (kb_18 41 rfl) (kb_18 42 rfl)
theorem dL_law_1195 : decode cL_law 1195 = .ok (.istore 5, 2) := dqo_54 5 (kb_18 43 rfl) (kb_18 44 rfl)
theorem dL_law_1197 : decode cL_law 1197 = .ok (.aload_n 2, 1) := dqo_44 (kb_18 45 rfl)
theorem dL_law_1198 : decode cL_law 1198 = .ok (.aload_n 0, 1) := dqo_42 (kb_18 46 rfl)
theorem dL_law_1199 : decode cL_law 1199 = .ok (.iload 4, 2) := dqo_21 4 (kb_18 47 rfl) (kb_18 48 rfl)
theorem dL_law_1201 : decode cL_law 1201 = .ok (.iconst 1, 1) := dqo_4 (kb_18 49 rfl)
theorem dL_law_1202 : decode cL_law 1202 = .ok (.iadd, 1) := dqo_96 (kb_18 50 rfl)
theorem dL_law_1203 : decode cL_law 1203 = .ok (.iaload, 1) := dqo_46 (kb_18 51 rfl)
theorem dL_law_1204 : decode cL_law 1204 = .ok (.aload_n 0, 1) := dqo_42 (kb_18 52 rfl)
theorem dL_law_1205 : decode cL_law 1205 = .ok (.iload 4, 2) := dqo_21 4 (kb_18 53 rfl) (kb_18 54 rfl)
theorem dL_law_1207 : decode cL_law 1207 = .ok (.iconst 2, 1) := dqo_5 (kb_18 55 rfl)
theorem dL_law_1208 : decode cL_law 1208 = .ok (.iadd, 1) := dqo_96 (kb_18 56 rfl)
theorem dL_law_1209 : decode cL_law 1209 = .ok (.iaload, 1) := dqo_46 (kb_18 57 rfl)
theorem dL_law_1210 : decode cL_law 1210 = .ok (.aload_n 0, 1) := dqo_42 (kb_18 58 rfl)
theorem dL_law_1211 : decode cL_law 1211 = .ok (.iload 4, 2) := dqo_21 4 (kb_18 59 rfl) (kb_18 60 rfl)
theorem dL_law_1213 : decode cL_law 1213 = .ok (.iconst 3, 1) := dqo_6 (kb_18 61 rfl)
theorem dL_law_1214 : decode cL_law 1214 = .ok (.iadd, 1) := dqo_96 (kb_18 62 rfl)
theorem dL_law_1215 : decode cL_law 1215 = .ok (.iaload, 1) := dqo_46 (kb_18 63 rfl)
theorem dL_law_1216 : decode cL_law 1216 = .ok (.invokevirtual 252, 3) := dqo_182 0 252 (kb_19 0 rfl) (kb_19 1 rfl) (kb_19 2 rfl)
theorem dL_law_1219 : decode cL_law 1219 = .ok (.istore 6, 2) := dqo_54 6 (kb_19 3 rfl) (kb_19 4 rfl)
theorem dL_law_1221 : decode cL_law 1221 = .ok (.goto 908, 3) := dqo_167 3 140 (by decide) (kb_19 5 rfl) (kb_19 6 rfl) (kb_19 7 rfl)
theorem S_sortBy {p : Program} {l : Launch} {e : Env} {s : State} {m : MethodId} {args : Array Value} {below : List Frame} {meth : Method} {c : Code} {D : va_G} {cy : Nat → ClassId} {A : Nat → Prop} {Q : State → Prop} {X : (Nat → Prop) → State → Heap → Prop} {aK aV : Nat → Nat} {tO tT : Nat} {gO gT : Nat → Int32} {a : Nat → Nat → Nat} {ba : Nat → Nat} {o b L i cells slots : Nat} {xs : Nat → Int32} {w : va_W} (C : Fg p s m args meth c cL_law 7 RL D cy A) (hE : X A s s.heap) (hT : EnvT X cy aK aV tO tT gO gT) (hN : EnvN X) (hl : l.stackTraces = false) (hx : va_X b L xs s s.heap) (hbl : b < s.heap.size) (hbA : ¬ A b) (hi : i + 5 ≤ L) (hL : L ≤ 2560) (hc : cells + 500 ≤ room_1.cells) (hs : slots + 10000 ≤ room_1.slots) (hJ : JW cy a ba o w) (kk : ∀ w' : va_W, JW cy a ba o w' → vW p l e room_1 s m args below meth c D vwCl A Q 7 (cells + 500) (slots + 10000) w' [some (.ref b), some (.ref (a 0 0)), some (.ref (ba 9)), some (.ref o), some (.int (nI i)), none, none] 2129 []) : vW p l e room_1 s m args below meth c D vwCl A Q 7 cells slots w [some (.ref b), some (.ref (a 0 0)), some (.ref (ba 9)), some (.ref o), some (.int (nI i)), none, none] 732 [] := by
  have hX := hT.1.1
  obtain ⟨f, r, hf, hq, kn, ra, th, sm, n, v, hC, hB, hM, rfl⟩ := hJ
  refine r_aload_n C dL_law_732 rfl ?_
  refine r_aload_n C dL_law_733 rfl ?_
  refine r_iload C dL_law_734 rfl ?_
  refine r_iconst (v := nI 1) C dL_law_736 (by decide) ?_
  refine r_iaddN C dL_law_737 ?_
  refine r_sld C hx hbl hbA (show i + 1 < L by omega) (by omega) dL_law_738 ?_
  refine r_aload_n C dL_law_739 rfl ?_
  refine r_iload C dL_law_740 rfl ?_
  refine r_iconst (v := nI 2) C dL_law_742 (by decide) ?_
  refine r_iaddN C dL_law_743 ?_
  refine r_sld C hx hbl hbA (show i + 2 < L by omega) (by omega) dL_law_744 ?_
  refine r_aload_n C dL_law_745 rfl ?_
  refine c_SH (st := []) hX.1.stb C hE (W_sortBy hX.1 hN hC hB hM (P_sortBy hX hl hC hB hM (xs (i + 1)) (xs (i + 2)))) pk_L_sortBy qm_L_217 rfl rfl (Nat.le_of_ble_eq_true rfl) dL_law_746 ⟨(Nat.le_of_ble_eq_true rfl), (Nat.le_of_ble_eq_true rfl)⟩ ⟨show cells + 1 ≤ room_1.cells by omega, show slots + 6 ≤ room_1.slots by omega⟩ (fun v9 w9 h9 => ?_) (fun _ h9 => h9.elim)
  obtain ⟨f', r', k, n1, rfl, rfl, hf', hq', n2, hC', hB', hM', hk0, hk4, h2⟩ := h9
  refine r_istore C dL_law_749 (by decide) rfl ?_
  refine r_aload_n C dL_law_751 rfl ?_
  refine r_aload_n C dL_law_752 rfl ?_
  refine r_iload C dL_law_753 rfl ?_
  refine r_iconst (v := nI 1) C dL_law_755 (by decide) ?_
  refine r_iaddN C dL_law_756 ?_
  refine r_sld C hx hbl hbA (show i + 1 < L by omega) (by omega) dL_law_757 ?_
  refine r_aload_n C dL_law_758 rfl ?_
  refine r_iload C dL_law_759 rfl ?_
  refine r_iconst (v := nI 2) C dL_law_761 (by decide) ?_
  refine r_iaddN C dL_law_762 ?_
  refine r_sld C hx hbl hbA (show i + 2 < L by omega) (by omega) dL_law_763 ?_
  refine t_swap3 ?_
  refine c_V (st := []) hX.1.stb C hE (h2 _) pk_X4_sortBy qm_L_219 0 8 rfl rfl wm_0 rfl rfl (Nat.le_of_ble_eq_true rfl) dL_law_764 ⟨(Nat.le_of_ble_eq_true rfl), (Nat.le_of_ble_eq_true rfl)⟩ ⟨show cells + 1 + 4 ≤ room_1.cells by omega, show slots + 6 + 48 ≤ room_1.slots by omega⟩ (fun v9 w9 h9 => ?_) (fun _ h9 => h9.elim)
  obtain ⟨ra9, rfl, rfl⟩ := h9
  refine r_istore C dL_law_767 (by decide) rfl ?_
  refine t_swap3 ?_
  refine r_goto (tgt := 2129) C dL_law_769 (by decide) ?_
  refine r_widen (k := cells + 500) (n := slots + 10000) (show cells + 1 + 4 ≤ cells + 500 by omega) (show slots + 6 + 48 ≤ slots + 10000 by omega) ?_
  refine r_drop 5 ?_
  refine r_drop 6 ?_
  exact kk _ ⟨f', r', hf', hq', kn, ra9, _, sm, _, _, hC', hB', hM', rfl⟩
theorem S_get {p : Program} {l : Launch} {e : Env} {s : State} {m : MethodId} {args : Array Value} {below : List Frame} {meth : Method} {c : Code} {D : va_G} {cy : Nat → ClassId} {A : Nat → Prop} {Q : State → Prop} {X : (Nat → Prop) → State → Heap → Prop} {aK aV : Nat → Nat} {tO tT : Nat} {gO gT : Nat → Int32} {a : Nat → Nat → Nat} {ba : Nat → Nat} {o b L i cells slots : Nat} {xs : Nat → Int32} {w : va_W} (C : Fg p s m args meth c cL_law 7 RL D cy A) (hE : X A s s.heap) (hT : EnvT X cy aK aV tO tT gO gT) (hN : EnvN X) (hl : l.stackTraces = false) (hx : va_X b L xs s s.heap) (hbl : b < s.heap.size) (hbA : ¬ A b) (hi : i + 5 ≤ L) (hL : L ≤ 2560) (hc : cells + 500 ≤ room_1.cells) (hs : slots + 10000 ≤ room_1.slots) (hJ : JW cy a ba o w) (kk : ∀ w' : va_W, JW cy a ba o w' → vW p l e room_1 s m args below meth c D vwCl A Q 7 (cells + 500) (slots + 10000) w' [some (.ref b), some (.ref (a 0 0)), some (.ref (ba 9)), some (.ref o), some (.int (nI i)), none, none] 2129 []) : vW p l e room_1 s m args below meth c D vwCl A Q 7 cells slots w [some (.ref b), some (.ref (a 0 0)), some (.ref (ba 9)), some (.ref o), some (.int (nI i)), none, none] 772 [] := by
  have hX := hT.1.1
  obtain ⟨f, r, hf, hq, kn, ra, th, sm, n, v, hC, hB, hM, rfl⟩ := hJ
  refine r_aload_n C dL_law_772 rfl ?_
  refine r_aload_n C dL_law_773 rfl ?_
  refine r_iload C dL_law_774 rfl ?_
  refine r_iconst (v := nI 1) C dL_law_776 (by decide) ?_
  refine r_iaddN C dL_law_777 ?_
  refine r_sld C hx hbl hbA (show i + 1 < L by omega) (by omega) dL_law_778 ?_
  refine r_aload_n C dL_law_779 rfl ?_
  refine r_iload C dL_law_780 rfl ?_
  refine r_iconst (v := nI 2) C dL_law_782 (by decide) ?_
  refine r_iaddN C dL_law_783 ?_
  refine r_sld C hx hbl hbA (show i + 2 < L by omega) (by omega) dL_law_784 ?_
  refine r_aload_n C dL_law_785 rfl ?_
  refine c_SH (st := []) hX.1.stb C hE (W_get hX.1 hN hC hB hM (P_get hX hl hC hB hM (xs (i + 1)) (xs (i + 2)))) pk_L_get qm_L_220 rfl rfl (Nat.le_of_ble_eq_true rfl) dL_law_786 ⟨(Nat.le_of_ble_eq_true rfl), (Nat.le_of_ble_eq_true rfl)⟩ ⟨show cells + 1 ≤ room_1.cells by omega, show slots + 6 ≤ room_1.slots by omega⟩ (fun v9 w9 h9 => ?_) (fun _ h9 => h9.elim)
  obtain ⟨f', r', k, n1, rfl, rfl, hf', hq', n2, hC', hB', hM', hk0, hk4, h2⟩ := h9
  refine r_istore C dL_law_789 (by decide) rfl ?_
  refine r_aload_n C dL_law_791 rfl ?_
  refine r_aload_n C dL_law_792 rfl ?_
  refine r_iload C dL_law_793 rfl ?_
  refine r_iconst (v := nI 1) C dL_law_795 (by decide) ?_
  refine r_iaddN C dL_law_796 ?_
  refine r_sld C hx hbl hbA (show i + 1 < L by omega) (by omega) dL_law_797 ?_
  refine r_aload_n C dL_law_798 rfl ?_
  refine r_iload C dL_law_799 rfl ?_
  refine r_iconst (v := nI 2) C dL_law_801 (by decide) ?_
  refine r_iaddN C dL_law_802 ?_
  refine r_sld C hx hbl hbA (show i + 2 < L by omega) (by omega) dL_law_803 ?_
  refine t_swap3 ?_
  refine c_V (st := []) hX.1.stb C hE (h2 _) pk_X4_get qm_L_222 0 8 rfl rfl wm_0 rfl rfl (Nat.le_of_ble_eq_true rfl) dL_law_804 ⟨(Nat.le_of_ble_eq_true rfl), (Nat.le_of_ble_eq_true rfl)⟩ ⟨show cells + 1 + 4 ≤ room_1.cells by omega, show slots + 6 + 48 ≤ room_1.slots by omega⟩ (fun v9 w9 h9 => ?_) (fun _ h9 => h9.elim)
  obtain ⟨ra9, rfl, rfl⟩ := h9
  refine r_istore C dL_law_807 (by decide) rfl ?_
  refine t_swap3 ?_
  refine r_goto (tgt := 2129) C dL_law_809 (by decide) ?_
  refine r_widen (k := cells + 500) (n := slots + 10000) (show cells + 1 + 4 ≤ cells + 500 by omega) (show slots + 6 + 48 ≤ slots + 10000 by omega) ?_
  refine r_drop 5 ?_
  refine r_drop 6 ?_
  exact kk _ ⟨f', r', hf', hq', kn, ra9, _, sm, _, _, hC', hB', hM', rfl⟩
theorem S_size {p : Program} {l : Launch} {e : Env} {s : State} {m : MethodId} {args : Array Value} {below : List Frame} {meth : Method} {c : Code} {D : va_G} {cy : Nat → ClassId} {A : Nat → Prop} {Q : State → Prop} {X : (Nat → Prop) → State → Heap → Prop} {aK aV : Nat → Nat} {tO tT : Nat} {gO gT : Nat → Int32} {a : Nat → Nat → Nat} {ba : Nat → Nat} {o b L i cells slots : Nat} {xs : Nat → Int32} {w : va_W} (C : Fg p s m args meth c cL_law 7 RL D cy A) (hE : X A s s.heap) (hT : EnvT X cy aK aV tO tT gO gT) (hN : EnvN X) (hl : l.stackTraces = false) (hx : va_X b L xs s s.heap) (hbl : b < s.heap.size) (hbA : ¬ A b) (hi : i + 5 ≤ L) (hL : L ≤ 2560) (hc : cells + 500 ≤ room_1.cells) (hs : slots + 10000 ≤ room_1.slots) (hJ : JW cy a ba o w) (kk : ∀ w' : va_W, JW cy a ba o w' → vW p l e room_1 s m args below meth c D vwCl A Q 7 (cells + 500) (slots + 10000) w' [some (.ref b), some (.ref (a 0 0)), some (.ref (ba 9)), some (.ref o), some (.int (nI i)), none, none] 2129 []) : vW p l e room_1 s m args below meth c D vwCl A Q 7 cells slots w [some (.ref b), some (.ref (a 0 0)), some (.ref (ba 9)), some (.ref o), some (.int (nI i)), none, none] 812 [] := by
  have hX := hT.1.1
  obtain ⟨f, r, hf, hq, kn, ra, th, sm, n, v, hC, hB, hM, rfl⟩ := hJ
  refine r_aload_n C dL_law_812 rfl ?_
  refine r_aload_n C dL_law_813 rfl ?_
  refine r_iload C dL_law_814 rfl ?_
  refine r_iconst (v := nI 1) C dL_law_816 (by decide) ?_
  refine r_iaddN C dL_law_817 ?_
  refine r_sld C hx hbl hbA (show i + 1 < L by omega) (by omega) dL_law_818 ?_
  refine r_aload_n C dL_law_819 rfl ?_
  refine c_SH (st := []) hX.1.stb C hE (W_size hX.1 hN hC hB hM (P_size hX hl hC hB hM (xs (i + 1)))) pk_L_size qm_L_223 rfl rfl (Nat.le_of_ble_eq_true rfl) dL_law_820 ⟨(Nat.le_of_ble_eq_true rfl), (Nat.le_of_ble_eq_true rfl)⟩ ⟨show cells + 1 ≤ room_1.cells by omega, show slots + 6 ≤ room_1.slots by omega⟩ (fun v9 w9 h9 => ?_) (fun _ h9 => h9.elim)
  obtain ⟨f', r', k, n1, rfl, rfl, hf', hq', n2, hC', hB', hM', hk0, hk4, h2⟩ := h9
  refine r_istore C dL_law_823 (by decide) rfl ?_
  refine r_aload_n C dL_law_825 rfl ?_
  refine r_aload_n C dL_law_826 rfl ?_
  refine r_iload C dL_law_827 rfl ?_
  refine r_iconst (v := nI 1) C dL_law_829 (by decide) ?_
  refine r_iaddN C dL_law_830 ?_
  refine r_sld C hx hbl hbA (show i + 1 < L by omega) (by omega) dL_law_831 ?_
  refine t_swap3 ?_
  refine c_V (st := []) hX.1.stb C hE (h2 _) pk_X4_size qm_L_225 0 8 rfl rfl wm_0 rfl rfl (Nat.le_of_ble_eq_true rfl) dL_law_832 ⟨(Nat.le_of_ble_eq_true rfl), (Nat.le_of_ble_eq_true rfl)⟩ ⟨show cells + 1 + 4 ≤ room_1.cells by omega, show slots + 6 + 48 ≤ room_1.slots by omega⟩ (fun v9 w9 h9 => ?_) (fun _ h9 => h9.elim)
  obtain ⟨ra9, rfl, rfl⟩ := h9
  refine r_istore C dL_law_835 (by decide) rfl ?_
  refine t_swap3 ?_
  refine r_goto (tgt := 2129) C dL_law_837 (by decide) ?_
  refine r_widen (k := cells + 500) (n := slots + 10000) (show cells + 1 + 4 ≤ cells + 500 by omega) (show slots + 6 + 48 ≤ slots + 10000 by omega) ?_
  refine r_drop 5 ?_
  refine r_drop 6 ?_
  exact kk _ ⟨f', r', hf', hq', kn, ra9, _, sm, _, _, hC', hB', hM', rfl⟩
theorem S_partAt {p : Program} {l : Launch} {e : Env} {s : State} {m : MethodId} {args : Array Value} {below : List Frame} {meth : Method} {c : Code} {D : va_G} {cy : Nat → ClassId} {A : Nat → Prop} {Q : State → Prop} {X : (Nat → Prop) → State → Heap → Prop} {aK aV : Nat → Nat} {tO tT : Nat} {gO gT : Nat → Int32} {a : Nat → Nat → Nat} {ba : Nat → Nat} {o b L i cells slots : Nat} {xs : Nat → Int32} {w : va_W} (C : Fg p s m args meth c cL_law 7 RL D cy A) (hE : X A s s.heap) (hT : EnvT X cy aK aV tO tT gO gT) (hN : EnvN X) (hl : l.stackTraces = false) (hx : va_X b L xs s s.heap) (hbl : b < s.heap.size) (hbA : ¬ A b) (hi : i + 5 ≤ L) (hL : L ≤ 2560) (hc : cells + 500 ≤ room_1.cells) (hs : slots + 10000 ≤ room_1.slots) (hJ : JW cy a ba o w) (kk : ∀ w' : va_W, JW cy a ba o w' → vW p l e room_1 s m args below meth c D vwCl A Q 7 (cells + 500) (slots + 10000) w' [some (.ref b), some (.ref (a 0 0)), some (.ref (ba 9)), some (.ref o), some (.int (nI i)), none, none] 2129 []) : vW p l e room_1 s m args below meth c D vwCl A Q 7 cells slots w [some (.ref b), some (.ref (a 0 0)), some (.ref (ba 9)), some (.ref o), some (.int (nI i)), none, none] 840 [] := by
  have hX := hT.1.1
  obtain ⟨f, r, hf, hq, kn, ra, th, sm, n, v, hC, hB, hM, rfl⟩ := hJ
  refine r_aload_n C dL_law_840 rfl ?_
  refine r_aload_n C dL_law_841 rfl ?_
  refine r_iload C dL_law_842 rfl ?_
  refine r_iconst (v := nI 1) C dL_law_844 (by decide) ?_
  refine r_iaddN C dL_law_845 ?_
  refine r_sld C hx hbl hbA (show i + 1 < L by omega) (by omega) dL_law_846 ?_
  refine r_aload_n C dL_law_847 rfl ?_
  refine r_iload C dL_law_848 rfl ?_
  refine r_iconst (v := nI 2) C dL_law_850 (by decide) ?_
  refine r_iaddN C dL_law_851 ?_
  refine r_sld C hx hbl hbA (show i + 2 < L by omega) (by omega) dL_law_852 ?_
  refine r_aload_n C dL_law_853 rfl ?_
  refine c_SH (st := []) hX.1.stb C hE (W_partAt hX.1 hN hC hB hM (P_partAt hX hl hC hB hM (xs (i + 1)) (xs (i + 2)))) pk_L_partAt qm_L_226 rfl rfl (Nat.le_of_ble_eq_true rfl) dL_law_854 ⟨(Nat.le_of_ble_eq_true rfl), (Nat.le_of_ble_eq_true rfl)⟩ ⟨show cells + 1 ≤ room_1.cells by omega, show slots + 6 ≤ room_1.slots by omega⟩ (fun v9 w9 h9 => ?_) (fun _ h9 => h9.elim)
  obtain ⟨f', r', k, n1, rfl, rfl, hf', hq', n2, hC', hB', hM', hk0, hk4, h2⟩ := h9
  refine r_istore C dL_law_857 (by decide) rfl ?_
  refine r_aload_n C dL_law_859 rfl ?_
  refine r_aload_n C dL_law_860 rfl ?_
  refine r_iload C dL_law_861 rfl ?_
  refine r_iconst (v := nI 1) C dL_law_863 (by decide) ?_
  refine r_iaddN C dL_law_864 ?_
  refine r_sld C hx hbl hbA (show i + 1 < L by omega) (by omega) dL_law_865 ?_
  refine r_aload_n C dL_law_866 rfl ?_
  refine r_iload C dL_law_867 rfl ?_
  refine r_iconst (v := nI 2) C dL_law_869 (by decide) ?_
  refine r_iaddN C dL_law_870 ?_
  refine r_sld C hx hbl hbA (show i + 2 < L by omega) (by omega) dL_law_871 ?_
  refine t_swap3 ?_
  refine c_V (st := []) hX.1.stb C hE (h2 _) pk_X4_partAt qm_L_228 0 8 rfl rfl wm_0 rfl rfl (Nat.le_of_ble_eq_true rfl) dL_law_872 ⟨(Nat.le_of_ble_eq_true rfl), (Nat.le_of_ble_eq_true rfl)⟩ ⟨show cells + 1 + 4 ≤ room_1.cells by omega, show slots + 6 + 48 ≤ room_1.slots by omega⟩ (fun v9 w9 h9 => ?_) (fun _ h9 => h9.elim)
  obtain ⟨ra9, rfl, rfl⟩ := h9
  refine r_istore C dL_law_875 (by decide) rfl ?_
  refine t_swap3 ?_
  refine r_goto (tgt := 2129) C dL_law_877 (by decide) ?_
  refine r_widen (k := cells + 500) (n := slots + 10000) (show cells + 1 + 4 ≤ cells + 500 by omega) (show slots + 6 + 48 ≤ slots + 10000 by omega) ?_
  refine r_drop 5 ?_
  refine r_drop 6 ?_
  exact kk _ ⟨f', r', hf', hq', kn, ra9, _, sm, _, _, hC', hB', hM', rfl⟩
theorem S_fill {p : Program} {l : Launch} {e : Env} {s : State} {m : MethodId} {args : Array Value} {below : List Frame} {meth : Method} {c : Code} {D : va_G} {cy : Nat → ClassId} {A : Nat → Prop} {Q : State → Prop} {X : (Nat → Prop) → State → Heap → Prop} {aK aV : Nat → Nat} {tO tT : Nat} {gO gT : Nat → Int32} {a : Nat → Nat → Nat} {ba : Nat → Nat} {o b L i cells slots : Nat} {xs : Nat → Int32} {w : va_W} (C : Fg p s m args meth c cL_law 7 RL D cy A) (hE : X A s s.heap) (hT : EnvT X cy aK aV tO tT gO gT) (hN : EnvN X) (hl : l.stackTraces = false) (hx : va_X b L xs s s.heap) (hbl : b < s.heap.size) (hbA : ¬ A b) (hi : i + 5 ≤ L) (hL : L ≤ 2560) (hc : cells + 500 ≤ room_1.cells) (hs : slots + 10000 ≤ room_1.slots) (hJ : JW cy a ba o w) (kk : ∀ w' : va_W, JW cy a ba o w' → vW p l e room_1 s m args below meth c D vwCl A Q 7 (cells + 500) (slots + 10000) w' [some (.ref b), some (.ref (a 0 0)), some (.ref (ba 9)), some (.ref o), some (.int (nI i)), none, none] 2129 []) : vW p l e room_1 s m args below meth c D vwCl A Q 7 cells slots w [some (.ref b), some (.ref (a 0 0)), some (.ref (ba 9)), some (.ref o), some (.int (nI i)), none, none] 880 [] := by
  have hX := hT.1.1
  obtain ⟨f, r, hf, hq, kn, ra, th, sm, n, v, hC, hB, hM, rfl⟩ := hJ
  refine r_aload_n C dL_law_880 rfl ?_
  refine r_aload_n C dL_law_881 rfl ?_
  refine r_iload C dL_law_882 rfl ?_
  refine r_iconst (v := nI 1) C dL_law_884 (by decide) ?_
  refine r_iaddN C dL_law_885 ?_
  refine r_sld C hx hbl hbA (show i + 1 < L by omega) (by omega) dL_law_886 ?_
  refine r_aload_n C dL_law_887 rfl ?_
  refine r_iload C dL_law_888 rfl ?_
  refine r_iconst (v := nI 2) C dL_law_890 (by decide) ?_
  refine r_iaddN C dL_law_891 ?_
  refine r_sld C hx hbl hbA (show i + 2 < L by omega) (by omega) dL_law_892 ?_
  refine r_aload_n C dL_law_893 rfl ?_
  refine c_SH (st := []) hX.1.stb C hE (W_fill hX.1 hN hC hB hM (P_fill hX hl hC hB hM (xs (i + 1)) (xs (i + 2)))) pk_L_fill qm_L_229 rfl rfl (Nat.le_of_ble_eq_true rfl) dL_law_894 ⟨(Nat.le_of_ble_eq_true rfl), (Nat.le_of_ble_eq_true rfl)⟩ ⟨show cells + 1 ≤ room_1.cells by omega, show slots + 6 ≤ room_1.slots by omega⟩ (fun v9 w9 h9 => ?_) (fun _ h9 => h9.elim)
  obtain ⟨f', r', k, n1, rfl, rfl, hf', hq', n2, hC', hB', hM', hk0, hk4, h2⟩ := h9
  refine r_istore C dL_law_897 (by decide) rfl ?_
  refine r_aload_n C dL_law_899 rfl ?_
  refine r_aload_n C dL_law_900 rfl ?_
  refine r_iload C dL_law_901 rfl ?_
  refine r_iconst (v := nI 1) C dL_law_903 (by decide) ?_
  refine r_iaddN C dL_law_904 ?_
  refine r_sld C hx hbl hbA (show i + 1 < L by omega) (by omega) dL_law_905 ?_
  refine r_aload_n C dL_law_906 rfl ?_
  refine r_iload C dL_law_907 rfl ?_
  refine r_iconst (v := nI 2) C dL_law_909 (by decide) ?_
  refine r_iaddN C dL_law_910 ?_
  refine r_sld C hx hbl hbA (show i + 2 < L by omega) (by omega) dL_law_911 ?_
  refine t_swap3 ?_
  refine c_V (st := []) hX.1.stb C hE (h2 _) pk_X4_fill qm_L_231 0 8 rfl rfl wm_0 rfl rfl (Nat.le_of_ble_eq_true rfl) dL_law_912 ⟨(Nat.le_of_ble_eq_true rfl), (Nat.le_of_ble_eq_true rfl)⟩ ⟨show cells + 1 + 4 ≤ room_1.cells by omega, show slots + 6 + 48 ≤ room_1.slots by omega⟩ (fun v9 w9 h9 => ?_) (fun _ h9 => h9.elim)
  obtain ⟨ra9, rfl, rfl⟩ := h9
  refine r_istore C dL_law_915 (by decide) rfl ?_
  refine t_swap3 ?_
  refine r_goto (tgt := 2129) C dL_law_917 (by decide) ?_
  refine r_widen (k := cells + 500) (n := slots + 10000) (show cells + 1 + 4 ≤ cells + 500 by omega) (show slots + 6 + 48 ≤ slots + 10000 by omega) ?_
  refine r_drop 5 ?_
  refine r_drop 6 ?_
  exact kk _ ⟨f', r', hf', hq', kn, ra9, _, sm, _, _, hC', hB', hM', rfl⟩
theorem S_removeItem {p : Program} {l : Launch} {e : Env} {s : State} {m : MethodId} {args : Array Value} {below : List Frame} {meth : Method} {c : Code} {D : va_G} {cy : Nat → ClassId} {A : Nat → Prop} {Q : State → Prop} {X : (Nat → Prop) → State → Heap → Prop} {aK aV : Nat → Nat} {tO tT : Nat} {gO gT : Nat → Int32} {a : Nat → Nat → Nat} {ba : Nat → Nat} {o b L i cells slots : Nat} {xs : Nat → Int32} {w : va_W} (C : Fg p s m args meth c cL_law 7 RL D cy A) (hE : X A s s.heap) (hT : EnvT X cy aK aV tO tT gO gT) (hN : EnvN X) (hl : l.stackTraces = false) (hx : va_X b L xs s s.heap) (hbl : b < s.heap.size) (hbA : ¬ A b) (hi : i + 5 ≤ L) (hL : L ≤ 2560) (hc : cells + 500 ≤ room_1.cells) (hs : slots + 10000 ≤ room_1.slots) (hJ : JW cy a ba o w) (kk : ∀ w' : va_W, JW cy a ba o w' → vW p l e room_1 s m args below meth c D vwCl A Q 7 (cells + 500) (slots + 10000) w' [some (.ref b), some (.ref (a 0 0)), some (.ref (ba 9)), some (.ref o), some (.int (nI i)), none, none] 2129 []) : vW p l e room_1 s m args below meth c D vwCl A Q 7 cells slots w [some (.ref b), some (.ref (a 0 0)), some (.ref (ba 9)), some (.ref o), some (.int (nI i)), none, none] 920 [] := by
  have hX := hT.1.1
  obtain ⟨f, r, hf, hq, kn, ra, th, sm, n, v, hC, hB, hM, rfl⟩ := hJ
  refine r_aload_n C dL_law_920 rfl ?_
  refine r_aload_n C dL_law_921 rfl ?_
  refine r_iload C dL_law_922 rfl ?_
  refine r_iconst (v := nI 1) C dL_law_924 (by decide) ?_
  refine r_iaddN C dL_law_925 ?_
  refine r_sld C hx hbl hbA (show i + 1 < L by omega) (by omega) dL_law_926 ?_
  refine r_aload_n C dL_law_927 rfl ?_
  refine r_iload C dL_law_928 rfl ?_
  refine r_iconst (v := nI 2) C dL_law_930 (by decide) ?_
  refine r_iaddN C dL_law_931 ?_
  refine r_sld C hx hbl hbA (show i + 2 < L by omega) (by omega) dL_law_932 ?_
  refine r_aload_n C dL_law_933 rfl ?_
  refine c_SH (st := []) hX.1.stb C hE (W_removeItem hX.1 hN hC hB hM (P_removeItem hX hl hC hB hM (xs (i + 1)) (xs (i + 2)))) pk_L_removeItem qm_L_232 rfl rfl (Nat.le_of_ble_eq_true rfl) dL_law_934 ⟨(Nat.le_of_ble_eq_true rfl), (Nat.le_of_ble_eq_true rfl)⟩ ⟨show cells + 1 ≤ room_1.cells by omega, show slots + 6 ≤ room_1.slots by omega⟩ (fun v9 w9 h9 => ?_) (fun _ h9 => h9.elim)
  obtain ⟨f', r', k, n1, rfl, rfl, hf', hq', n2, hC', hB', hM', hk0, hk4, h2⟩ := h9
  refine r_istore C dL_law_937 (by decide) rfl ?_
  refine r_aload_n C dL_law_939 rfl ?_
  refine r_aload_n C dL_law_940 rfl ?_
  refine r_iload C dL_law_941 rfl ?_
  refine r_iconst (v := nI 1) C dL_law_943 (by decide) ?_
  refine r_iaddN C dL_law_944 ?_
  refine r_sld C hx hbl hbA (show i + 1 < L by omega) (by omega) dL_law_945 ?_
  refine r_aload_n C dL_law_946 rfl ?_
  refine r_iload C dL_law_947 rfl ?_
  refine r_iconst (v := nI 2) C dL_law_949 (by decide) ?_
  refine r_iaddN C dL_law_950 ?_
  refine r_sld C hx hbl hbA (show i + 2 < L by omega) (by omega) dL_law_951 ?_
  refine t_swap3 ?_
  refine c_V (st := []) hX.1.stb C hE (h2 _) pk_X4_removeItem qm_L_234 0 8 rfl rfl wm_0 rfl rfl (Nat.le_of_ble_eq_true rfl) dL_law_952 ⟨(Nat.le_of_ble_eq_true rfl), (Nat.le_of_ble_eq_true rfl)⟩ ⟨show cells + 1 + 4 ≤ room_1.cells by omega, show slots + 6 + 48 ≤ room_1.slots by omega⟩ (fun v9 w9 h9 => ?_) (fun _ h9 => h9.elim)
  obtain ⟨ra9, rfl, rfl⟩ := h9
  refine r_istore C dL_law_955 (by decide) rfl ?_
  refine t_swap3 ?_
  refine r_goto (tgt := 2129) C dL_law_957 (by decide) ?_
  refine r_widen (k := cells + 500) (n := slots + 10000) (show cells + 1 + 4 ≤ cells + 500 by omega) (show slots + 6 + 48 ≤ slots + 10000 by omega) ?_
  refine r_drop 5 ?_
  refine r_drop 6 ?_
  exact kk _ ⟨f', r', hf', hq', kn, ra9, _, sm, _, _, hC', hB', hM', rfl⟩
theorem S_addAll {p : Program} {l : Launch} {e : Env} {s : State} {m : MethodId} {args : Array Value} {below : List Frame} {meth : Method} {c : Code} {D : va_G} {cy : Nat → ClassId} {A : Nat → Prop} {Q : State → Prop} {X : (Nat → Prop) → State → Heap → Prop} {aK aV : Nat → Nat} {tO tT : Nat} {gO gT : Nat → Int32} {a : Nat → Nat → Nat} {ba : Nat → Nat} {o b L i cells slots : Nat} {xs : Nat → Int32} {w : va_W} (C : Fg p s m args meth c cL_law 7 RL D cy A) (hE : X A s s.heap) (hT : EnvT X cy aK aV tO tT gO gT) (hN : EnvN X) (hl : l.stackTraces = false) (hx : va_X b L xs s s.heap) (hbl : b < s.heap.size) (hbA : ¬ A b) (hi : i + 5 ≤ L) (hL : L ≤ 2560) (hc : cells + 500 ≤ room_1.cells) (hs : slots + 10000 ≤ room_1.slots) (hJ : JW cy a ba o w) (kk : ∀ w' : va_W, JW cy a ba o w' → vW p l e room_1 s m args below meth c D vwCl A Q 7 (cells + 500) (slots + 10000) w' [some (.ref b), some (.ref (a 0 0)), some (.ref (ba 9)), some (.ref o), some (.int (nI i)), none, none] 2129 []) : vW p l e room_1 s m args below meth c D vwCl A Q 7 cells slots w [some (.ref b), some (.ref (a 0 0)), some (.ref (ba 9)), some (.ref o), some (.int (nI i)), none, none] 960 [] := by
  have hX := hT.1.1
  obtain ⟨f, r, hf, hq, kn, ra, th, sm, n, v, hC, hB, hM, rfl⟩ := hJ
  refine r_aload_n C dL_law_960 rfl ?_
  refine r_aload_n C dL_law_961 rfl ?_
  refine r_iload C dL_law_962 rfl ?_
  refine r_iconst (v := nI 1) C dL_law_964 (by decide) ?_
  refine r_iaddN C dL_law_965 ?_
  refine r_sld C hx hbl hbA (show i + 1 < L by omega) (by omega) dL_law_966 ?_
  refine r_aload_n C dL_law_967 rfl ?_
  refine r_iload C dL_law_968 rfl ?_
  refine r_iconst (v := nI 2) C dL_law_970 (by decide) ?_
  refine r_iaddN C dL_law_971 ?_
  refine r_sld C hx hbl hbA (show i + 2 < L by omega) (by omega) dL_law_972 ?_
  refine r_aload_n C dL_law_973 rfl ?_
  refine r_iload C dL_law_974 rfl ?_
  refine r_iconst (v := nI 3) C dL_law_976 (by decide) ?_
  refine r_iaddN C dL_law_977 ?_
  refine r_sld C hx hbl hbA (show i + 3 < L by omega) (by omega) dL_law_978 ?_
  refine r_aload_n C dL_law_979 rfl ?_
  refine c_SH (st := []) hX.1.stb C hE (W_addAll hX.1 hN hC hB hM (P_addAll hX hl hC hB hM (xs (i + 1)) (xs (i + 2)) (xs (i + 3)))) pk_L_addAll qm_L_235 rfl rfl (Nat.le_of_ble_eq_true rfl) dL_law_980 ⟨(Nat.le_of_ble_eq_true rfl), (Nat.le_of_ble_eq_true rfl)⟩ ⟨show cells + 1 ≤ room_1.cells by omega, show slots + 6 ≤ room_1.slots by omega⟩ (fun v9 w9 h9 => ?_) (fun _ h9 => h9.elim)
  obtain ⟨f', r', k, n1, rfl, rfl, hf', hq', n2, hC', hB', hM', hk0, hk4, h2⟩ := h9
  refine r_istore C dL_law_983 (by decide) rfl ?_
  refine r_aload_n C dL_law_985 rfl ?_
  refine r_aload_n C dL_law_986 rfl ?_
  refine r_iload C dL_law_987 rfl ?_
  refine r_iconst (v := nI 1) C dL_law_989 (by decide) ?_
  refine r_iaddN C dL_law_990 ?_
  refine r_sld C hx hbl hbA (show i + 1 < L by omega) (by omega) dL_law_991 ?_
  refine r_aload_n C dL_law_992 rfl ?_
  refine r_iload C dL_law_993 rfl ?_
  refine r_iconst (v := nI 2) C dL_law_995 (by decide) ?_
  refine r_iaddN C dL_law_996 ?_
  refine r_sld C hx hbl hbA (show i + 2 < L by omega) (by omega) dL_law_997 ?_
  refine r_aload_n C dL_law_998 rfl ?_
  refine r_iload C dL_law_999 rfl ?_
  refine r_iconst (v := nI 3) C dL_law_1001 (by decide) ?_
  refine r_iaddN C dL_law_1002 ?_
  refine r_sld C hx hbl hbA (show i + 3 < L by omega) (by omega) dL_law_1003 ?_
  refine t_swap3 ?_
  refine c_V (st := []) hX.1.stb C hE (h2 _) pk_X4_addAll qm_L_237 0 8 rfl rfl wm_0 rfl rfl (Nat.le_of_ble_eq_true rfl) dL_law_1004 ⟨(Nat.le_of_ble_eq_true rfl), (Nat.le_of_ble_eq_true rfl)⟩ ⟨show cells + 1 + 4 ≤ room_1.cells by omega, show slots + 6 + 48 ≤ room_1.slots by omega⟩ (fun v9 w9 h9 => ?_) (fun _ h9 => h9.elim)
  obtain ⟨ra9, rfl, rfl⟩ := h9
  refine r_istore C dL_law_1007 (by decide) rfl ?_
  refine t_swap3 ?_
  refine r_goto (tgt := 2129) C dL_law_1009 (by decide) ?_
  refine r_widen (k := cells + 500) (n := slots + 10000) (show cells + 1 + 4 ≤ cells + 500 by omega) (show slots + 6 + 48 ≤ slots + 10000 by omega) ?_
  refine r_drop 5 ?_
  refine r_drop 6 ?_
  exact kk _ ⟨f', r', hf', hq', kn, ra9, _, sm, _, _, hC', hB', hM', rfl⟩
theorem S_removeAll {p : Program} {l : Launch} {e : Env} {s : State} {m : MethodId} {args : Array Value} {below : List Frame} {meth : Method} {c : Code} {D : va_G} {cy : Nat → ClassId} {A : Nat → Prop} {Q : State → Prop} {X : (Nat → Prop) → State → Heap → Prop} {aK aV : Nat → Nat} {tO tT : Nat} {gO gT : Nat → Int32} {a : Nat → Nat → Nat} {ba : Nat → Nat} {o b L i cells slots : Nat} {xs : Nat → Int32} {w : va_W} (C : Fg p s m args meth c cL_law 7 RL D cy A) (hE : X A s s.heap) (hT : EnvT X cy aK aV tO tT gO gT) (hN : EnvN X) (hl : l.stackTraces = false) (hx : va_X b L xs s s.heap) (hbl : b < s.heap.size) (hbA : ¬ A b) (hi : i + 5 ≤ L) (hL : L ≤ 2560) (hc : cells + 500 ≤ room_1.cells) (hs : slots + 10000 ≤ room_1.slots) (hJ : JW cy a ba o w) (kk : ∀ w' : va_W, JW cy a ba o w' → vW p l e room_1 s m args below meth c D vwCl A Q 7 (cells + 500) (slots + 10000) w' [some (.ref b), some (.ref (a 0 0)), some (.ref (ba 9)), some (.ref o), some (.int (nI i)), none, none] 2129 []) : vW p l e room_1 s m args below meth c D vwCl A Q 7 cells slots w [some (.ref b), some (.ref (a 0 0)), some (.ref (ba 9)), some (.ref o), some (.int (nI i)), none, none] 1012 [] := by
  have hX := hT.1.1
  obtain ⟨f, r, hf, hq, kn, ra, th, sm, n, v, hC, hB, hM, rfl⟩ := hJ
  refine r_aload_n C dL_law_1012 rfl ?_
  refine r_aload_n C dL_law_1013 rfl ?_
  refine r_iload C dL_law_1014 rfl ?_
  refine r_iconst (v := nI 1) C dL_law_1016 (by decide) ?_
  refine r_iaddN C dL_law_1017 ?_
  refine r_sld C hx hbl hbA (show i + 1 < L by omega) (by omega) dL_law_1018 ?_
  refine r_aload_n C dL_law_1019 rfl ?_
  refine r_iload C dL_law_1020 rfl ?_
  refine r_iconst (v := nI 2) C dL_law_1022 (by decide) ?_
  refine r_iaddN C dL_law_1023 ?_
  refine r_sld C hx hbl hbA (show i + 2 < L by omega) (by omega) dL_law_1024 ?_
  refine r_aload_n C dL_law_1025 rfl ?_
  refine c_SH (st := []) hX.1.stb C hE (W_removeAll hX.1 hN hC hB hM (P_removeAll hX hl hC hB hM (xs (i + 1)) (xs (i + 2)))) pk_L_removeAll qm_L_238 rfl rfl (Nat.le_of_ble_eq_true rfl) dL_law_1026 ⟨(Nat.le_of_ble_eq_true rfl), (Nat.le_of_ble_eq_true rfl)⟩ ⟨show cells + 1 ≤ room_1.cells by omega, show slots + 6 ≤ room_1.slots by omega⟩ (fun v9 w9 h9 => ?_) (fun _ h9 => h9.elim)
  obtain ⟨f', r', k, n1, rfl, rfl, hf', hq', n2, hC', hB', hM', hk0, hk4, h2⟩ := h9
  refine r_istore C dL_law_1029 (by decide) rfl ?_
  refine r_aload_n C dL_law_1031 rfl ?_
  refine r_aload_n C dL_law_1032 rfl ?_
  refine r_iload C dL_law_1033 rfl ?_
  refine r_iconst (v := nI 1) C dL_law_1035 (by decide) ?_
  refine r_iaddN C dL_law_1036 ?_
  refine r_sld C hx hbl hbA (show i + 1 < L by omega) (by omega) dL_law_1037 ?_
  refine r_aload_n C dL_law_1038 rfl ?_
  refine r_iload C dL_law_1039 rfl ?_
  refine r_iconst (v := nI 2) C dL_law_1041 (by decide) ?_
  refine r_iaddN C dL_law_1042 ?_
  refine r_sld C hx hbl hbA (show i + 2 < L by omega) (by omega) dL_law_1043 ?_
  refine t_swap3 ?_
  refine c_V (st := []) hX.1.stb C hE (h2 _) pk_X4_removeAll qm_L_240 0 8 rfl rfl wm_0 rfl rfl (Nat.le_of_ble_eq_true rfl) dL_law_1044 ⟨(Nat.le_of_ble_eq_true rfl), (Nat.le_of_ble_eq_true rfl)⟩ ⟨show cells + 1 + 20 ≤ room_1.cells by omega, show slots + 6 + 190 ≤ room_1.slots by omega⟩ (fun v9 w9 h9 => ?_) (fun _ h9 => h9.elim)
  obtain ⟨ra9, rfl, rfl⟩ := h9
  refine r_istore C dL_law_1047 (by decide) rfl ?_
  refine t_swap3 ?_
  refine r_goto (tgt := 2129) C dL_law_1049 (by decide) ?_
  refine r_widen (k := cells + 500) (n := slots + 10000) (show cells + 1 + 20 ≤ cells + 500 by omega) (show slots + 6 + 190 ≤ slots + 10000 by omega) ?_
  refine r_drop 5 ?_
  refine r_drop 6 ?_
  exact kk _ ⟨f', r', hf', hq', kn, ra9, _, sm, _, _, hC', hB', hM', rfl⟩
theorem S_retainAll {p : Program} {l : Launch} {e : Env} {s : State} {m : MethodId} {args : Array Value} {below : List Frame} {meth : Method} {c : Code} {D : va_G} {cy : Nat → ClassId} {A : Nat → Prop} {Q : State → Prop} {X : (Nat → Prop) → State → Heap → Prop} {aK aV : Nat → Nat} {tO tT : Nat} {gO gT : Nat → Int32} {a : Nat → Nat → Nat} {ba : Nat → Nat} {o b L i cells slots : Nat} {xs : Nat → Int32} {w : va_W} (C : Fg p s m args meth c cL_law 7 RL D cy A) (hE : X A s s.heap) (hT : EnvT X cy aK aV tO tT gO gT) (hN : EnvN X) (hl : l.stackTraces = false) (hx : va_X b L xs s s.heap) (hbl : b < s.heap.size) (hbA : ¬ A b) (hi : i + 5 ≤ L) (hL : L ≤ 2560) (hc : cells + 500 ≤ room_1.cells) (hs : slots + 10000 ≤ room_1.slots) (hJ : JW cy a ba o w) (kk : ∀ w' : va_W, JW cy a ba o w' → vW p l e room_1 s m args below meth c D vwCl A Q 7 (cells + 500) (slots + 10000) w' [some (.ref b), some (.ref (a 0 0)), some (.ref (ba 9)), some (.ref o), some (.int (nI i)), none, none] 2129 []) : vW p l e room_1 s m args below meth c D vwCl A Q 7 cells slots w [some (.ref b), some (.ref (a 0 0)), some (.ref (ba 9)), some (.ref o), some (.int (nI i)), none, none] 1052 [] := by
  have hX := hT.1.1
  obtain ⟨f, r, hf, hq, kn, ra, th, sm, n, v, hC, hB, hM, rfl⟩ := hJ
  refine r_aload_n C dL_law_1052 rfl ?_
  refine r_aload_n C dL_law_1053 rfl ?_
  refine r_iload C dL_law_1054 rfl ?_
  refine r_iconst (v := nI 1) C dL_law_1056 (by decide) ?_
  refine r_iaddN C dL_law_1057 ?_
  refine r_sld C hx hbl hbA (show i + 1 < L by omega) (by omega) dL_law_1058 ?_
  refine r_aload_n C dL_law_1059 rfl ?_
  refine r_iload C dL_law_1060 rfl ?_
  refine r_iconst (v := nI 2) C dL_law_1062 (by decide) ?_
  refine r_iaddN C dL_law_1063 ?_
  refine r_sld C hx hbl hbA (show i + 2 < L by omega) (by omega) dL_law_1064 ?_
  refine r_aload_n C dL_law_1065 rfl ?_
  refine c_SH (st := []) hX.1.stb C hE (W_retainAll hX.1 hN hC hB hM (P_retainAll hX hl hC hB hM (xs (i + 1)) (xs (i + 2)))) pk_L_retainAll qm_L_241 rfl rfl (Nat.le_of_ble_eq_true rfl) dL_law_1066 ⟨(Nat.le_of_ble_eq_true rfl), (Nat.le_of_ble_eq_true rfl)⟩ ⟨show cells + 1 ≤ room_1.cells by omega, show slots + 6 ≤ room_1.slots by omega⟩ (fun v9 w9 h9 => ?_) (fun _ h9 => h9.elim)
  obtain ⟨f', r', k, n1, rfl, rfl, hf', hq', n2, hC', hB', hM', hk0, hk4, h2⟩ := h9
  refine r_istore C dL_law_1069 (by decide) rfl ?_
  refine r_aload_n C dL_law_1071 rfl ?_
  refine r_aload_n C dL_law_1072 rfl ?_
  refine r_iload C dL_law_1073 rfl ?_
  refine r_iconst (v := nI 1) C dL_law_1075 (by decide) ?_
  refine r_iaddN C dL_law_1076 ?_
  refine r_sld C hx hbl hbA (show i + 1 < L by omega) (by omega) dL_law_1077 ?_
  refine r_aload_n C dL_law_1078 rfl ?_
  refine r_iload C dL_law_1079 rfl ?_
  refine r_iconst (v := nI 2) C dL_law_1081 (by decide) ?_
  refine r_iaddN C dL_law_1082 ?_
  refine r_sld C hx hbl hbA (show i + 2 < L by omega) (by omega) dL_law_1083 ?_
  refine t_swap3 ?_
  refine c_V (st := []) hX.1.stb C hE (h2 _) pk_X4_retainAll qm_L_243 0 8 rfl rfl wm_0 rfl rfl (Nat.le_of_ble_eq_true rfl) dL_law_1084 ⟨(Nat.le_of_ble_eq_true rfl), (Nat.le_of_ble_eq_true rfl)⟩ ⟨show cells + 1 + 20 ≤ room_1.cells by omega, show slots + 6 + 190 ≤ room_1.slots by omega⟩ (fun v9 w9 h9 => ?_) (fun _ h9 => h9.elim)
  obtain ⟨ra9, rfl, rfl⟩ := h9
  refine r_istore C dL_law_1087 (by decide) rfl ?_
  refine t_swap3 ?_
  refine r_goto (tgt := 2129) C dL_law_1089 (by decide) ?_
  refine r_widen (k := cells + 500) (n := slots + 10000) (show cells + 1 + 20 ≤ cells + 500 by omega) (show slots + 6 + 190 ≤ slots + 10000 by omega) ?_
  refine r_drop 5 ?_
  refine r_drop 6 ?_
  exact kk _ ⟨f', r', hf', hq', kn, ra9, _, sm, _, _, hC', hB', hM', rfl⟩
theorem S_copy {p : Program} {l : Launch} {e : Env} {s : State} {m : MethodId} {args : Array Value} {below : List Frame} {meth : Method} {c : Code} {D : va_G} {cy : Nat → ClassId} {A : Nat → Prop} {Q : State → Prop} {X : (Nat → Prop) → State → Heap → Prop} {aK aV : Nat → Nat} {tO tT : Nat} {gO gT : Nat → Int32} {a : Nat → Nat → Nat} {ba : Nat → Nat} {o b L i cells slots : Nat} {xs : Nat → Int32} {w : va_W} (C : Fg p s m args meth c cL_law 7 RL D cy A) (hE : X A s s.heap) (hT : EnvT X cy aK aV tO tT gO gT) (hN : EnvN X) (hl : l.stackTraces = false) (hx : va_X b L xs s s.heap) (hbl : b < s.heap.size) (hbA : ¬ A b) (hi : i + 5 ≤ L) (hL : L ≤ 2560) (hc : cells + 500 ≤ room_1.cells) (hs : slots + 10000 ≤ room_1.slots) (hJ : JW cy a ba o w) (kk : ∀ w' : va_W, JW cy a ba o w' → vW p l e room_1 s m args below meth c D vwCl A Q 7 (cells + 500) (slots + 10000) w' [some (.ref b), some (.ref (a 0 0)), some (.ref (ba 9)), some (.ref o), some (.int (nI i)), none, none] 2129 []) : vW p l e room_1 s m args below meth c D vwCl A Q 7 cells slots w [some (.ref b), some (.ref (a 0 0)), some (.ref (ba 9)), some (.ref o), some (.int (nI i)), none, none] 1092 [] := by
  have hX := hT.1.1
  obtain ⟨f, r, hf, hq, kn, ra, th, sm, n, v, hC, hB, hM, rfl⟩ := hJ
  refine r_aload_n C dL_law_1092 rfl ?_
  refine r_aload_n C dL_law_1093 rfl ?_
  refine r_iload C dL_law_1094 rfl ?_
  refine r_iconst (v := nI 1) C dL_law_1096 (by decide) ?_
  refine r_iaddN C dL_law_1097 ?_
  refine r_sld C hx hbl hbA (show i + 1 < L by omega) (by omega) dL_law_1098 ?_
  refine r_aload_n C dL_law_1099 rfl ?_
  refine r_iload C dL_law_1100 rfl ?_
  refine r_iconst (v := nI 2) C dL_law_1102 (by decide) ?_
  refine r_iaddN C dL_law_1103 ?_
  refine r_sld C hx hbl hbA (show i + 2 < L by omega) (by omega) dL_law_1104 ?_
  refine r_aload_n C dL_law_1105 rfl ?_
  refine c_SH (st := []) hX.1.stb C hE (W_copy hX.1 hN hC hB hM (P_copy hX hl hC hB hM (xs (i + 1)) (xs (i + 2)))) pk_L_copy qm_L_244 rfl rfl (Nat.le_of_ble_eq_true rfl) dL_law_1106 ⟨(Nat.le_of_ble_eq_true rfl), (Nat.le_of_ble_eq_true rfl)⟩ ⟨show cells + 1 ≤ room_1.cells by omega, show slots + 6 ≤ room_1.slots by omega⟩ (fun v9 w9 h9 => ?_) (fun _ h9 => h9.elim)
  obtain ⟨f', r', k, n1, rfl, rfl, hf', hq', n2, hC', hB', hM', hk0, hk4, h2⟩ := h9
  refine r_istore C dL_law_1109 (by decide) rfl ?_
  refine r_aload_n C dL_law_1111 rfl ?_
  refine r_aload_n C dL_law_1112 rfl ?_
  refine r_iload C dL_law_1113 rfl ?_
  refine r_iconst (v := nI 1) C dL_law_1115 (by decide) ?_
  refine r_iaddN C dL_law_1116 ?_
  refine r_sld C hx hbl hbA (show i + 1 < L by omega) (by omega) dL_law_1117 ?_
  refine r_aload_n C dL_law_1118 rfl ?_
  refine r_iload C dL_law_1119 rfl ?_
  refine r_iconst (v := nI 2) C dL_law_1121 (by decide) ?_
  refine r_iaddN C dL_law_1122 ?_
  refine r_sld C hx hbl hbA (show i + 2 < L by omega) (by omega) dL_law_1123 ?_
  refine t_swap3 ?_
  refine c_V (st := []) hX.1.stb C hE (h2 _) pk_X4_copy qm_L_246 0 8 rfl rfl wm_0 rfl rfl (Nat.le_of_ble_eq_true rfl) dL_law_1124 ⟨(Nat.le_of_ble_eq_true rfl), (Nat.le_of_ble_eq_true rfl)⟩ ⟨show cells + 1 + 4 ≤ room_1.cells by omega, show slots + 6 + 48 ≤ room_1.slots by omega⟩ (fun v9 w9 h9 => ?_) (fun _ h9 => h9.elim)
  obtain ⟨ra9, rfl, rfl⟩ := h9
  refine r_istore C dL_law_1127 (by decide) rfl ?_
  refine t_swap3 ?_
  refine r_goto (tgt := 2129) C dL_law_1129 (by decide) ?_
  refine r_widen (k := cells + 500) (n := slots + 10000) (show cells + 1 + 4 ≤ cells + 500 by omega) (show slots + 6 + 48 ≤ slots + 10000 by omega) ?_
  refine r_drop 5 ?_
  refine r_drop 6 ?_
  exact kk _ ⟨f', r', hf', hq', kn, ra9, _, sm, _, _, hC', hB', hM', rfl⟩
theorem S_places {p : Program} {l : Launch} {e : Env} {s : State} {m : MethodId} {args : Array Value} {below : List Frame} {meth : Method} {c : Code} {D : va_G} {cy : Nat → ClassId} {A : Nat → Prop} {Q : State → Prop} {X : (Nat → Prop) → State → Heap → Prop} {aK aV : Nat → Nat} {tO tT : Nat} {gO gT : Nat → Int32} {a : Nat → Nat → Nat} {ba : Nat → Nat} {o b L i cells slots : Nat} {xs : Nat → Int32} {w : va_W} (C : Fg p s m args meth c cL_law 7 RL D cy A) (hE : X A s s.heap) (hT : EnvT X cy aK aV tO tT gO gT) (hN : EnvN X) (hl : l.stackTraces = false) (hx : va_X b L xs s s.heap) (hbl : b < s.heap.size) (hbA : ¬ A b) (hi : i + 5 ≤ L) (hL : L ≤ 2560) (hc : cells + 500 ≤ room_1.cells) (hs : slots + 10000 ≤ room_1.slots) (hJ : JW cy a ba o w) (kk : ∀ w' : va_W, JW cy a ba o w' → vW p l e room_1 s m args below meth c D vwCl A Q 7 (cells + 500) (slots + 10000) w' [some (.ref b), some (.ref (a 0 0)), some (.ref (ba 9)), some (.ref o), some (.int (nI i)), none, none] 2129 []) : vW p l e room_1 s m args below meth c D vwCl A Q 7 cells slots w [some (.ref b), some (.ref (a 0 0)), some (.ref (ba 9)), some (.ref o), some (.int (nI i)), none, none] 1132 [] := by
  have hX := hT.1.1
  obtain ⟨f, r, hf, hq, kn, ra, th, sm, n, v, hC, hB, hM, rfl⟩ := hJ
  refine r_aload_n C dL_law_1132 rfl ?_
  refine r_aload_n C dL_law_1133 rfl ?_
  refine r_iload C dL_law_1134 rfl ?_
  refine r_iconst (v := nI 1) C dL_law_1136 (by decide) ?_
  refine r_iaddN C dL_law_1137 ?_
  refine r_sld C hx hbl hbA (show i + 1 < L by omega) (by omega) dL_law_1138 ?_
  refine r_aload_n C dL_law_1139 rfl ?_
  refine r_iload C dL_law_1140 rfl ?_
  refine r_iconst (v := nI 2) C dL_law_1142 (by decide) ?_
  refine r_iaddN C dL_law_1143 ?_
  refine r_sld C hx hbl hbA (show i + 2 < L by omega) (by omega) dL_law_1144 ?_
  refine r_aload_n C dL_law_1145 rfl ?_
  refine c_SH (st := []) hX.1.stb C hE (W_places hX.1 hN hC hB hM (P_places hX hl hC hB hM (xs (i + 1)) (xs (i + 2)))) pk_L_places qm_L_247 rfl rfl (Nat.le_of_ble_eq_true rfl) dL_law_1146 ⟨(Nat.le_of_ble_eq_true rfl), (Nat.le_of_ble_eq_true rfl)⟩ ⟨show cells + 1 ≤ room_1.cells by omega, show slots + 6 ≤ room_1.slots by omega⟩ (fun v9 w9 h9 => ?_) (fun _ h9 => h9.elim)
  obtain ⟨f', r', k, n1, rfl, rfl, hf', hq', n2, hC', hB', hM', hk0, hk4, h2⟩ := h9
  refine r_istore C dL_law_1149 (by decide) rfl ?_
  refine r_aload_n C dL_law_1151 rfl ?_
  refine r_aload_n C dL_law_1152 rfl ?_
  refine r_iload C dL_law_1153 rfl ?_
  refine r_iconst (v := nI 1) C dL_law_1155 (by decide) ?_
  refine r_iaddN C dL_law_1156 ?_
  refine r_sld C hx hbl hbA (show i + 1 < L by omega) (by omega) dL_law_1157 ?_
  refine r_aload_n C dL_law_1158 rfl ?_
  refine r_iload C dL_law_1159 rfl ?_
  refine r_iconst (v := nI 2) C dL_law_1161 (by decide) ?_
  refine r_iaddN C dL_law_1162 ?_
  refine r_sld C hx hbl hbA (show i + 2 < L by omega) (by omega) dL_law_1163 ?_
  refine t_swap3 ?_
  refine c_V (st := []) hX.1.stb C hE (h2 _) pk_X4_places qm_L_249 0 8 rfl rfl wm_0 rfl rfl (Nat.le_of_ble_eq_true rfl) dL_law_1164 ⟨(Nat.le_of_ble_eq_true rfl), (Nat.le_of_ble_eq_true rfl)⟩ ⟨show cells + 1 + 4 ≤ room_1.cells by omega, show slots + 6 + 48 ≤ room_1.slots by omega⟩ (fun v9 w9 h9 => ?_) (fun _ h9 => h9.elim)
  obtain ⟨ra9, rfl, rfl⟩ := h9
  refine r_istore C dL_law_1167 (by decide) rfl ?_
  refine t_swap3 ?_
  refine r_goto (tgt := 2129) C dL_law_1169 (by decide) ?_
  refine r_widen (k := cells + 500) (n := slots + 10000) (show cells + 1 + 4 ≤ cells + 500 by omega) (show slots + 6 + 48 ≤ slots + 10000 by omega) ?_
  refine r_drop 5 ?_
  refine r_drop 6 ?_
  exact kk _ ⟨f', r', hf', hq', kn, ra9, _, sm, _, _, hC', hB', hM', rfl⟩
theorem S_through {p : Program} {l : Launch} {e : Env} {s : State} {m : MethodId} {args : Array Value} {below : List Frame} {meth : Method} {c : Code} {D : va_G} {cy : Nat → ClassId} {A : Nat → Prop} {Q : State → Prop} {X : (Nat → Prop) → State → Heap → Prop} {aK aV : Nat → Nat} {tO tT : Nat} {gO gT : Nat → Int32} {a : Nat → Nat → Nat} {ba : Nat → Nat} {o b L i cells slots : Nat} {xs : Nat → Int32} {w : va_W} (C : Fg p s m args meth c cL_law 7 RL D cy A) (hE : X A s s.heap) (hT : EnvT X cy aK aV tO tT gO gT) (hN : EnvN X) (hl : l.stackTraces = false) (hx : va_X b L xs s s.heap) (hbl : b < s.heap.size) (hbA : ¬ A b) (hi : i + 5 ≤ L) (hL : L ≤ 2560) (hc : cells + 500 ≤ room_1.cells) (hs : slots + 10000 ≤ room_1.slots) (hJ : JW cy a ba o w) (kk : ∀ w' : va_W, JW cy a ba o w' → vW p l e room_1 s m args below meth c D vwCl A Q 7 (cells + 500) (slots + 10000) w' [some (.ref b), some (.ref (a 0 0)), some (.ref (ba 9)), some (.ref o), some (.int (nI i)), none, none] 2129 []) : vW p l e room_1 s m args below meth c D vwCl A Q 7 cells slots w [some (.ref b), some (.ref (a 0 0)), some (.ref (ba 9)), some (.ref o), some (.int (nI i)), none, none] 1172 [] := by
  have hX := hT.1.1
  obtain ⟨f, r, hf, hq, kn, ra, th, sm, n, v, hC, hB, hM, rfl⟩ := hJ
  refine r_aload_n C dL_law_1172 rfl ?_
  refine r_aload_n C dL_law_1173 rfl ?_
  refine r_iload C dL_law_1174 rfl ?_
  refine r_iconst (v := nI 1) C dL_law_1176 (by decide) ?_
  refine r_iaddN C dL_law_1177 ?_
  refine r_sld C hx hbl hbA (show i + 1 < L by omega) (by omega) dL_law_1178 ?_
  refine r_aload_n C dL_law_1179 rfl ?_
  refine r_iload C dL_law_1180 rfl ?_
  refine r_iconst (v := nI 2) C dL_law_1182 (by decide) ?_
  refine r_iaddN C dL_law_1183 ?_
  refine r_sld C hx hbl hbA (show i + 2 < L by omega) (by omega) dL_law_1184 ?_
  refine r_aload_n C dL_law_1185 rfl ?_
  refine r_iload C dL_law_1186 rfl ?_
  refine r_iconst (v := nI 3) C dL_law_1188 (by decide) ?_
  refine r_iaddN C dL_law_1189 ?_
  refine r_sld C hx hbl hbA (show i + 3 < L by omega) (by omega) dL_law_1190 ?_
  refine r_aload_n C dL_law_1191 rfl ?_
  refine c_SH (st := []) hX.1.stb C hE (W_through hX.1 hN hC hB hM (P_through hX hl hC hB hM (xs (i + 1)) (xs (i + 2)) (xs (i + 3)))) pk_L_through qm_L_250 rfl rfl (Nat.le_of_ble_eq_true rfl) dL_law_1192 ⟨(Nat.le_of_ble_eq_true rfl), (Nat.le_of_ble_eq_true rfl)⟩ ⟨show cells + 1 ≤ room_1.cells by omega, show slots + 6 ≤ room_1.slots by omega⟩ (fun v9 w9 h9 => ?_) (fun _ h9 => h9.elim)
  obtain ⟨f', r', k, n1, rfl, rfl, hf', hq', n2, hC', hB', hM', hk0, hk4, h2⟩ := h9
  refine r_istore C dL_law_1195 (by decide) rfl ?_
  refine r_aload_n C dL_law_1197 rfl ?_
  refine r_aload_n C dL_law_1198 rfl ?_
  refine r_iload C dL_law_1199 rfl ?_
  refine r_iconst (v := nI 1) C dL_law_1201 (by decide) ?_
  refine r_iaddN C dL_law_1202 ?_
  refine r_sld C hx hbl hbA (show i + 1 < L by omega) (by omega) dL_law_1203 ?_
  refine r_aload_n C dL_law_1204 rfl ?_
  refine r_iload C dL_law_1205 rfl ?_
  refine r_iconst (v := nI 2) C dL_law_1207 (by decide) ?_
  refine r_iaddN C dL_law_1208 ?_
  refine r_sld C hx hbl hbA (show i + 2 < L by omega) (by omega) dL_law_1209 ?_
  refine r_aload_n C dL_law_1210 rfl ?_
  refine r_iload C dL_law_1211 rfl ?_
  refine r_iconst (v := nI 3) C dL_law_1213 (by decide) ?_
  refine r_iaddN C dL_law_1214 ?_
  refine r_sld C hx hbl hbA (show i + 3 < L by omega) (by omega) dL_law_1215 ?_
  refine t_swap3 ?_
  refine c_V (st := []) hX.1.stb C hE (h2 _) pk_X4_through qm_L_252 0 8 rfl rfl wm_0 rfl rfl (Nat.le_of_ble_eq_true rfl) dL_law_1216 ⟨(Nat.le_of_ble_eq_true rfl), (Nat.le_of_ble_eq_true rfl)⟩ ⟨show cells + 1 + 4 ≤ room_1.cells by omega, show slots + 6 + 48 ≤ room_1.slots by omega⟩ (fun v9 w9 h9 => ?_) (fun _ h9 => h9.elim)
  obtain ⟨ra9, rfl, rfl⟩ := h9
  refine r_istore C dL_law_1219 (by decide) rfl ?_
  refine t_swap3 ?_
  refine r_goto (tgt := 2129) C dL_law_1221 (by decide) ?_
  refine r_widen (k := cells + 500) (n := slots + 10000) (show cells + 1 + 4 ≤ cells + 500 by omega) (show slots + 6 + 48 ≤ slots + 10000 by omega) ?_
  refine r_drop 5 ?_
  refine r_drop 6 ?_
  exact kk _ ⟨f', r', hf', hq', kn, ra9, _, sm, _, _, hC', hB', hM', rfl⟩
