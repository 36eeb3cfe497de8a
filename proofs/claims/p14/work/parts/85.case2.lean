/-! THE LAW'S CASES, 2 -/
theorem dL_law_732 : decode cL_law 732 = .ok (.aload_n 1, 1) := dqo_43 (kb_11 28 rfl)
theorem dL_law_733 : decode cL_law 733 = .ok (.aload_n 0, 1) := dqo_42 (kb_11 29 rfl)
theorem dL_law_734 : decode cL_law 734 = .ok (.iload 4, 2) := dqo_21 4 (kb_11 30 rfl) (kb_11 31 rfl)
theorem dL_law_736 : decode cL_law 736 = .ok (.iconst 1, 1) := dqo_4 (kb_11 32 rfl)
theorem dL_law_737 : decode cL_law 737 = .ok (.iadd, 1) := dqo_96 (kb_11 33 rfl)
theorem dL_law_738 : decode cL_law 738 = .ok (.iaload, 1) := dqo_46 (kb_11 34 rfl)
theorem dL_law_739 : decode cL_law 739 = .ok (.aload_n 0, 1) := dqo_42 (kb_11 35 rfl)
theorem dL_law_740 : decode cL_law 740 = .ok (.iload 4, 2) := dqo_21 4 (kb_11 36 rfl) (kb_11 37 rfl)
theorem dL_law_742 : decode cL_law 742 = .ok (.iconst 2, 1) := dqo_5 (kb_11 38 rfl)
theorem dL_law_743 : decode cL_law 743 = .ok (.iadd, 1) := dqo_96 (kb_11 39 rfl)
theorem dL_law_744 : decode cL_law 744 = .ok (.iaload, 1) := dqo_46 (kb_11 40 rfl)
theorem dL_law_745 : decode cL_law 745 = .ok (.aload_n 3, 1) := dqo_45 (kb_11 41 rfl)
theorem dL_law_746 : decode cL_law 746 = .ok (.invokestatic 217, 3) := dqo_184 0 217 (kb_11 42 rfl) (kb_11 43 rfl) (kb_11 44 rfl)
theorem dL_law_749 : decode cL_law 749 = .ok (.istore 5, 2) := dqo_54 5 (kb_11 45 rfl) (kb_11 46 rfl)
theorem dL_law_751 : decode cL_law 751 = .ok (.aload_n 2, 1) := dqo_44 (kb_11 47 rfl)
theorem dL_law_752 : decode cL_law 752 = .ok (.aload_n 0, 1) := dqo_42 (kb_11 48 rfl)
theorem dL_law_753 : decode cL_law 753 = .ok (.iload 4, 2) := dqo_21 4 (kb_11 49 rfl) (kb_11 50 rfl)
theorem dL_law_755 : decode cL_law 755 = .ok (.iconst 1, 1) := dqo_4 (kb_11 51 rfl)
theorem dL_law_756 : decode cL_law 756 = .ok (.iadd, 1) := dqo_96 (kb_11 52 rfl)
theorem dL_law_757 : decode cL_law 757 = .ok (.iaload, 1) := dqo_46 (kb_11 53 rfl)
theorem dL_law_758 : decode cL_law 758 = .ok (.aload_n 0, 1) := dqo_42 (kb_11 54 rfl)
theorem dL_law_759 : decode cL_law 759 = .ok (.iload 4, 2) := dqo_21 4 (kb_11 55 rfl) (kb_11 56 rfl)
theorem dL_law_761 : decode cL_law 761 = .ok (.iconst 2, 1) := dqo_5 (kb_11 57 rfl)
theorem dL_law_762 : decode cL_law 762 = .ok (.iadd, 1) := dqo_96 (kb_11 58 rfl)
theorem dL_law_763 : decode cL_law 763 = .ok (.iaload, 1) := dqo_46 (kb_11 59 rfl)
theorem dL_law_764 : decode cL_law 764 = .ok (.invokevirtual 219, 3) := dqo_182 0 219 (kb_11 60 rfl) (kb_11 61 rfl) (kb_11 62 rfl)
theorem dL_law_767 : decode cL_law 767 = .ok (.istore 6, 2) := dqo_54 6 (kb_11 63 rfl) (kb_12 0 rfl)
theorem dL_law_769 : decode cL_law 769 = .ok (.aload_n 2, 1) := dqo_44 (kb_12 1 rfl)
theorem dL_law_770 : decode cL_law 770 = .ok (.invokevirtual 220, 3) := dqo_182 0 220 (kb_12 2 rfl) (kb_12 3 rfl) (kb_12 4 rfl)
theorem dL_law_773 : decode cL_law 773 = .ok (.iload 5, 2) := dqo_21 5 (kb_12 5 rfl) (kb_12 6 rfl)
theorem dL_law_775 : decode cL_law 775 = .ok (.if_icmp .eq 5, 3) := dqo_159 0 5 (by decide) (kb_12 7 rfl) (kb_12 8 rfl) (kb_12 9 rfl)
theorem dL_law_780 : decode cL_law 780 = .ok (.iload 5, 2) := dqo_21 5 (kb_12 12 rfl) (kb_12 13 rfl)
theorem dL_law_782 : decode cL_law 782 = .ok (.ifCond .ne 16, 3) := dqo_154 0 16 (by decide) (kb_12 14 rfl) (kb_12 15 rfl) (kb_12 16 rfl)
theorem dL_law_785 : decode cL_law 785 = .ok (.aload_n 3, 1) := dqo_45 (kb_12 17 rfl)
theorem dL_law_786 : decode cL_law 786 = .ok (.getfield 13, 3) := dqo_180 0 13 (kb_12 18 rfl) (kb_12 19 rfl) (kb_12 20 rfl)
theorem dL_law_789 : decode cL_law 789 = .ok (.iload 6, 2) := dqo_21 6 (kb_12 21 rfl) (kb_12 22 rfl)
theorem dL_law_791 : decode cL_law 791 = .ok (.i2l, 1) := dqo_133 (kb_12 23 rfl)
theorem dL_law_792 : decode cL_law 792 = .ok (.lcmp, 1) := dqo_148 (kb_12 24 rfl)
theorem dL_law_793 : decode cL_law 793 = .ok (.ifCond .eq 5, 3) := dqo_153 0 5 (by decide) (kb_12 25 rfl) (kb_12 26 rfl) (kb_12 27 rfl)
theorem dL_law_798 : decode cL_law 798 = .ok (.goto 1330, 3) := dqo_167 5 50 (by decide) (kb_12 30 rfl) (kb_12 31 rfl) (kb_12 32 rfl)
theorem dL_law_801 : decode cL_law 801 = .ok (.aload_n 1, 1) := dqo_43 (kb_12 33 rfl)
theorem dL_law_802 : decode cL_law 802 = .ok (.aload_n 0, 1) := dqo_42 (kb_12 34 rfl)
theorem dL_law_803 : decode cL_law 803 = .ok (.iload 4, 2) := dqo_21 4 (kb_12 35 rfl) (kb_12 36 rfl)
theorem dL_law_805 : decode cL_law 805 = .ok (.iconst 1, 1) := dqo_4 (kb_12 37 rfl)
theorem dL_law_806 : decode cL_law 806 = .ok (.iadd, 1) := dqo_96 (kb_12 38 rfl)
theorem dL_law_807 : decode cL_law 807 = .ok (.iaload, 1) := dqo_46 (kb_12 39 rfl)
theorem dL_law_808 : decode cL_law 808 = .ok (.aload_n 0, 1) := dqo_42 (kb_12 40 rfl)
theorem dL_law_809 : decode cL_law 809 = .ok (.iload 4, 2) := dqo_21 4 (kb_12 41 rfl) (kb_12 42 rfl)
theorem dL_law_811 : decode cL_law 811 = .ok (.iconst 2, 1) := dqo_5 (kb_12 43 rfl)
theorem dL_law_812 : decode cL_law 812 = .ok (.iadd, 1) := dqo_96 (kb_12 44 rfl)
theorem dL_law_813 : decode cL_law 813 = .ok (.iaload, 1) := dqo_46 (kb_12 45 rfl)
theorem dL_law_814 : decode cL_law 814 = .ok (.aload_n 3, 1) := dqo_45 (kb_12 46 rfl)
theorem dL_law_815 : decode cL_law 815 = .ok (.invokestatic 224, 3) := dqo_184 0 224 (kb_12 47 rfl) (kb_12 48 rfl) (kb_12 49 rfl)
theorem dL_law_818 : decode cL_law 818 = .ok (.istore 5, 2) := dqo_54 5 (kb_12 50 rfl) (kb_12 51 rfl)
theorem dL_law_820 : decode cL_law 820 = .ok (.aload_n 2, 1) := dqo_44 (kb_12 52 rfl)
theorem dL_law_821 : decode cL_law 821 = .ok (.aload_n 0, 1) := dqo_42 (kb_12 53 rfl)
theorem dL_law_822 : decode cL_law 822 = .ok (.iload 4, 2) := dqo_21 4 (kb_12 54 rfl) (kb_12 55 rfl)
theorem dL_law_824 : decode cL_law 824 = .ok (.iconst 1, 1) := dqo_4 (kb_12 56 rfl)
theorem dL_law_825 : decode cL_law 825 = .ok (.iadd, 1) := dqo_96 (kb_12 57 rfl)
theorem dL_law_826 : decode cL_law 826 = .ok (.iaload, 1) := dqo_46 (kb_12 58 rfl)
theorem dL_law_827 : decode cL_law 827 = .ok (.aload_n 0, 1) := dqo_42 (kb_12 59 rfl)
theorem dL_law_828 : decode cL_law 828 = .ok (.iload 4, 2) := dqo_21 4 (kb_12 60 rfl) (kb_12 61 rfl)
theorem dL_law_830 : decode cL_law 830 = .ok (.iconst 2, 1) := dqo_5 (kb_12 62 rfl)
theorem dL_law_831 : decode cL_law 831 = .ok (.iadd, 1) := dqo_96 (kb_12 63 rfl)
theorem dL_law_832 : decode cL_law 832 = .ok (.iaload, 1) := dqo_46 (kb_13 0 rfl)
theorem dL_law_833 : decode cL_law 833 = .ok (.invokevirtual 226, 3) := dqo_182 0 226 (kb_13 1 rfl) (kb_13 2 rfl) (kb_13 3 rfl)
theorem dL_law_836 : decode cL_law 836 = .ok (.istore 6, 2) := dqo_54 6 (kb_13 4 rfl) (kb_13 5 rfl)
theorem dL_law_838 : decode cL_law 838 = .ok (.goto 1290, 3) := dqo_167 5 10 (by decide) (kb_13 6 rfl) (kb_13 7 rfl) (kb_13 8 rfl)
theorem dL_law_841 : decode cL_law 841 = .ok (.aload_n 1, 1) := dqo_43 (kb_13 9 rfl)
theorem dL_law_842 : decode cL_law 842 = .ok (.aload_n 0, 1) := dqo_42 (kb_13 10 rfl)
theorem dL_law_843 : decode cL_law 843 = .ok (.iload 4, 2) := dqo_21 4 (kb_13 11 rfl) (kb_13 12 rfl)
theorem dL_law_845 : decode cL_law 845 = .ok (.iconst 1, 1) := dqo_4 (kb_13 13 rfl)
theorem dL_law_846 : decode cL_law 846 = .ok (.iadd, 1) := dqo_96 (kb_13 14 rfl)
theorem dL_law_847 : decode cL_law 847 = .ok (.iaload, 1) := dqo_46 (kb_13 15 rfl)
theorem dL_law_848 : decode cL_law 848 = .ok (.aload_n 3, 1) := dqo_45 (kb_13 16 rfl)
theorem dL_law_849 : decode cL_law 849 = .ok (.invokestatic 227, 3) := dqo_184 0 227 (kb_13 17 rfl) (kb_13 18 rfl) (kb_13 19 rfl)
theorem dL_law_852 : decode cL_law 852 = .ok (.istore 5, 2) := dqo_54 5 (kb_13 20 rfl) (kb_13 21 rfl)
theorem dL_law_854 : decode cL_law 854 = .ok (.aload_n 2, 1) := dqo_44 (kb_13 22 rfl)
theorem dL_law_855 : decode cL_law 855 = .ok (.aload_n 0, 1) := dqo_42 (kb_13 23 rfl)
theorem dL_law_856 : decode cL_law 856 = .ok (.iload 4, 2) := dqo_21 4 (kb_13 24 rfl) (kb_13 25 rfl)
theorem dL_law_858 : decode cL_law 858 = .ok (.iconst 1, 1) := dqo_4 (kb_13 26 rfl)
theorem dL_law_859 : decode cL_law 859 = .ok (.iadd, 1) := dqo_96 (kb_13 27 rfl)
theorem dL_law_860 : decode cL_law 860 = .ok (.iaload, 1) := dqo_46 (kb_13 28 rfl)
theorem dL_law_861 : decode cL_law 861 = .ok (.invokevirtual 229, 3) := dqo_182 0 229 (kb_13 29 rfl) (kb_13 30 rfl) (kb_13 31 rfl)
theorem dL_law_864 : decode cL_law 864 = .ok (.istore 6, 2) := dqo_54 6 (kb_13 32 rfl) (kb_13 33 rfl)
theorem dL_law_866 : decode cL_law 866 = .ok (.goto 1262, 3) := dqo_167 4 238 (by decide) (kb_13 34 rfl) (kb_13 35 rfl) (kb_13 36 rfl)
theorem dL_law_869 : decode cL_law 869 = .ok (.aload_n 1, 1) := dqo_43 (kb_13 37 rfl)
theorem dL_law_870 : decode cL_law 870 = .ok (.aload_n 0, 1) := dqo_42 (kb_13 38 rfl)
theorem dL_law_871 : decode cL_law 871 = .ok (.iload 4, 2) := dqo_21 4 (kb_13 39 rfl) (kb_13 40 rfl)
theorem dL_law_873 : decode cL_law 873 = .ok (.iconst 1, 1) := dqo_4 (kb_13 41 rfl)
theorem dL_law_874 : decode cL_law 874 = .ok (.iadd, 1) := dqo_96 (kb_13 42 rfl)
theorem dL_law_875 : decode cL_law 875 = .ok (.iaload, 1) := dqo_46 (kb_13 43 rfl)
theorem dL_law_876 : decode cL_law 876 = .ok (.aload_n 0, 1) := dqo_42 (kb_13 44 rfl)
theorem dL_law_877 : decode cL_law 877 = .ok (.iload 4, 2) := dqo_21 4 (kb_13 45 rfl) (kb_13 46 rfl)
theorem dL_law_879 : decode cL_law 879 = .ok (.iconst 2, 1) := dqo_5 (kb_13 47 rfl)
theorem dL_law_880 : decode cL_law 880 = .ok (.iadd, 1) := dqo_96 (kb_13 48 rfl)
theorem dL_law_881 : decode cL_law 881 = .ok (.iaload, 1) := dqo_46 (kb_13 49 rfl)
theorem dL_law_882 : decode cL_law 882 = .ok (.aload_n 3, 1) := dqo_45 (kb_13 50 rfl)
theorem dL_law_883 : decode cL_law 883 = .ok (.invokestatic 230, 3) := dqo_184 0 230 (kb_13 51 rfl) (kb_13 52 rfl) (kb_13 53 rfl)
theorem dL_law_886 : decode cL_law 886 = .ok (.istore 5, 2) := dqo_54 5 (kb_13 54 rfl) (kb_13 55 rfl)
theorem dL_law_888 : decode cL_law 888 = .ok (.aload_n 2, 1) := dqo_44 (kb_13 56 rfl)
theorem dL_law_889 : decode cL_law 889 = .ok (.aload_n 0, 1) := dqo_42 (kb_13 57 rfl)
theorem dL_law_890 : decode cL_law 890 = .ok (.iload 4, 2) := dqo_21 4 (kb_13 58 rfl) (kb_13 59 rfl)
theorem dL_law_892 : decode cL_law 892 = .ok (.iconst 1, 1) := dqo_4 (kb_13 60 rfl)
theorem dL_law_893 : decode cL_law 893 = .ok (.iadd, 1) := dqo_96 (kb_13 61 rfl)
theorem dL_law_894 : decode cL_law 894 = .ok (.iaload, 1) := dqo_46 (kb_13 62 rfl)
theorem dL_law_895 : decode cL_law 895 = .ok (.aload_n 0, 1) := dqo_42 (kb_13 63 rfl)
theorem dL_law_896 : decode cL_law 896 = .ok (.iload 4, 2) := dqo_21 4 (kb_14 0 rfl) (kb_14 1 rfl)
theorem dL_law_898 : decode cL_law 898 = .ok (.iconst 2, 1) := dqo_5 (kb_14 2 rfl)
theorem dL_law_899 : decode cL_law 899 = .ok (.iadd, 1) := dqo_96 (kb_14 3 rfl)
theorem dL_law_900 : decode cL_law 900 = .ok (.iaload, 1) := dqo_46 (kb_14 4 rfl)
theorem dL_law_901 : decode cL_law 901 = .ok (.invokevirtual 232, 3) := dqo_182 0 232 (kb_14 5 rfl) (kb_14 6 rfl) (kb_14 7 rfl)
theorem dL_law_904 : decode cL_law 904 = .ok (.istore 6, 2) := dqo_54 6 (kb_14 8 rfl) (kb_14 9 rfl)
theorem dL_law_906 : decode cL_law 906 = .ok (.goto 1222, 3) := dqo_167 4 198 (by decide) (kb_14 10 rfl) (kb_14 11 rfl) (kb_14 12 rfl)
theorem dL_law_909 : decode cL_law 909 = .ok (.aload_n 1, 1) := dqo_43 (kb_14 13 rfl)
theorem dL_law_910 : decode cL_law 910 = .ok (.aload_n 0, 1) := dqo_42 (kb_14 14 rfl)
theorem dL_law_911 : decode cL_law 911 = .ok (.iload 4, 2) := dqo_21 4 (kb_14 15 rfl) (kb_14 16 rfl)
theorem dL_law_913 : decode cL_law 913 = .ok (.iconst 1, 1) := dqo_4 (kb_14 17 rfl)
theorem dL_law_914 : decode cL_law 914 = .ok (.iadd, 1) := dqo_96 (kb_14 18 rfl)
theorem dL_law_915 : decode cL_law 915 = .ok (.iaload, 1) := dqo_46 (kb_14 19 rfl)
theorem dL_law_916 : decode cL_law 916 = .ok (.aload_n 0, 1) := dqo_42 (kb_14 20 rfl)
theorem dL_law_917 : decode cL_law 917 = .ok (.iload 4, 2) := dqo_21 4 (kb_14 21 rfl) (kb_14 22 rfl)
theorem dL_law_919 : decode cL_law 919 = .ok (.iconst 2, 1) := dqo_5 (kb_14 23 rfl)
theorem dL_law_920 : decode cL_law 920 = .ok (.iadd, 1) := dqo_96 (kb_14 24 rfl)
theorem dL_law_921 : decode cL_law 921 = .ok (.iaload, 1) := dqo_46 (kb_14 25 rfl)
theorem dL_law_922 : decode cL_law 922 = .ok (.aload_n 3, 1) := dqo_45 (kb_14 26 rfl)
theorem dL_law_923 : decode cL_law 923 = .ok (.invokestatic 233, 3) := dqo_184 0 233 (kb_14 27 rfl) (kb_14 28 rfl) (kb_14 29 rfl)
theorem dL_law_926 : decode cL_law 926 = .ok (.istore 5, 2) := dqo_54 5 (kb_14 30 rfl) (kb_14 31 rfl)
theorem dL_law_928 : decode cL_law 928 = .ok (.aload_n 2, 1) := dqo_44 (kb_14 32 rfl)
theorem dL_law_929 : decode cL_law 929 = .ok (.aload_n 0, 1) := dqo_42 (kb_14 33 rfl)
theorem dL_law_930 : decode cL_law 930 = .ok (.iload 4, 2) := dqo_21 4 (kb_14 34 rfl) (kb_14 35 rfl)
theorem dL_law_932 : decode cL_law 932 = .ok (.iconst 1, 1) := dqo_4 (kb_14 36 rfl)
theorem dL_law_933 : decode cL_law 933 = .ok (.iadd, 1) := dqo_96 (kb_14 37 rfl)
theorem dL_law_934 : decode cL_law 934 = .ok (.iaload, 1) := dqo_46 (kb_14 38 rfl)
theorem dL_law_935 : decode cL_law 935 = .ok (.aload_n 0, 1) := dqo_42 (kb_14 39 rfl)
theorem dL_law_936 : decode cL_law 936 = .ok (.iload 4, 2) := dqo_21 4 (kb_14 40 rfl) (kb_14 41 rfl)
theorem dL_law_938 : decode cL_law 938 = .ok (.iconst 2, 1) := dqo_5 (kb_14 42 rfl)
theorem dL_law_939 : decode cL_law 939 = .ok (.iadd, 1) := dqo_96 (kb_14 43 rfl)
theorem dL_law_940 : decode cL_law 940 = .ok (.iaload, 1) := dqo_46 (kb_14 44 rfl)
theorem dL_law_941 : decode cL_law 941 = .ok (.invokevirtual 235, 3) := dqo_182 0 235 (kb_14 45 rfl) (kb_14 46 rfl) (kb_14 47 rfl)
theorem dL_law_944 : decode cL_law 944 = .ok (.istore 6, 2) := dqo_54 6 (kb_14 48 rfl) (kb_14 49 rfl)
theorem dL_law_946 : decode cL_law 946 = .ok (.goto 1182, 3) := dqo_167 4 158 (by decide) (kb_14 50 rfl) (kb_14 51 rfl) (kb_14 52 rfl)
theorem dL_law_949 : decode cL_law 949 = .ok (.aload_n 1, 1) := dqo_43 (kb_14 53 rfl)
theorem dL_law_950 : decode cL_law 950 = .ok (.aload_n 0, 1) := dqo_42 (kb_14 54 rfl)
theorem dL_law_951 : decode cL_law 951 = .ok (.iload 4, 2) := dqo_21 4 (kb_14 55 rfl) (kb_14 56 rfl)
theorem dL_law_953 : decode cL_law 953 = .ok (.iconst 1, 1) := dqo_4 (kb_14 57 rfl)
theorem dL_law_954 : decode cL_law 954 = .ok (.iadd, 1) := dqo_96 (kb_14 58 rfl)
theorem dL_law_955 : decode cL_law 955 = .ok (.iaload, 1) := dqo_46 (kb_14 59 rfl)
theorem dL_law_956 : decode cL_law 956 = .ok (.aload_n 0, 1) := dqo_42 (kb_14 60 rfl)
theorem dL_law_957 : decode cL_law 957 = .ok (.iload 4, 2) := dqo_21 4 (kb_14 61 rfl) (kb_14 62 rfl)
theorem dL_law_959 : decode cL_law 959 = .ok (.iconst 2, 1) := dqo_5 (kb_14 63 rfl)
theorem dL_law_960 : decode cL_law 960 = .ok (.iadd, 1) := dqo_96 (kb_15 0 rfl)
theorem dL_law_961 : decode cL_law 961 = .ok (.iaload, 1) := dqo_46 (kb_15 1 rfl)
theorem dL_law_962 : decode cL_law 962 = .ok (.aload_n 3, 1) := dqo_45 (kb_15 2 rfl)
theorem dL_law_963 : decode cL_law 963 = .ok (.invokestatic 236, 3) := dqo_184 0 236 (kb_15 3 rfl) (kb_15 4 rfl) (kb_15 5 rfl)
theorem dL_law_966 : decode cL_law 966 = .ok (.istore 5, 2) := dqo_54 5 (kb_15 6 rfl) (kb_15 7 rfl)
theorem dL_law_968 : decode cL_law 968 = .ok (.aload_n 2, 1) := dqo_44 (kb_15 8 rfl)
theorem dL_law_969 : decode cL_law 969 = .ok (.aload_n 0, 1) := dqo_42 (kb_15 9 rfl)
theorem dL_law_970 : decode cL_law 970 = .ok (.iload 4, 2) := dqo_21 4 (kb_15 10 rfl) (kb_15 11 rfl)
theorem dL_law_972 : decode cL_law 972 = .ok (.iconst 1, 1) := dqo_4 (kb_15 12 rfl)
theorem dL_law_973 : decode cL_law 973 = .ok (.iadd, 1) := dqo_96 (kb_15 13 rfl)
theorem dL_law_974 : decode cL_law 974 = .ok (.iaload, 1) := dqo_46 (kb_15 14 rfl)
theorem dL_law_975 : decode cL_law 975 = .ok (.aload_n 0, 1) := dqo_42 (kb_15 15 rfl)
theorem dL_law_976 : decode cL_law 976 = .ok (.iload 4, 2) := dqo_21 4 (kb_15 16 rfl) (kb_15 17 rfl)
theorem dL_law_978 : decode cL_law 978 = .ok (.iconst 2, 1) := dqo_5 (kb_15 18 rfl)
theorem dL_law_979 : decode cL_law 979 = .ok (.iadd, 1) := dqo_96 (kb_15 19 rfl)
theorem dL_law_980 : decode cL_law 980 = .ok (.iaload, 1) := dqo_46 (kb_15 20 rfl)
theorem dL_law_981 : decode cL_law 981 = .ok (.invokevirtual 238, 3) := dqo_182 0 238 (kb_15 21 rfl) (kb_15 22 rfl) (kb_15 23 rfl)
theorem dL_law_984 : decode cL_law 984 = .ok (.istore 6, 2) := dqo_54 6 (kb_15 24 rfl) (kb_15 25 rfl)
theorem dL_law_986 : decode cL_law 986 = .ok (.goto 1142, 3) := dqo_167 4 118 (by decide) (kb_15 26 rfl) (kb_15 27 rfl) (kb_15 28 rfl)
theorem dL_law_989 : decode cL_law 989 = .ok (.aload_n 1, 1) := dqo_43 (kb_15 29 rfl)
theorem dL_law_990 : decode cL_law 990 = .ok (.aload_n 0, 1) := dqo_42 (kb_15 30 rfl)
theorem dL_law_991 : decode cL_law 991 = .ok (.iload 4, 2) := dqo_21 4 (kb_15 31 rfl) (kb_15 32 rfl)
theorem dL_law_993 : decode cL_law 993 = .ok (.iconst 1, 1) := dqo_4 (kb_15 33 rfl)
theorem dL_law_994 : decode cL_law 994 = .ok (.iadd, 1) := dqo_96 (kb_15 34 rfl)
theorem dL_law_995 : decode cL_law 995 = .ok (.iaload, 1) := dqo_46 (kb_15 35 rfl)
theorem dL_law_996 : decode cL_law 996 = .ok (.aload_n 0, 1) := dqo_42 (kb_15 36 rfl)
theorem dL_law_997 : decode cL_law 997 = .ok (.iload 4, 2) := dqo_21 4 (kb_15 37 rfl) (kb_15 38 rfl)
theorem dL_law_999 : decode cL_law 999 = .ok (.iconst 2, 1) := dqo_5 (kb_15 39 rfl)
theorem dL_law_1000 : decode cL_law 1000 = .ok (.iadd, 1) := dqo_96 (kb_15 40 rfl)
theorem dL_law_1001 : decode cL_law 1001 = .ok (.iaload, 1) := dqo_46 (kb_15 41 rfl)
theorem dL_law_1002 : decode cL_law 1002 = .ok (.aload_n 0, 1) := dqo_42 (kb_15 42 rfl)
theorem dL_law_1003 : decode cL_law 1003 = .ok (.iload 4, 2) := dqo_21 4 (kb_15 43 rfl) (kb_15 44 rfl)
theorem dL_law_1005 : decode cL_law 1005 = .ok (.iconst 3, 1) := dqo_6 (kb_15 45 rfl)
theorem dL_law_1006 : decode cL_law 1006 = .ok (.iadd, 1) := dqo_96 (kb_15 46 rfl)
theorem dL_law_1007 : decode cL_law 1007 = .ok (.iaload, 1) := dqo_46 (kb_15 47 rfl)
theorem dL_law_1008 : decode cL_law 1008 = .ok (.aload_n 3, 1) := dqo_45 (kb_15 48 rfl)
theorem dL_law_1009 : decode cL_law 1009 = .ok (.invokestatic 239, 3) := dqo_184 0 239 (kb_15 49 rfl) (kb_15 50 rfl) (kb_15 51 rfl)
theorem dL_law_1012 : decode cL_law 1012 = .ok (.istore 5, 2) := dqo_54 5 (kb_15 52 rfl) (kb_15 53 rfl)
theorem dL_law_1014 : decode cL_law 1014 = .ok (.aload_n 2, 1) := dqo_44 (kb_15 54 rfl)
theorem dL_law_1015 : decode cL_law 1015 = .ok (.aload_n 0, 1) := dqo_42 (kb_15 55 rfl)
theorem dL_law_1016 : decode cL_law 1016 = .ok (.iload 4, 2) := dqo_21 4 (kb_15 56 rfl) (kb_15 57 rfl)
theorem dL_law_1018 : decode cL_law 1018 = .ok (.iconst 1, 1) := dqo_4 (kb_15 58 rfl)
theorem dL_law_1019 : decode cL_law 1019 = .ok (.iadd, 1) := dqo_96 (kb_15 59 rfl)
theorem dL_law_1020 : decode cL_law 1020 = .ok (.iaload, 1) := dqo_46 (kb_15 60 rfl)
theorem dL_law_1021 : decode cL_law 1021 = .ok (.aload_n 0, 1) := dqo_42 (kb_15 61 rfl)
theorem dL_law_1022 : decode cL_law 1022 = .ok (.iload 4, 2) := dqo_21 4 (kb_15 62 rfl) (kb_15 63 rfl)
theorem dL_law_1024 : decode cL_law 1024 = .ok (.iconst 2, 1) := dqo_5 (kb_16 0 rfl)
theorem dL_law_1025 : decode cL_law 1025 = .ok (.iadd, 1) := dqo_96 (kb_16 1 rfl)
theorem dL_law_1026 : decode cL_law 1026 = .ok (.iaload, 1) := dqo_46 (kb_16 2 rfl)
theorem dL_law_1027 : decode cL_law 1027 = .ok (.aload_n 0, 1) := dqo_42 (kb_16 3 rfl)
theorem dL_law_1028 : decode cL_law 1028 = .ok (.iload 4, 2) := dqo_21 4 (kb_16 4 rfl) (kb_16 5 rfl)
theorem dL_law_1030 : decode cL_law 1030 = .ok (.iconst 3, 1) := dqo_6 (kb_16 6 rfl)
theorem dL_law_1031 : decode cL_law 1031 = .ok (.iadd, 1) := dqo_96 (kb_16 7 rfl)
theorem dL_law_1032 : decode cL_law 1032 = .ok (.iaload, 1) := dqo_46 (kb_16 8 rfl)
theorem dL_law_1033 : decode cL_law 1033 = .ok (.invokevirtual 241, 3) := dqo_182 0 241 (kb_16 9 rfl) (kb_16 10 rfl) (kb_16 11 rfl)
theorem dL_law_1036 : decode cL_law 1036 = .ok (.istore 6, 2) := dqo_54 6 (kb_16 12 rfl) (kb_16 13 rfl)
theorem dL_law_1038 : decode cL_law 1038 = .ok (.goto 1090, 3) := dqo_167 4 66 (by decide) (kb_16 14 rfl) (kb_16 15 rfl) (kb_16 16 rfl)
theorem dL_law_1041 : decode cL_law 1041 = .ok (.aload_n 1, 1) := dqo_43 (kb_16 17 rfl)
theorem dL_law_1042 : decode cL_law 1042 = .ok (.aload_n 0, 1) := dqo_42 (kb_16 18 rfl)
theorem dL_law_1043 : decode cL_law 1043 = .ok (.iload 4, 2) := dqo_21 4 (kb_16 19 rfl) (kb_16 20 rfl)
theorem dL_law_1045 : decode cL_law 1045 = .ok (.iconst 1, 1) := dqo_4 (kb_16 21 rfl)
theorem dL_law_1046 : decode cL_law 1046 = .ok (.iadd, 1) := dqo_96 (kb_16 22 rfl)
theorem dL_law_1047 : decode cL_law 1047 = .ok (.iaload, 1) := dqo_46 (kb_16 23 rfl)
theorem dL_law_1048 : decode cL_law 1048 = .ok (.aload_n 0, 1) := dqo_42 (kb_16 24 rfl)
theorem dL_law_1049 : decode cL_law 1049 = .ok (.iload 4, 2) := dqo_21 4 (kb_16 25 rfl) (kb_16 26 rfl)
theorem dL_law_1051 : decode cL_law 1051 = .ok (.iconst 2, 1) := dqo_5 (kb_16 27 rfl)
theorem dL_law_1052 : decode cL_law 1052 = .ok (.iadd, 1) := dqo_96 (kb_16 28 rfl)
theorem dL_law_1053 : decode cL_law 1053 = .ok (.iaload, 1) := dqo_46 (kb_16 29 rfl)
theorem dL_law_1054 : decode cL_law 1054 = .ok (.aload_n 3, 1) := dqo_45 (kb_16 30 rfl)
theorem dL_law_1055 : decode cL_law 1055 = .ok (.invokestatic 242, 3) := dqo_184 0 242 (kb_16 31 rfl) (kb_16 32 rfl) (kb_16 33 rfl)
theorem dL_law_1058 : decode cL_law 1058 = .ok (.istore 5, 2) := dqo_54 5 (kb_16 34 rfl) (kb_16 35 rfl)
theorem dL_law_1060 : decode cL_law 1060 = .ok (.aload_n 2, 1) := dqo_44 (kb_16 36 rfl)
theorem dL_law_1061 : decode cL_law 1061 = .ok (.aload_n 0, 1) := dqo_42 (kb_16 37 rfl)
theorem dL_law_1062 : decode cL_law 1062 = .ok (.iload 4, 2) := dqo_21 4 (kb_16 38 rfl) (kb_16 39 rfl)
theorem dL_law_1064 : decode cL_law 1064 = .ok (.iconst 1, 1) := dqo_4 (kb_16 40 rfl)
theorem dL_law_1065 : decode cL_law 1065 = .ok (.iadd, 1) := dqo_96 (kb_16 41 rfl)
theorem dL_law_1066 : decode cL_law 1066 = .ok (.iaload, 1) := dqo_46 (kb_16 42 rfl)
theorem dL_law_1067 : decode cL_law 1067 = .ok (.aload_n 0, 1) := dqo_42 (kb_16 43 rfl)
theorem dL_law_1068 : decode cL_law 1068 = .ok (.iload 4, 2) := dqo_21 4 (kb_16 44 rfl) (kb_16 45 rfl)
theorem dL_law_1070 : decode cL_law 1070 = .ok (.iconst 2, 1) := dqo_5 (kb_16 46 rfl)
theorem dL_law_1071 : decode cL_law 1071 = .ok (.iadd, 1) := dqo_96 (kb_16 47 rfl)
theorem dL_law_1072 : decode cL_law 1072 = .ok (.iaload, 1) := dqo_46 (kb_16 48 rfl)
theorem dL_law_1073 : decode cL_law 1073 = .ok (.invokevirtual 244, 3) := dqo_182 0 244 (kb_16 49 rfl) (kb_16 50 rfl) (kb_16 51 rfl)
theorem dL_law_1076 : decode cL_law 1076 = .ok (.istore 6, 2) := dqo_54 6 (kb_16 52 rfl) (kb_16 53 rfl)
theorem dL_law_1078 : decode cL_law 1078 = .ok (.goto 1050, 3) := dqo_167 4 26 (by decide) (kb_16 54 rfl) (kb_16 55 rfl) (kb_16 56 rfl)
theorem dL_law_1081 : decode cL_law 1081 = .ok (.aload_n 1, 1) := dqo_43 (kb_16 57 rfl)
theorem dL_law_1082 : decode cL_law 1082 = .ok (.aload_n 0, 1) := dqo_42 (kb_16 58 rfl)
theorem dL_law_1083 : decode cL_law 1083 = .ok (.iload 4, 2) := dqo_21 4 (kb_16 59 rfl) (kb_16 60 rfl)
theorem dL_law_1085 : decode cL_law 1085 = .ok (.iconst 1, 1) := dqo_4 (kb_16 61 rfl)
theorem dL_law_1086 : decode cL_law 1086 = .ok (.iadd, 1) := dqo_96 (kb_16 62 rfl)
theorem dL_law_1087 : decode cL_law 1087 = .ok (.iaload, 1) := dqo_46 (kb_16 63 rfl)
theorem dL_law_1088 : decode cL_law 1088 = .ok (.aload_n 0, 1) := dqo_42 (kb_17 0 rfl)
theorem dL_law_1089 : decode cL_law 1089 = .ok (.iload 4, 2) := dqo_21 4 (kb_17 1 rfl) (kb_17 2 rfl)
theorem dL_law_1091 : decode cL_law 1091 = .ok (.iconst 2, 1) := dqo_5 (kb_17 3 rfl)
theorem dL_law_1092 : decode cL_law 1092 = .ok (.iadd, 1) := dqo_96 (kb_17 4 rfl)
theorem dL_law_1093 : decode cL_law 1093 = .ok (.iaload, 1) := dqo_46 (kb_17 5 rfl)
theorem dL_law_1094 : decode cL_law 1094 = .ok (.aload_n 3, 1) := dqo_45 (kb_17 6 rfl)
theorem dL_law_1095 : decode cL_law 1095 = .ok (.invokestatic 245, 3) := dqo_184 0 245 (kb_17 7 rfl) (kb_17 8 rfl) (kb_17 9 rfl)
theorem dL_law_1098 : decode cL_law 1098 = .ok (.istore 5, 2) := dqo_54 5 (kb_17 10 rfl) (kb_17 11 rfl)
theorem dL_law_1100 : decode cL_law 1100 = .ok (.aload_n 2, 1) := dqo_44 (kb_17 12 rfl)
theorem dL_law_1101 : decode cL_law 1101 = .ok (.aload_n 0, 1) := dqo_42 (kb_17 13 rfl)
theorem dL_law_1102 : decode cL_law 1102 = .ok (.iload 4, 2) := dqo_21 4 (kb_17 14 rfl) (kb_17 15 rfl)
theorem dL_law_1104 : decode cL_law 1104 = .ok (.iconst 1, 1) := dqo_4 (kb_17 16 rfl)
theorem dL_law_1105 : decode cL_law 1105 = .ok (.iadd, 1) := dqo_96 (kb_17 17 rfl)
theorem dL_law_1106 : decode cL_law 1106 = .ok (.iaload, 1) := dqo_46 (kb_17 18 rfl)
theorem dL_law_1107 : decode cL_law 1107 = .ok (.aload_n 0, 1) := dqo_42 (kb_17 19 rfl)
theorem dL_law_1108 : decode cL_law 1108 = .ok (.iload 4, 2) := dqo_21 4 (kb_17 20 rfl) (kb_17 21 rfl)
theorem dL_law_1110 : decode cL_law 1110 = .ok (.iconst 2, 1) := dqo_5 (kb_17 22 rfl)
theorem dL_law_1111 : decode cL_law 1111 = .ok (.iadd, 1) := dqo_96 (kb_17 23 rfl)
theorem dL_law_1112 : decode cL_law 1112 = .ok (.iaload, 1) := dqo_46 (kb_17 24 rfl)
theorem dL_law_1113 : decode cL_law 1113 = .ok (.invokevirtual 247, 3) := dqo_182 0 247 (kb_17 25 rfl) (kb_17 26 rfl) (kb_17 27 rfl)
theorem dL_law_1116 : decode cL_law 1116 = .ok (.istore 6, 2) := dqo_54 6 (kb_17 28 rfl) (kb_17 29 rfl)
theorem dL_law_1118 : decode cL_law 1118 = .ok (.goto 1010, 3) := dqo_167 3 242 (by decide) (kb_17 30 rfl) (kb_17 31 rfl) (kb_17 32 rfl)
theorem dL_law_1121 : decode cL_law 1121 = .ok (.aload_n 1, 1) := dqo_43 (kb_17 33 rfl)
theorem dL_law_1122 : decode cL_law 1122 = .ok (.aload_n 0, 1) := dqo_42 (kb_17 34 rfl)
theorem dL_law_1123 : decode cL_law 1123 = .ok (.iload 4, 2) := dqo_21 4 (kb_17 35 rfl) (kb_17 36 rfl)
theorem dL_law_1125 : decode cL_law 1125 = .ok (.iconst 1, 1) := dqo_4 (kb_17 37 rfl)
theorem dL_law_1126 : decode cL_law 1126 = .ok (.iadd, 1) := dqo_96 (kb_17 38 rfl)
theorem dL_law_1127 : decode cL_law 1127 = .ok (.iaload, 1) := dqo_46 (kb_17 39 rfl)
theorem dL_law_1128 : decode cL_law 1128 = .ok (.aload_n 0, 1) := dqo_42 (kb_17 40 rfl)
theorem dL_law_1129 : decode cL_law 1129 = .ok (.iload 4, 2) := dqo_21 4 (kb_17 41 rfl) (kb_17 42 rfl)
theorem dL_law_1131 : decode cL_law 1131 = .ok (.iconst 2, 1) := dqo_5 (kb_17 43 rfl)
theorem dL_law_1132 : decode cL_law 1132 = .ok (.iadd, 1) := dqo_96 (kb_17 44 rfl)
theorem dL_law_1133 : decode cL_law 1133 = .ok (.iaload, 1) := dqo_46 (kb_17 45 rfl)
theorem dL_law_1134 : decode cL_law 1134 = .ok (.aload_n 3, 1) := dqo_45 (kb_17 46 rfl)
theorem dL_law_1135 : decode cL_law 1135 = .ok (.invokestatic 248, 3) := dqo_184 0 248 (kb_17 47 rfl) (kb_17 48 rfl) (kb_17 49 rfl)
theorem dL_law_1138 : decode cL_law 1138 = .ok (.istore 5, 2) := dqo_54 5 (kb_17 50 rfl) (kb_17 51 rfl)
theorem dL_law_1140 : decode cL_law 1140 = .ok (.aload_n 2, 1) := dqo_44 (kb_17 52 rfl)
theorem dL_law_1141 : decode cL_law 1141 = .ok (.aload_n 0, 1) := dqo_42 (kb_17 53 rfl)
theorem dL_law_1142 : decode cL_law 1142 = .ok (.iload 4, 2) := dqo_21 4 (kb_17 54 rfl) (kb_17 55 rfl)
theorem dL_law_1144 : decode cL_law 1144 = .ok (.iconst 1, 1) := dqo_4 (kb_17 56 rfl)
theorem dL_law_1145 : decode cL_law 1145 = .ok (.iadd, 1) := dqo_96 (kb_17 57 rfl)
theorem dL_law_1146 : decode cL_law 1146 = .ok (.iaload, 1) := dqo_46 (kb_17 58 rfl)
theorem dL_law_1147 : decode cL_law 1147 = .ok (.aload_n 0, 1) := dqo_42 (kb_17 59 rfl)
theorem dL_law_1148 : decode cL_law 1148 = .ok (.iload 4, 2) := dqo_21 4 (kb_17 60 rfl) (kb_17 61 rfl)
theorem dL_law_1150 : decode cL_law 1150 = .ok (.iconst 2, 1) := dqo_5 (kb_17 62 rfl)
theorem dL_law_1151 : decode cL_law 1151 = .ok (.iadd, 1) := dqo_96 (kb_17 63 rfl)
theorem dL_law_1152 : decode cL_law 1152 = .ok (.iaload, 1) := dqo_46 (kb_18 0 rfl)
theorem dL_law_1153 : decode cL_law 1153 = .ok (.invokevirtual 250, 3) := dqo_182 0 250 (kb_18 1 rfl) (kb_18 2 rfl) (kb_18 3 rfl)
theorem dL_law_1156 : decode cL_law 1156 = .ok (.istore 6, 2) := dqo_54 6 (kb_18 4 rfl) (kb_18 5 rfl)
theorem dL_law_1158 : decode cL_law 1158 = .ok (.goto 970, 3) := dqo_167 3 202 (by decide) (kb_18 6 rfl) (kb_18 7 rfl) (kb_18 8 rfl)
theorem dL_law_1161 : decode cL_law 1161 = .ok (.aload_n 1, 1) := dqo_43 (kb_18 9 rfl)
theorem dL_law_1162 : decode cL_law 1162 = .ok (.aload_n 0, 1) := dqo_42 (kb_18 10 rfl)
theorem dL_law_1163 : decode cL_law 1163 = .ok (.iload 4, 2) := dqo_21 4 (kb_18 11 rfl) (kb_18 12 rfl)
theorem dL_law_1165 : decode cL_law 1165 = .ok (.iconst 1, 1) := dqo_4 (kb_18 13 rfl)
theorem dL_law_1166 : decode cL_law 1166 = .ok (.iadd, 1) := dqo_96 (kb_18 14 rfl)
theorem dL_law_1167 : decode cL_law 1167 = .ok (.iaload, 1) := dqo_46 (kb_18 15 rfl)
theorem dL_law_1168 : decode cL_law 1168 = .ok (.aload_n 0, 1) := dqo_42 (kb_18 16 rfl)
theorem dL_law_1169 : decode cL_law 1169 = .ok (.iload 4, 2) := dqo_21 4 (kb_18 17 rfl) (kb_18 18 rfl)
theorem dL_law_1171 : decode cL_law 1171 = .ok (.iconst 2, 1) := dqo_5 (kb_18 19 rfl)
theorem dL_law_1172 : decode cL_law 1172 = .ok (.iadd, 1) := dqo_96 (kb_18 20 rfl)
theorem dL_law_1173 : decode cL_law 1173 = .ok (.iaload, 1) := dqo_46 (kb_18 21 rfl)
theorem dL_law_1174 : decode cL_law 1174 = .ok (.aload_n 3, 1) := dqo_45 (kb_18 22 rfl)
theorem dL_law_1175 : decode cL_law 1175 = .ok (.invokestatic 251, 3) := dqo_184 0 251 (kb_18 23 rfl) (kb_18 24 rfl) (kb_18 25 rfl)
theorem dL_law_1178 : decode cL_law 1178 = .ok (.istore 5, 2) := dqo_54 5 (kb_18 26 rfl) (kb_18 27 rfl)
theorem dL_law_1180 : decode cL_law 1180 = .ok (.aload_n 2, 1) := dqo_44 (kb_18 28 rfl)
theorem dL_law_1181 : decode cL_law 1181 = .ok (.aload_n 0, 1) := dqo_42 (kb_18 29 rfl)
theorem dL_law_1182 : decode cL_law 1182 = .ok (.iload 4, 2) := dqo_21 4 (kb_18 30 rfl) (kb_18 31 rfl)
theorem dL_law_1184 : decode cL_law 1184 = .ok (.iconst 1, 1) := dqo_4 (kb_18 32 rfl)
theorem dL_law_1185 : decode cL_law 1185 = .ok (.iadd, 1) := dqo_96 (kb_18 33 rfl)
theorem dL_law_1186 : decode cL_law 1186 = .ok (.iaload, 1) := dqo_46 (kb_18 34 rfl)
theorem dL_law_1187 : decode cL_law 1187 = .ok (.aload_n 0, 1) := dqo_42 (kb_18 35 rfl)
theorem dL_law_1188 : decode cL_law 1188 = .ok (.iload 4, 2) := dqo_21 4 (kb_18 36 rfl) (kb_18 37 rfl)
theorem dL_law_1190 : decode cL_law 1190 = .ok (.iconst 2, 1) := dqo_5 (kb_18 38 rfl)
theorem dL_law_1191 : decode cL_law 1191 = .ok (.iadd, 1) := dqo_96 (kb_18 39 rfl)
theorem dL_law_1192 : decode cL_law 1192 = .ok (.iaload, 1) := dqo_46 (kb_18 40 rfl)
theorem dL_law_1193 : decode cL_law 1193 = .ok (.invokevirtual 253, 3) := dqo_182 0 253 (kb_18 41 rfl) (kb_18 42 rfl) (kb_18 43 rfl)
theorem dL_law_1196 : decode cL_law 1196 = .ok (.istore 6, 2) := dqo_54 6 (kb_18 44 rfl) (kb_18 45 rfl)
theorem dL_law_1198 : decode cL_law 1198 = .ok (.goto 930, 3) := dqo_167 3 162 (by decide) (kb_18 46 rfl) (kb_18 47 rfl) (kb_18 48 rfl)
theorem dL_law_1201 : decode cL_law 1201 = .ok (.aload_n 1, 1) := dqo_43 (kb_18 49 rfl)
theorem dL_law_1202 : decode cL_law 1202 = .ok (.aload_n 0, 1) := dqo_42 (kb_18 50 rfl)
theorem dL_law_1203 : decode cL_law 1203 = .ok (.iload 4, 2) := dqo_21 4 (kb_18 51 rfl) (kb_18 52 rfl)
theorem dL_law_1205 : decode cL_law 1205 = .ok (.iconst 1, 1) := dqo_4 (kb_18 53 rfl)
theorem dL_law_1206 : decode cL_law 1206 = .ok (.iadd, 1) := dqo_96 (kb_18 54 rfl)
theorem dL_law_1207 : decode cL_law 1207 = .ok (.iaload, 1) := dqo_46 (kb_18 55 rfl)
theorem dL_law_1208 : decode cL_law 1208 = .ok (.aload_n 0, 1) := dqo_42 (kb_18 56 rfl)
theorem dL_law_1209 : decode cL_law 1209 = .ok (.iload 4, 2) := dqo_21 4 (kb_18 57 rfl) (kb_18 58 rfl)
theorem dL_law_1211 : decode cL_law 1211 = .ok (.iconst 2, 1) := dqo_5 (kb_18 59 rfl)
theorem dL_law_1212 : decode cL_law 1212 = .ok (.iadd, 1) := dqo_96 (kb_18 60 rfl)
theorem dL_law_1213 : decode cL_law 1213 = .ok (.iaload, 1) := dqo_46 (kb_18 61 rfl)
theorem dL_law_1214 : decode cL_law 1214 = .ok (.aload_n 0, 1) := dqo_42 (kb_18 62 rfl)
theorem dL_law_1215 : decode cL_law 1215 = .ok (.iload 4, 2) := dqo_21 4 (kb_18 63 rfl) (kb_19 0 rfl)
theorem dL_law_1217 : decode cL_law 1217 = .ok (.iconst 3, 1) := dqo_6 (kb_19 1 rfl)
theorem dL_law_1218 : decode cL_law 1218 = .ok (.iadd, 1) := dqo_96 (kb_19 2 rfl)
theorem dL_law_1219 : decode cL_law 1219 = .ok (.iaload, 1) := dqo_46 (kb_19 3 rfl)
theorem dL_law_1220 : decode cL_law 1220 = .ok (.aload_n 3, 1) := dqo_45 (kb_19 4 rfl)
theorem dL_law_1221 : decode cL_law 1221 = .ok (.invokestatic 254, 3) := dqo_184 0 254 (kb_19 5 rfl) (kb_19 6 rfl) (kb_19 7 rfl)
theorem dL_law_1224 : decode cL_law 1224 = .ok (.istore 5, 2) := dqo_54 5 (kb_19 8 rfl) (kb_19 9 rfl)
theorem dL_law_1226 : decode cL_law 1226 = .ok (.aload_n 2, 1) := dqo_44 (kb_19 10 rfl)
theorem dL_law_1227 : decode cL_law 1227 = .ok (.aload_n 0, 1) := dqo_42 (kb_19 11 rfl)
theorem dL_law_1228 : decode cL_law 1228 = .ok (.iload 4, 2) := dqo_21 4 (kb_19 12 rfl) (kb_19 13 rfl)
theorem dL_law_1230 : decode cL_law 1230 = .ok (.iconst 1, 1) := dqo_4 (kb_19 14 rfl)
theorem dL_law_1231 : decode cL_law 1231 = .ok (.iadd, 1) := dqo_96 (kb_19 15 rfl)
theorem dL_law_1232 : decode cL_law 1232 = .ok (.iaload, 1) := dqo_46 (kb_19 16 rfl)
theorem dL_law_1233 : decode cL_law 1233 = .ok (.aload_n 0, 1) := dqo_42 (kb_19 17 rfl)
theorem dL_law_1234 : decode cL_law 1234 = .ok (.iload 4, 2) := dqo_21 4 (kb_19 18 rfl) (kb_19 19 rfl)
theorem dL_law_1236 : decode cL_law 1236 = .ok (.iconst 2, 1) := dqo_5 (kb_19 20 rfl)
theorem dL_law_1237 : decode cL_law 1237 = .ok (.iadd, 1) := dqo_96 (kb_19 21 rfl)
theorem dL_law_1238 : decode cL_law 1238 = .ok (.iaload, 1) := dqo_46 (kb_19 22 rfl)
theorem dL_law_1239 : decode cL_law 1239 = .ok (.aload_n 0, 1) := dqo_42 (kb_19 23 rfl)
theorem dL_law_1240 : decode cL_law 1240 = .ok (.iload 4, 2) := dqo_21 4 (kb_19 24 rfl) (kb_19 25 rfl)
theorem dL_law_1242 : decode cL_law 1242 = .ok (.iconst 3, 1) := dqo_6 (kb_19 26 rfl)
theorem dL_law_1243 : decode cL_law 1243 = .ok (.iadd, 1) := dqo_96 (kb_19 27 rfl)
theorem dL_law_1244 : decode cL_law 1244 = .ok (.iaload, 1) := dqo_46 (kb_19 28 rfl)
theorem dL_law_1245 : decode cL_law 1245 = .ok (.invokevirtual 256, 3) := dqo_182 1 0 (kb_19 29 rfl) (kb_19 30 rfl) (kb_19 31 rfl)
theorem dL_law_1248 : decode cL_law 1248 = .ok (.istore 6, 2) := dqo_54 6 (kb_19 32 rfl) (kb_19 33 rfl)
theorem dL_law_1250 : decode cL_law 1250 = .ok (.goto 878, 3) := dqo_167 3 110 (by decide) (kb_19 34 rfl) (kb_19 35 rfl) (kb_19 36 rfl)
theorem S_sortBy {p : Program} {l : Launch} {e : Env} {s : State} {m : MethodId} {args : Array Value} {below : List Frame} {meth : Method} {c : Code} {D : va_G} {cy : Nat → ClassId} {A : Nat → Prop} {Q : State → Prop} {X : (Nat → Prop) → State → Heap → Prop} {aK aV : Nat → Nat} {tO tT : Nat} {gO gT : Nat → Int32} {a : Nat → Nat → Nat} {ba : Nat → Nat} {o b L i cells slots : Nat} {xs : Nat → Int32} {w : va_W} (C : Fg p s m args meth c cL_law 7 RL D cy A) (hE : X A s s.heap) (hT : EnvT X cy aK aV tO tT gO gT) (hN : EnvN X) (hl : l.stackTraces = false) (hx : va_X b L xs s s.heap) (hbl : b < s.heap.size) (hbA : ¬ A b) (hi : i + 5 ≤ L) (hL : L ≤ 2560) (hc : cells + 500 ≤ room_1.cells) (hs : slots + 10000 ≤ room_1.slots) (hJ : JW cy a ba o w) (kk : ∀ w' : va_W, JW cy a ba o w' → vW p l e room_1 s m args below meth c D vwCl A Q 7 (cells + 500) (slots + 10000) w' [some (.ref b), some (.ref (a 0 0)), some (.ref (ba 9)), some (.ref o), some (.int (nI i)), none, none] 2128 []) : vW p l e room_1 s m args below meth c D vwCl A Q 7 cells slots w [some (.ref b), some (.ref (a 0 0)), some (.ref (ba 9)), some (.ref o), some (.int (nI i)), none, none] 732 [] := by
  have hX := hT.1.1
  obtain ⟨f, r, hf, hq, kn, ra, th, sm, n, v, hC, hB, hM, rfl⟩ := hJ
  refine r_aload_n C dL_law_732 rfl ?_
  refine r_aload_n C dL_law_733 rfl ?_
  refine r_iload C dL_law_734 rfl ?_
  refine r_iconst (v := nI 1) C dL_law_736 (by decide) ?_
  refine r_iaddN C dL_law_737 ?_
  refine r_sld C hx hbl hbA (show i + 1 < L by omega) (by omega) dL_law_738 ?_
  refine r_aload_n C dL_law_739 rfl ?_
  refine r_iload C dL_law_740 rfl ?_
  refine r_iconst (v := nI 2) C dL_law_742 (by decide) ?_
  refine r_iaddN C dL_law_743 ?_
  refine r_sld C hx hbl hbA (show i + 2 < L by omega) (by omega) dL_law_744 ?_
  refine r_aload_n C dL_law_745 rfl ?_
  refine c_SH (st := []) hX.1.stb C hE (W_sortBy hX.1 hN hC hB hM (P_sortBy hX hl hC hB hM (xs (i + 1)) (xs (i + 2)))) pk_L_sortBy qm_L_217 rfl rfl (Nat.le_of_ble_eq_true rfl) dL_law_746 ⟨(Nat.le_of_ble_eq_true rfl), (Nat.le_of_ble_eq_true rfl)⟩ ⟨show cells + 1 ≤ room_1.cells by omega, show slots + 6 ≤ room_1.slots by omega⟩ (fun v9 w9 h9 => ?_) (fun _ h9 => h9.elim)
  obtain ⟨f', r', k, n1, rfl, rfl, hf', hq', n2, hC', hB', hM', hk0, hk4, h2⟩ := h9
  refine r_istore C dL_law_749 (by decide) rfl ?_
  refine r_aload_n C dL_law_751 rfl ?_
  refine r_aload_n C dL_law_752 rfl ?_
  refine r_iload C dL_law_753 rfl ?_
  refine r_iconst (v := nI 1) C dL_law_755 (by decide) ?_
  refine r_iaddN C dL_law_756 ?_
  refine r_sld C hx hbl hbA (show i + 1 < L by omega) (by omega) dL_law_757 ?_
  refine r_aload_n C dL_law_758 rfl ?_
  refine r_iload C dL_law_759 rfl ?_
  refine r_iconst (v := nI 2) C dL_law_761 (by decide) ?_
  refine r_iaddN C dL_law_762 ?_
  refine r_sld C hx hbl hbA (show i + 2 < L by omega) (by omega) dL_law_763 ?_
  refine t_swap3 ?_
  refine c_V (st := []) hX.1.stb C hE (h2 _) pk_X4_sortBy qm_L_219 0 8 rfl rfl wm_0 rfl rfl (Nat.le_of_ble_eq_true rfl) dL_law_764 ⟨(Nat.le_of_ble_eq_true rfl), (Nat.le_of_ble_eq_true rfl)⟩ ⟨show cells + 1 + 4 ≤ room_1.cells by omega, show slots + 6 + 48 ≤ room_1.slots by omega⟩ (fun v9 w9 h9 => ?_) (fun _ h9 => h9.elim)
  obtain ⟨ra9, rfl, rfl⟩ := h9
  refine r_istore C dL_law_767 (by decide) rfl ?_
  refine r_aload_n C dL_law_769 rfl ?_
  refine d_V (st := []) hX.1.stb C hE (D_thrown hX) pk_X4_thrown qm_L_220 0 8 rfl rfl wm_0 rfl rfl (Nat.le_of_ble_eq_true rfl) dL_law_770 ⟨(Nat.le_of_ble_eq_true rfl), (Nat.le_of_ble_eq_true rfl)⟩ ⟨show cells + 1 + 4 + 0 ≤ room_1.cells by omega, show slots + 6 + 48 + 0 ≤ room_1.slots by omega⟩ ?_
  refine r_iload C dL_law_773 rfl ?_
  refine r_ic_eq (tgt := 780) C dL_law_775 (by decide) (fun _ => ?_) (fun hne => absurd rfl hne)
  refine t_swap3 ?_
  refine r_iload C dL_law_780 rfl ?_
  refine r_ifN_ne (a := k) (tgt := 798) C (by omega) dL_law_782 (by decide) (fun hk => ?_) (fun hk => ?_)
  · skip
    refine r_goto (tgt := 2128) C dL_law_798 (by decide) ?_
    refine r_widen (k := cells + 500) (n := slots + 10000) (show cells + 1 + 4 + 0 ≤ cells + 500 by omega) (show slots + 6 + 48 + 0 ≤ slots + 10000 by omega) ?_
    refine r_drop 5 ?_
    refine r_drop 6 ?_
    exact kk _ ⟨f', r', hf', hq', kn, ra9, _, sm, _, _, hC', hB', hM', rfl⟩
  · subst hk
    have e1 := hk0 rfl
    subst e1
    refine r_aload_n C dL_law_785 rfl ?_
    refine g_getN hX.1 C hE qu_X3 (ci := 7) rfl 38 outo_at 0 (by decide) qn_L_13 rfl rfl dL_law_786 ?_
    refine r_iload C dL_law_789 rfl ?_
    refine r_i2l C dL_law_791 ?_
    refine r_lcmpE C dL_law_792 ?_
    refine r_if_eq (tgt := 798) C dL_law_793 (by decide) (fun _ => ?_) (fun hne => absurd rfl hne)
    refine r_goto (tgt := 2128) C dL_law_798 (by decide) ?_
    refine r_widen (k := cells + 500) (n := slots + 10000) (show cells + 1 + 4 + 0 ≤ cells + 500 by omega) (show slots + 6 + 48 + 0 ≤ slots + 10000 by omega) ?_
    refine r_drop 5 ?_
    refine r_drop 6 ?_
    exact kk _ ⟨f', r', hf', hq', kn, ra9, _, sm, _, _, hC', hB', hM', rfl⟩
theorem S_get {p : Program} {l : Launch} {e : Env} {s : State} {m : MethodId} {args : Array Value} {below : List Frame} {meth : Method} {c : Code} {D : va_G} {cy : Nat → ClassId} {A : Nat → Prop} {Q : State → Prop} {X : (Nat → Prop) → State → Heap → Prop} {aK aV : Nat → Nat} {tO tT : Nat} {gO gT : Nat → Int32} {a : Nat → Nat → Nat} {ba : Nat → Nat} {o b L i cells slots : Nat} {xs : Nat → Int32} {w : va_W} (C : Fg p s m args meth c cL_law 7 RL D cy A) (hE : X A s s.heap) (hT : EnvT X cy aK aV tO tT gO gT) (hN : EnvN X) (hl : l.stackTraces = false) (hx : va_X b L xs s s.heap) (hbl : b < s.heap.size) (hbA : ¬ A b) (hi : i + 5 ≤ L) (hL : L ≤ 2560) (hc : cells + 500 ≤ room_1.cells) (hs : slots + 10000 ≤ room_1.slots) (hJ : JW cy a ba o w) (kk : ∀ w' : va_W, JW cy a ba o w' → vW p l e room_1 s m args below meth c D vwCl A Q 7 (cells + 500) (slots + 10000) w' [some (.ref b), some (.ref (a 0 0)), some (.ref (ba 9)), some (.ref o), some (.int (nI i)), none, none] 2128 []) : vW p l e room_1 s m args below meth c D vwCl A Q 7 cells slots w [some (.ref b), some (.ref (a 0 0)), some (.ref (ba 9)), some (.ref o), some (.int (nI i)), none, none] 801 [] := by
  have hX := hT.1.1
  obtain ⟨f, r, hf, hq, kn, ra, th, sm, n, v, hC, hB, hM, rfl⟩ := hJ
  refine r_aload_n C dL_law_801 rfl ?_
  refine r_aload_n C dL_law_802 rfl ?_
  refine r_iload C dL_law_803 rfl ?_
  refine r_iconst (v := nI 1) C dL_law_805 (by decide) ?_
  refine r_iaddN C dL_law_806 ?_
  refine r_sld C hx hbl hbA (show i + 1 < L by omega) (by omega) dL_law_807 ?_
  refine r_aload_n C dL_law_808 rfl ?_
  refine r_iload C dL_law_809 rfl ?_
  refine r_iconst (v := nI 2) C dL_law_811 (by decide) ?_
  refine r_iaddN C dL_law_812 ?_
  refine r_sld C hx hbl hbA (show i + 2 < L by omega) (by omega) dL_law_813 ?_
  refine r_aload_n C dL_law_814 rfl ?_
  refine c_SH (st := []) hX.1.stb C hE (W_get hX.1 hN hC hB hM (P_get hX hl hC hB hM (xs (i + 1)) (xs (i + 2)))) pk_L_get qm_L_224 rfl rfl (Nat.le_of_ble_eq_true rfl) dL_law_815 ⟨(Nat.le_of_ble_eq_true rfl), (Nat.le_of_ble_eq_true rfl)⟩ ⟨show cells + 1 ≤ room_1.cells by omega, show slots + 6 ≤ room_1.slots by omega⟩ (fun v9 w9 h9 => ?_) (fun _ h9 => h9.elim)
  obtain ⟨f', r', k, n1, rfl, rfl, hf', hq', n2, hC', hB', hM', hk0, hk4, h2⟩ := h9
  refine r_istore C dL_law_818 (by decide) rfl ?_
  refine r_aload_n C dL_law_820 rfl ?_
  refine r_aload_n C dL_law_821 rfl ?_
  refine r_iload C dL_law_822 rfl ?_
  refine r_iconst (v := nI 1) C dL_law_824 (by decide) ?_
  refine r_iaddN C dL_law_825 ?_
  refine r_sld C hx hbl hbA (show i + 1 < L by omega) (by omega) dL_law_826 ?_
  refine r_aload_n C dL_law_827 rfl ?_
  refine r_iload C dL_law_828 rfl ?_
  refine r_iconst (v := nI 2) C dL_law_830 (by decide) ?_
  refine r_iaddN C dL_law_831 ?_
  refine r_sld C hx hbl hbA (show i + 2 < L by omega) (by omega) dL_law_832 ?_
  refine t_swap3 ?_
  refine c_V (st := []) hX.1.stb C hE (h2 _) pk_X4_get qm_L_226 0 8 rfl rfl wm_0 rfl rfl (Nat.le_of_ble_eq_true rfl) dL_law_833 ⟨(Nat.le_of_ble_eq_true rfl), (Nat.le_of_ble_eq_true rfl)⟩ ⟨show cells + 1 + 4 ≤ room_1.cells by omega, show slots + 6 + 48 ≤ room_1.slots by omega⟩ (fun v9 w9 h9 => ?_) (fun _ h9 => h9.elim)
  obtain ⟨ra9, rfl, rfl⟩ := h9
  refine r_istore C dL_law_836 (by decide) rfl ?_
  refine t_swap3 ?_
  refine r_goto (tgt := 2128) C dL_law_838 (by decide) ?_
  refine r_widen (k := cells + 500) (n := slots + 10000) (show cells + 1 + 4 ≤ cells + 500 by omega) (show slots + 6 + 48 ≤ slots + 10000 by omega) ?_
  refine r_drop 5 ?_
  refine r_drop 6 ?_
  exact kk _ ⟨f', r', hf', hq', kn, ra9, _, sm, _, _, hC', hB', hM', rfl⟩
theorem S_size {p : Program} {l : Launch} {e : Env} {s : State} {m : MethodId} {args : Array Value} {below : List Frame} {meth : Method} {c : Code} {D : va_G} {cy : Nat → ClassId} {A : Nat → Prop} {Q : State → Prop} {X : (Nat → Prop) → State → Heap → Prop} {aK aV : Nat → Nat} {tO tT : Nat} {gO gT : Nat → Int32} {a : Nat → Nat → Nat} {ba : Nat → Nat} {o b L i cells slots : Nat} {xs : Nat → Int32} {w : va_W} (C : Fg p s m args meth c cL_law 7 RL D cy A) (hE : X A s s.heap) (hT : EnvT X cy aK aV tO tT gO gT) (hN : EnvN X) (hl : l.stackTraces = false) (hx : va_X b L xs s s.heap) (hbl : b < s.heap.size) (hbA : ¬ A b) (hi : i + 5 ≤ L) (hL : L ≤ 2560) (hc : cells + 500 ≤ room_1.cells) (hs : slots + 10000 ≤ room_1.slots) (hJ : JW cy a ba o w) (kk : ∀ w' : va_W, JW cy a ba o w' → vW p l e room_1 s m args below meth c D vwCl A Q 7 (cells + 500) (slots + 10000) w' [some (.ref b), some (.ref (a 0 0)), some (.ref (ba 9)), some (.ref o), some (.int (nI i)), none, none] 2128 []) : vW p l e room_1 s m args below meth c D vwCl A Q 7 cells slots w [some (.ref b), some (.ref (a 0 0)), some (.ref (ba 9)), some (.ref o), some (.int (nI i)), none, none] 841 [] := by
  have hX := hT.1.1
  obtain ⟨f, r, hf, hq, kn, ra, th, sm, n, v, hC, hB, hM, rfl⟩ := hJ
  refine r_aload_n C dL_law_841 rfl ?_
  refine r_aload_n C dL_law_842 rfl ?_
  refine r_iload C dL_law_843 rfl ?_
  refine r_iconst (v := nI 1) C dL_law_845 (by decide) ?_
  refine r_iaddN C dL_law_846 ?_
  refine r_sld C hx hbl hbA (show i + 1 < L by omega) (by omega) dL_law_847 ?_
  refine r_aload_n C dL_law_848 rfl ?_
  refine c_SH (st := []) hX.1.stb C hE (W_size hX.1 hN hC hB hM (P_size hX hl hC hB hM (xs (i + 1)))) pk_L_size qm_L_227 rfl rfl (Nat.le_of_ble_eq_true rfl) dL_law_849 ⟨(Nat.le_of_ble_eq_true rfl), (Nat.le_of_ble_eq_true rfl)⟩ ⟨show cells + 1 ≤ room_1.cells by omega, show slots + 6 ≤ room_1.slots by omega⟩ (fun v9 w9 h9 => ?_) (fun _ h9 => h9.elim)
  obtain ⟨f', r', k, n1, rfl, rfl, hf', hq', n2, hC', hB', hM', hk0, hk4, h2⟩ := h9
  refine r_istore C dL_law_852 (by decide) rfl ?_
  refine r_aload_n C dL_law_854 rfl ?_
  refine r_aload_n C dL_law_855 rfl ?_
  refine r_iload C dL_law_856 rfl ?_
  refine r_iconst (v := nI 1) C dL_law_858 (by decide) ?_
  refine r_iaddN C dL_law_859 ?_
  refine r_sld C hx hbl hbA (show i + 1 < L by omega) (by omega) dL_law_860 ?_
  refine t_swap3 ?_
  refine c_V (st := []) hX.1.stb C hE (h2 _) pk_X4_size qm_L_229 0 8 rfl rfl wm_0 rfl rfl (Nat.le_of_ble_eq_true rfl) dL_law_861 ⟨(Nat.le_of_ble_eq_true rfl), (Nat.le_of_ble_eq_true rfl)⟩ ⟨show cells + 1 + 4 ≤ room_1.cells by omega, show slots + 6 + 48 ≤ room_1.slots by omega⟩ (fun v9 w9 h9 => ?_) (fun _ h9 => h9.elim)
  obtain ⟨ra9, rfl, rfl⟩ := h9
  refine r_istore C dL_law_864 (by decide) rfl ?_
  refine t_swap3 ?_
  refine r_goto (tgt := 2128) C dL_law_866 (by decide) ?_
  refine r_widen (k := cells + 500) (n := slots + 10000) (show cells + 1 + 4 ≤ cells + 500 by omega) (show slots + 6 + 48 ≤ slots + 10000 by omega) ?_
  refine r_drop 5 ?_
  refine r_drop 6 ?_
  exact kk _ ⟨f', r', hf', hq', kn, ra9, _, sm, _, _, hC', hB', hM', rfl⟩
theorem S_partAt {p : Program} {l : Launch} {e : Env} {s : State} {m : MethodId} {args : Array Value} {below : List Frame} {meth : Method} {c : Code} {D : va_G} {cy : Nat → ClassId} {A : Nat → Prop} {Q : State → Prop} {X : (Nat → Prop) → State → Heap → Prop} {aK aV : Nat → Nat} {tO tT : Nat} {gO gT : Nat → Int32} {a : Nat → Nat → Nat} {ba : Nat → Nat} {o b L i cells slots : Nat} {xs : Nat → Int32} {w : va_W} (C : Fg p s m args meth c cL_law 7 RL D cy A) (hE : X A s s.heap) (hT : EnvT X cy aK aV tO tT gO gT) (hN : EnvN X) (hl : l.stackTraces = false) (hx : va_X b L xs s s.heap) (hbl : b < s.heap.size) (hbA : ¬ A b) (hi : i + 5 ≤ L) (hL : L ≤ 2560) (hc : cells + 500 ≤ room_1.cells) (hs : slots + 10000 ≤ room_1.slots) (hJ : JW cy a ba o w) (kk : ∀ w' : va_W, JW cy a ba o w' → vW p l e room_1 s m args below meth c D vwCl A Q 7 (cells + 500) (slots + 10000) w' [some (.ref b), some (.ref (a 0 0)), some (.ref (ba 9)), some (.ref o), some (.int (nI i)), none, none] 2128 []) : vW p l e room_1 s m args below meth c D vwCl A Q 7 cells slots w [some (.ref b), some (.ref (a 0 0)), some (.ref (ba 9)), some (.ref o), some (.int (nI i)), none, none] 869 [] := by
  have hX := hT.1.1
  obtain ⟨f, r, hf, hq, kn, ra, th, sm, n, v, hC, hB, hM, rfl⟩ := hJ
  refine r_aload_n C dL_law_869 rfl ?_
  refine r_aload_n C dL_law_870 rfl ?_
  refine r_iload C dL_law_871 rfl ?_
  refine r_iconst (v := nI 1) C dL_law_873 (by decide) ?_
  refine r_iaddN C dL_law_874 ?_
  refine r_sld C hx hbl hbA (show i + 1 < L by omega) (by omega) dL_law_875 ?_
  refine r_aload_n C dL_law_876 rfl ?_
  refine r_iload C dL_law_877 rfl ?_
  refine r_iconst (v := nI 2) C dL_law_879 (by decide) ?_
  refine r_iaddN C dL_law_880 ?_
  refine r_sld C hx hbl hbA (show i + 2 < L by omega) (by omega) dL_law_881 ?_
  refine r_aload_n C dL_law_882 rfl ?_
  refine c_SH (st := []) hX.1.stb C hE (W_partAt hX.1 hN hC hB hM (P_partAt hX hl hC hB hM (xs (i + 1)) (xs (i + 2)))) pk_L_partAt qm_L_230 rfl rfl (Nat.le_of_ble_eq_true rfl) dL_law_883 ⟨(Nat.le_of_ble_eq_true rfl), (Nat.le_of_ble_eq_true rfl)⟩ ⟨show cells + 1 ≤ room_1.cells by omega, show slots + 6 ≤ room_1.slots by omega⟩ (fun v9 w9 h9 => ?_) (fun _ h9 => h9.elim)
  obtain ⟨f', r', k, n1, rfl, rfl, hf', hq', n2, hC', hB', hM', hk0, hk4, h2⟩ := h9
  refine r_istore C dL_law_886 (by decide) rfl ?_
  refine r_aload_n C dL_law_888 rfl ?_
  refine r_aload_n C dL_law_889 rfl ?_
  refine r_iload C dL_law_890 rfl ?_
  refine r_iconst (v := nI 1) C dL_law_892 (by decide) ?_
  refine r_iaddN C dL_law_893 ?_
  refine r_sld C hx hbl hbA (show i + 1 < L by omega) (by omega) dL_law_894 ?_
  refine r_aload_n C dL_law_895 rfl ?_
  refine r_iload C dL_law_896 rfl ?_
  refine r_iconst (v := nI 2) C dL_law_898 (by decide) ?_
  refine r_iaddN C dL_law_899 ?_
  refine r_sld C hx hbl hbA (show i + 2 < L by omega) (by omega) dL_law_900 ?_
  refine t_swap3 ?_
  refine c_V (st := []) hX.1.stb C hE (h2 _) pk_X4_partAt qm_L_232 0 8 rfl rfl wm_0 rfl rfl (Nat.le_of_ble_eq_true rfl) dL_law_901 ⟨(Nat.le_of_ble_eq_true rfl), (Nat.le_of_ble_eq_true rfl)⟩ ⟨show cells + 1 + 4 ≤ room_1.cells by omega, show slots + 6 + 48 ≤ room_1.slots by omega⟩ (fun v9 w9 h9 => ?_) (fun _ h9 => h9.elim)
  obtain ⟨ra9, rfl, rfl⟩ := h9
  refine r_istore C dL_law_904 (by decide) rfl ?_
  refine t_swap3 ?_
  refine r_goto (tgt := 2128) C dL_law_906 (by decide) ?_
  refine r_widen (k := cells + 500) (n := slots + 10000) (show cells + 1 + 4 ≤ cells + 500 by omega) (show slots + 6 + 48 ≤ slots + 10000 by omega) ?_
  refine r_drop 5 ?_
  refine r_drop 6 ?_
  exact kk _ ⟨f', r', hf', hq', kn, ra9, _, sm, _, _, hC', hB', hM', rfl⟩
theorem S_fill {p : Program} {l : Launch} {e : Env} {s : State} {m : MethodId} {args : Array Value} {below : List Frame} {meth : Method} {c : Code} {D : va_G} {cy : Nat → ClassId} {A : Nat → Prop} {Q : State → Prop} {X : (Nat → Prop) → State → Heap → Prop} {aK aV : Nat → Nat} {tO tT : Nat} {gO gT : Nat → Int32} {a : Nat → Nat → Nat} {ba : Nat → Nat} {o b L i cells slots : Nat} {xs : Nat → Int32} {w : va_W} (C : Fg p s m args meth c cL_law 7 RL D cy A) (hE : X A s s.heap) (hT : EnvT X cy aK aV tO tT gO gT) (hN : EnvN X) (hl : l.stackTraces = false) (hx : va_X b L xs s s.heap) (hbl : b < s.heap.size) (hbA : ¬ A b) (hi : i + 5 ≤ L) (hL : L ≤ 2560) (hc : cells + 500 ≤ room_1.cells) (hs : slots + 10000 ≤ room_1.slots) (hJ : JW cy a ba o w) (kk : ∀ w' : va_W, JW cy a ba o w' → vW p l e room_1 s m args below meth c D vwCl A Q 7 (cells + 500) (slots + 10000) w' [some (.ref b), some (.ref (a 0 0)), some (.ref (ba 9)), some (.ref o), some (.int (nI i)), none, none] 2128 []) : vW p l e room_1 s m args below meth c D vwCl A Q 7 cells slots w [some (.ref b), some (.ref (a 0 0)), some (.ref (ba 9)), some (.ref o), some (.int (nI i)), none, none] 909 [] := by
  have hX := hT.1.1
  obtain ⟨f, r, hf, hq, kn, ra, th, sm, n, v, hC, hB, hM, rfl⟩ := hJ
  refine r_aload_n C dL_law_909 rfl ?_
  refine r_aload_n C dL_law_910 rfl ?_
  refine r_iload C dL_law_911 rfl ?_
  refine r_iconst (v := nI 1) C dL_law_913 (by decide) ?_
  refine r_iaddN C dL_law_914 ?_
  refine r_sld C hx hbl hbA (show i + 1 < L by omega) (by omega) dL_law_915 ?_
  refine r_aload_n C dL_law_916 rfl ?_
  refine r_iload C dL_law_917 rfl ?_
  refine r_iconst (v := nI 2) C dL_law_919 (by decide) ?_
  refine r_iaddN C dL_law_920 ?_
  refine r_sld C hx hbl hbA (show i + 2 < L by omega) (by omega) dL_law_921 ?_
  refine r_aload_n C dL_law_922 rfl ?_
  refine c_SH (st := []) hX.1.stb C hE (W_fill hX.1 hN hC hB hM (P_fill hX hl hC hB hM (xs (i + 1)) (xs (i + 2)))) pk_L_fill qm_L_233 rfl rfl (Nat.le_of_ble_eq_true rfl) dL_law_923 ⟨(Nat.le_of_ble_eq_true rfl), (Nat.le_of_ble_eq_true rfl)⟩ ⟨show cells + 1 ≤ room_1.cells by omega, show slots + 6 ≤ room_1.slots by omega⟩ (fun v9 w9 h9 => ?_) (fun _ h9 => h9.elim)
  obtain ⟨f', r', k, n1, rfl, rfl, hf', hq', n2, hC', hB', hM', hk0, hk4, h2⟩ := h9
  refine r_istore C dL_law_926 (by decide) rfl ?_
  refine r_aload_n C dL_law_928 rfl ?_
  refine r_aload_n C dL_law_929 rfl ?_
  refine r_iload C dL_law_930 rfl ?_
  refine r_iconst (v := nI 1) C dL_law_932 (by decide) ?_
  refine r_iaddN C dL_law_933 ?_
  refine r_sld C hx hbl hbA (show i + 1 < L by omega) (by omega) dL_law_934 ?_
  refine r_aload_n C dL_law_935 rfl ?_
  refine r_iload C dL_law_936 rfl ?_
  refine r_iconst (v := nI 2) C dL_law_938 (by decide) ?_
  refine r_iaddN C dL_law_939 ?_
  refine r_sld C hx hbl hbA (show i + 2 < L by omega) (by omega) dL_law_940 ?_
  refine t_swap3 ?_
  refine c_V (st := []) hX.1.stb C hE (h2 _) pk_X4_fill qm_L_235 0 8 rfl rfl wm_0 rfl rfl (Nat.le_of_ble_eq_true rfl) dL_law_941 ⟨(Nat.le_of_ble_eq_true rfl), (Nat.le_of_ble_eq_true rfl)⟩ ⟨show cells + 1 + 4 ≤ room_1.cells by omega, show slots + 6 + 48 ≤ room_1.slots by omega⟩ (fun v9 w9 h9 => ?_) (fun _ h9 => h9.elim)
  obtain ⟨ra9, rfl, rfl⟩ := h9
  refine r_istore C dL_law_944 (by decide) rfl ?_
  refine t_swap3 ?_
  refine r_goto (tgt := 2128) C dL_law_946 (by decide) ?_
  refine r_widen (k := cells + 500) (n := slots + 10000) (show cells + 1 + 4 ≤ cells + 500 by omega) (show slots + 6 + 48 ≤ slots + 10000 by omega) ?_
  refine r_drop 5 ?_
  refine r_drop 6 ?_
  exact kk _ ⟨f', r', hf', hq', kn, ra9, _, sm, _, _, hC', hB', hM', rfl⟩
theorem S_removeItem {p : Program} {l : Launch} {e : Env} {s : State} {m : MethodId} {args : Array Value} {below : List Frame} {meth : Method} {c : Code} {D : va_G} {cy : Nat → ClassId} {A : Nat → Prop} {Q : State → Prop} {X : (Nat → Prop) → State → Heap → Prop} {aK aV : Nat → Nat} {tO tT : Nat} {gO gT : Nat → Int32} {a : Nat → Nat → Nat} {ba : Nat → Nat} {o b L i cells slots : Nat} {xs : Nat → Int32} {w : va_W} (C : Fg p s m args meth c cL_law 7 RL D cy A) (hE : X A s s.heap) (hT : EnvT X cy aK aV tO tT gO gT) (hN : EnvN X) (hl : l.stackTraces = false) (hx : va_X b L xs s s.heap) (hbl : b < s.heap.size) (hbA : ¬ A b) (hi : i + 5 ≤ L) (hL : L ≤ 2560) (hc : cells + 500 ≤ room_1.cells) (hs : slots + 10000 ≤ room_1.slots) (hJ : JW cy a ba o w) (kk : ∀ w' : va_W, JW cy a ba o w' → vW p l e room_1 s m args below meth c D vwCl A Q 7 (cells + 500) (slots + 10000) w' [some (.ref b), some (.ref (a 0 0)), some (.ref (ba 9)), some (.ref o), some (.int (nI i)), none, none] 2128 []) : vW p l e room_1 s m args below meth c D vwCl A Q 7 cells slots w [some (.ref b), some (.ref (a 0 0)), some (.ref (ba 9)), some (.ref o), some (.int (nI i)), none, none] 949 [] := by
  have hX := hT.1.1
  obtain ⟨f, r, hf, hq, kn, ra, th, sm, n, v, hC, hB, hM, rfl⟩ := hJ
  refine r_aload_n C dL_law_949 rfl ?_
  refine r_aload_n C dL_law_950 rfl ?_
  refine r_iload C dL_law_951 rfl ?_
  refine r_iconst (v := nI 1) C dL_law_953 (by decide) ?_
  refine r_iaddN C dL_law_954 ?_
  refine r_sld C hx hbl hbA (show i + 1 < L by omega) (by omega) dL_law_955 ?_
  refine r_aload_n C dL_law_956 rfl ?_
  refine r_iload C dL_law_957 rfl ?_
  refine r_iconst (v := nI 2) C dL_law_959 (by decide) ?_
  refine r_iaddN C dL_law_960 ?_
  refine r_sld C hx hbl hbA (show i + 2 < L by omega) (by omega) dL_law_961 ?_
  refine r_aload_n C dL_law_962 rfl ?_
  refine c_SH (st := []) hX.1.stb C hE (W_removeItem hX.1 hN hC hB hM (P_removeItem hX hl hC hB hM (xs (i + 1)) (xs (i + 2)))) pk_L_removeItem qm_L_236 rfl rfl (Nat.le_of_ble_eq_true rfl) dL_law_963 ⟨(Nat.le_of_ble_eq_true rfl), (Nat.le_of_ble_eq_true rfl)⟩ ⟨show cells + 1 ≤ room_1.cells by omega, show slots + 6 ≤ room_1.slots by omega⟩ (fun v9 w9 h9 => ?_) (fun _ h9 => h9.elim)
  obtain ⟨f', r', k, n1, rfl, rfl, hf', hq', n2, hC', hB', hM', hk0, hk4, h2⟩ := h9
  refine r_istore C dL_law_966 (by decide) rfl ?_
  refine r_aload_n C dL_law_968 rfl ?_
  refine r_aload_n C dL_law_969 rfl ?_
  refine r_iload C dL_law_970 rfl ?_
  refine r_iconst (v := nI 1) C dL_law_972 (by decide) ?_
  refine r_iaddN C dL_law_973 ?_
  refine r_sld C hx hbl hbA (show i + 1 < L by omega) (by omega) dL_law_974 ?_
  refine r_aload_n C dL_law_975 rfl ?_
  refine r_iload C dL_law_976 rfl ?_
  refine r_iconst (v := nI 2) C dL_law_978 (by decide) ?_
  refine r_iaddN C dL_law_979 ?_
  refine r_sld C hx hbl hbA (show i + 2 < L by omega) (by omega) dL_law_980 ?_
  refine t_swap3 ?_
  refine c_V (st := []) hX.1.stb C hE (h2 _) pk_X4_removeItem qm_L_238 0 8 rfl rfl wm_0 rfl rfl (Nat.le_of_ble_eq_true rfl) dL_law_981 ⟨(Nat.le_of_ble_eq_true rfl), (Nat.le_of_ble_eq_true rfl)⟩ ⟨show cells + 1 + 4 ≤ room_1.cells by omega, show slots + 6 + 48 ≤ room_1.slots by omega⟩ (fun v9 w9 h9 => ?_) (fun _ h9 => h9.elim)
  obtain ⟨ra9, rfl, rfl⟩ := h9
  refine r_istore C dL_law_984 (by decide) rfl ?_
  refine t_swap3 ?_
  refine r_goto (tgt := 2128) C dL_law_986 (by decide) ?_
  refine r_widen (k := cells + 500) (n := slots + 10000) (show cells + 1 + 4 ≤ cells + 500 by omega) (show slots + 6 + 48 ≤ slots + 10000 by omega) ?_
  refine r_drop 5 ?_
  refine r_drop 6 ?_
  exact kk _ ⟨f', r', hf', hq', kn, ra9, _, sm, _, _, hC', hB', hM', rfl⟩
theorem S_addAll {p : Program} {l : Launch} {e : Env} {s : State} {m : MethodId} {args : Array Value} {below : List Frame} {meth : Method} {c : Code} {D : va_G} {cy : Nat → ClassId} {A : Nat → Prop} {Q : State → Prop} {X : (Nat → Prop) → State → Heap → Prop} {aK aV : Nat → Nat} {tO tT : Nat} {gO gT : Nat → Int32} {a : Nat → Nat → Nat} {ba : Nat → Nat} {o b L i cells slots : Nat} {xs : Nat → Int32} {w : va_W} (C : Fg p s m args meth c cL_law 7 RL D cy A) (hE : X A s s.heap) (hT : EnvT X cy aK aV tO tT gO gT) (hN : EnvN X) (hl : l.stackTraces = false) (hx : va_X b L xs s s.heap) (hbl : b < s.heap.size) (hbA : ¬ A b) (hi : i + 5 ≤ L) (hL : L ≤ 2560) (hc : cells + 500 ≤ room_1.cells) (hs : slots + 10000 ≤ room_1.slots) (hJ : JW cy a ba o w) (kk : ∀ w' : va_W, JW cy a ba o w' → vW p l e room_1 s m args below meth c D vwCl A Q 7 (cells + 500) (slots + 10000) w' [some (.ref b), some (.ref (a 0 0)), some (.ref (ba 9)), some (.ref o), some (.int (nI i)), none, none] 2128 []) : vW p l e room_1 s m args below meth c D vwCl A Q 7 cells slots w [some (.ref b), some (.ref (a 0 0)), some (.ref (ba 9)), some (.ref o), some (.int (nI i)), none, none] 989 [] := by
  have hX := hT.1.1
  obtain ⟨f, r, hf, hq, kn, ra, th, sm, n, v, hC, hB, hM, rfl⟩ := hJ
  refine r_aload_n C dL_law_989 rfl ?_
  refine r_aload_n C dL_law_990 rfl ?_
  refine r_iload C dL_law_991 rfl ?_
  refine r_iconst (v := nI 1) C dL_law_993 (by decide) ?_
  refine r_iaddN C dL_law_994 ?_
  refine r_sld C hx hbl hbA (show i + 1 < L by omega) (by omega) dL_law_995 ?_
  refine r_aload_n C dL_law_996 rfl ?_
  refine r_iload C dL_law_997 rfl ?_
  refine r_iconst (v := nI 2) C dL_law_999 (by decide) ?_
  refine r_iaddN C dL_law_1000 ?_
  refine r_sld C hx hbl hbA (show i + 2 < L by omega) (by omega) dL_law_1001 ?_
  refine r_aload_n C dL_law_1002 rfl ?_
  refine r_iload C dL_law_1003 rfl ?_
  refine r_iconst (v := nI 3) C dL_law_1005 (by decide) ?_
  refine r_iaddN C dL_law_1006 ?_
  refine r_sld C hx hbl hbA (show i + 3 < L by omega) (by omega) dL_law_1007 ?_
  refine r_aload_n C dL_law_1008 rfl ?_
  refine c_SH (st := []) hX.1.stb C hE (W_addAll hX.1 hN hC hB hM (P_addAll hX hl hC hB hM (xs (i + 1)) (xs (i + 2)) (xs (i + 3)))) pk_L_addAll qm_L_239 rfl rfl (Nat.le_of_ble_eq_true rfl) dL_law_1009 ⟨(Nat.le_of_ble_eq_true rfl), (Nat.le_of_ble_eq_true rfl)⟩ ⟨show cells + 1 ≤ room_1.cells by omega, show slots + 6 ≤ room_1.slots by omega⟩ (fun v9 w9 h9 => ?_) (fun _ h9 => h9.elim)
  obtain ⟨f', r', k, n1, rfl, rfl, hf', hq', n2, hC', hB', hM', hk0, hk4, h2⟩ := h9
  refine r_istore C dL_law_1012 (by decide) rfl ?_
  refine r_aload_n C dL_law_1014 rfl ?_
  refine r_aload_n C dL_law_1015 rfl ?_
  refine r_iload C dL_law_1016 rfl ?_
  refine r_iconst (v := nI 1) C dL_law_1018 (by decide) ?_
  refine r_iaddN C dL_law_1019 ?_
  refine r_sld C hx hbl hbA (show i + 1 < L by omega) (by omega) dL_law_1020 ?_
  refine r_aload_n C dL_law_1021 rfl ?_
  refine r_iload C dL_law_1022 rfl ?_
  refine r_iconst (v := nI 2) C dL_law_1024 (by decide) ?_
  refine r_iaddN C dL_law_1025 ?_
  refine r_sld C hx hbl hbA (show i + 2 < L by omega) (by omega) dL_law_1026 ?_
  refine r_aload_n C dL_law_1027 rfl ?_
  refine r_iload C dL_law_1028 rfl ?_
  refine r_iconst (v := nI 3) C dL_law_1030 (by decide) ?_
  refine r_iaddN C dL_law_1031 ?_
  refine r_sld C hx hbl hbA (show i + 3 < L by omega) (by omega) dL_law_1032 ?_
  refine t_swap3 ?_
  refine c_V (st := []) hX.1.stb C hE (h2 _) pk_X4_addAll qm_L_241 0 8 rfl rfl wm_0 rfl rfl (Nat.le_of_ble_eq_true rfl) dL_law_1033 ⟨(Nat.le_of_ble_eq_true rfl), (Nat.le_of_ble_eq_true rfl)⟩ ⟨show cells + 1 + 4 ≤ room_1.cells by omega, show slots + 6 + 48 ≤ room_1.slots by omega⟩ (fun v9 w9 h9 => ?_) (fun _ h9 => h9.elim)
  obtain ⟨ra9, rfl, rfl⟩ := h9
  refine r_istore C dL_law_1036 (by decide) rfl ?_
  refine t_swap3 ?_
  refine r_goto (tgt := 2128) C dL_law_1038 (by decide) ?_
  refine r_widen (k := cells + 500) (n := slots + 10000) (show cells + 1 + 4 ≤ cells + 500 by omega) (show slots + 6 + 48 ≤ slots + 10000 by omega) ?_
  refine r_drop 5 ?_
  refine r_drop 6 ?_
  exact kk _ ⟨f', r', hf', hq', kn, ra9, _, sm, _, _, hC', hB', hM', rfl⟩
theorem S_removeAll {p : Program} {l : Launch} {e : Env} {s : State} {m : MethodId} {args : Array Value} {below : List Frame} {meth : Method} {c : Code} {D : va_G} {cy : Nat → ClassId} {A : Nat → Prop} {Q : State → Prop} {X : (Nat → Prop) → State → Heap → Prop} {aK aV : Nat → Nat} {tO tT : Nat} {gO gT : Nat → Int32} {a : Nat → Nat → Nat} {ba : Nat → Nat} {o b L i cells slots : Nat} {xs : Nat → Int32} {w : va_W} (C : Fg p s m args meth c cL_law 7 RL D cy A) (hE : X A s s.heap) (hT : EnvT X cy aK aV tO tT gO gT) (hN : EnvN X) (hl : l.stackTraces = false) (hx : va_X b L xs s s.heap) (hbl : b < s.heap.size) (hbA : ¬ A b) (hi : i + 5 ≤ L) (hL : L ≤ 2560) (hc : cells + 500 ≤ room_1.cells) (hs : slots + 10000 ≤ room_1.slots) (hJ : JW cy a ba o w) (kk : ∀ w' : va_W, JW cy a ba o w' → vW p l e room_1 s m args below meth c D vwCl A Q 7 (cells + 500) (slots + 10000) w' [some (.ref b), some (.ref (a 0 0)), some (.ref (ba 9)), some (.ref o), some (.int (nI i)), none, none] 2128 []) : vW p l e room_1 s m args below meth c D vwCl A Q 7 cells slots w [some (.ref b), some (.ref (a 0 0)), some (.ref (ba 9)), some (.ref o), some (.int (nI i)), none, none] 1041 [] := by
  have hX := hT.1.1
  obtain ⟨f, r, hf, hq, kn, ra, th, sm, n, v, hC, hB, hM, rfl⟩ := hJ
  refine r_aload_n C dL_law_1041 rfl ?_
  refine r_aload_n C dL_law_1042 rfl ?_
  refine r_iload C dL_law_1043 rfl ?_
  refine r_iconst (v := nI 1) C dL_law_1045 (by decide) ?_
  refine r_iaddN C dL_law_1046 ?_
  refine r_sld C hx hbl hbA (show i + 1 < L by omega) (by omega) dL_law_1047 ?_
  refine r_aload_n C dL_law_1048 rfl ?_
  refine r_iload C dL_law_1049 rfl ?_
  refine r_iconst (v := nI 2) C dL_law_1051 (by decide) ?_
  refine r_iaddN C dL_law_1052 ?_
  refine r_sld C hx hbl hbA (show i + 2 < L by omega) (by omega) dL_law_1053 ?_
  refine r_aload_n C dL_law_1054 rfl ?_
  refine c_SH (st := []) hX.1.stb C hE (W_removeAll hX.1 hN hC hB hM (P_removeAll hX hl hC hB hM (xs (i + 1)) (xs (i + 2)))) pk_L_removeAll qm_L_242 rfl rfl (Nat.le_of_ble_eq_true rfl) dL_law_1055 ⟨(Nat.le_of_ble_eq_true rfl), (Nat.le_of_ble_eq_true rfl)⟩ ⟨show cells + 1 ≤ room_1.cells by omega, show slots + 6 ≤ room_1.slots by omega⟩ (fun v9 w9 h9 => ?_) (fun _ h9 => h9.elim)
  obtain ⟨f', r', k, n1, rfl, rfl, hf', hq', n2, hC', hB', hM', hk0, hk4, h2⟩ := h9
  refine r_istore C dL_law_1058 (by decide) rfl ?_
  refine r_aload_n C dL_law_1060 rfl ?_
  refine r_aload_n C dL_law_1061 rfl ?_
  refine r_iload C dL_law_1062 rfl ?_
  refine r_iconst (v := nI 1) C dL_law_1064 (by decide) ?_
  refine r_iaddN C dL_law_1065 ?_
  refine r_sld C hx hbl hbA (show i + 1 < L by omega) (by omega) dL_law_1066 ?_
  refine r_aload_n C dL_law_1067 rfl ?_
  refine r_iload C dL_law_1068 rfl ?_
  refine r_iconst (v := nI 2) C dL_law_1070 (by decide) ?_
  refine r_iaddN C dL_law_1071 ?_
  refine r_sld C hx hbl hbA (show i + 2 < L by omega) (by omega) dL_law_1072 ?_
  refine t_swap3 ?_
  refine c_V (st := []) hX.1.stb C hE (h2 _) pk_X4_removeAll qm_L_244 0 8 rfl rfl wm_0 rfl rfl (Nat.le_of_ble_eq_true rfl) dL_law_1073 ⟨(Nat.le_of_ble_eq_true rfl), (Nat.le_of_ble_eq_true rfl)⟩ ⟨show cells + 1 + 20 ≤ room_1.cells by omega, show slots + 6 + 190 ≤ room_1.slots by omega⟩ (fun v9 w9 h9 => ?_) (fun _ h9 => h9.elim)
  obtain ⟨ra9, rfl, rfl⟩ := h9
  refine r_istore C dL_law_1076 (by decide) rfl ?_
  refine t_swap3 ?_
  refine r_goto (tgt := 2128) C dL_law_1078 (by decide) ?_
  refine r_widen (k := cells + 500) (n := slots + 10000) (show cells + 1 + 20 ≤ cells + 500 by omega) (show slots + 6 + 190 ≤ slots + 10000 by omega) ?_
  refine r_drop 5 ?_
  refine r_drop 6 ?_
  exact kk _ ⟨f', r', hf', hq', kn, ra9, _, sm, _, _, hC', hB', hM', rfl⟩
theorem S_retainAll {p : Program} {l : Launch} {e : Env} {s : State} {m : MethodId} {args : Array Value} {below : List Frame} {meth : Method} {c : Code} {D : va_G} {cy : Nat → ClassId} {A : Nat → Prop} {Q : State → Prop} {X : (Nat → Prop) → State → Heap → Prop} {aK aV : Nat → Nat} {tO tT : Nat} {gO gT : Nat → Int32} {a : Nat → Nat → Nat} {ba : Nat → Nat} {o b L i cells slots : Nat} {xs : Nat → Int32} {w : va_W} (C : Fg p s m args meth c cL_law 7 RL D cy A) (hE : X A s s.heap) (hT : EnvT X cy aK aV tO tT gO gT) (hN : EnvN X) (hl : l.stackTraces = false) (hx : va_X b L xs s s.heap) (hbl : b < s.heap.size) (hbA : ¬ A b) (hi : i + 5 ≤ L) (hL : L ≤ 2560) (hc : cells + 500 ≤ room_1.cells) (hs : slots + 10000 ≤ room_1.slots) (hJ : JW cy a ba o w) (kk : ∀ w' : va_W, JW cy a ba o w' → vW p l e room_1 s m args below meth c D vwCl A Q 7 (cells + 500) (slots + 10000) w' [some (.ref b), some (.ref (a 0 0)), some (.ref (ba 9)), some (.ref o), some (.int (nI i)), none, none] 2128 []) : vW p l e room_1 s m args below meth c D vwCl A Q 7 cells slots w [some (.ref b), some (.ref (a 0 0)), some (.ref (ba 9)), some (.ref o), some (.int (nI i)), none, none] 1081 [] := by
  have hX := hT.1.1
  obtain ⟨f, r, hf, hq, kn, ra, th, sm, n, v, hC, hB, hM, rfl⟩ := hJ
  refine r_aload_n C dL_law_1081 rfl ?_
  refine r_aload_n C dL_law_1082 rfl ?_
  refine r_iload C dL_law_1083 rfl ?_
  refine r_iconst (v := nI 1) C dL_law_1085 (by decide) ?_
  refine r_iaddN C dL_law_1086 ?_
  refine r_sld C hx hbl hbA (show i + 1 < L by omega) (by omega) dL_law_1087 ?_
  refine r_aload_n C dL_law_1088 rfl ?_
  refine r_iload C dL_law_1089 rfl ?_
  refine r_iconst (v := nI 2) C dL_law_1091 (by decide) ?_
  refine r_iaddN C dL_law_1092 ?_
  refine r_sld C hx hbl hbA (show i + 2 < L by omega) (by omega) dL_law_1093 ?_
  refine r_aload_n C dL_law_1094 rfl ?_
  refine c_SH (st := []) hX.1.stb C hE (W_retainAll hX.1 hN hC hB hM (P_retainAll hX hl hC hB hM (xs (i + 1)) (xs (i + 2)))) pk_L_retainAll qm_L_245 rfl rfl (Nat.le_of_ble_eq_true rfl) dL_law_1095 ⟨(Nat.le_of_ble_eq_true rfl), (Nat.le_of_ble_eq_true rfl)⟩ ⟨show cells + 1 ≤ room_1.cells by omega, show slots + 6 ≤ room_1.slots by omega⟩ (fun v9 w9 h9 => ?_) (fun _ h9 => h9.elim)
  obtain ⟨f', r', k, n1, rfl, rfl, hf', hq', n2, hC', hB', hM', hk0, hk4, h2⟩ := h9
  refine r_istore C dL_law_1098 (by decide) rfl ?_
  refine r_aload_n C dL_law_1100 rfl ?_
  refine r_aload_n C dL_law_1101 rfl ?_
  refine r_iload C dL_law_1102 rfl ?_
  refine r_iconst (v := nI 1) C dL_law_1104 (by decide) ?_
  refine r_iaddN C dL_law_1105 ?_
  refine r_sld C hx hbl hbA (show i + 1 < L by omega) (by omega) dL_law_1106 ?_
  refine r_aload_n C dL_law_1107 rfl ?_
  refine r_iload C dL_law_1108 rfl ?_
  refine r_iconst (v := nI 2) C dL_law_1110 (by decide) ?_
  refine r_iaddN C dL_law_1111 ?_
  refine r_sld C hx hbl hbA (show i + 2 < L by omega) (by omega) dL_law_1112 ?_
  refine t_swap3 ?_
  refine c_V (st := []) hX.1.stb C hE (h2 _) pk_X4_retainAll qm_L_247 0 8 rfl rfl wm_0 rfl rfl (Nat.le_of_ble_eq_true rfl) dL_law_1113 ⟨(Nat.le_of_ble_eq_true rfl), (Nat.le_of_ble_eq_true rfl)⟩ ⟨show cells + 1 + 20 ≤ room_1.cells by omega, show slots + 6 + 190 ≤ room_1.slots by omega⟩ (fun v9 w9 h9 => ?_) (fun _ h9 => h9.elim)
  obtain ⟨ra9, rfl, rfl⟩ := h9
  refine r_istore C dL_law_1116 (by decide) rfl ?_
  refine t_swap3 ?_
  refine r_goto (tgt := 2128) C dL_law_1118 (by decide) ?_
  refine r_widen (k := cells + 500) (n := slots + 10000) (show cells + 1 + 20 ≤ cells + 500 by omega) (show slots + 6 + 190 ≤ slots + 10000 by omega) ?_
  refine r_drop 5 ?_
  refine r_drop 6 ?_
  exact kk _ ⟨f', r', hf', hq', kn, ra9, _, sm, _, _, hC', hB', hM', rfl⟩
theorem S_copy {p : Program} {l : Launch} {e : Env} {s : State} {m : MethodId} {args : Array Value} {below : List Frame} {meth : Method} {c : Code} {D : va_G} {cy : Nat → ClassId} {A : Nat → Prop} {Q : State → Prop} {X : (Nat → Prop) → State → Heap → Prop} {aK aV : Nat → Nat} {tO tT : Nat} {gO gT : Nat → Int32} {a : Nat → Nat → Nat} {ba : Nat → Nat} {o b L i cells slots : Nat} {xs : Nat → Int32} {w : va_W} (C : Fg p s m args meth c cL_law 7 RL D cy A) (hE : X A s s.heap) (hT : EnvT X cy aK aV tO tT gO gT) (hN : EnvN X) (hl : l.stackTraces = false) (hx : va_X b L xs s s.heap) (hbl : b < s.heap.size) (hbA : ¬ A b) (hi : i + 5 ≤ L) (hL : L ≤ 2560) (hc : cells + 500 ≤ room_1.cells) (hs : slots + 10000 ≤ room_1.slots) (hJ : JW cy a ba o w) (kk : ∀ w' : va_W, JW cy a ba o w' → vW p l e room_1 s m args below meth c D vwCl A Q 7 (cells + 500) (slots + 10000) w' [some (.ref b), some (.ref (a 0 0)), some (.ref (ba 9)), some (.ref o), some (.int (nI i)), none, none] 2128 []) : vW p l e room_1 s m args below meth c D vwCl A Q 7 cells slots w [some (.ref b), some (.ref (a 0 0)), some (.ref (ba 9)), some (.ref o), some (.int (nI i)), none, none] 1121 [] := by
  have hX := hT.1.1
  obtain ⟨f, r, hf, hq, kn, ra, th, sm, n, v, hC, hB, hM, rfl⟩ := hJ
  refine r_aload_n C dL_law_1121 rfl ?_
  refine r_aload_n C dL_law_1122 rfl ?_
  refine r_iload C dL_law_1123 rfl ?_
  refine r_iconst (v := nI 1) C dL_law_1125 (by decide) ?_
  refine r_iaddN C dL_law_1126 ?_
  refine r_sld C hx hbl hbA (show i + 1 < L by omega) (by omega) dL_law_1127 ?_
  refine r_aload_n C dL_law_1128 rfl ?_
  refine r_iload C dL_law_1129 rfl ?_
  refine r_iconst (v := nI 2) C dL_law_1131 (by decide) ?_
  refine r_iaddN C dL_law_1132 ?_
  refine r_sld C hx hbl hbA (show i + 2 < L by omega) (by omega) dL_law_1133 ?_
  refine r_aload_n C dL_law_1134 rfl ?_
  refine c_SH (st := []) hX.1.stb C hE (W_copy hX.1 hN hC hB hM (P_copy hX hl hC hB hM (xs (i + 1)) (xs (i + 2)))) pk_L_copy qm_L_248 rfl rfl (Nat.le_of_ble_eq_true rfl) dL_law_1135 ⟨(Nat.le_of_ble_eq_true rfl), (Nat.le_of_ble_eq_true rfl)⟩ ⟨show cells + 1 ≤ room_1.cells by omega, show slots + 6 ≤ room_1.slots by omega⟩ (fun v9 w9 h9 => ?_) (fun _ h9 => h9.elim)
  obtain ⟨f', r', k, n1, rfl, rfl, hf', hq', n2, hC', hB', hM', hk0, hk4, h2⟩ := h9
  refine r_istore C dL_law_1138 (by decide) rfl ?_
  refine r_aload_n C dL_law_1140 rfl ?_
  refine r_aload_n C dL_law_1141 rfl ?_
  refine r_iload C dL_law_1142 rfl ?_
  refine r_iconst (v := nI 1) C dL_law_1144 (by decide) ?_
  refine r_iaddN C dL_law_1145 ?_
  refine r_sld C hx hbl hbA (show i + 1 < L by omega) (by omega) dL_law_1146 ?_
  refine r_aload_n C dL_law_1147 rfl ?_
  refine r_iload C dL_law_1148 rfl ?_
  refine r_iconst (v := nI 2) C dL_law_1150 (by decide) ?_
  refine r_iaddN C dL_law_1151 ?_
  refine r_sld C hx hbl hbA (show i + 2 < L by omega) (by omega) dL_law_1152 ?_
  refine t_swap3 ?_
  refine c_V (st := []) hX.1.stb C hE (h2 _) pk_X4_copy qm_L_250 0 8 rfl rfl wm_0 rfl rfl (Nat.le_of_ble_eq_true rfl) dL_law_1153 ⟨(Nat.le_of_ble_eq_true rfl), (Nat.le_of_ble_eq_true rfl)⟩ ⟨show cells + 1 + 4 ≤ room_1.cells by omega, show slots + 6 + 48 ≤ room_1.slots by omega⟩ (fun v9 w9 h9 => ?_) (fun _ h9 => h9.elim)
  obtain ⟨ra9, rfl, rfl⟩ := h9
  refine r_istore C dL_law_1156 (by decide) rfl ?_
  refine t_swap3 ?_
  refine r_goto (tgt := 2128) C dL_law_1158 (by decide) ?_
  refine r_widen (k := cells + 500) (n := slots + 10000) (show cells + 1 + 4 ≤ cells + 500 by omega) (show slots + 6 + 48 ≤ slots + 10000 by omega) ?_
  refine r_drop 5 ?_
  refine r_drop 6 ?_
  exact kk _ ⟨f', r', hf', hq', kn, ra9, _, sm, _, _, hC', hB', hM', rfl⟩
theorem S_places {p : Program} {l : Launch} {e : Env} {s : State} {m : MethodId} {args : Array Value} {below : List Frame} {meth : Method} {c : Code} {D : va_G} {cy : Nat → ClassId} {A : Nat → Prop} {Q : State → Prop} {X : (Nat → Prop) → State → Heap → Prop} {aK aV : Nat → Nat} {tO tT : Nat} {gO gT : Nat → Int32} {a : Nat → Nat → Nat} {ba : Nat → Nat} {o b L i cells slots : Nat} {xs : Nat → Int32} {w : va_W} (C : Fg p s m args meth c cL_law 7 RL D cy A) (hE : X A s s.heap) (hT : EnvT X cy aK aV tO tT gO gT) (hN : EnvN X) (hl : l.stackTraces = false) (hx : va_X b L xs s s.heap) (hbl : b < s.heap.size) (hbA : ¬ A b) (hi : i + 5 ≤ L) (hL : L ≤ 2560) (hc : cells + 500 ≤ room_1.cells) (hs : slots + 10000 ≤ room_1.slots) (hJ : JW cy a ba o w) (kk : ∀ w' : va_W, JW cy a ba o w' → vW p l e room_1 s m args below meth c D vwCl A Q 7 (cells + 500) (slots + 10000) w' [some (.ref b), some (.ref (a 0 0)), some (.ref (ba 9)), some (.ref o), some (.int (nI i)), none, none] 2128 []) : vW p l e room_1 s m args below meth c D vwCl A Q 7 cells slots w [some (.ref b), some (.ref (a 0 0)), some (.ref (ba 9)), some (.ref o), some (.int (nI i)), none, none] 1161 [] := by
  have hX := hT.1.1
  obtain ⟨f, r, hf, hq, kn, ra, th, sm, n, v, hC, hB, hM, rfl⟩ := hJ
  refine r_aload_n C dL_law_1161 rfl ?_
  refine r_aload_n C dL_law_1162 rfl ?_
  refine r_iload C dL_law_1163 rfl ?_
  refine r_iconst (v := nI 1) C dL_law_1165 (by decide) ?_
  refine r_iaddN C dL_law_1166 ?_
  refine r_sld C hx hbl hbA (show i + 1 < L by omega) (by omega) dL_law_1167 ?_
  refine r_aload_n C dL_law_1168 rfl ?_
  refine r_iload C dL_law_1169 rfl ?_
  refine r_iconst (v := nI 2) C dL_law_1171 (by decide) ?_
  refine r_iaddN C dL_law_1172 ?_
  refine r_sld C hx hbl hbA (show i + 2 < L by omega) (by omega) dL_law_1173 ?_
  refine r_aload_n C dL_law_1174 rfl ?_
  refine c_SH (st := []) hX.1.stb C hE (W_places hX.1 hN hC hB hM (P_places hX hl hC hB hM (xs (i + 1)) (xs (i + 2)))) pk_L_places qm_L_251 rfl rfl (Nat.le_of_ble_eq_true rfl) dL_law_1175 ⟨(Nat.le_of_ble_eq_true rfl), (Nat.le_of_ble_eq_true rfl)⟩ ⟨show cells + 1 ≤ room_1.cells by omega, show slots + 6 ≤ room_1.slots by omega⟩ (fun v9 w9 h9 => ?_) (fun _ h9 => h9.elim)
  obtain ⟨f', r', k, n1, rfl, rfl, hf', hq', n2, hC', hB', hM', hk0, hk4, h2⟩ := h9
  refine r_istore C dL_law_1178 (by decide) rfl ?_
  refine r_aload_n C dL_law_1180 rfl ?_
  refine r_aload_n C dL_law_1181 rfl ?_
  refine r_iload C dL_law_1182 rfl ?_
  refine r_iconst (v := nI 1) C dL_law_1184 (by decide) ?_
  refine r_iaddN C dL_law_1185 ?_
  refine r_sld C hx hbl hbA (show i + 1 < L by omega) (by omega) dL_law_1186 ?_
  refine r_aload_n C dL_law_1187 rfl ?_
  refine r_iload C dL_law_1188 rfl ?_
  refine r_iconst (v := nI 2) C dL_law_1190 (by decide) ?_
  refine r_iaddN C dL_law_1191 ?_
  refine r_sld C hx hbl hbA (show i + 2 < L by omega) (by omega) dL_law_1192 ?_
  refine t_swap3 ?_
  refine c_V (st := []) hX.1.stb C hE (h2 _) pk_X4_places qm_L_253 0 8 rfl rfl wm_0 rfl rfl (Nat.le_of_ble_eq_true rfl) dL_law_1193 ⟨(Nat.le_of_ble_eq_true rfl), (Nat.le_of_ble_eq_true rfl)⟩ ⟨show cells + 1 + 4 ≤ room_1.cells by omega, show slots + 6 + 48 ≤ room_1.slots by omega⟩ (fun v9 w9 h9 => ?_) (fun _ h9 => h9.elim)
  obtain ⟨ra9, rfl, rfl⟩ := h9
  refine r_istore C dL_law_1196 (by decide) rfl ?_
  refine t_swap3 ?_
  refine r_goto (tgt := 2128) C dL_law_1198 (by decide) ?_
  refine r_widen (k := cells + 500) (n := slots + 10000) (show cells + 1 + 4 ≤ cells + 500 by omega) (show slots + 6 + 48 ≤ slots + 10000 by omega) ?_
  refine r_drop 5 ?_
  refine r_drop 6 ?_
  exact kk _ ⟨f', r', hf', hq', kn, ra9, _, sm, _, _, hC', hB', hM', rfl⟩
theorem S_through {p : Program} {l : Launch} {e : Env} {s : State} {m : MethodId} {args : Array Value} {below : List Frame} {meth : Method} {c : Code} {D : va_G} {cy : Nat → ClassId} {A : Nat → Prop} {Q : State → Prop} {X : (Nat → Prop) → State → Heap → Prop} {aK aV : Nat → Nat} {tO tT : Nat} {gO gT : Nat → Int32} {a : Nat → Nat → Nat} {ba : Nat → Nat} {o b L i cells slots : Nat} {xs : Nat → Int32} {w : va_W} (C : Fg p s m args meth c cL_law 7 RL D cy A) (hE : X A s s.heap) (hT : EnvT X cy aK aV tO tT gO gT) (hN : EnvN X) (hl : l.stackTraces = false) (hx : va_X b L xs s s.heap) (hbl : b < s.heap.size) (hbA : ¬ A b) (hi : i + 5 ≤ L) (hL : L ≤ 2560) (hc : cells + 500 ≤ room_1.cells) (hs : slots + 10000 ≤ room_1.slots) (hJ : JW cy a ba o w) (kk : ∀ w' : va_W, JW cy a ba o w' → vW p l e room_1 s m args below meth c D vwCl A Q 7 (cells + 500) (slots + 10000) w' [some (.ref b), some (.ref (a 0 0)), some (.ref (ba 9)), some (.ref o), some (.int (nI i)), none, none] 2128 []) : vW p l e room_1 s m args below meth c D vwCl A Q 7 cells slots w [some (.ref b), some (.ref (a 0 0)), some (.ref (ba 9)), some (.ref o), some (.int (nI i)), none, none] 1201 [] := by
  have hX := hT.1.1
  obtain ⟨f, r, hf, hq, kn, ra, th, sm, n, v, hC, hB, hM, rfl⟩ := hJ
  refine r_aload_n C dL_law_1201 rfl ?_
  refine r_aload_n C dL_law_1202 rfl ?_
  refine r_iload C dL_law_1203 rfl ?_
  refine r_iconst (v := nI 1) C dL_law_1205 (by decide) ?_
  refine r_iaddN C dL_law_1206 ?_
  refine r_sld C hx hbl hbA (show i + 1 < L by omega) (by omega) dL_law_1207 ?_
  refine r_aload_n C dL_law_1208 rfl ?_
  refine r_iload C dL_law_1209 rfl ?_
  refine r_iconst (v := nI 2) C dL_law_1211 (by decide) ?_
  refine r_iaddN C dL_law_1212 ?_
  refine r_sld C hx hbl hbA (show i + 2 < L by omega) (by omega) dL_law_1213 ?_
  refine r_aload_n C dL_law_1214 rfl ?_
  refine r_iload C dL_law_1215 rfl ?_
  refine r_iconst (v := nI 3) C dL_law_1217 (by decide) ?_
  refine r_iaddN C dL_law_1218 ?_
  refine r_sld C hx hbl hbA (show i + 3 < L by omega) (by omega) dL_law_1219 ?_
  refine r_aload_n C dL_law_1220 rfl ?_
  refine c_SH (st := []) hX.1.stb C hE (W_through hX.1 hN hC hB hM (P_through hX hl hC hB hM (xs (i + 1)) (xs (i + 2)) (xs (i + 3)))) pk_L_through qm_L_254 rfl rfl (Nat.le_of_ble_eq_true rfl) dL_law_1221 ⟨(Nat.le_of_ble_eq_true rfl), (Nat.le_of_ble_eq_true rfl)⟩ ⟨show cells + 1 ≤ room_1.cells by omega, show slots + 6 ≤ room_1.slots by omega⟩ (fun v9 w9 h9 => ?_) (fun _ h9 => h9.elim)
  obtain ⟨f', r', k, n1, rfl, rfl, hf', hq', n2, hC', hB', hM', hk0, hk4, h2⟩ := h9
  refine r_istore C dL_law_1224 (by decide) rfl ?_
  refine r_aload_n C dL_law_1226 rfl ?_
  refine r_aload_n C dL_law_1227 rfl ?_
  refine r_iload C dL_law_1228 rfl ?_
  refine r_iconst (v := nI 1) C dL_law_1230 (by decide) ?_
  refine r_iaddN C dL_law_1231 ?_
  refine r_sld C hx hbl hbA (show i + 1 < L by omega) (by omega) dL_law_1232 ?_
  refine r_aload_n C dL_law_1233 rfl ?_
  refine r_iload C dL_law_1234 rfl ?_
  refine r_iconst (v := nI 2) C dL_law_1236 (by decide) ?_
  refine r_iaddN C dL_law_1237 ?_
  refine r_sld C hx hbl hbA (show i + 2 < L by omega) (by omega) dL_law_1238 ?_
  refine r_aload_n C dL_law_1239 rfl ?_
  refine r_iload C dL_law_1240 rfl ?_
  refine r_iconst (v := nI 3) C dL_law_1242 (by decide) ?_
  refine r_iaddN C dL_law_1243 ?_
  refine r_sld C hx hbl hbA (show i + 3 < L by omega) (by omega) dL_law_1244 ?_
  refine t_swap3 ?_
  refine c_V (st := []) hX.1.stb C hE (h2 _) pk_X4_through qm_L_256 0 8 rfl rfl wm_0 rfl rfl (Nat.le_of_ble_eq_true rfl) dL_law_1245 ⟨(Nat.le_of_ble_eq_true rfl), (Nat.le_of_ble_eq_true rfl)⟩ ⟨show cells + 1 + 4 ≤ room_1.cells by omega, show slots + 6 + 48 ≤ room_1.slots by omega⟩ (fun v9 w9 h9 => ?_) (fun _ h9 => h9.elim)
  obtain ⟨ra9, rfl, rfl⟩ := h9
  refine r_istore C dL_law_1248 (by decide) rfl ?_
  refine t_swap3 ?_
  refine r_goto (tgt := 2128) C dL_law_1250 (by decide) ?_
  refine r_widen (k := cells + 500) (n := slots + 10000) (show cells + 1 + 4 ≤ cells + 500 by omega) (show slots + 6 + 48 ≤ slots + 10000 by omega) ?_
  refine r_drop 5 ?_
  refine r_drop 6 ?_
  exact kk _ ⟨f', r', hf', hq', kn, ra9, _, sm, _, _, hC', hB', hM', rfl⟩
