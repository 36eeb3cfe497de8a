/-! THE LAW'S CASES, 4 -/
theorem dL_law_2774 : decode cL_law 2774 = .ok (.aload_n 1, 1) := dqo_43 (kb_43 22 rfl)
theorem dL_law_2775 : decode cL_law 2775 = .ok (.aload_n 0, 1) := dqo_42 (kb_43 23 rfl)
theorem dL_law_2776 : decode cL_law 2776 = .ok (.iload 4, 2) := dqo_21 4 (kb_43 24 rfl) (kb_43 25 rfl)
theorem dL_law_2778 : decode cL_law 2778 = .ok (.iconst 1, 1) := dqo_4 (kb_43 26 rfl)
theorem dL_law_2779 : decode cL_law 2779 = .ok (.iadd, 1) := dqo_96 (kb_43 27 rfl)
theorem dL_law_2780 : decode cL_law 2780 = .ok (.iaload, 1) := dqo_46 (kb_43 28 rfl)
theorem dL_law_2781 : decode cL_law 2781 = .ok (.aload_n 0, 1) := dqo_42 (kb_43 29 rfl)
theorem dL_law_2782 : decode cL_law 2782 = .ok (.iload 4, 2) := dqo_21 4 (kb_43 30 rfl) (kb_43 31 rfl)
theorem dL_law_2784 : decode cL_law 2784 = .ok (.iconst 2, 1) := dqo_5 (kb_43 32 rfl)
theorem dL_law_2785 : decode cL_law 2785 = .ok (.iadd, 1) := dqo_96 (kb_43 33 rfl)
theorem dL_law_2786 : decode cL_law 2786 = .ok (.iaload, 1) := dqo_46 (kb_43 34 rfl)
theorem dL_law_2787 : decode cL_law 2787 = .ok (.aload_n 3, 1) := dqo_45 (kb_43 35 rfl)
theorem dL_law_2788 : decode cL_law 2788 = .ok (.invokestatic 300, 3) := dqo_184 1 44 (kb_43 36 rfl) (kb_43 37 rfl) (kb_43 38 rfl)
theorem dL_law_2791 : decode cL_law 2791 = .ok (.istore 5, 2) := dqo_54 5 (kb_43 39 rfl) (kb_43 40 rfl)
theorem dL_law_2793 : decode cL_law 2793 = .ok (.aload_n 2, 1) := dqo_44 (kb_43 41 rfl)
theorem dL_law_2794 : decode cL_law 2794 = .ok (.aload_n 0, 1) := dqo_42 (kb_43 42 rfl)
theorem dL_law_2795 : decode cL_law 2795 = .ok (.iload 4, 2) := dqo_21 4 (kb_43 43 rfl) (kb_43 44 rfl)
theorem dL_law_2797 : decode cL_law 2797 = .ok (.iconst 1, 1) := dqo_4 (kb_43 45 rfl)
theorem dL_law_2798 : decode cL_law 2798 = .ok (.iadd, 1) := dqo_96 (kb_43 46 rfl)
theorem dL_law_2799 : decode cL_law 2799 = .ok (.iaload, 1) := dqo_46 (kb_43 47 rfl)
theorem dL_law_2800 : decode cL_law 2800 = .ok (.aload_n 0, 1) := dqo_42 (kb_43 48 rfl)
theorem dL_law_2801 : decode cL_law 2801 = .ok (.iload 4, 2) := dqo_21 4 (kb_43 49 rfl) (kb_43 50 rfl)
theorem dL_law_2803 : decode cL_law 2803 = .ok (.iconst 2, 1) := dqo_5 (kb_43 51 rfl)
theorem dL_law_2804 : decode cL_law 2804 = .ok (.iadd, 1) := dqo_96 (kb_43 52 rfl)
theorem dL_law_2805 : decode cL_law 2805 = .ok (.iaload, 1) := dqo_46 (kb_43 53 rfl)
theorem dL_law_2806 : decode cL_law 2806 = .ok (.invokevirtual 302, 3) := dqo_182 1 46 (kb_43 54 rfl) (kb_43 55 rfl) (kb_43 56 rfl)
theorem dL_law_2809 : decode cL_law 2809 = .ok (.istore 6, 2) := dqo_54 6 (kb_43 57 rfl) (kb_43 58 rfl)
theorem dL_law_2811 : decode cL_law 2811 = .ok (.aload_n 2, 1) := dqo_44 (kb_43 59 rfl)
theorem dL_law_2812 : decode cL_law 2812 = .ok (.invokevirtual 181, 3) := dqo_182 0 181 (kb_43 60 rfl) (kb_43 61 rfl) (kb_43 62 rfl)
theorem dL_law_2815 : decode cL_law 2815 = .ok (.iload 5, 2) := dqo_21 5 (kb_43 63 rfl) (kb_44 0 rfl)
theorem dL_law_2817 : decode cL_law 2817 = .ok (.if_icmp .eq 5, 3) := dqo_159 0 5 (by decide) (kb_44 1 rfl) (kb_44 2 rfl) (kb_44 3 rfl)
theorem dL_law_2822 : decode cL_law 2822 = .ok (.iload 5, 2) := dqo_21 5 (kb_44 6 rfl) (kb_44 7 rfl)
theorem dL_law_2824 : decode cL_law 2824 = .ok (.ifCond .ne 16, 3) := dqo_154 0 16 (by decide) (kb_44 8 rfl) (kb_44 9 rfl) (kb_44 10 rfl)
theorem dL_law_2827 : decode cL_law 2827 = .ok (.aload_n 3, 1) := dqo_45 (kb_44 11 rfl)
theorem dL_law_2828 : decode cL_law 2828 = .ok (.getfield 13, 3) := dqo_180 0 13 (kb_44 12 rfl) (kb_44 13 rfl) (kb_44 14 rfl)
theorem dL_law_2831 : decode cL_law 2831 = .ok (.iload 6, 2) := dqo_21 6 (kb_44 15 rfl) (kb_44 16 rfl)
theorem dL_law_2833 : decode cL_law 2833 = .ok (.i2l, 1) := dqo_133 (kb_44 17 rfl)
theorem dL_law_2834 : decode cL_law 2834 = .ok (.lcmp, 1) := dqo_148 (kb_44 18 rfl)
theorem dL_law_2835 : decode cL_law 2835 = .ok (.ifCond .eq 5, 3) := dqo_153 0 5 (by decide) (kb_44 19 rfl) (kb_44 20 rfl) (kb_44 21 rfl)
theorem dL_law_2840 : decode cL_law 2840 = .ok (.goto 616, 3) := dqo_167 2 104 (by decide) (kb_44 24 rfl) (kb_44 25 rfl) (kb_44 26 rfl)
theorem dL_law_2843 : decode cL_law 2843 = .ok (.aload_n 1, 1) := dqo_43 (kb_44 27 rfl)
theorem dL_law_2844 : decode cL_law 2844 = .ok (.aload_n 0, 1) := dqo_42 (kb_44 28 rfl)
theorem dL_law_2845 : decode cL_law 2845 = .ok (.iload 4, 2) := dqo_21 4 (kb_44 29 rfl) (kb_44 30 rfl)
theorem dL_law_2847 : decode cL_law 2847 = .ok (.iconst 1, 1) := dqo_4 (kb_44 31 rfl)
theorem dL_law_2848 : decode cL_law 2848 = .ok (.iadd, 1) := dqo_96 (kb_44 32 rfl)
theorem dL_law_2849 : decode cL_law 2849 = .ok (.iaload, 1) := dqo_46 (kb_44 33 rfl)
theorem dL_law_2850 : decode cL_law 2850 = .ok (.aload_n 0, 1) := dqo_42 (kb_44 34 rfl)
theorem dL_law_2851 : decode cL_law 2851 = .ok (.iload 4, 2) := dqo_21 4 (kb_44 35 rfl) (kb_44 36 rfl)
theorem dL_law_2853 : decode cL_law 2853 = .ok (.iconst 2, 1) := dqo_5 (kb_44 37 rfl)
theorem dL_law_2854 : decode cL_law 2854 = .ok (.iadd, 1) := dqo_96 (kb_44 38 rfl)
theorem dL_law_2855 : decode cL_law 2855 = .ok (.iaload, 1) := dqo_46 (kb_44 39 rfl)
theorem dL_law_2856 : decode cL_law 2856 = .ok (.aload_n 0, 1) := dqo_42 (kb_44 40 rfl)
theorem dL_law_2857 : decode cL_law 2857 = .ok (.iload 4, 2) := dqo_21 4 (kb_44 41 rfl) (kb_44 42 rfl)
theorem dL_law_2859 : decode cL_law 2859 = .ok (.iconst 3, 1) := dqo_6 (kb_44 43 rfl)
theorem dL_law_2860 : decode cL_law 2860 = .ok (.iadd, 1) := dqo_96 (kb_44 44 rfl)
theorem dL_law_2861 : decode cL_law 2861 = .ok (.iaload, 1) := dqo_46 (kb_44 45 rfl)
theorem dL_law_2862 : decode cL_law 2862 = .ok (.aload_n 3, 1) := dqo_45 (kb_44 46 rfl)
theorem dL_law_2863 : decode cL_law 2863 = .ok (.invokestatic 303, 3) := dqo_184 1 47 (kb_44 47 rfl) (kb_44 48 rfl) (kb_44 49 rfl)
theorem dL_law_2866 : decode cL_law 2866 = .ok (.istore 5, 2) := dqo_54 5 (kb_44 50 rfl) (kb_44 51 rfl)
theorem dL_law_2868 : decode cL_law 2868 = .ok (.aload_n 2, 1) := dqo_44 (kb_44 52 rfl)
theorem dL_law_2869 : decode cL_law 2869 = .ok (.aload_n 0, 1) := dqo_42 (kb_44 53 rfl)
theorem dL_law_2870 : decode cL_law 2870 = .ok (.iload 4, 2) := dqo_21 4 (kb_44 54 rfl) (kb_44 55 rfl)
theorem dL_law_2872 : decode cL_law 2872 = .ok (.iconst 1, 1) := dqo_4 (kb_44 56 rfl)
theorem dL_law_2873 : decode cL_law 2873 = .ok (.iadd, 1) := dqo_96 (kb_44 57 rfl)
theorem dL_law_2874 : decode cL_law 2874 = .ok (.iaload, 1) := dqo_46 (kb_44 58 rfl)
theorem dL_law_2875 : decode cL_law 2875 = .ok (.aload_n 0, 1) := dqo_42 (kb_44 59 rfl)
theorem dL_law_2876 : decode cL_law 2876 = .ok (.iload 4, 2) := dqo_21 4 (kb_44 60 rfl) (kb_44 61 rfl)
theorem dL_law_2878 : decode cL_law 2878 = .ok (.iconst 2, 1) := dqo_5 (kb_44 62 rfl)
theorem dL_law_2879 : decode cL_law 2879 = .ok (.iadd, 1) := dqo_96 (kb_44 63 rfl)
theorem dL_law_2880 : decode cL_law 2880 = .ok (.iaload, 1) := dqo_46 (kb_45 0 rfl)
theorem dL_law_2881 : decode cL_law 2881 = .ok (.aload_n 0, 1) := dqo_42 (kb_45 1 rfl)
theorem dL_law_2882 : decode cL_law 2882 = .ok (.iload 4, 2) := dqo_21 4 (kb_45 2 rfl) (kb_45 3 rfl)
theorem dL_law_2884 : decode cL_law 2884 = .ok (.iconst 3, 1) := dqo_6 (kb_45 4 rfl)
theorem dL_law_2885 : decode cL_law 2885 = .ok (.iadd, 1) := dqo_96 (kb_45 5 rfl)
theorem dL_law_2886 : decode cL_law 2886 = .ok (.iaload, 1) := dqo_46 (kb_45 6 rfl)
theorem dL_law_2887 : decode cL_law 2887 = .ok (.invokevirtual 305, 3) := dqo_182 1 49 (kb_45 7 rfl) (kb_45 8 rfl) (kb_45 9 rfl)
theorem dL_law_2890 : decode cL_law 2890 = .ok (.istore 6, 2) := dqo_54 6 (kb_45 10 rfl) (kb_45 11 rfl)
theorem dL_law_2892 : decode cL_law 2892 = .ok (.aload_n 2, 1) := dqo_44 (kb_45 12 rfl)
theorem dL_law_2893 : decode cL_law 2893 = .ok (.invokevirtual 181, 3) := dqo_182 0 181 (kb_45 13 rfl) (kb_45 14 rfl) (kb_45 15 rfl)
theorem dL_law_2896 : decode cL_law 2896 = .ok (.iload 5, 2) := dqo_21 5 (kb_45 16 rfl) (kb_45 17 rfl)
theorem dL_law_2898 : decode cL_law 2898 = .ok (.if_icmp .eq 5, 3) := dqo_159 0 5 (by decide) (kb_45 18 rfl) (kb_45 19 rfl) (kb_45 20 rfl)
theorem dL_law_2903 : decode cL_law 2903 = .ok (.iload 5, 2) := dqo_21 5 (kb_45 23 rfl) (kb_45 24 rfl)
theorem dL_law_2905 : decode cL_law 2905 = .ok (.ifCond .ne 16, 3) := dqo_154 0 16 (by decide) (kb_45 25 rfl) (kb_45 26 rfl) (kb_45 27 rfl)
theorem dL_law_2908 : decode cL_law 2908 = .ok (.aload_n 3, 1) := dqo_45 (kb_45 28 rfl)
theorem dL_law_2909 : decode cL_law 2909 = .ok (.getfield 13, 3) := dqo_180 0 13 (kb_45 29 rfl) (kb_45 30 rfl) (kb_45 31 rfl)
theorem dL_law_2912 : decode cL_law 2912 = .ok (.iload 6, 2) := dqo_21 6 (kb_45 32 rfl) (kb_45 33 rfl)
theorem dL_law_2914 : decode cL_law 2914 = .ok (.i2l, 1) := dqo_133 (kb_45 34 rfl)
theorem dL_law_2915 : decode cL_law 2915 = .ok (.lcmp, 1) := dqo_148 (kb_45 35 rfl)
theorem dL_law_2916 : decode cL_law 2916 = .ok (.ifCond .eq 5, 3) := dqo_153 0 5 (by decide) (kb_45 36 rfl) (kb_45 37 rfl) (kb_45 38 rfl)
theorem dL_law_2921 : decode cL_law 2921 = .ok (.goto 535, 3) := dqo_167 2 23 (by decide) (kb_45 41 rfl) (kb_45 42 rfl) (kb_45 43 rfl)
theorem dL_law_2924 : decode cL_law 2924 = .ok (.aload_n 1, 1) := dqo_43 (kb_45 44 rfl)
theorem dL_law_2925 : decode cL_law 2925 = .ok (.aload_n 0, 1) := dqo_42 (kb_45 45 rfl)
theorem dL_law_2926 : decode cL_law 2926 = .ok (.iload 4, 2) := dqo_21 4 (kb_45 46 rfl) (kb_45 47 rfl)
theorem dL_law_2928 : decode cL_law 2928 = .ok (.iconst 1, 1) := dqo_4 (kb_45 48 rfl)
theorem dL_law_2929 : decode cL_law 2929 = .ok (.iadd, 1) := dqo_96 (kb_45 49 rfl)
theorem dL_law_2930 : decode cL_law 2930 = .ok (.iaload, 1) := dqo_46 (kb_45 50 rfl)
theorem dL_law_2931 : decode cL_law 2931 = .ok (.aload_n 3, 1) := dqo_45 (kb_45 51 rfl)
theorem dL_law_2932 : decode cL_law 2932 = .ok (.invokestatic 306, 3) := dqo_184 1 50 (kb_45 52 rfl) (kb_45 53 rfl) (kb_45 54 rfl)
theorem dL_law_2935 : decode cL_law 2935 = .ok (.istore 5, 2) := dqo_54 5 (kb_45 55 rfl) (kb_45 56 rfl)
theorem dL_law_2937 : decode cL_law 2937 = .ok (.aload_n 2, 1) := dqo_44 (kb_45 57 rfl)
theorem dL_law_2938 : decode cL_law 2938 = .ok (.aload_n 0, 1) := dqo_42 (kb_45 58 rfl)
theorem dL_law_2939 : decode cL_law 2939 = .ok (.iload 4, 2) := dqo_21 4 (kb_45 59 rfl) (kb_45 60 rfl)
theorem dL_law_2941 : decode cL_law 2941 = .ok (.iconst 1, 1) := dqo_4 (kb_45 61 rfl)
theorem dL_law_2942 : decode cL_law 2942 = .ok (.iadd, 1) := dqo_96 (kb_45 62 rfl)
theorem dL_law_2943 : decode cL_law 2943 = .ok (.iaload, 1) := dqo_46 (kb_45 63 rfl)
theorem dL_law_2944 : decode cL_law 2944 = .ok (.invokevirtual 308, 3) := dqo_182 1 52 (kb_46 0 rfl) (kb_46 1 rfl) (kb_46 2 rfl)
theorem dL_law_2947 : decode cL_law 2947 = .ok (.istore 6, 2) := dqo_54 6 (kb_46 3 rfl) (kb_46 4 rfl)
theorem dL_law_2949 : decode cL_law 2949 = .ok (.aload_n 2, 1) := dqo_44 (kb_46 5 rfl)
theorem dL_law_2950 : decode cL_law 2950 = .ok (.invokevirtual 181, 3) := dqo_182 0 181 (kb_46 6 rfl) (kb_46 7 rfl) (kb_46 8 rfl)
theorem dL_law_2953 : decode cL_law 2953 = .ok (.iload 5, 2) := dqo_21 5 (kb_46 9 rfl) (kb_46 10 rfl)
theorem dL_law_2955 : decode cL_law 2955 = .ok (.if_icmp .eq 5, 3) := dqo_159 0 5 (by decide) (kb_46 11 rfl) (kb_46 12 rfl) (kb_46 13 rfl)
theorem dL_law_2960 : decode cL_law 2960 = .ok (.iload 5, 2) := dqo_21 5 (kb_46 16 rfl) (kb_46 17 rfl)
theorem dL_law_2962 : decode cL_law 2962 = .ok (.ifCond .ne 16, 3) := dqo_154 0 16 (by decide) (kb_46 18 rfl) (kb_46 19 rfl) (kb_46 20 rfl)
theorem dL_law_2965 : decode cL_law 2965 = .ok (.aload_n 3, 1) := dqo_45 (kb_46 21 rfl)
theorem dL_law_2966 : decode cL_law 2966 = .ok (.getfield 13, 3) := dqo_180 0 13 (kb_46 22 rfl) (kb_46 23 rfl) (kb_46 24 rfl)
theorem dL_law_2969 : decode cL_law 2969 = .ok (.iload 6, 2) := dqo_21 6 (kb_46 25 rfl) (kb_46 26 rfl)
theorem dL_law_2971 : decode cL_law 2971 = .ok (.i2l, 1) := dqo_133 (kb_46 27 rfl)
theorem dL_law_2972 : decode cL_law 2972 = .ok (.lcmp, 1) := dqo_148 (kb_46 28 rfl)
theorem dL_law_2973 : decode cL_law 2973 = .ok (.ifCond .eq 5, 3) := dqo_153 0 5 (by decide) (kb_46 29 rfl) (kb_46 30 rfl) (kb_46 31 rfl)
theorem dL_law_2978 : decode cL_law 2978 = .ok (.goto 478, 3) := dqo_167 1 222 (by decide) (kb_46 34 rfl) (kb_46 35 rfl) (kb_46 36 rfl)
theorem dL_law_2981 : decode cL_law 2981 = .ok (.aload_n 1, 1) := dqo_43 (kb_46 37 rfl)
theorem dL_law_2982 : decode cL_law 2982 = .ok (.aload_n 0, 1) := dqo_42 (kb_46 38 rfl)
theorem dL_law_2983 : decode cL_law 2983 = .ok (.iload 4, 2) := dqo_21 4 (kb_46 39 rfl) (kb_46 40 rfl)
theorem dL_law_2985 : decode cL_law 2985 = .ok (.iconst 1, 1) := dqo_4 (kb_46 41 rfl)
theorem dL_law_2986 : decode cL_law 2986 = .ok (.iadd, 1) := dqo_96 (kb_46 42 rfl)
theorem dL_law_2987 : decode cL_law 2987 = .ok (.iaload, 1) := dqo_46 (kb_46 43 rfl)
theorem dL_law_2988 : decode cL_law 2988 = .ok (.aload_n 3, 1) := dqo_45 (kb_46 44 rfl)
theorem dL_law_2989 : decode cL_law 2989 = .ok (.invokestatic 309, 3) := dqo_184 1 53 (kb_46 45 rfl) (kb_46 46 rfl) (kb_46 47 rfl)
theorem dL_law_2992 : decode cL_law 2992 = .ok (.istore 5, 2) := dqo_54 5 (kb_46 48 rfl) (kb_46 49 rfl)
theorem dL_law_2994 : decode cL_law 2994 = .ok (.aload_n 2, 1) := dqo_44 (kb_46 50 rfl)
theorem dL_law_2995 : decode cL_law 2995 = .ok (.aload_n 0, 1) := dqo_42 (kb_46 51 rfl)
theorem dL_law_2996 : decode cL_law 2996 = .ok (.iload 4, 2) := dqo_21 4 (kb_46 52 rfl) (kb_46 53 rfl)
theorem dL_law_2998 : decode cL_law 2998 = .ok (.iconst 1, 1) := dqo_4 (kb_46 54 rfl)
theorem dL_law_2999 : decode cL_law 2999 = .ok (.iadd, 1) := dqo_96 (kb_46 55 rfl)
theorem dL_law_3000 : decode cL_law 3000 = .ok (.iaload, 1) := dqo_46 (kb_46 56 rfl)
theorem dL_law_3001 : decode cL_law 3001 = .ok (.invokevirtual 311, 3) := dqo_182 1 55 (kb_46 57 rfl) (kb_46 58 rfl) (kb_46 59 rfl)
theorem dL_law_3004 : decode cL_law 3004 = .ok (.istore 6, 2) := dqo_54 6 (kb_46 60 rfl) (kb_46 61 rfl)
theorem dL_law_3006 : decode cL_law 3006 = .ok (.aload_n 2, 1) := dqo_44 (kb_46 62 rfl)
theorem dL_law_3007 : decode cL_law 3007 = .ok (.invokevirtual 181, 3) := dqo_182 0 181 (kb_46 63 rfl) (kb_47 0 rfl) (kb_47 1 rfl)
theorem dL_law_3010 : decode cL_law 3010 = .ok (.iload 5, 2) := dqo_21 5 (kb_47 2 rfl) (kb_47 3 rfl)
theorem dL_law_3012 : decode cL_law 3012 = .ok (.if_icmp .eq 5, 3) := dqo_159 0 5 (by decide) (kb_47 4 rfl) (kb_47 5 rfl) (kb_47 6 rfl)
theorem dL_law_3017 : decode cL_law 3017 = .ok (.iload 5, 2) := dqo_21 5 (kb_47 9 rfl) (kb_47 10 rfl)
theorem dL_law_3019 : decode cL_law 3019 = .ok (.ifCond .ne 16, 3) := dqo_154 0 16 (by decide) (kb_47 11 rfl) (kb_47 12 rfl) (kb_47 13 rfl)
theorem dL_law_3022 : decode cL_law 3022 = .ok (.aload_n 3, 1) := dqo_45 (kb_47 14 rfl)
theorem dL_law_3023 : decode cL_law 3023 = .ok (.getfield 13, 3) := dqo_180 0 13 (kb_47 15 rfl) (kb_47 16 rfl) (kb_47 17 rfl)
theorem dL_law_3026 : decode cL_law 3026 = .ok (.iload 6, 2) := dqo_21 6 (kb_47 18 rfl) (kb_47 19 rfl)
theorem dL_law_3028 : decode cL_law 3028 = .ok (.i2l, 1) := dqo_133 (kb_47 20 rfl)
theorem dL_law_3029 : decode cL_law 3029 = .ok (.lcmp, 1) := dqo_148 (kb_47 21 rfl)
theorem dL_law_3030 : decode cL_law 3030 = .ok (.ifCond .eq 5, 3) := dqo_153 0 5 (by decide) (kb_47 22 rfl) (kb_47 23 rfl) (kb_47 24 rfl)
theorem dL_law_3035 : decode cL_law 3035 = .ok (.goto 421, 3) := dqo_167 1 165 (by decide) (kb_47 27 rfl) (kb_47 28 rfl) (kb_47 29 rfl)
theorem dL_law_3038 : decode cL_law 3038 = .ok (.aload_n 1, 1) := dqo_43 (kb_47 30 rfl)
theorem dL_law_3039 : decode cL_law 3039 = .ok (.aload_n 0, 1) := dqo_42 (kb_47 31 rfl)
theorem dL_law_3040 : decode cL_law 3040 = .ok (.iload 4, 2) := dqo_21 4 (kb_47 32 rfl) (kb_47 33 rfl)
theorem dL_law_3042 : decode cL_law 3042 = .ok (.iconst 1, 1) := dqo_4 (kb_47 34 rfl)
theorem dL_law_3043 : decode cL_law 3043 = .ok (.iadd, 1) := dqo_96 (kb_47 35 rfl)
theorem dL_law_3044 : decode cL_law 3044 = .ok (.iaload, 1) := dqo_46 (kb_47 36 rfl)
theorem dL_law_3045 : decode cL_law 3045 = .ok (.aload_n 3, 1) := dqo_45 (kb_47 37 rfl)
theorem dL_law_3046 : decode cL_law 3046 = .ok (.invokestatic 312, 3) := dqo_184 1 56 (kb_47 38 rfl) (kb_47 39 rfl) (kb_47 40 rfl)
theorem dL_law_3049 : decode cL_law 3049 = .ok (.istore 5, 2) := dqo_54 5 (kb_47 41 rfl) (kb_47 42 rfl)
theorem dL_law_3051 : decode cL_law 3051 = .ok (.aload_n 2, 1) := dqo_44 (kb_47 43 rfl)
theorem dL_law_3052 : decode cL_law 3052 = .ok (.aload_n 0, 1) := dqo_42 (kb_47 44 rfl)
theorem dL_law_3053 : decode cL_law 3053 = .ok (.iload 4, 2) := dqo_21 4 (kb_47 45 rfl) (kb_47 46 rfl)
theorem dL_law_3055 : decode cL_law 3055 = .ok (.iconst 1, 1) := dqo_4 (kb_47 47 rfl)
theorem dL_law_3056 : decode cL_law 3056 = .ok (.iadd, 1) := dqo_96 (kb_47 48 rfl)
theorem dL_law_3057 : decode cL_law 3057 = .ok (.iaload, 1) := dqo_46 (kb_47 49 rfl)
theorem dL_law_3058 : decode cL_law 3058 = .ok (.invokevirtual 314, 3) := dqo_182 1 58 (kb_47 50 rfl) (kb_47 51 rfl) (kb_47 52 rfl)
theorem dL_law_3061 : decode cL_law 3061 = .ok (.istore 6, 2) := dqo_54 6 (kb_47 53 rfl) (kb_47 54 rfl)
theorem dL_law_3063 : decode cL_law 3063 = .ok (.aload_n 2, 1) := dqo_44 (kb_47 55 rfl)
theorem dL_law_3064 : decode cL_law 3064 = .ok (.invokevirtual 181, 3) := dqo_182 0 181 (kb_47 56 rfl) (kb_47 57 rfl) (kb_47 58 rfl)
theorem dL_law_3067 : decode cL_law 3067 = .ok (.iload 5, 2) := dqo_21 5 (kb_47 59 rfl) (kb_47 60 rfl)
theorem dL_law_3069 : decode cL_law 3069 = .ok (.if_icmp .eq 5, 3) := dqo_159 0 5 (by decide) (kb_47 61 rfl) (kb_47 62 rfl) (kb_47 63 rfl)
theorem dL_law_3074 : decode cL_law 3074 = .ok (.iload 5, 2) := dqo_21 5 (kb_48 2 rfl) (kb_48 3 rfl)
theorem dL_law_3076 : decode cL_law 3076 = .ok (.ifCond .ne 16, 3) := dqo_154 0 16 (by decide) (kb_48 4 rfl) (kb_48 5 rfl) (kb_48 6 rfl)
theorem dL_law_3079 : decode cL_law 3079 = .ok (.aload_n 3, 1) := dqo_45 (kb_48 7 rfl)
theorem dL_law_3080 : decode cL_law 3080 = .ok (.getfield 13, 3) := dqo_180 0 13 (kb_48 8 rfl) (kb_48 9 rfl) (kb_48 10 rfl)
theorem dL_law_3083 : decode cL_law 3083 = .ok (.iload 6, 2) := dqo_21 6 (kb_48 11 rfl) (kb_48 12 rfl)
theorem dL_law_3085 : decode cL_law 3085 = .ok (.i2l, 1) := dqo_133 (kb_48 13 rfl)
theorem dL_law_3086 : decode cL_law 3086 = .ok (.lcmp, 1) := dqo_148 (kb_48 14 rfl)
theorem dL_law_3087 : decode cL_law 3087 = .ok (.ifCond .eq 5, 3) := dqo_153 0 5 (by decide) (kb_48 15 rfl) (kb_48 16 rfl) (kb_48 17 rfl)
theorem dL_law_3092 : decode cL_law 3092 = .ok (.goto 364, 3) := dqo_167 1 108 (by decide) (kb_48 20 rfl) (kb_48 21 rfl) (kb_48 22 rfl)
theorem dL_law_3095 : decode cL_law 3095 = .ok (.aload_n 1, 1) := dqo_43 (kb_48 23 rfl)
theorem dL_law_3096 : decode cL_law 3096 = .ok (.aload_n 0, 1) := dqo_42 (kb_48 24 rfl)
theorem dL_law_3097 : decode cL_law 3097 = .ok (.iload 4, 2) := dqo_21 4 (kb_48 25 rfl) (kb_48 26 rfl)
theorem dL_law_3099 : decode cL_law 3099 = .ok (.iconst 1, 1) := dqo_4 (kb_48 27 rfl)
theorem dL_law_3100 : decode cL_law 3100 = .ok (.iadd, 1) := dqo_96 (kb_48 28 rfl)
theorem dL_law_3101 : decode cL_law 3101 = .ok (.iaload, 1) := dqo_46 (kb_48 29 rfl)
theorem dL_law_3102 : decode cL_law 3102 = .ok (.aload_n 0, 1) := dqo_42 (kb_48 30 rfl)
theorem dL_law_3103 : decode cL_law 3103 = .ok (.iload 4, 2) := dqo_21 4 (kb_48 31 rfl) (kb_48 32 rfl)
theorem dL_law_3105 : decode cL_law 3105 = .ok (.iconst 2, 1) := dqo_5 (kb_48 33 rfl)
theorem dL_law_3106 : decode cL_law 3106 = .ok (.iadd, 1) := dqo_96 (kb_48 34 rfl)
theorem dL_law_3107 : decode cL_law 3107 = .ok (.iaload, 1) := dqo_46 (kb_48 35 rfl)
theorem dL_law_3108 : decode cL_law 3108 = .ok (.aload_n 3, 1) := dqo_45 (kb_48 36 rfl)
theorem dL_law_3109 : decode cL_law 3109 = .ok (.invokestatic 315, 3) := dqo_184 1 59 (kb_48 37 rfl) (kb_48 38 rfl) (kb_48 39 rfl)
theorem dL_law_3112 : decode cL_law 3112 = .ok (.istore 5, 2) := dqo_54 5 (kb_48 40 rfl) (kb_48 41 rfl)
theorem dL_law_3114 : decode cL_law 3114 = .ok (.aload_n 2, 1) := dqo_44 (kb_48 42 rfl)
theorem dL_law_3115 : decode cL_law 3115 = .ok (.aload_n 0, 1) := dqo_42 (kb_48 43 rfl)
theorem dL_law_3116 : decode cL_law 3116 = .ok (.iload 4, 2) := dqo_21 4 (kb_48 44 rfl) (kb_48 45 rfl)
theorem dL_law_3118 : decode cL_law 3118 = .ok (.iconst 1, 1) := dqo_4 (kb_48 46 rfl)
theorem dL_law_3119 : decode cL_law 3119 = .ok (.iadd, 1) := dqo_96 (kb_48 47 rfl)
theorem dL_law_3120 : decode cL_law 3120 = .ok (.iaload, 1) := dqo_46 (kb_48 48 rfl)
theorem dL_law_3121 : decode cL_law 3121 = .ok (.aload_n 0, 1) := dqo_42 (kb_48 49 rfl)
theorem dL_law_3122 : decode cL_law 3122 = .ok (.iload 4, 2) := dqo_21 4 (kb_48 50 rfl) (kb_48 51 rfl)
theorem dL_law_3124 : decode cL_law 3124 = .ok (.iconst 2, 1) := dqo_5 (kb_48 52 rfl)
theorem dL_law_3125 : decode cL_law 3125 = .ok (.iadd, 1) := dqo_96 (kb_48 53 rfl)
theorem dL_law_3126 : decode cL_law 3126 = .ok (.iaload, 1) := dqo_46 (kb_48 54 rfl)
theorem dL_law_3127 : decode cL_law 3127 = .ok (.invokevirtual 317, 3) := dqo_182 1 61 (kb_48 55 rfl) (kb_48 56 rfl) (kb_48 57 rfl)
theorem dL_law_3130 : decode cL_law 3130 = .ok (.istore 6, 2) := dqo_54 6 (kb_48 58 rfl) (kb_48 59 rfl)
theorem dL_law_3132 : decode cL_law 3132 = .ok (.aload_n 2, 1) := dqo_44 (kb_48 60 rfl)
theorem dL_law_3133 : decode cL_law 3133 = .ok (.invokevirtual 181, 3) := dqo_182 0 181 (kb_48 61 rfl) (kb_48 62 rfl) (kb_48 63 rfl)
theorem dL_law_3136 : decode cL_law 3136 = .ok (.iload 5, 2) := dqo_21 5 (kb_49 0 rfl) (kb_49 1 rfl)
theorem dL_law_3138 : decode cL_law 3138 = .ok (.if_icmp .eq 5, 3) := dqo_159 0 5 (by decide) (kb_49 2 rfl) (kb_49 3 rfl) (kb_49 4 rfl)
theorem dL_law_3143 : decode cL_law 3143 = .ok (.iload 5, 2) := dqo_21 5 (kb_49 7 rfl) (kb_49 8 rfl)
theorem dL_law_3145 : decode cL_law 3145 = .ok (.ifCond .ne 16, 3) := dqo_154 0 16 (by decide) (kb_49 9 rfl) (kb_49 10 rfl) (kb_49 11 rfl)
theorem dL_law_3148 : decode cL_law 3148 = .ok (.aload_n 3, 1) := dqo_45 (kb_49 12 rfl)
theorem dL_law_3149 : decode cL_law 3149 = .ok (.getfield 13, 3) := dqo_180 0 13 (kb_49 13 rfl) (kb_49 14 rfl) (kb_49 15 rfl)
theorem dL_law_3152 : decode cL_law 3152 = .ok (.iload 6, 2) := dqo_21 6 (kb_49 16 rfl) (kb_49 17 rfl)
theorem dL_law_3154 : decode cL_law 3154 = .ok (.i2l, 1) := dqo_133 (kb_49 18 rfl)
theorem dL_law_3155 : decode cL_law 3155 = .ok (.lcmp, 1) := dqo_148 (kb_49 19 rfl)
theorem dL_law_3156 : decode cL_law 3156 = .ok (.ifCond .eq 5, 3) := dqo_153 0 5 (by decide) (kb_49 20 rfl) (kb_49 21 rfl) (kb_49 22 rfl)
theorem dL_law_3161 : decode cL_law 3161 = .ok (.goto 295, 3) := dqo_167 1 39 (by decide) (kb_49 25 rfl) (kb_49 26 rfl) (kb_49 27 rfl)
theorem dL_law_3164 : decode cL_law 3164 = .ok (.aload_n 1, 1) := dqo_43 (kb_49 28 rfl)
theorem dL_law_3165 : decode cL_law 3165 = .ok (.aload_n 0, 1) := dqo_42 (kb_49 29 rfl)
theorem dL_law_3166 : decode cL_law 3166 = .ok (.iload 4, 2) := dqo_21 4 (kb_49 30 rfl) (kb_49 31 rfl)
theorem dL_law_3168 : decode cL_law 3168 = .ok (.iconst 1, 1) := dqo_4 (kb_49 32 rfl)
theorem dL_law_3169 : decode cL_law 3169 = .ok (.iadd, 1) := dqo_96 (kb_49 33 rfl)
theorem dL_law_3170 : decode cL_law 3170 = .ok (.iaload, 1) := dqo_46 (kb_49 34 rfl)
theorem dL_law_3171 : decode cL_law 3171 = .ok (.aload_n 3, 1) := dqo_45 (kb_49 35 rfl)
theorem dL_law_3172 : decode cL_law 3172 = .ok (.invokestatic 318, 3) := dqo_184 1 62 (kb_49 36 rfl) (kb_49 37 rfl) (kb_49 38 rfl)
theorem dL_law_3175 : decode cL_law 3175 = .ok (.istore 5, 2) := dqo_54 5 (kb_49 39 rfl) (kb_49 40 rfl)
theorem dL_law_3177 : decode cL_law 3177 = .ok (.aload_n 2, 1) := dqo_44 (kb_49 41 rfl)
theorem dL_law_3178 : decode cL_law 3178 = .ok (.aload_n 0, 1) := dqo_42 (kb_49 42 rfl)
theorem dL_law_3179 : decode cL_law 3179 = .ok (.iload 4, 2) := dqo_21 4 (kb_49 43 rfl) (kb_49 44 rfl)
theorem dL_law_3181 : decode cL_law 3181 = .ok (.iconst 1, 1) := dqo_4 (kb_49 45 rfl)
theorem dL_law_3182 : decode cL_law 3182 = .ok (.iadd, 1) := dqo_96 (kb_49 46 rfl)
theorem dL_law_3183 : decode cL_law 3183 = .ok (.iaload, 1) := dqo_46 (kb_49 47 rfl)
theorem dL_law_3184 : decode cL_law 3184 = .ok (.invokevirtual 320, 3) := dqo_182 1 64 (kb_49 48 rfl) (kb_49 49 rfl) (kb_49 50 rfl)
theorem dL_law_3187 : decode cL_law 3187 = .ok (.istore 6, 2) := dqo_54 6 (kb_49 51 rfl) (kb_49 52 rfl)
theorem dL_law_3189 : decode cL_law 3189 = .ok (.aload_n 2, 1) := dqo_44 (kb_49 53 rfl)
theorem dL_law_3190 : decode cL_law 3190 = .ok (.invokevirtual 181, 3) := dqo_182 0 181 (kb_49 54 rfl) (kb_49 55 rfl) (kb_49 56 rfl)
theorem dL_law_3193 : decode cL_law 3193 = .ok (.iload 5, 2) := dqo_21 5 (kb_49 57 rfl) (kb_49 58 rfl)
theorem dL_law_3195 : decode cL_law 3195 = .ok (.if_icmp .eq 5, 3) := dqo_159 0 5 (by decide) (kb_49 59 rfl) (kb_49 60 rfl) (kb_49 61 rfl)
theorem dL_law_3200 : decode cL_law 3200 = .ok (.iload 5, 2) := dqo_21 5 (kb_50 0 rfl) (kb_50 1 rfl)
theorem dL_law_3202 : decode cL_law 3202 = .ok (.ifCond .ne 16, 3) := dqo_154 0 16 (by decide) (kb_50 2 rfl) (kb_50 3 rfl) (kb_50 4 rfl)
theorem dL_law_3205 : decode cL_law 3205 = .ok (.aload_n 3, 1) := dqo_45 (kb_50 5 rfl)
theorem dL_law_3206 : decode cL_law 3206 = .ok (.getfield 13, 3) := dqo_180 0 13 (kb_50 6 rfl) (kb_50 7 rfl) (kb_50 8 rfl)
theorem dL_law_3209 : decode cL_law 3209 = .ok (.iload 6, 2) := dqo_21 6 (kb_50 9 rfl) (kb_50 10 rfl)
theorem dL_law_3211 : decode cL_law 3211 = .ok (.i2l, 1) := dqo_133 (kb_50 11 rfl)
theorem dL_law_3212 : decode cL_law 3212 = .ok (.lcmp, 1) := dqo_148 (kb_50 12 rfl)
theorem dL_law_3213 : decode cL_law 3213 = .ok (.ifCond .eq 5, 3) := dqo_153 0 5 (by decide) (kb_50 13 rfl) (kb_50 14 rfl) (kb_50 15 rfl)
theorem dL_law_3218 : decode cL_law 3218 = .ok (.goto 238, 3) := dqo_167 0 238 (by decide) (kb_50 18 rfl) (kb_50 19 rfl) (kb_50 20 rfl)
theorem dL_law_3221 : decode cL_law 3221 = .ok (.aload_n 1, 1) := dqo_43 (kb_50 21 rfl)
theorem dL_law_3222 : decode cL_law 3222 = .ok (.aload_n 0, 1) := dqo_42 (kb_50 22 rfl)
theorem dL_law_3223 : decode cL_law 3223 = .ok (.iload 4, 2) := dqo_21 4 (kb_50 23 rfl) (kb_50 24 rfl)
theorem dL_law_3225 : decode cL_law 3225 = .ok (.iconst 1, 1) := dqo_4 (kb_50 25 rfl)
theorem dL_law_3226 : decode cL_law 3226 = .ok (.iadd, 1) := dqo_96 (kb_50 26 rfl)
theorem dL_law_3227 : decode cL_law 3227 = .ok (.iaload, 1) := dqo_46 (kb_50 27 rfl)
theorem dL_law_3228 : decode cL_law 3228 = .ok (.aload_n 0, 1) := dqo_42 (kb_50 28 rfl)
theorem dL_law_3229 : decode cL_law 3229 = .ok (.iload 4, 2) := dqo_21 4 (kb_50 29 rfl) (kb_50 30 rfl)
theorem dL_law_3231 : decode cL_law 3231 = .ok (.iconst 2, 1) := dqo_5 (kb_50 31 rfl)
theorem dL_law_3232 : decode cL_law 3232 = .ok (.iadd, 1) := dqo_96 (kb_50 32 rfl)
theorem dL_law_3233 : decode cL_law 3233 = .ok (.iaload, 1) := dqo_46 (kb_50 33 rfl)
theorem dL_law_3234 : decode cL_law 3234 = .ok (.aload_n 3, 1) := dqo_45 (kb_50 34 rfl)
theorem dL_law_3235 : decode cL_law 3235 = .ok (.invokestatic 321, 3) := dqo_184 1 65 (kb_50 35 rfl) (kb_50 36 rfl) (kb_50 37 rfl)
theorem dL_law_3238 : decode cL_law 3238 = .ok (.istore 5, 2) := dqo_54 5 (kb_50 38 rfl) (kb_50 39 rfl)
theorem dL_law_3240 : decode cL_law 3240 = .ok (.aload_n 2, 1) := dqo_44 (kb_50 40 rfl)
theorem dL_law_3241 : decode cL_law 3241 = .ok (.aload_n 0, 1) := dqo_42 (kb_50 41 rfl)
theorem dL_law_3242 : decode cL_law 3242 = .ok (.iload 4, 2) := dqo_21 4 (kb_50 42 rfl) (kb_50 43 rfl)
theorem dL_law_3244 : decode cL_law 3244 = .ok (.iconst 1, 1) := dqo_4 (kb_50 44 rfl)
theorem dL_law_3245 : decode cL_law 3245 = .ok (.iadd, 1) := dqo_96 (kb_50 45 rfl)
theorem dL_law_3246 : decode cL_law 3246 = .ok (.iaload, 1) := dqo_46 (kb_50 46 rfl)
theorem dL_law_3247 : decode cL_law 3247 = .ok (.aload_n 0, 1) := dqo_42 (kb_50 47 rfl)
theorem dL_law_3248 : decode cL_law 3248 = .ok (.iload 4, 2) := dqo_21 4 (kb_50 48 rfl) (kb_50 49 rfl)
theorem dL_law_3250 : decode cL_law 3250 = .ok (.iconst 2, 1) := dqo_5 (kb_50 50 rfl)
theorem dL_law_3251 : decode cL_law 3251 = .ok (.iadd, 1) := dqo_96 (kb_50 51 rfl)
theorem dL_law_3252 : decode cL_law 3252 = .ok (.iaload, 1) := dqo_46 (kb_50 52 rfl)
theorem dL_law_3253 : decode cL_law 3253 = .ok (.invokevirtual 323, 3) := dqo_182 1 67 (kb_50 53 rfl) (kb_50 54 rfl) (kb_50 55 rfl)
theorem dL_law_3256 : decode cL_law 3256 = .ok (.istore 6, 2) := dqo_54 6 (kb_50 56 rfl) (kb_50 57 rfl)
theorem dL_law_3258 : decode cL_law 3258 = .ok (.aload_n 2, 1) := dqo_44 (kb_50 58 rfl)
theorem dL_law_3259 : decode cL_law 3259 = .ok (.invokevirtual 181, 3) := dqo_182 0 181 (kb_50 59 rfl) (kb_50 60 rfl) (kb_50 61 rfl)
theorem dL_law_3262 : decode cL_law 3262 = .ok (.iload 5, 2) := dqo_21 5 (kb_50 62 rfl) (kb_50 63 rfl)
theorem dL_law_3264 : decode cL_law 3264 = .ok (.if_icmp .eq 5, 3) := dqo_159 0 5 (by decide) (kb_51 0 rfl) (kb_51 1 rfl) (kb_51 2 rfl)
theorem dL_law_3269 : decode cL_law 3269 = .ok (.iload 5, 2) := dqo_21 5 (kb_51 5 rfl) (kb_51 6 rfl)
theorem dL_law_3271 : decode cL_law 3271 = .ok (.ifCond .ne 16, 3) := dqo_154 0 16 (by decide) (kb_51 7 rfl) (kb_51 8 rfl) (kb_51 9 rfl)
theorem dL_law_3274 : decode cL_law 3274 = .ok (.aload_n 3, 1) := dqo_45 (kb_51 10 rfl)
theorem dL_law_3275 : decode cL_law 3275 = .ok (.getfield 13, 3) := dqo_180 0 13 (kb_51 11 rfl) (kb_51 12 rfl) (kb_51 13 rfl)
theorem dL_law_3278 : decode cL_law 3278 = .ok (.iload 6, 2) := dqo_21 6 (kb_51 14 rfl) (kb_51 15 rfl)
theorem dL_law_3280 : decode cL_law 3280 = .ok (.i2l, 1) := dqo_133 (kb_51 16 rfl)
theorem dL_law_3281 : decode cL_law 3281 = .ok (.lcmp, 1) := dqo_148 (kb_51 17 rfl)
theorem dL_law_3282 : decode cL_law 3282 = .ok (.ifCond .eq 5, 3) := dqo_153 0 5 (by decide) (kb_51 18 rfl) (kb_51 19 rfl) (kb_51 20 rfl)
theorem dL_law_3287 : decode cL_law 3287 = .ok (.goto 169, 3) := dqo_167 0 169 (by decide) (kb_51 23 rfl) (kb_51 24 rfl) (kb_51 25 rfl)
theorem dL_law_3290 : decode cL_law 3290 = .ok (.aload_n 1, 1) := dqo_43 (kb_51 26 rfl)
theorem dL_law_3291 : decode cL_law 3291 = .ok (.aload_n 0, 1) := dqo_42 (kb_51 27 rfl)
theorem dL_law_3292 : decode cL_law 3292 = .ok (.iload 4, 2) := dqo_21 4 (kb_51 28 rfl) (kb_51 29 rfl)
theorem dL_law_3294 : decode cL_law 3294 = .ok (.iconst 1, 1) := dqo_4 (kb_51 30 rfl)
theorem dL_law_3295 : decode cL_law 3295 = .ok (.iadd, 1) := dqo_96 (kb_51 31 rfl)
theorem dL_law_3296 : decode cL_law 3296 = .ok (.iaload, 1) := dqo_46 (kb_51 32 rfl)
theorem dL_law_3297 : decode cL_law 3297 = .ok (.aload_n 0, 1) := dqo_42 (kb_51 33 rfl)
theorem dL_law_3298 : decode cL_law 3298 = .ok (.iload 4, 2) := dqo_21 4 (kb_51 34 rfl) (kb_51 35 rfl)
theorem dL_law_3300 : decode cL_law 3300 = .ok (.iconst 2, 1) := dqo_5 (kb_51 36 rfl)
theorem dL_law_3301 : decode cL_law 3301 = .ok (.iadd, 1) := dqo_96 (kb_51 37 rfl)
theorem dL_law_3302 : decode cL_law 3302 = .ok (.iaload, 1) := dqo_46 (kb_51 38 rfl)
theorem dL_law_3303 : decode cL_law 3303 = .ok (.aload_n 3, 1) := dqo_45 (kb_51 39 rfl)
theorem dL_law_3304 : decode cL_law 3304 = .ok (.invokestatic 324, 3) := dqo_184 1 68 (kb_51 40 rfl) (kb_51 41 rfl) (kb_51 42 rfl)
theorem dL_law_3307 : decode cL_law 3307 = .ok (.istore 5, 2) := dqo_54 5 (kb_51 43 rfl) (kb_51 44 rfl)
theorem dL_law_3309 : decode cL_law 3309 = .ok (.aload_n 2, 1) := dqo_44 (kb_51 45 rfl)
theorem dL_law_3310 : decode cL_law 3310 = .ok (.aload_n 0, 1) := dqo_42 (kb_51 46 rfl)
theorem dL_law_3311 : decode cL_law 3311 = .ok (.iload 4, 2) := dqo_21 4 (kb_51 47 rfl) (kb_51 48 rfl)
theorem dL_law_3313 : decode cL_law 3313 = .ok (.iconst 1, 1) := dqo_4 (kb_51 49 rfl)
theorem dL_law_3314 : decode cL_law 3314 = .ok (.iadd, 1) := dqo_96 (kb_51 50 rfl)
theorem dL_law_3315 : decode cL_law 3315 = .ok (.iaload, 1) := dqo_46 (kb_51 51 rfl)
theorem dL_law_3316 : decode cL_law 3316 = .ok (.aload_n 0, 1) := dqo_42 (kb_51 52 rfl)
theorem dL_law_3317 : decode cL_law 3317 = .ok (.iload 4, 2) := dqo_21 4 (kb_51 53 rfl) (kb_51 54 rfl)
theorem dL_law_3319 : decode cL_law 3319 = .ok (.iconst 2, 1) := dqo_5 (kb_51 55 rfl)
theorem dL_law_3320 : decode cL_law 3320 = .ok (.iadd, 1) := dqo_96 (kb_51 56 rfl)
theorem dL_law_3321 : decode cL_law 3321 = .ok (.iaload, 1) := dqo_46 (kb_51 57 rfl)
theorem dL_law_3322 : decode cL_law 3322 = .ok (.invokevirtual 326, 3) := dqo_182 1 70 (kb_51 58 rfl) (kb_51 59 rfl) (kb_51 60 rfl)
theorem dL_law_3325 : decode cL_law 3325 = .ok (.istore 6, 2) := dqo_54 6 (kb_51 61 rfl) (kb_51 62 rfl)
theorem dL_law_3327 : decode cL_law 3327 = .ok (.aload_n 2, 1) := dqo_44 (kb_51 63 rfl)
theorem dL_law_3328 : decode cL_law 3328 = .ok (.invokevirtual 181, 3) := dqo_182 0 181 (kb_52 0 rfl) (kb_52 1 rfl) (kb_52 2 rfl)
theorem dL_law_3331 : decode cL_law 3331 = .ok (.iload 5, 2) := dqo_21 5 (kb_52 3 rfl) (kb_52 4 rfl)
theorem dL_law_3333 : decode cL_law 3333 = .ok (.if_icmp .eq 5, 3) := dqo_159 0 5 (by decide) (kb_52 5 rfl) (kb_52 6 rfl) (kb_52 7 rfl)
theorem dL_law_3338 : decode cL_law 3338 = .ok (.iload 5, 2) := dqo_21 5 (kb_52 10 rfl) (kb_52 11 rfl)
theorem dL_law_3340 : decode cL_law 3340 = .ok (.ifCond .ne 16, 3) := dqo_154 0 16 (by decide) (kb_52 12 rfl) (kb_52 13 rfl) (kb_52 14 rfl)
theorem dL_law_3343 : decode cL_law 3343 = .ok (.aload_n 3, 1) := dqo_45 (kb_52 15 rfl)
theorem dL_law_3344 : decode cL_law 3344 = .ok (.getfield 13, 3) := dqo_180 0 13 (kb_52 16 rfl) (kb_52 17 rfl) (kb_52 18 rfl)
theorem dL_law_3347 : decode cL_law 3347 = .ok (.iload 6, 2) := dqo_21 6 (kb_52 19 rfl) (kb_52 20 rfl)
theorem dL_law_3349 : decode cL_law 3349 = .ok (.i2l, 1) := dqo_133 (kb_52 21 rfl)
theorem dL_law_3350 : decode cL_law 3350 = .ok (.lcmp, 1) := dqo_148 (kb_52 22 rfl)
theorem dL_law_3351 : decode cL_law 3351 = .ok (.ifCond .eq 5, 3) := dqo_153 0 5 (by decide) (kb_52 23 rfl) (kb_52 24 rfl) (kb_52 25 rfl)
theorem dL_law_3356 : decode cL_law 3356 = .ok (.goto 100, 3) := dqo_167 0 100 (by decide) (kb_52 28 rfl) (kb_52 29 rfl) (kb_52 30 rfl)
theorem dL_law_3359 : decode cL_law 3359 = .ok (.aload_n 1, 1) := dqo_43 (kb_52 31 rfl)
theorem dL_law_3360 : decode cL_law 3360 = .ok (.aload_n 0, 1) := dqo_42 (kb_52 32 rfl)
theorem dL_law_3361 : decode cL_law 3361 = .ok (.iload 4, 2) := dqo_21 4 (kb_52 33 rfl) (kb_52 34 rfl)
theorem dL_law_3363 : decode cL_law 3363 = .ok (.iconst 1, 1) := dqo_4 (kb_52 35 rfl)
theorem dL_law_3364 : decode cL_law 3364 = .ok (.iadd, 1) := dqo_96 (kb_52 36 rfl)
theorem dL_law_3365 : decode cL_law 3365 = .ok (.iaload, 1) := dqo_46 (kb_52 37 rfl)
theorem dL_law_3366 : decode cL_law 3366 = .ok (.aload_n 3, 1) := dqo_45 (kb_52 38 rfl)
theorem dL_law_3367 : decode cL_law 3367 = .ok (.invokestatic 327, 3) := dqo_184 1 71 (kb_52 39 rfl) (kb_52 40 rfl) (kb_52 41 rfl)
theorem dL_law_3370 : decode cL_law 3370 = .ok (.istore 5, 2) := dqo_54 5 (kb_52 42 rfl) (kb_52 43 rfl)
theorem dL_law_3372 : decode cL_law 3372 = .ok (.aload_n 2, 1) := dqo_44 (kb_52 44 rfl)
theorem dL_law_3373 : decode cL_law 3373 = .ok (.aload_n 0, 1) := dqo_42 (kb_52 45 rfl)
theorem dL_law_3374 : decode cL_law 3374 = .ok (.iload 4, 2) := dqo_21 4 (kb_52 46 rfl) (kb_52 47 rfl)
theorem dL_law_3376 : decode cL_law 3376 = .ok (.iconst 1, 1) := dqo_4 (kb_52 48 rfl)
theorem dL_law_3377 : decode cL_law 3377 = .ok (.iadd, 1) := dqo_96 (kb_52 49 rfl)
theorem dL_law_3378 : decode cL_law 3378 = .ok (.iaload, 1) := dqo_46 (kb_52 50 rfl)
theorem dL_law_3379 : decode cL_law 3379 = .ok (.invokevirtual 329, 3) := dqo_182 1 73 (kb_52 51 rfl) (kb_52 52 rfl) (kb_52 53 rfl)
theorem dL_law_3382 : decode cL_law 3382 = .ok (.istore 6, 2) := dqo_54 6 (kb_52 54 rfl) (kb_52 55 rfl)
theorem dL_law_3384 : decode cL_law 3384 = .ok (.aload_n 2, 1) := dqo_44 (kb_52 56 rfl)
theorem dL_law_3385 : decode cL_law 3385 = .ok (.invokevirtual 181, 3) := dqo_182 0 181 (kb_52 57 rfl) (kb_52 58 rfl) (kb_52 59 rfl)
theorem dL_law_3388 : decode cL_law 3388 = .ok (.iload 5, 2) := dqo_21 5 (kb_52 60 rfl) (kb_52 61 rfl)
theorem dL_law_3390 : decode cL_law 3390 = .ok (.if_icmp .eq 5, 3) := dqo_159 0 5 (by decide) (kb_52 62 rfl) (kb_52 63 rfl) (kb_53 0 rfl)
theorem dL_law_3395 : decode cL_law 3395 = .ok (.iload 5, 2) := dqo_21 5 (kb_53 3 rfl) (kb_53 4 rfl)
theorem dL_law_3397 : decode cL_law 3397 = .ok (.ifCond .ne 16, 3) := dqo_154 0 16 (by decide) (kb_53 5 rfl) (kb_53 6 rfl) (kb_53 7 rfl)
theorem dL_law_3400 : decode cL_law 3400 = .ok (.aload_n 3, 1) := dqo_45 (kb_53 8 rfl)
theorem dL_law_3401 : decode cL_law 3401 = .ok (.getfield 13, 3) := dqo_180 0 13 (kb_53 9 rfl) (kb_53 10 rfl) (kb_53 11 rfl)
theorem dL_law_3404 : decode cL_law 3404 = .ok (.iload 6, 2) := dqo_21 6 (kb_53 12 rfl) (kb_53 13 rfl)
theorem dL_law_3406 : decode cL_law 3406 = .ok (.i2l, 1) := dqo_133 (kb_53 14 rfl)
theorem dL_law_3407 : decode cL_law 3407 = .ok (.lcmp, 1) := dqo_148 (kb_53 15 rfl)
theorem dL_law_3408 : decode cL_law 3408 = .ok (.ifCond .eq 5, 3) := dqo_153 0 5 (by decide) (kb_53 16 rfl) (kb_53 17 rfl) (kb_53 18 rfl)
theorem dL_law_3413 : decode cL_law 3413 = .ok (.goto 43, 3) := dqo_167 0 43 (by decide) (kb_53 21 rfl) (kb_53 22 rfl) (kb_53 23 rfl)
theorem dL_law_3416 : decode cL_law 3416 = .ok (.aload_n 1, 1) := dqo_43 (kb_53 24 rfl)
theorem dL_law_3417 : decode cL_law 3417 = .ok (.invokevirtual 330, 3) := dqo_182 1 74 (kb_53 25 rfl) (kb_53 26 rfl) (kb_53 27 rfl)
theorem dL_law_3420 : decode cL_law 3420 = .ok (.aload_n 2, 1) := dqo_44 (kb_53 28 rfl)
theorem dL_law_3421 : decode cL_law 3421 = .ok (.invokevirtual 333, 3) := dqo_182 1 77 (kb_53 29 rfl) (kb_53 30 rfl) (kb_53 31 rfl)
theorem dL_law_3424 : decode cL_law 3424 = .ok (.if_icmp .eq 32, 3) := dqo_159 0 32 (by decide) (kb_53 32 rfl) (kb_53 33 rfl) (kb_53 34 rfl)
theorem dL_law_3429 : decode cL_law 3429 = .ok (.aload_n 1, 1) := dqo_43 (kb_53 37 rfl)
theorem dL_law_3430 : decode cL_law 3430 = .ok (.invokevirtual 334, 3) := dqo_182 1 78 (kb_53 38 rfl) (kb_53 39 rfl) (kb_53 40 rfl)
theorem dL_law_3433 : decode cL_law 3433 = .ok (.aload_n 2, 1) := dqo_44 (kb_53 41 rfl)
theorem dL_law_3434 : decode cL_law 3434 = .ok (.invokevirtual 338, 3) := dqo_182 1 82 (kb_53 42 rfl) (kb_53 43 rfl) (kb_53 44 rfl)
theorem dL_law_3437 : decode cL_law 3437 = .ok (.if_icmp .eq 19, 3) := dqo_159 0 19 (by decide) (kb_53 45 rfl) (kb_53 46 rfl) (kb_53 47 rfl)
theorem dL_law_3442 : decode cL_law 3442 = .ok (.aload_n 1, 1) := dqo_43 (kb_53 50 rfl)
theorem dL_law_3443 : decode cL_law 3443 = .ok (.invokevirtual 339, 3) := dqo_182 1 83 (kb_53 51 rfl) (kb_53 52 rfl) (kb_53 53 rfl)
theorem dL_law_3446 : decode cL_law 3446 = .ok (.aload_n 2, 1) := dqo_44 (kb_53 54 rfl)
theorem dL_law_3447 : decode cL_law 3447 = .ok (.invokevirtual 343, 3) := dqo_182 1 87 (kb_53 55 rfl) (kb_53 56 rfl) (kb_53 57 rfl)
theorem dL_law_3450 : decode cL_law 3450 = .ok (.lcmp, 1) := dqo_148 (kb_53 58 rfl)
theorem dL_law_3451 : decode cL_law 3451 = .ok (.ifCond .eq 5, 3) := dqo_153 0 5 (by decide) (kb_53 59 rfl) (kb_53 60 rfl) (kb_53 61 rfl)
theorem S_ofWindow {p : Program} {l : Launch} {e : Env} {s : State} {m : MethodId} {args : Array Value} {below : List Frame} {meth : Method} {c : Code} {D : va_G} {cy : Nat → ClassId} {A : Nat → Prop} {Q : State → Prop} {X : (Nat → Prop) → State → Heap → Prop} {aK aV : Nat → Nat} {tO tT : Nat} {gO gT : Nat → Int32} {a : Nat → Nat → Nat} {ba : Nat → Nat} {o b L i cells slots : Nat} {xs : Nat → Int32} {w : va_W} (C : Fg p s m args meth c cL_law 7 RL D cy A) (hE : X A s s.heap) (hT : EnvT X cy aK aV tO tT gO gT) (hN : EnvN X) (hl : l.stackTraces = false) (hx : va_X b L xs s s.heap) (hbl : b < s.heap.size) (hbA : ¬ A b) (hi : i + 5 ≤ L) (hL : L ≤ 2560) (hc : cells + 500 ≤ room_1.cells) (hs : slots + 10000 ≤ room_1.slots) (hJ : JW cy a ba o w) (kk : ∀ w' : va_W, JW cy a ba o w' → vW p l e room_1 s m args below meth c D vwCl A Q 7 (cells + 500) (slots + 10000) w' [some (.ref b), some (.ref (a 0 0)), some (.ref (ba 9)), some (.ref o), some (.int (nI i)), none, none] 3456 []) : vW p l e room_1 s m args below meth c D vwCl A Q 7 cells slots w [some (.ref b), some (.ref (a 0 0)), some (.ref (ba 9)), some (.ref o), some (.int (nI i)), none, none] 2774 [] := by
  have hX := hT.1.1
  obtain ⟨f, r, hf, hq, kn, ra, th, sm, n, v, hC, hB, hM, rfl⟩ := hJ
  refine r_aload_n C dL_law_2774 rfl ?_
  refine r_aload_n C dL_law_2775 rfl ?_
  refine r_iload C dL_law_2776 rfl ?_
  refine r_iconst (v := nI 1) C dL_law_2778 (by decide) ?_
  refine r_iaddN C dL_law_2779 ?_
  refine r_sld C hx hbl hbA (show i + 1 < L by omega) (by omega) dL_law_2780 ?_
  refine r_aload_n C dL_law_2781 rfl ?_
  refine r_iload C dL_law_2782 rfl ?_
  refine r_iconst (v := nI 2) C dL_law_2784 (by decide) ?_
  refine r_iaddN C dL_law_2785 ?_
  refine r_sld C hx hbl hbA (show i + 2 < L by omega) (by omega) dL_law_2786 ?_
  refine r_aload_n C dL_law_2787 rfl ?_
  refine c_SH (st := []) hX.1.stb C hE (W_ofWindow hX.1 hN hC hB hM (P_ofWindow hX hl hC hB hM (xs (i + 1)) (xs (i + 2)))) pk_L_ofWindow qm_L_300 rfl rfl (Nat.le_of_ble_eq_true rfl) dL_law_2788 ⟨(Nat.le_of_ble_eq_true rfl), (Nat.le_of_ble_eq_true rfl)⟩ ⟨show cells + 1 ≤ room_1.cells by omega, show slots + 6 ≤ room_1.slots by omega⟩ (fun v9 w9 h9 => ?_) (fun _ h9 => h9.elim)
  obtain ⟨f', r', k, n1, rfl, rfl, hf', hq', n2, hC', hB', hM', hk0, hk4, h2⟩ := h9
  refine r_istore C dL_law_2791 (by decide) rfl ?_
  refine r_aload_n C dL_law_2793 rfl ?_
  refine r_aload_n C dL_law_2794 rfl ?_
  refine r_iload C dL_law_2795 rfl ?_
  refine r_iconst (v := nI 1) C dL_law_2797 (by decide) ?_
  refine r_iaddN C dL_law_2798 ?_
  refine r_sld C hx hbl hbA (show i + 1 < L by omega) (by omega) dL_law_2799 ?_
  refine r_aload_n C dL_law_2800 rfl ?_
  refine r_iload C dL_law_2801 rfl ?_
  refine r_iconst (v := nI 2) C dL_law_2803 (by decide) ?_
  refine r_iaddN C dL_law_2804 ?_
  refine r_sld C hx hbl hbA (show i + 2 < L by omega) (by omega) dL_law_2805 ?_
  refine t_swap3 ?_
  refine c_V (st := []) hX.1.stb C hE (h2 _) pk_X4_ofWindow qm_L_302 0 8 rfl rfl wm_0 rfl rfl (Nat.le_of_ble_eq_true rfl) dL_law_2806 ⟨(Nat.le_of_ble_eq_true rfl), (Nat.le_of_ble_eq_true rfl)⟩ ⟨show cells + 1 + 4 ≤ room_1.cells by omega, show slots + 6 + 48 ≤ room_1.slots by omega⟩ (fun v9 w9 h9 => ?_) (fun _ h9 => h9.elim)
  obtain ⟨ra9, rfl, rfl⟩ := h9
  refine r_istore C dL_law_2809 (by decide) rfl ?_
  refine r_aload_n C dL_law_2811 rfl ?_
  refine d_V (st := []) hX.1.stb C hE (D_thrown hX) pk_X4_thrown qm_L_181 0 8 rfl rfl wm_0 rfl rfl (Nat.le_of_ble_eq_true rfl) dL_law_2812 ⟨(Nat.le_of_ble_eq_true rfl), (Nat.le_of_ble_eq_true rfl)⟩ ⟨show cells + 1 + 4 + 0 ≤ room_1.cells by omega, show slots + 6 + 48 + 0 ≤ room_1.slots by omega⟩ ?_
  refine r_iload C dL_law_2815 rfl ?_
  refine r_ic_eq (tgt := 2822) C dL_law_2817 (by decide) (fun _ => ?_) (fun hne => absurd rfl hne)
  refine t_swap3 ?_
  refine r_iload C dL_law_2822 rfl ?_
  refine r_ifN_ne (a := k) (tgt := 2840) C (by omega) dL_law_2824 (by decide) (fun hk => ?_) (fun hk => ?_)
  · skip
    refine r_goto (tgt := 3456) C dL_law_2840 (by decide) ?_
    refine r_widen (k := cells + 500) (n := slots + 10000) (show cells + 1 + 4 + 0 ≤ cells + 500 by omega) (show slots + 6 + 48 + 0 ≤ slots + 10000 by omega) ?_
    refine r_drop 5 ?_
    refine r_drop 6 ?_
    exact kk _ ⟨f', r', hf', hq', kn, ra9, _, sm, _, _, hC', hB', hM', rfl⟩
  · subst hk
    have e1 := hk0 rfl
    subst e1
    refine r_aload_n C dL_law_2827 rfl ?_
    refine g_getN hX.1 C hE qu_X3 (ci := 7) rfl 38 outo_at 0 (by decide) qn_L_13 rfl rfl dL_law_2828 ?_
    refine r_iload C dL_law_2831 rfl ?_
    refine r_i2l C dL_law_2833 ?_
    refine r_lcmpE C dL_law_2834 ?_
    refine r_if_eq (tgt := 2840) C dL_law_2835 (by decide) (fun _ => ?_) (fun hne => absurd rfl hne)
    refine r_goto (tgt := 3456) C dL_law_2840 (by decide) ?_
    refine r_widen (k := cells + 500) (n := slots + 10000) (show cells + 1 + 4 + 0 ≤ cells + 500 by omega) (show slots + 6 + 48 + 0 ≤ slots + 10000 by omega) ?_
    refine r_drop 5 ?_
    refine r_drop 6 ?_
    exact kk _ ⟨f', r', hf', hq', kn, ra9, _, sm, _, _, hC', hB', hM', rfl⟩
theorem S_open {p : Program} {l : Launch} {e : Env} {s : State} {m : MethodId} {args : Array Value} {below : List Frame} {meth : Method} {c : Code} {D : va_G} {cy : Nat → ClassId} {A : Nat → Prop} {Q : State → Prop} {X : (Nat → Prop) → State → Heap → Prop} {aK aV : Nat → Nat} {tO tT : Nat} {gO gT : Nat → Int32} {a : Nat → Nat → Nat} {ba : Nat → Nat} {o b L i cells slots : Nat} {xs : Nat → Int32} {w : va_W} (C : Fg p s m args meth c cL_law 7 RL D cy A) (hE : X A s s.heap) (hT : EnvT X cy aK aV tO tT gO gT) (hN : EnvN X) (hl : l.stackTraces = false) (hx : va_X b L xs s s.heap) (hbl : b < s.heap.size) (hbA : ¬ A b) (hi : i + 5 ≤ L) (hL : L ≤ 2560) (hc : cells + 500 ≤ room_1.cells) (hs : slots + 10000 ≤ room_1.slots) (hJ : JW cy a ba o w) (kk : ∀ w' : va_W, JW cy a ba o w' → vW p l e room_1 s m args below meth c D vwCl A Q 7 (cells + 500) (slots + 10000) w' [some (.ref b), some (.ref (a 0 0)), some (.ref (ba 9)), some (.ref o), some (.int (nI i)), none, none] 3456 []) : vW p l e room_1 s m args below meth c D vwCl A Q 7 cells slots w [some (.ref b), some (.ref (a 0 0)), some (.ref (ba 9)), some (.ref o), some (.int (nI i)), none, none] 2843 [] := by
  have hX := hT.1.1
  obtain ⟨f, r, hf, hq, kn, ra, th, sm, n, v, hC, hB, hM, rfl⟩ := hJ
  refine r_aload_n C dL_law_2843 rfl ?_
  refine r_aload_n C dL_law_2844 rfl ?_
  refine r_iload C dL_law_2845 rfl ?_
  refine r_iconst (v := nI 1) C dL_law_2847 (by decide) ?_
  refine r_iaddN C dL_law_2848 ?_
  refine r_sld C hx hbl hbA (show i + 1 < L by omega) (by omega) dL_law_2849 ?_
  refine r_aload_n C dL_law_2850 rfl ?_
  refine r_iload C dL_law_2851 rfl ?_
  refine r_iconst (v := nI 2) C dL_law_2853 (by decide) ?_
  refine r_iaddN C dL_law_2854 ?_
  refine r_sld C hx hbl hbA (show i + 2 < L by omega) (by omega) dL_law_2855 ?_
  refine r_aload_n C dL_law_2856 rfl ?_
  refine r_iload C dL_law_2857 rfl ?_
  refine r_iconst (v := nI 3) C dL_law_2859 (by decide) ?_
  refine r_iaddN C dL_law_2860 ?_
  refine r_sld C hx hbl hbA (show i + 3 < L by omega) (by omega) dL_law_2861 ?_
  refine r_aload_n C dL_law_2862 rfl ?_
  refine c_SH (st := []) hX.1.stb C hE (W_open hX.1 hN hC hB hM (P_open hX hl hC hB hM (xs (i + 1)) (xs (i + 2)) (xs (i + 3)))) pk_L_open qm_L_303 rfl rfl (Nat.le_of_ble_eq_true rfl) dL_law_2863 ⟨(Nat.le_of_ble_eq_true rfl), (Nat.le_of_ble_eq_true rfl)⟩ ⟨show cells + 1 ≤ room_1.cells by omega, show slots + 6 ≤ room_1.slots by omega⟩ (fun v9 w9 h9 => ?_) (fun _ h9 => h9.elim)
  obtain ⟨f', r', k, n1, rfl, rfl, hf', hq', n2, hC', hB', hM', hk0, hk4, h2⟩ := h9
  refine r_istore C dL_law_2866 (by decide) rfl ?_
  refine r_aload_n C dL_law_2868 rfl ?_
  refine r_aload_n C dL_law_2869 rfl ?_
  refine r_iload C dL_law_2870 rfl ?_
  refine r_iconst (v := nI 1) C dL_law_2872 (by decide) ?_
  refine r_iaddN C dL_law_2873 ?_
  refine r_sld C hx hbl hbA (show i + 1 < L by omega) (by omega) dL_law_2874 ?_
  refine r_aload_n C dL_law_2875 rfl ?_
  refine r_iload C dL_law_2876 rfl ?_
  refine r_iconst (v := nI 2) C dL_law_2878 (by decide) ?_
  refine r_iaddN C dL_law_2879 ?_
  refine r_sld C hx hbl hbA (show i + 2 < L by omega) (by omega) dL_law_2880 ?_
  refine r_aload_n C dL_law_2881 rfl ?_
  refine r_iload C dL_law_2882 rfl ?_
  refine r_iconst (v := nI 3) C dL_law_2884 (by decide) ?_
  refine r_iaddN C dL_law_2885 ?_
  refine r_sld C hx hbl hbA (show i + 3 < L by omega) (by omega) dL_law_2886 ?_
  refine t_swap3 ?_
  refine c_V (st := []) hX.1.stb C hE (h2 _) pk_X4_open qm_L_305 0 8 rfl rfl wm_0 rfl rfl (Nat.le_of_ble_eq_true rfl) dL_law_2887 ⟨(Nat.le_of_ble_eq_true rfl), (Nat.le_of_ble_eq_true rfl)⟩ ⟨show cells + 1 + 4 ≤ room_1.cells by omega, show slots + 6 + 48 ≤ room_1.slots by omega⟩ (fun v9 w9 h9 => ?_) (fun _ h9 => h9.elim)
  obtain ⟨ra9, rfl, rfl⟩ := h9
  refine r_istore C dL_law_2890 (by decide) rfl ?_
  refine r_aload_n C dL_law_2892 rfl ?_
  refine d_V (st := []) hX.1.stb C hE (D_thrown hX) pk_X4_thrown qm_L_181 0 8 rfl rfl wm_0 rfl rfl (Nat.le_of_ble_eq_true rfl) dL_law_2893 ⟨(Nat.le_of_ble_eq_true rfl), (Nat.le_of_ble_eq_true rfl)⟩ ⟨show cells + 1 + 4 + 0 ≤ room_1.cells by omega, show slots + 6 + 48 + 0 ≤ room_1.slots by omega⟩ ?_
  refine r_iload C dL_law_2896 rfl ?_
  refine r_ic_eq (tgt := 2903) C dL_law_2898 (by decide) (fun _ => ?_) (fun hne => absurd rfl hne)
  refine t_swap3 ?_
  refine r_iload C dL_law_2903 rfl ?_
  refine r_ifN_ne (a := k) (tgt := 2921) C (by omega) dL_law_2905 (by decide) (fun hk => ?_) (fun hk => ?_)
  · skip
    refine r_goto (tgt := 3456) C dL_law_2921 (by decide) ?_
    refine r_widen (k := cells + 500) (n := slots + 10000) (show cells + 1 + 4 + 0 ≤ cells + 500 by omega) (show slots + 6 + 48 + 0 ≤ slots + 10000 by omega) ?_
    refine r_drop 5 ?_
    refine r_drop 6 ?_
    exact kk _ ⟨f', r', hf', hq', kn, ra9, _, sm, _, _, hC', hB', hM', rfl⟩
  · subst hk
    have e1 := hk0 rfl
    subst e1
    refine r_aload_n C dL_law_2908 rfl ?_
    refine g_getN hX.1 C hE qu_X3 (ci := 7) rfl 38 outo_at 0 (by decide) qn_L_13 rfl rfl dL_law_2909 ?_
    refine r_iload C dL_law_2912 rfl ?_
    refine r_i2l C dL_law_2914 ?_
    refine r_lcmpE C dL_law_2915 ?_
    refine r_if_eq (tgt := 2921) C dL_law_2916 (by decide) (fun _ => ?_) (fun hne => absurd rfl hne)
    refine r_goto (tgt := 3456) C dL_law_2921 (by decide) ?_
    refine r_widen (k := cells + 500) (n := slots + 10000) (show cells + 1 + 4 + 0 ≤ cells + 500 by omega) (show slots + 6 + 48 + 0 ≤ slots + 10000 by omega) ?_
    refine r_drop 5 ?_
    refine r_drop 6 ?_
    exact kk _ ⟨f', r', hf', hq', kn, ra9, _, sm, _, _, hC', hB', hM', rfl⟩
theorem S_shut {p : Program} {l : Launch} {e : Env} {s : State} {m : MethodId} {args : Array Value} {below : List Frame} {meth : Method} {c : Code} {D : va_G} {cy : Nat → ClassId} {A : Nat → Prop} {Q : State → Prop} {X : (Nat → Prop) → State → Heap → Prop} {aK aV : Nat → Nat} {tO tT : Nat} {gO gT : Nat → Int32} {a : Nat → Nat → Nat} {ba : Nat → Nat} {o b L i cells slots : Nat} {xs : Nat → Int32} {w : va_W} (C : Fg p s m args meth c cL_law 7 RL D cy A) (hE : X A s s.heap) (hT : EnvT X cy aK aV tO tT gO gT) (hN : EnvN X) (hl : l.stackTraces = false) (hx : va_X b L xs s s.heap) (hbl : b < s.heap.size) (hbA : ¬ A b) (hi : i + 5 ≤ L) (hL : L ≤ 2560) (hc : cells + 500 ≤ room_1.cells) (hs : slots + 10000 ≤ room_1.slots) (hJ : JW cy a ba o w) (kk : ∀ w' : va_W, JW cy a ba o w' → vW p l e room_1 s m args below meth c D vwCl A Q 7 (cells + 500) (slots + 10000) w' [some (.ref b), some (.ref (a 0 0)), some (.ref (ba 9)), some (.ref o), some (.int (nI i)), none, none] 3456 []) : vW p l e room_1 s m args below meth c D vwCl A Q 7 cells slots w [some (.ref b), some (.ref (a 0 0)), some (.ref (ba 9)), some (.ref o), some (.int (nI i)), none, none] 2924 [] := by
  have hX := hT.1.1
  obtain ⟨f, r, hf, hq, kn, ra, th, sm, n, v, hC, hB, hM, rfl⟩ := hJ
  refine r_aload_n C dL_law_2924 rfl ?_
  refine r_aload_n C dL_law_2925 rfl ?_
  refine r_iload C dL_law_2926 rfl ?_
  refine r_iconst (v := nI 1) C dL_law_2928 (by decide) ?_
  refine r_iaddN C dL_law_2929 ?_
  refine r_sld C hx hbl hbA (show i + 1 < L by omega) (by omega) dL_law_2930 ?_
  refine r_aload_n C dL_law_2931 rfl ?_
  refine c_SH (st := []) hX.1.stb C hE (W_shut hX.1 hN hC hB hM (P_shut hX hl hC hB hM (xs (i + 1)))) pk_L_shut qm_L_306 rfl rfl (Nat.le_of_ble_eq_true rfl) dL_law_2932 ⟨(Nat.le_of_ble_eq_true rfl), (Nat.le_of_ble_eq_true rfl)⟩ ⟨show cells + 1 ≤ room_1.cells by omega, show slots + 6 ≤ room_1.slots by omega⟩ (fun v9 w9 h9 => ?_) (fun _ h9 => h9.elim)
  obtain ⟨f', r', k, n1, rfl, rfl, hf', hq', n2, hC', hB', hM', hk0, hk4, h2⟩ := h9
  refine r_istore C dL_law_2935 (by decide) rfl ?_
  refine r_aload_n C dL_law_2937 rfl ?_
  refine r_aload_n C dL_law_2938 rfl ?_
  refine r_iload C dL_law_2939 rfl ?_
  refine r_iconst (v := nI 1) C dL_law_2941 (by decide) ?_
  refine r_iaddN C dL_law_2942 ?_
  refine r_sld C hx hbl hbA (show i + 1 < L by omega) (by omega) dL_law_2943 ?_
  refine t_swap3 ?_
  refine c_V (st := []) hX.1.stb C hE (h2 _) pk_X4_shut qm_L_308 0 8 rfl rfl wm_0 rfl rfl (Nat.le_of_ble_eq_true rfl) dL_law_2944 ⟨(Nat.le_of_ble_eq_true rfl), (Nat.le_of_ble_eq_true rfl)⟩ ⟨show cells + 1 + 4 ≤ room_1.cells by omega, show slots + 6 + 48 ≤ room_1.slots by omega⟩ (fun v9 w9 h9 => ?_) (fun _ h9 => h9.elim)
  obtain ⟨ra9, rfl, rfl⟩ := h9
  refine r_istore C dL_law_2947 (by decide) rfl ?_
  refine r_aload_n C dL_law_2949 rfl ?_
  refine d_V (st := []) hX.1.stb C hE (D_thrown hX) pk_X4_thrown qm_L_181 0 8 rfl rfl wm_0 rfl rfl (Nat.le_of_ble_eq_true rfl) dL_law_2950 ⟨(Nat.le_of_ble_eq_true rfl), (Nat.le_of_ble_eq_true rfl)⟩ ⟨show cells + 1 + 4 + 0 ≤ room_1.cells by omega, show slots + 6 + 48 + 0 ≤ room_1.slots by omega⟩ ?_
  refine r_iload C dL_law_2953 rfl ?_
  refine r_ic_eq (tgt := 2960) C dL_law_2955 (by decide) (fun _ => ?_) (fun hne => absurd rfl hne)
  refine t_swap3 ?_
  refine r_iload C dL_law_2960 rfl ?_
  refine r_ifN_ne (a := k) (tgt := 2978) C (by omega) dL_law_2962 (by decide) (fun hk => ?_) (fun hk => ?_)
  · skip
    refine r_goto (tgt := 3456) C dL_law_2978 (by decide) ?_
    refine r_widen (k := cells + 500) (n := slots + 10000) (show cells + 1 + 4 + 0 ≤ cells + 500 by omega) (show slots + 6 + 48 + 0 ≤ slots + 10000 by omega) ?_
    refine r_drop 5 ?_
    refine r_drop 6 ?_
    exact kk _ ⟨f', r', hf', hq', kn, ra9, _, sm, _, _, hC', hB', hM', rfl⟩
  · subst hk
    have e1 := hk0 rfl
    subst e1
    refine r_aload_n C dL_law_2965 rfl ?_
    refine g_getN hX.1 C hE qu_X3 (ci := 7) rfl 38 outo_at 0 (by decide) qn_L_13 rfl rfl dL_law_2966 ?_
    refine r_iload C dL_law_2969 rfl ?_
    refine r_i2l C dL_law_2971 ?_
    refine r_lcmpE C dL_law_2972 ?_
    refine r_if_eq (tgt := 2978) C dL_law_2973 (by decide) (fun _ => ?_) (fun hne => absurd rfl hne)
    refine r_goto (tgt := 3456) C dL_law_2978 (by decide) ?_
    refine r_widen (k := cells + 500) (n := slots + 10000) (show cells + 1 + 4 + 0 ≤ cells + 500 by omega) (show slots + 6 + 48 + 0 ≤ slots + 10000 by omega) ?_
    refine r_drop 5 ?_
    refine r_drop 6 ?_
    exact kk _ ⟨f', r', hf', hq', kn, ra9, _, sm, _, _, hC', hB', hM', rfl⟩
theorem S_next {p : Program} {l : Launch} {e : Env} {s : State} {m : MethodId} {args : Array Value} {below : List Frame} {meth : Method} {c : Code} {D : va_G} {cy : Nat → ClassId} {A : Nat → Prop} {Q : State → Prop} {X : (Nat → Prop) → State → Heap → Prop} {aK aV : Nat → Nat} {tO tT : Nat} {gO gT : Nat → Int32} {a : Nat → Nat → Nat} {ba : Nat → Nat} {o b L i cells slots : Nat} {xs : Nat → Int32} {w : va_W} (C : Fg p s m args meth c cL_law 7 RL D cy A) (hE : X A s s.heap) (hT : EnvT X cy aK aV tO tT gO gT) (hN : EnvN X) (hl : l.stackTraces = false) (hx : va_X b L xs s s.heap) (hbl : b < s.heap.size) (hbA : ¬ A b) (hi : i + 5 ≤ L) (hL : L ≤ 2560) (hc : cells + 500 ≤ room_1.cells) (hs : slots + 10000 ≤ room_1.slots) (hJ : JW cy a ba o w) (kk : ∀ w' : va_W, JW cy a ba o w' → vW p l e room_1 s m args below meth c D vwCl A Q 7 (cells + 500) (slots + 10000) w' [some (.ref b), some (.ref (a 0 0)), some (.ref (ba 9)), some (.ref o), some (.int (nI i)), none, none] 3456 []) : vW p l e room_1 s m args below meth c D vwCl A Q 7 cells slots w [some (.ref b), some (.ref (a 0 0)), some (.ref (ba 9)), some (.ref o), some (.int (nI i)), none, none] 2981 [] := by
  have hX := hT.1.1
  obtain ⟨f, r, hf, hq, kn, ra, th, sm, n, v, hC, hB, hM, rfl⟩ := hJ
  refine r_aload_n C dL_law_2981 rfl ?_
  refine r_aload_n C dL_law_2982 rfl ?_
  refine r_iload C dL_law_2983 rfl ?_
  refine r_iconst (v := nI 1) C dL_law_2985 (by decide) ?_
  refine r_iaddN C dL_law_2986 ?_
  refine r_sld C hx hbl hbA (show i + 1 < L by omega) (by omega) dL_law_2987 ?_
  refine r_aload_n C dL_law_2988 rfl ?_
  refine c_SH (st := []) hX.1.stb C hE (W_next hX.1 hN hC hB hM (P_next hX hl hC hB hM (xs (i + 1)))) pk_L_next qm_L_309 rfl rfl (Nat.le_of_ble_eq_true rfl) dL_law_2989 ⟨(Nat.le_of_ble_eq_true rfl), (Nat.le_of_ble_eq_true rfl)⟩ ⟨show cells + 1 ≤ room_1.cells by omega, show slots + 6 ≤ room_1.slots by omega⟩ (fun v9 w9 h9 => ?_) (fun _ h9 => h9.elim)
  obtain ⟨f', r', k, n1, rfl, rfl, hf', hq', n2, hC', hB', hM', hk0, hk4, h2⟩ := h9
  refine r_istore C dL_law_2992 (by decide) rfl ?_
  refine r_aload_n C dL_law_2994 rfl ?_
  refine r_aload_n C dL_law_2995 rfl ?_
  refine r_iload C dL_law_2996 rfl ?_
  refine r_iconst (v := nI 1) C dL_law_2998 (by decide) ?_
  refine r_iaddN C dL_law_2999 ?_
  refine r_sld C hx hbl hbA (show i + 1 < L by omega) (by omega) dL_law_3000 ?_
  refine t_swap3 ?_
  refine c_V (st := []) hX.1.stb C hE (h2 _) pk_X4_next qm_L_311 0 8 rfl rfl wm_0 rfl rfl (Nat.le_of_ble_eq_true rfl) dL_law_3001 ⟨(Nat.le_of_ble_eq_true rfl), (Nat.le_of_ble_eq_true rfl)⟩ ⟨show cells + 1 + 4 ≤ room_1.cells by omega, show slots + 6 + 48 ≤ room_1.slots by omega⟩ (fun v9 w9 h9 => ?_) (fun _ h9 => h9.elim)
  obtain ⟨ra9, rfl, rfl⟩ := h9
  refine r_istore C dL_law_3004 (by decide) rfl ?_
  refine r_aload_n C dL_law_3006 rfl ?_
  refine d_V (st := []) hX.1.stb C hE (D_thrown hX) pk_X4_thrown qm_L_181 0 8 rfl rfl wm_0 rfl rfl (Nat.le_of_ble_eq_true rfl) dL_law_3007 ⟨(Nat.le_of_ble_eq_true rfl), (Nat.le_of_ble_eq_true rfl)⟩ ⟨show cells + 1 + 4 + 0 ≤ room_1.cells by omega, show slots + 6 + 48 + 0 ≤ room_1.slots by omega⟩ ?_
  refine r_iload C dL_law_3010 rfl ?_
  refine r_ic_eq (tgt := 3017) C dL_law_3012 (by decide) (fun _ => ?_) (fun hne => absurd rfl hne)
  refine t_swap3 ?_
  refine r_iload C dL_law_3017 rfl ?_
  refine r_ifN_ne (a := k) (tgt := 3035) C (by omega) dL_law_3019 (by decide) (fun hk => ?_) (fun hk => ?_)
  · skip
    refine r_goto (tgt := 3456) C dL_law_3035 (by decide) ?_
    refine r_widen (k := cells + 500) (n := slots + 10000) (show cells + 1 + 4 + 0 ≤ cells + 500 by omega) (show slots + 6 + 48 + 0 ≤ slots + 10000 by omega) ?_
    refine r_drop 5 ?_
    refine r_drop 6 ?_
    exact kk _ ⟨f', r', hf', hq', kn, ra9, _, sm, _, _, hC', hB', hM', rfl⟩
  · subst hk
    have e1 := hk0 rfl
    subst e1
    refine r_aload_n C dL_law_3022 rfl ?_
    refine g_getN hX.1 C hE qu_X3 (ci := 7) rfl 38 outo_at 0 (by decide) qn_L_13 rfl rfl dL_law_3023 ?_
    refine r_iload C dL_law_3026 rfl ?_
    refine r_i2l C dL_law_3028 ?_
    refine r_lcmpE C dL_law_3029 ?_
    refine r_if_eq (tgt := 3035) C dL_law_3030 (by decide) (fun _ => ?_) (fun hne => absurd rfl hne)
    refine r_goto (tgt := 3456) C dL_law_3035 (by decide) ?_
    refine r_widen (k := cells + 500) (n := slots + 10000) (show cells + 1 + 4 + 0 ≤ cells + 500 by omega) (show slots + 6 + 48 + 0 ≤ slots + 10000 by omega) ?_
    refine r_drop 5 ?_
    refine r_drop 6 ?_
    exact kk _ ⟨f', r', hf', hq', kn, ra9, _, sm, _, _, hC', hB', hM', rfl⟩
theorem S_previous {p : Program} {l : Launch} {e : Env} {s : State} {m : MethodId} {args : Array Value} {below : List Frame} {meth : Method} {c : Code} {D : va_G} {cy : Nat → ClassId} {A : Nat → Prop} {Q : State → Prop} {X : (Nat → Prop) → State → Heap → Prop} {aK aV : Nat → Nat} {tO tT : Nat} {gO gT : Nat → Int32} {a : Nat → Nat → Nat} {ba : Nat → Nat} {o b L i cells slots : Nat} {xs : Nat → Int32} {w : va_W} (C : Fg p s m args meth c cL_law 7 RL D cy A) (hE : X A s s.heap) (hT : EnvT X cy aK aV tO tT gO gT) (hN : EnvN X) (hl : l.stackTraces = false) (hx : va_X b L xs s s.heap) (hbl : b < s.heap.size) (hbA : ¬ A b) (hi : i + 5 ≤ L) (hL : L ≤ 2560) (hc : cells + 500 ≤ room_1.cells) (hs : slots + 10000 ≤ room_1.slots) (hJ : JW cy a ba o w) (kk : ∀ w' : va_W, JW cy a ba o w' → vW p l e room_1 s m args below meth c D vwCl A Q 7 (cells + 500) (slots + 10000) w' [some (.ref b), some (.ref (a 0 0)), some (.ref (ba 9)), some (.ref o), some (.int (nI i)), none, none] 3456 []) : vW p l e room_1 s m args below meth c D vwCl A Q 7 cells slots w [some (.ref b), some (.ref (a 0 0)), some (.ref (ba 9)), some (.ref o), some (.int (nI i)), none, none] 3038 [] := by
  have hX := hT.1.1
  obtain ⟨f, r, hf, hq, kn, ra, th, sm, n, v, hC, hB, hM, rfl⟩ := hJ
  refine r_aload_n C dL_law_3038 rfl ?_
  refine r_aload_n C dL_law_3039 rfl ?_
  refine r_iload C dL_law_3040 rfl ?_
  refine r_iconst (v := nI 1) C dL_law_3042 (by decide) ?_
  refine r_iaddN C dL_law_3043 ?_
  refine r_sld C hx hbl hbA (show i + 1 < L by omega) (by omega) dL_law_3044 ?_
  refine r_aload_n C dL_law_3045 rfl ?_
  refine c_SH (st := []) hX.1.stb C hE (W_previous hX.1 hN hC hB hM (P_previous hX hl hC hB hM (xs (i + 1)))) pk_L_previous qm_L_312 rfl rfl (Nat.le_of_ble_eq_true rfl) dL_law_3046 ⟨(Nat.le_of_ble_eq_true rfl), (Nat.le_of_ble_eq_true rfl)⟩ ⟨show cells + 1 ≤ room_1.cells by omega, show slots + 6 ≤ room_1.slots by omega⟩ (fun v9 w9 h9 => ?_) (fun _ h9 => h9.elim)
  obtain ⟨f', r', k, n1, rfl, rfl, hf', hq', n2, hC', hB', hM', hk0, hk4, h2⟩ := h9
  refine r_istore C dL_law_3049 (by decide) rfl ?_
  refine r_aload_n C dL_law_3051 rfl ?_
  refine r_aload_n C dL_law_3052 rfl ?_
  refine r_iload C dL_law_3053 rfl ?_
  refine r_iconst (v := nI 1) C dL_law_3055 (by decide) ?_
  refine r_iaddN C dL_law_3056 ?_
  refine r_sld C hx hbl hbA (show i + 1 < L by omega) (by omega) dL_law_3057 ?_
  refine t_swap3 ?_
  refine c_V (st := []) hX.1.stb C hE (h2 _) pk_X4_previous qm_L_314 0 8 rfl rfl wm_0 rfl rfl (Nat.le_of_ble_eq_true rfl) dL_law_3058 ⟨(Nat.le_of_ble_eq_true rfl), (Nat.le_of_ble_eq_true rfl)⟩ ⟨show cells + 1 + 4 ≤ room_1.cells by omega, show slots + 6 + 48 ≤ room_1.slots by omega⟩ (fun v9 w9 h9 => ?_) (fun _ h9 => h9.elim)
  obtain ⟨ra9, rfl, rfl⟩ := h9
  refine r_istore C dL_law_3061 (by decide) rfl ?_
  refine r_aload_n C dL_law_3063 rfl ?_
  refine d_V (st := []) hX.1.stb C hE (D_thrown hX) pk_X4_thrown qm_L_181 0 8 rfl rfl wm_0 rfl rfl (Nat.le_of_ble_eq_true rfl) dL_law_3064 ⟨(Nat.le_of_ble_eq_true rfl), (Nat.le_of_ble_eq_true rfl)⟩ ⟨show cells + 1 + 4 + 0 ≤ room_1.cells by omega, show slots + 6 + 48 + 0 ≤ room_1.slots by omega⟩ ?_
  refine r_iload C dL_law_3067 rfl ?_
  refine r_ic_eq (tgt := 3074) C dL_law_3069 (by decide) (fun _ => ?_) (fun hne => absurd rfl hne)
  refine t_swap3 ?_
  refine r_iload C dL_law_3074 rfl ?_
  refine r_ifN_ne (a := k) (tgt := 3092) C (by omega) dL_law_3076 (by decide) (fun hk => ?_) (fun hk => ?_)
  · skip
    refine r_goto (tgt := 3456) C dL_law_3092 (by decide) ?_
    refine r_widen (k := cells + 500) (n := slots + 10000) (show cells + 1 + 4 + 0 ≤ cells + 500 by omega) (show slots + 6 + 48 + 0 ≤ slots + 10000 by omega) ?_
    refine r_drop 5 ?_
    refine r_drop 6 ?_
    exact kk _ ⟨f', r', hf', hq', kn, ra9, _, sm, _, _, hC', hB', hM', rfl⟩
  · subst hk
    have e1 := hk0 rfl
    subst e1
    refine r_aload_n C dL_law_3079 rfl ?_
    refine g_getN hX.1 C hE qu_X3 (ci := 7) rfl 38 outo_at 0 (by decide) qn_L_13 rfl rfl dL_law_3080 ?_
    refine r_iload C dL_law_3083 rfl ?_
    refine r_i2l C dL_law_3085 ?_
    refine r_lcmpE C dL_law_3086 ?_
    refine r_if_eq (tgt := 3092) C dL_law_3087 (by decide) (fun _ => ?_) (fun hne => absurd rfl hne)
    refine r_goto (tgt := 3456) C dL_law_3092 (by decide) ?_
    refine r_widen (k := cells + 500) (n := slots + 10000) (show cells + 1 + 4 + 0 ≤ cells + 500 by omega) (show slots + 6 + 48 + 0 ≤ slots + 10000 by omega) ?_
    refine r_drop 5 ?_
    refine r_drop 6 ?_
    exact kk _ ⟨f', r', hf', hq', kn, ra9, _, sm, _, _, hC', hB', hM', rfl⟩
theorem S_put {p : Program} {l : Launch} {e : Env} {s : State} {m : MethodId} {args : Array Value} {below : List Frame} {meth : Method} {c : Code} {D : va_G} {cy : Nat → ClassId} {A : Nat → Prop} {Q : State → Prop} {X : (Nat → Prop) → State → Heap → Prop} {aK aV : Nat → Nat} {tO tT : Nat} {gO gT : Nat → Int32} {a : Nat → Nat → Nat} {ba : Nat → Nat} {o b L i cells slots : Nat} {xs : Nat → Int32} {w : va_W} (C : Fg p s m args meth c cL_law 7 RL D cy A) (hE : X A s s.heap) (hT : EnvT X cy aK aV tO tT gO gT) (hN : EnvN X) (hl : l.stackTraces = false) (hx : va_X b L xs s s.heap) (hbl : b < s.heap.size) (hbA : ¬ A b) (hi : i + 5 ≤ L) (hL : L ≤ 2560) (hc : cells + 500 ≤ room_1.cells) (hs : slots + 10000 ≤ room_1.slots) (hJ : JW cy a ba o w) (kk : ∀ w' : va_W, JW cy a ba o w' → vW p l e room_1 s m args below meth c D vwCl A Q 7 (cells + 500) (slots + 10000) w' [some (.ref b), some (.ref (a 0 0)), some (.ref (ba 9)), some (.ref o), some (.int (nI i)), none, none] 3456 []) : vW p l e room_1 s m args below meth c D vwCl A Q 7 cells slots w [some (.ref b), some (.ref (a 0 0)), some (.ref (ba 9)), some (.ref o), some (.int (nI i)), none, none] 3095 [] := by
  have hX := hT.1.1
  obtain ⟨f, r, hf, hq, kn, ra, th, sm, n, v, hC, hB, hM, rfl⟩ := hJ
  refine r_aload_n C dL_law_3095 rfl ?_
  refine r_aload_n C dL_law_3096 rfl ?_
  refine r_iload C dL_law_3097 rfl ?_
  refine r_iconst (v := nI 1) C dL_law_3099 (by decide) ?_
  refine r_iaddN C dL_law_3100 ?_
  refine r_sld C hx hbl hbA (show i + 1 < L by omega) (by omega) dL_law_3101 ?_
  refine r_aload_n C dL_law_3102 rfl ?_
  refine r_iload C dL_law_3103 rfl ?_
  refine r_iconst (v := nI 2) C dL_law_3105 (by decide) ?_
  refine r_iaddN C dL_law_3106 ?_
  refine r_sld C hx hbl hbA (show i + 2 < L by omega) (by omega) dL_law_3107 ?_
  refine r_aload_n C dL_law_3108 rfl ?_
  refine c_SH (st := []) hX.1.stb C hE (W_put hX.1 hN hC hB hM (P_put hX hl hC hB hM (xs (i + 1)) (xs (i + 2)))) pk_L_put qm_L_315 rfl rfl (Nat.le_of_ble_eq_true rfl) dL_law_3109 ⟨(Nat.le_of_ble_eq_true rfl), (Nat.le_of_ble_eq_true rfl)⟩ ⟨show cells + 1 ≤ room_1.cells by omega, show slots + 6 ≤ room_1.slots by omega⟩ (fun v9 w9 h9 => ?_) (fun _ h9 => h9.elim)
  obtain ⟨f', r', k, n1, rfl, rfl, hf', hq', n2, hC', hB', hM', hk0, hk4, h2⟩ := h9
  refine r_istore C dL_law_3112 (by decide) rfl ?_
  refine r_aload_n C dL_law_3114 rfl ?_
  refine r_aload_n C dL_law_3115 rfl ?_
  refine r_iload C dL_law_3116 rfl ?_
  refine r_iconst (v := nI 1) C dL_law_3118 (by decide) ?_
  refine r_iaddN C dL_law_3119 ?_
  refine r_sld C hx hbl hbA (show i + 1 < L by omega) (by omega) dL_law_3120 ?_
  refine r_aload_n C dL_law_3121 rfl ?_
  refine r_iload C dL_law_3122 rfl ?_
  refine r_iconst (v := nI 2) C dL_law_3124 (by decide) ?_
  refine r_iaddN C dL_law_3125 ?_
  refine r_sld C hx hbl hbA (show i + 2 < L by omega) (by omega) dL_law_3126 ?_
  refine t_swap3 ?_
  refine c_V (st := []) hX.1.stb C hE (h2 _) pk_X4_put_ qm_L_317 0 8 rfl rfl wm_0 rfl rfl (Nat.le_of_ble_eq_true rfl) dL_law_3127 ⟨(Nat.le_of_ble_eq_true rfl), (Nat.le_of_ble_eq_true rfl)⟩ ⟨show cells + 1 + 4 ≤ room_1.cells by omega, show slots + 6 + 48 ≤ room_1.slots by omega⟩ (fun v9 w9 h9 => ?_) (fun _ h9 => h9.elim)
  obtain ⟨ra9, rfl, rfl⟩ := h9
  refine r_istore C dL_law_3130 (by decide) rfl ?_
  refine r_aload_n C dL_law_3132 rfl ?_
  refine d_V (st := []) hX.1.stb C hE (D_thrown hX) pk_X4_thrown qm_L_181 0 8 rfl rfl wm_0 rfl rfl (Nat.le_of_ble_eq_true rfl) dL_law_3133 ⟨(Nat.le_of_ble_eq_true rfl), (Nat.le_of_ble_eq_true rfl)⟩ ⟨show cells + 1 + 4 + 0 ≤ room_1.cells by omega, show slots + 6 + 48 + 0 ≤ room_1.slots by omega⟩ ?_
  refine r_iload C dL_law_3136 rfl ?_
  refine r_ic_eq (tgt := 3143) C dL_law_3138 (by decide) (fun _ => ?_) (fun hne => absurd rfl hne)
  refine t_swap3 ?_
  refine r_iload C dL_law_3143 rfl ?_
  refine r_ifN_ne (a := k) (tgt := 3161) C (by omega) dL_law_3145 (by decide) (fun hk => ?_) (fun hk => ?_)
  · skip
    refine r_goto (tgt := 3456) C dL_law_3161 (by decide) ?_
    refine r_widen (k := cells + 500) (n := slots + 10000) (show cells + 1 + 4 + 0 ≤ cells + 500 by omega) (show slots + 6 + 48 + 0 ≤ slots + 10000 by omega) ?_
    refine r_drop 5 ?_
    refine r_drop 6 ?_
    exact kk _ ⟨f', r', hf', hq', kn, ra9, _, sm, _, _, hC', hB', hM', rfl⟩
  · subst hk
    have e1 := hk0 rfl
    subst e1
    refine r_aload_n C dL_law_3148 rfl ?_
    refine g_getN hX.1 C hE qu_X3 (ci := 7) rfl 38 outo_at 0 (by decide) qn_L_13 rfl rfl dL_law_3149 ?_
    refine r_iload C dL_law_3152 rfl ?_
    refine r_i2l C dL_law_3154 ?_
    refine r_lcmpE C dL_law_3155 ?_
    refine r_if_eq (tgt := 3161) C dL_law_3156 (by decide) (fun _ => ?_) (fun hne => absurd rfl hne)
    refine r_goto (tgt := 3456) C dL_law_3161 (by decide) ?_
    refine r_widen (k := cells + 500) (n := slots + 10000) (show cells + 1 + 4 + 0 ≤ cells + 500 by omega) (show slots + 6 + 48 + 0 ≤ slots + 10000 by omega) ?_
    refine r_drop 5 ?_
    refine r_drop 6 ?_
    exact kk _ ⟨f', r', hf', hq', kn, ra9, _, sm, _, _, hC', hB', hM', rfl⟩
theorem S_take {p : Program} {l : Launch} {e : Env} {s : State} {m : MethodId} {args : Array Value} {below : List Frame} {meth : Method} {c : Code} {D : va_G} {cy : Nat → ClassId} {A : Nat → Prop} {Q : State → Prop} {X : (Nat → Prop) → State → Heap → Prop} {aK aV : Nat → Nat} {tO tT : Nat} {gO gT : Nat → Int32} {a : Nat → Nat → Nat} {ba : Nat → Nat} {o b L i cells slots : Nat} {xs : Nat → Int32} {w : va_W} (C : Fg p s m args meth c cL_law 7 RL D cy A) (hE : X A s s.heap) (hT : EnvT X cy aK aV tO tT gO gT) (hN : EnvN X) (hl : l.stackTraces = false) (hx : va_X b L xs s s.heap) (hbl : b < s.heap.size) (hbA : ¬ A b) (hi : i + 5 ≤ L) (hL : L ≤ 2560) (hc : cells + 500 ≤ room_1.cells) (hs : slots + 10000 ≤ room_1.slots) (hJ : JW cy a ba o w) (kk : ∀ w' : va_W, JW cy a ba o w' → vW p l e room_1 s m args below meth c D vwCl A Q 7 (cells + 500) (slots + 10000) w' [some (.ref b), some (.ref (a 0 0)), some (.ref (ba 9)), some (.ref o), some (.int (nI i)), none, none] 3456 []) : vW p l e room_1 s m args below meth c D vwCl A Q 7 cells slots w [some (.ref b), some (.ref (a 0 0)), some (.ref (ba 9)), some (.ref o), some (.int (nI i)), none, none] 3164 [] := by
  have hX := hT.1.1
  obtain ⟨f, r, hf, hq, kn, ra, th, sm, n, v, hC, hB, hM, rfl⟩ := hJ
  refine r_aload_n C dL_law_3164 rfl ?_
  refine r_aload_n C dL_law_3165 rfl ?_
  refine r_iload C dL_law_3166 rfl ?_
  refine r_iconst (v := nI 1) C dL_law_3168 (by decide) ?_
  refine r_iaddN C dL_law_3169 ?_
  refine r_sld C hx hbl hbA (show i + 1 < L by omega) (by omega) dL_law_3170 ?_
  refine r_aload_n C dL_law_3171 rfl ?_
  refine c_SH (st := []) hX.1.stb C hE (W_take hX.1 hN hC hB hM (P_take hX hl hC hB hM (xs (i + 1)))) pk_L_take qm_L_318 rfl rfl (Nat.le_of_ble_eq_true rfl) dL_law_3172 ⟨(Nat.le_of_ble_eq_true rfl), (Nat.le_of_ble_eq_true rfl)⟩ ⟨show cells + 1 ≤ room_1.cells by omega, show slots + 6 ≤ room_1.slots by omega⟩ (fun v9 w9 h9 => ?_) (fun _ h9 => h9.elim)
  obtain ⟨f', r', k, n1, rfl, rfl, hf', hq', n2, hC', hB', hM', hk0, hk4, h2⟩ := h9
  refine r_istore C dL_law_3175 (by decide) rfl ?_
  refine r_aload_n C dL_law_3177 rfl ?_
  refine r_aload_n C dL_law_3178 rfl ?_
  refine r_iload C dL_law_3179 rfl ?_
  refine r_iconst (v := nI 1) C dL_law_3181 (by decide) ?_
  refine r_iaddN C dL_law_3182 ?_
  refine r_sld C hx hbl hbA (show i + 1 < L by omega) (by omega) dL_law_3183 ?_
  refine t_swap3 ?_
  refine c_V (st := []) hX.1.stb C hE (h2 _) pk_X4_take qm_L_320 0 8 rfl rfl wm_0 rfl rfl (Nat.le_of_ble_eq_true rfl) dL_law_3184 ⟨(Nat.le_of_ble_eq_true rfl), (Nat.le_of_ble_eq_true rfl)⟩ ⟨show cells + 1 + 4 ≤ room_1.cells by omega, show slots + 6 + 48 ≤ room_1.slots by omega⟩ (fun v9 w9 h9 => ?_) (fun _ h9 => h9.elim)
  obtain ⟨ra9, rfl, rfl⟩ := h9
  refine r_istore C dL_law_3187 (by decide) rfl ?_
  refine r_aload_n C dL_law_3189 rfl ?_
  refine d_V (st := []) hX.1.stb C hE (D_thrown hX) pk_X4_thrown qm_L_181 0 8 rfl rfl wm_0 rfl rfl (Nat.le_of_ble_eq_true rfl) dL_law_3190 ⟨(Nat.le_of_ble_eq_true rfl), (Nat.le_of_ble_eq_true rfl)⟩ ⟨show cells + 1 + 4 + 0 ≤ room_1.cells by omega, show slots + 6 + 48 + 0 ≤ room_1.slots by omega⟩ ?_
  refine r_iload C dL_law_3193 rfl ?_
  refine r_ic_eq (tgt := 3200) C dL_law_3195 (by decide) (fun _ => ?_) (fun hne => absurd rfl hne)
  refine t_swap3 ?_
  refine r_iload C dL_law_3200 rfl ?_
  refine r_ifN_ne (a := k) (tgt := 3218) C (by omega) dL_law_3202 (by decide) (fun hk => ?_) (fun hk => ?_)
  · skip
    refine r_goto (tgt := 3456) C dL_law_3218 (by decide) ?_
    refine r_widen (k := cells + 500) (n := slots + 10000) (show cells + 1 + 4 + 0 ≤ cells + 500 by omega) (show slots + 6 + 48 + 0 ≤ slots + 10000 by omega) ?_
    refine r_drop 5 ?_
    refine r_drop 6 ?_
    exact kk _ ⟨f', r', hf', hq', kn, ra9, _, sm, _, _, hC', hB', hM', rfl⟩
  · subst hk
    have e1 := hk0 rfl
    subst e1
    refine r_aload_n C dL_law_3205 rfl ?_
    refine g_getN hX.1 C hE qu_X3 (ci := 7) rfl 38 outo_at 0 (by decide) qn_L_13 rfl rfl dL_law_3206 ?_
    refine r_iload C dL_law_3209 rfl ?_
    refine r_i2l C dL_law_3211 ?_
    refine r_lcmpE C dL_law_3212 ?_
    refine r_if_eq (tgt := 3218) C dL_law_3213 (by decide) (fun _ => ?_) (fun hne => absurd rfl hne)
    refine r_goto (tgt := 3456) C dL_law_3218 (by decide) ?_
    refine r_widen (k := cells + 500) (n := slots + 10000) (show cells + 1 + 4 + 0 ≤ cells + 500 by omega) (show slots + 6 + 48 + 0 ≤ slots + 10000 by omega) ?_
    refine r_drop 5 ?_
    refine r_drop 6 ?_
    exact kk _ ⟨f', r', hf', hq', kn, ra9, _, sm, _, _, hC', hB', hM', rfl⟩
theorem S_replace {p : Program} {l : Launch} {e : Env} {s : State} {m : MethodId} {args : Array Value} {below : List Frame} {meth : Method} {c : Code} {D : va_G} {cy : Nat → ClassId} {A : Nat → Prop} {Q : State → Prop} {X : (Nat → Prop) → State → Heap → Prop} {aK aV : Nat → Nat} {tO tT : Nat} {gO gT : Nat → Int32} {a : Nat → Nat → Nat} {ba : Nat → Nat} {o b L i cells slots : Nat} {xs : Nat → Int32} {w : va_W} (C : Fg p s m args meth c cL_law 7 RL D cy A) (hE : X A s s.heap) (hT : EnvT X cy aK aV tO tT gO gT) (hN : EnvN X) (hl : l.stackTraces = false) (hx : va_X b L xs s s.heap) (hbl : b < s.heap.size) (hbA : ¬ A b) (hi : i + 5 ≤ L) (hL : L ≤ 2560) (hc : cells + 500 ≤ room_1.cells) (hs : slots + 10000 ≤ room_1.slots) (hJ : JW cy a ba o w) (kk : ∀ w' : va_W, JW cy a ba o w' → vW p l e room_1 s m args below meth c D vwCl A Q 7 (cells + 500) (slots + 10000) w' [some (.ref b), some (.ref (a 0 0)), some (.ref (ba 9)), some (.ref o), some (.int (nI i)), none, none] 3456 []) : vW p l e room_1 s m args below meth c D vwCl A Q 7 cells slots w [some (.ref b), some (.ref (a 0 0)), some (.ref (ba 9)), some (.ref o), some (.int (nI i)), none, none] 3221 [] := by
  have hX := hT.1.1
  obtain ⟨f, r, hf, hq, kn, ra, th, sm, n, v, hC, hB, hM, rfl⟩ := hJ
  refine r_aload_n C dL_law_3221 rfl ?_
  refine r_aload_n C dL_law_3222 rfl ?_
  refine r_iload C dL_law_3223 rfl ?_
  refine r_iconst (v := nI 1) C dL_law_3225 (by decide) ?_
  refine r_iaddN C dL_law_3226 ?_
  refine r_sld C hx hbl hbA (show i + 1 < L by omega) (by omega) dL_law_3227 ?_
  refine r_aload_n C dL_law_3228 rfl ?_
  refine r_iload C dL_law_3229 rfl ?_
  refine r_iconst (v := nI 2) C dL_law_3231 (by decide) ?_
  refine r_iaddN C dL_law_3232 ?_
  refine r_sld C hx hbl hbA (show i + 2 < L by omega) (by omega) dL_law_3233 ?_
  refine r_aload_n C dL_law_3234 rfl ?_
  refine c_SH (st := []) hX.1.stb C hE (W_replace hX.1 hN hC hB hM (P_replace hX hl hC hB hM (xs (i + 1)) (xs (i + 2)))) pk_L_replace qm_L_321 rfl rfl (Nat.le_of_ble_eq_true rfl) dL_law_3235 ⟨(Nat.le_of_ble_eq_true rfl), (Nat.le_of_ble_eq_true rfl)⟩ ⟨show cells + 1 ≤ room_1.cells by omega, show slots + 6 ≤ room_1.slots by omega⟩ (fun v9 w9 h9 => ?_) (fun _ h9 => h9.elim)
  obtain ⟨f', r', k, n1, rfl, rfl, hf', hq', n2, hC', hB', hM', hk0, hk4, h2⟩ := h9
  refine r_istore C dL_law_3238 (by decide) rfl ?_
  refine r_aload_n C dL_law_3240 rfl ?_
  refine r_aload_n C dL_law_3241 rfl ?_
  refine r_iload C dL_law_3242 rfl ?_
  refine r_iconst (v := nI 1) C dL_law_3244 (by decide) ?_
  refine r_iaddN C dL_law_3245 ?_
  refine r_sld C hx hbl hbA (show i + 1 < L by omega) (by omega) dL_law_3246 ?_
  refine r_aload_n C dL_law_3247 rfl ?_
  refine r_iload C dL_law_3248 rfl ?_
  refine r_iconst (v := nI 2) C dL_law_3250 (by decide) ?_
  refine r_iaddN C dL_law_3251 ?_
  refine r_sld C hx hbl hbA (show i + 2 < L by omega) (by omega) dL_law_3252 ?_
  refine t_swap3 ?_
  refine c_V (st := []) hX.1.stb C hE (h2 _) pk_X4_replace qm_L_323 0 8 rfl rfl wm_0 rfl rfl (Nat.le_of_ble_eq_true rfl) dL_law_3253 ⟨(Nat.le_of_ble_eq_true rfl), (Nat.le_of_ble_eq_true rfl)⟩ ⟨show cells + 1 + 4 ≤ room_1.cells by omega, show slots + 6 + 48 ≤ room_1.slots by omega⟩ (fun v9 w9 h9 => ?_) (fun _ h9 => h9.elim)
  obtain ⟨ra9, rfl, rfl⟩ := h9
  refine r_istore C dL_law_3256 (by decide) rfl ?_
  refine r_aload_n C dL_law_3258 rfl ?_
  refine d_V (st := []) hX.1.stb C hE (D_thrown hX) pk_X4_thrown qm_L_181 0 8 rfl rfl wm_0 rfl rfl (Nat.le_of_ble_eq_true rfl) dL_law_3259 ⟨(Nat.le_of_ble_eq_true rfl), (Nat.le_of_ble_eq_true rfl)⟩ ⟨show cells + 1 + 4 + 0 ≤ room_1.cells by omega, show slots + 6 + 48 + 0 ≤ room_1.slots by omega⟩ ?_
  refine r_iload C dL_law_3262 rfl ?_
  refine r_ic_eq (tgt := 3269) C dL_law_3264 (by decide) (fun _ => ?_) (fun hne => absurd rfl hne)
  refine t_swap3 ?_
  refine r_iload C dL_law_3269 rfl ?_
  refine r_ifN_ne (a := k) (tgt := 3287) C (by omega) dL_law_3271 (by decide) (fun hk => ?_) (fun hk => ?_)
  · skip
    refine r_goto (tgt := 3456) C dL_law_3287 (by decide) ?_
    refine r_widen (k := cells + 500) (n := slots + 10000) (show cells + 1 + 4 + 0 ≤ cells + 500 by omega) (show slots + 6 + 48 + 0 ≤ slots + 10000 by omega) ?_
    refine r_drop 5 ?_
    refine r_drop 6 ?_
    exact kk _ ⟨f', r', hf', hq', kn, ra9, _, sm, _, _, hC', hB', hM', rfl⟩
  · subst hk
    have e1 := hk0 rfl
    subst e1
    refine r_aload_n C dL_law_3274 rfl ?_
    refine g_getN hX.1 C hE qu_X3 (ci := 7) rfl 38 outo_at 0 (by decide) qn_L_13 rfl rfl dL_law_3275 ?_
    refine r_iload C dL_law_3278 rfl ?_
    refine r_i2l C dL_law_3280 ?_
    refine r_lcmpE C dL_law_3281 ?_
    refine r_if_eq (tgt := 3287) C dL_law_3282 (by decide) (fun _ => ?_) (fun hne => absurd rfl hne)
    refine r_goto (tgt := 3456) C dL_law_3287 (by decide) ?_
    refine r_widen (k := cells + 500) (n := slots + 10000) (show cells + 1 + 4 + 0 ≤ cells + 500 by omega) (show slots + 6 + 48 + 0 ≤ slots + 10000 by omega) ?_
    refine r_drop 5 ?_
    refine r_drop 6 ?_
    exact kk _ ⟨f', r', hf', hq', kn, ra9, _, sm, _, _, hC', hB', hM', rfl⟩
theorem S_ofCursor {p : Program} {l : Launch} {e : Env} {s : State} {m : MethodId} {args : Array Value} {below : List Frame} {meth : Method} {c : Code} {D : va_G} {cy : Nat → ClassId} {A : Nat → Prop} {Q : State → Prop} {X : (Nat → Prop) → State → Heap → Prop} {aK aV : Nat → Nat} {tO tT : Nat} {gO gT : Nat → Int32} {a : Nat → Nat → Nat} {ba : Nat → Nat} {o b L i cells slots : Nat} {xs : Nat → Int32} {w : va_W} (C : Fg p s m args meth c cL_law 7 RL D cy A) (hE : X A s s.heap) (hT : EnvT X cy aK aV tO tT gO gT) (hN : EnvN X) (hl : l.stackTraces = false) (hx : va_X b L xs s s.heap) (hbl : b < s.heap.size) (hbA : ¬ A b) (hi : i + 5 ≤ L) (hL : L ≤ 2560) (hc : cells + 500 ≤ room_1.cells) (hs : slots + 10000 ≤ room_1.slots) (hJ : JW cy a ba o w) (kk : ∀ w' : va_W, JW cy a ba o w' → vW p l e room_1 s m args below meth c D vwCl A Q 7 (cells + 500) (slots + 10000) w' [some (.ref b), some (.ref (a 0 0)), some (.ref (ba 9)), some (.ref o), some (.int (nI i)), none, none] 3456 []) : vW p l e room_1 s m args below meth c D vwCl A Q 7 cells slots w [some (.ref b), some (.ref (a 0 0)), some (.ref (ba 9)), some (.ref o), some (.int (nI i)), none, none] 3290 [] := by
  have hX := hT.1.1
  obtain ⟨f, r, hf, hq, kn, ra, th, sm, n, v, hC, hB, hM, rfl⟩ := hJ
  refine r_aload_n C dL_law_3290 rfl ?_
  refine r_aload_n C dL_law_3291 rfl ?_
  refine r_iload C dL_law_3292 rfl ?_
  refine r_iconst (v := nI 1) C dL_law_3294 (by decide) ?_
  refine r_iaddN C dL_law_3295 ?_
  refine r_sld C hx hbl hbA (show i + 1 < L by omega) (by omega) dL_law_3296 ?_
  refine r_aload_n C dL_law_3297 rfl ?_
  refine r_iload C dL_law_3298 rfl ?_
  refine r_iconst (v := nI 2) C dL_law_3300 (by decide) ?_
  refine r_iaddN C dL_law_3301 ?_
  refine r_sld C hx hbl hbA (show i + 2 < L by omega) (by omega) dL_law_3302 ?_
  refine r_aload_n C dL_law_3303 rfl ?_
  refine c_SH (st := []) hX.1.stb C hE (W_ofCursor hX.1 hN hC hB hM (P_ofCursor hX hl hC hB hM (xs (i + 1)) (xs (i + 2)))) pk_L_ofCursor qm_L_324 rfl rfl (Nat.le_of_ble_eq_true rfl) dL_law_3304 ⟨(Nat.le_of_ble_eq_true rfl), (Nat.le_of_ble_eq_true rfl)⟩ ⟨show cells + 1 ≤ room_1.cells by omega, show slots + 6 ≤ room_1.slots by omega⟩ (fun v9 w9 h9 => ?_) (fun _ h9 => h9.elim)
  obtain ⟨f', r', k, n1, rfl, rfl, hf', hq', n2, hC', hB', hM', hk0, hk4, h2⟩ := h9
  refine r_istore C dL_law_3307 (by decide) rfl ?_
  refine r_aload_n C dL_law_3309 rfl ?_
  refine r_aload_n C dL_law_3310 rfl ?_
  refine r_iload C dL_law_3311 rfl ?_
  refine r_iconst (v := nI 1) C dL_law_3313 (by decide) ?_
  refine r_iaddN C dL_law_3314 ?_
  refine r_sld C hx hbl hbA (show i + 1 < L by omega) (by omega) dL_law_3315 ?_
  refine r_aload_n C dL_law_3316 rfl ?_
  refine r_iload C dL_law_3317 rfl ?_
  refine r_iconst (v := nI 2) C dL_law_3319 (by decide) ?_
  refine r_iaddN C dL_law_3320 ?_
  refine r_sld C hx hbl hbA (show i + 2 < L by omega) (by omega) dL_law_3321 ?_
  refine t_swap3 ?_
  refine c_V (st := []) hX.1.stb C hE (h2 _) pk_X4_ofCursor qm_L_326 0 8 rfl rfl wm_0 rfl rfl (Nat.le_of_ble_eq_true rfl) dL_law_3322 ⟨(Nat.le_of_ble_eq_true rfl), (Nat.le_of_ble_eq_true rfl)⟩ ⟨show cells + 1 + 4 ≤ room_1.cells by omega, show slots + 6 + 48 ≤ room_1.slots by omega⟩ (fun v9 w9 h9 => ?_) (fun _ h9 => h9.elim)
  obtain ⟨ra9, rfl, rfl⟩ := h9
  refine r_istore C dL_law_3325 (by decide) rfl ?_
  refine r_aload_n C dL_law_3327 rfl ?_
  refine d_V (st := []) hX.1.stb C hE (D_thrown hX) pk_X4_thrown qm_L_181 0 8 rfl rfl wm_0 rfl rfl (Nat.le_of_ble_eq_true rfl) dL_law_3328 ⟨(Nat.le_of_ble_eq_true rfl), (Nat.le_of_ble_eq_true rfl)⟩ ⟨show cells + 1 + 4 + 0 ≤ room_1.cells by omega, show slots + 6 + 48 + 0 ≤ room_1.slots by omega⟩ ?_
  refine r_iload C dL_law_3331 rfl ?_
  refine r_ic_eq (tgt := 3338) C dL_law_3333 (by decide) (fun _ => ?_) (fun hne => absurd rfl hne)
  refine t_swap3 ?_
  refine r_iload C dL_law_3338 rfl ?_
  refine r_ifN_ne (a := k) (tgt := 3356) C (by omega) dL_law_3340 (by decide) (fun hk => ?_) (fun hk => ?_)
  · skip
    refine r_goto (tgt := 3456) C dL_law_3356 (by decide) ?_
    refine r_widen (k := cells + 500) (n := slots + 10000) (show cells + 1 + 4 + 0 ≤ cells + 500 by omega) (show slots + 6 + 48 + 0 ≤ slots + 10000 by omega) ?_
    refine r_drop 5 ?_
    refine r_drop 6 ?_
    exact kk _ ⟨f', r', hf', hq', kn, ra9, _, sm, _, _, hC', hB', hM', rfl⟩
  · subst hk
    have e1 := hk0 rfl
    subst e1
    refine r_aload_n C dL_law_3343 rfl ?_
    refine g_getN hX.1 C hE qu_X3 (ci := 7) rfl 38 outo_at 0 (by decide) qn_L_13 rfl rfl dL_law_3344 ?_
    refine r_iload C dL_law_3347 rfl ?_
    refine r_i2l C dL_law_3349 ?_
    refine r_lcmpE C dL_law_3350 ?_
    refine r_if_eq (tgt := 3356) C dL_law_3351 (by decide) (fun _ => ?_) (fun hne => absurd rfl hne)
    refine r_goto (tgt := 3456) C dL_law_3356 (by decide) ?_
    refine r_widen (k := cells + 500) (n := slots + 10000) (show cells + 1 + 4 + 0 ≤ cells + 500 by omega) (show slots + 6 + 48 + 0 ≤ slots + 10000 by omega) ?_
    refine r_drop 5 ?_
    refine r_drop 6 ?_
    exact kk _ ⟨f', r', hf', hq', kn, ra9, _, sm, _, _, hC', hB', hM', rfl⟩
theorem S_house {p : Program} {l : Launch} {e : Env} {s : State} {m : MethodId} {args : Array Value} {below : List Frame} {meth : Method} {c : Code} {D : va_G} {cy : Nat → ClassId} {A : Nat → Prop} {Q : State → Prop} {X : (Nat → Prop) → State → Heap → Prop} {aK aV : Nat → Nat} {tO tT : Nat} {gO gT : Nat → Int32} {a : Nat → Nat → Nat} {ba : Nat → Nat} {o b L i cells slots : Nat} {xs : Nat → Int32} {w : va_W} (C : Fg p s m args meth c cL_law 7 RL D cy A) (hE : X A s s.heap) (hT : EnvT X cy aK aV tO tT gO gT) (hN : EnvN X) (hl : l.stackTraces = false) (hx : va_X b L xs s s.heap) (hbl : b < s.heap.size) (hbA : ¬ A b) (hi : i + 5 ≤ L) (hL : L ≤ 2560) (hc : cells + 500 ≤ room_1.cells) (hs : slots + 10000 ≤ room_1.slots) (hJ : JW cy a ba o w) (kk : ∀ w' : va_W, JW cy a ba o w' → vW p l e room_1 s m args below meth c D vwCl A Q 7 (cells + 500) (slots + 10000) w' [some (.ref b), some (.ref (a 0 0)), some (.ref (ba 9)), some (.ref o), some (.int (nI i)), none, none] 3456 []) : vW p l e room_1 s m args below meth c D vwCl A Q 7 cells slots w [some (.ref b), some (.ref (a 0 0)), some (.ref (ba 9)), some (.ref o), some (.int (nI i)), none, none] 3359 [] := by
  have hX := hT.1.1
  obtain ⟨f, r, hf, hq, kn, ra, th, sm, n, v, hC, hB, hM, rfl⟩ := hJ
  refine r_aload_n C dL_law_3359 rfl ?_
  refine r_aload_n C dL_law_3360 rfl ?_
  refine r_iload C dL_law_3361 rfl ?_
  refine r_iconst (v := nI 1) C dL_law_3363 (by decide) ?_
  refine r_iaddN C dL_law_3364 ?_
  refine r_sld C hx hbl hbA (show i + 1 < L by omega) (by omega) dL_law_3365 ?_
  refine r_aload_n C dL_law_3366 rfl ?_
  refine c_SH (st := []) hX.1.stb C hE (W_house hX.1 hN hC hB hM (P_house hX hl hC hB hM (xs (i + 1)))) pk_L_house qm_L_327 rfl rfl (Nat.le_of_ble_eq_true rfl) dL_law_3367 ⟨(Nat.le_of_ble_eq_true rfl), (Nat.le_of_ble_eq_true rfl)⟩ ⟨show cells + 1 ≤ room_1.cells by omega, show slots + 6 ≤ room_1.slots by omega⟩ (fun v9 w9 h9 => ?_) (fun _ h9 => h9.elim)
  obtain ⟨f', r', k, n1, rfl, rfl, hf', hq', n2, hC', hB', hM', hk0, hk4, h2⟩ := h9
  refine r_istore C dL_law_3370 (by decide) rfl ?_
  refine r_aload_n C dL_law_3372 rfl ?_
  refine r_aload_n C dL_law_3373 rfl ?_
  refine r_iload C dL_law_3374 rfl ?_
  refine r_iconst (v := nI 1) C dL_law_3376 (by decide) ?_
  refine r_iaddN C dL_law_3377 ?_
  refine r_sld C hx hbl hbA (show i + 1 < L by omega) (by omega) dL_law_3378 ?_
  refine t_swap3 ?_
  refine c_V (st := []) hX.1.stb C hE (h2 _) pk_X4_house qm_L_329 0 8 rfl rfl wm_0 rfl rfl (Nat.le_of_ble_eq_true rfl) dL_law_3379 ⟨(Nat.le_of_ble_eq_true rfl), (Nat.le_of_ble_eq_true rfl)⟩ ⟨show cells + 1 + 4 ≤ room_1.cells by omega, show slots + 6 + 48 ≤ room_1.slots by omega⟩ (fun v9 w9 h9 => ?_) (fun _ h9 => h9.elim)
  obtain ⟨ra9, rfl, rfl⟩ := h9
  refine r_istore C dL_law_3382 (by decide) rfl ?_
  refine r_aload_n C dL_law_3384 rfl ?_
  refine d_V (st := []) hX.1.stb C hE (D_thrown hX) pk_X4_thrown qm_L_181 0 8 rfl rfl wm_0 rfl rfl (Nat.le_of_ble_eq_true rfl) dL_law_3385 ⟨(Nat.le_of_ble_eq_true rfl), (Nat.le_of_ble_eq_true rfl)⟩ ⟨show cells + 1 + 4 + 0 ≤ room_1.cells by omega, show slots + 6 + 48 + 0 ≤ room_1.slots by omega⟩ ?_
  refine r_iload C dL_law_3388 rfl ?_
  refine r_ic_eq (tgt := 3395) C dL_law_3390 (by decide) (fun _ => ?_) (fun hne => absurd rfl hne)
  refine t_swap3 ?_
  refine r_iload C dL_law_3395 rfl ?_
  refine r_ifN_ne (a := k) (tgt := 3413) C (by omega) dL_law_3397 (by decide) (fun hk => ?_) (fun hk => ?_)
  · skip
    refine r_goto (tgt := 3456) C dL_law_3413 (by decide) ?_
    refine r_widen (k := cells + 500) (n := slots + 10000) (show cells + 1 + 4 + 0 ≤ cells + 500 by omega) (show slots + 6 + 48 + 0 ≤ slots + 10000 by omega) ?_
    refine r_drop 5 ?_
    refine r_drop 6 ?_
    exact kk _ ⟨f', r', hf', hq', kn, ra9, _, sm, _, _, hC', hB', hM', rfl⟩
  · subst hk
    have e1 := hk0 rfl
    subst e1
    refine r_aload_n C dL_law_3400 rfl ?_
    refine g_getN hX.1 C hE qu_X3 (ci := 7) rfl 38 outo_at 0 (by decide) qn_L_13 rfl rfl dL_law_3401 ?_
    refine r_iload C dL_law_3404 rfl ?_
    refine r_i2l C dL_law_3406 ?_
    refine r_lcmpE C dL_law_3407 ?_
    refine r_if_eq (tgt := 3413) C dL_law_3408 (by decide) (fun _ => ?_) (fun hne => absurd rfl hne)
    refine r_goto (tgt := 3456) C dL_law_3413 (by decide) ?_
    refine r_widen (k := cells + 500) (n := slots + 10000) (show cells + 1 + 4 + 0 ≤ cells + 500 by omega) (show slots + 6 + 48 + 0 ≤ slots + 10000 by omega) ?_
    refine r_drop 5 ?_
    refine r_drop 6 ?_
    exact kk _ ⟨f', r', hf', hq', kn, ra9, _, sm, _, _, hC', hB', hM', rfl⟩
theorem S_knock {p : Program} {l : Launch} {e : Env} {s : State} {m : MethodId} {args : Array Value} {below : List Frame} {meth : Method} {c : Code} {D : va_G} {cy : Nat → ClassId} {A : Nat → Prop} {Q : State → Prop} {X : (Nat → Prop) → State → Heap → Prop} {aK aV : Nat → Nat} {tO tT : Nat} {gO gT : Nat → Int32} {a : Nat → Nat → Nat} {ba : Nat → Nat} {o b L i cells slots : Nat} {xs : Nat → Int32} {w : va_W} (C : Fg p s m args meth c cL_law 7 RL D cy A) (hE : X A s s.heap) (hT : EnvT X cy aK aV tO tT gO gT) (hN : EnvN X) (hl : l.stackTraces = false) (hx : va_X b L xs s s.heap) (hbl : b < s.heap.size) (hbA : ¬ A b) (hi : i + 5 ≤ L) (hL : L ≤ 2560) (hc : cells + 500 ≤ room_1.cells) (hs : slots + 10000 ≤ room_1.slots) (hJ : JW cy a ba o w) (kk : ∀ w' : va_W, JW cy a ba o w' → vW p l e room_1 s m args below meth c D vwCl A Q 7 (cells + 500) (slots + 10000) w' [some (.ref b), some (.ref (a 0 0)), some (.ref (ba 9)), some (.ref o), some (.int (nI i)), none, none] 3456 []) : vW p l e room_1 s m args below meth c D vwCl A Q 7 cells slots w [some (.ref b), some (.ref (a 0 0)), some (.ref (ba 9)), some (.ref o), some (.int (nI i)), none, none] 3416 [] := by
  have hX := hT.1.1
  obtain ⟨f, r, hf, hq, kn, ra, th, sm, n, v, hC, hB, hM, rfl⟩ := hJ
  refine r_aload_n C dL_law_3416 rfl ?_
  refine c_V (st := []) hX.1.stb C hE (C_knock hX.1 hC) pk_X2_knock qm_L_330 0 6 rfl rfl wc_0 rfl rfl (Nat.le_of_ble_eq_true rfl) dL_law_3417 ⟨(Nat.le_of_ble_eq_true rfl), (Nat.le_of_ble_eq_true rfl)⟩ ⟨show cells + 0 ≤ room_1.cells by omega, show slots + 0 ≤ room_1.slots by omega⟩ (fun v9 w9 h9 => ?_) (fun _ h9 => h9.elim)
  obtain ⟨rfl, rfl⟩ := h9
  refine r_aload_n C dL_law_3420 rfl ?_
  refine t_swap3 ?_
  refine c_V (st := [.int (kn + nI 1)]) hX.1.stb C hE (D_knock hX) pk_X4_knock qm_L_333 0 8 rfl rfl wm_0 rfl rfl (Nat.le_of_ble_eq_true rfl) dL_law_3421 ⟨(Nat.le_of_ble_eq_true rfl), (Nat.le_of_ble_eq_true rfl)⟩ ⟨show cells + 0 + 0 ≤ room_1.cells by omega, show slots + 0 + 0 ≤ room_1.slots by omega⟩ (fun v9 w9 h9 => ?_) (fun _ h9 => h9.elim)
  obtain ⟨rfl, rfl⟩ := h9
  refine t_swap3 ?_
  refine r_ic_eq (tgt := 3456) C dL_law_3424 (by decide) (fun _ => ?_) (fun hne => absurd rfl hne)
  refine r_widen (k := cells + 500) (n := slots + 10000) (show cells + 0 + 0 ≤ cells + 500 by omega) (show slots + 0 + 0 ≤ slots + 10000 by omega) ?_
  exact kk _ ⟨f, r, hf, hq, _, ra, _, _, n, v, hC, hB, hM, rfl⟩
theorem S_isSound {p : Program} {l : Launch} {e : Env} {s : State} {m : MethodId} {args : Array Value} {below : List Frame} {meth : Method} {c : Code} {D : va_G} {cy : Nat → ClassId} {A : Nat → Prop} {Q : State → Prop} {X : (Nat → Prop) → State → Heap → Prop} {aK aV : Nat → Nat} {tO tT : Nat} {gO gT : Nat → Int32} {a : Nat → Nat → Nat} {ba : Nat → Nat} {o b L i cells slots : Nat} {xs : Nat → Int32} {w : va_W} (C : Fg p s m args meth c cL_law 7 RL D cy A) (hE : X A s s.heap) (hT : EnvT X cy aK aV tO tT gO gT) (hN : EnvN X) (hl : l.stackTraces = false) (hx : va_X b L xs s s.heap) (hbl : b < s.heap.size) (hbA : ¬ A b) (hi : i + 5 ≤ L) (hL : L ≤ 2560) (hc : cells + 500 ≤ room_1.cells) (hs : slots + 10000 ≤ room_1.slots) (hJ : JW cy a ba o w) (kk : ∀ w' : va_W, JW cy a ba o w' → vW p l e room_1 s m args below meth c D vwCl A Q 7 (cells + 500) (slots + 10000) w' [some (.ref b), some (.ref (a 0 0)), some (.ref (ba 9)), some (.ref o), some (.int (nI i)), none, none] 3456 []) : vW p l e room_1 s m args below meth c D vwCl A Q 7 cells slots w [some (.ref b), some (.ref (a 0 0)), some (.ref (ba 9)), some (.ref o), some (.int (nI i)), none, none] 3429 [] := by
  have hX := hT.1.1
  obtain ⟨f, r, hf, hq, kn, ra, th, sm, n, v, hC, hB, hM, rfl⟩ := hJ
  refine r_aload_n C dL_law_3429 rfl ?_
  refine c_V (st := []) hX.1.stb C hE (K_isSound hX.1 hC (fun i q hi hq => hB _ _)) pk_X2_isSound qm_L_334 0 6 rfl rfl wc_0 rfl rfl (Nat.le_of_ble_eq_true rfl) dL_law_3430 ⟨(Nat.le_of_ble_eq_true rfl), (Nat.le_of_ble_eq_true rfl)⟩ ⟨show cells + 0 ≤ room_1.cells by omega, show slots + 0 ≤ room_1.slots by omega⟩ (fun v9 w9 h9 => ?_) (fun _ h9 => h9.elim)
  obtain ⟨rfl, f', r', rfl, sc⟩ := h9
  have hC' := sc.inv hC
  have hB' := sc.2.2.2 hB
  have hM' : MR f' r' hf hq := MR_itm hM sc.1 (fun i k hi hk => ((hM.2.1 i hi).2 k hk).trans (sc.2.2.1 i k hi).symm)
  refine r_aload_n C dL_law_3433 rfl ?_
  refine t_swap3 ?_
  refine c_V (st := [.int (nI 1)]) hX.1.stb C hE (D_isSound hX hC' hM') pk_X4_isSound qm_L_338 0 8 rfl rfl wm_0 rfl rfl (Nat.le_of_ble_eq_true rfl) dL_law_3434 ⟨(Nat.le_of_ble_eq_true rfl), (Nat.le_of_ble_eq_true rfl)⟩ ⟨show cells + 0 + 0 ≤ room_1.cells by omega, show slots + 0 + 0 ≤ room_1.slots by omega⟩ (fun v9 w9 h9 => ?_) (fun _ h9 => h9.elim)
  obtain ⟨rfl, rfl⟩ := h9
  refine t_swap3 ?_
  refine r_ic_eq (tgt := 3456) C dL_law_3437 (by decide) (fun _ => ?_) (fun hne => absurd rfl hne)
  refine r_widen (k := cells + 500) (n := slots + 10000) (show cells + 0 + 0 ≤ cells + 500 by omega) (show slots + 0 + 0 ≤ slots + 10000 by omega) ?_
  exact kk _ ⟨f', r', hf, hq, _, ra, _, _, n, v, hC', hB', hM', rfl⟩
theorem S_digest {p : Program} {l : Launch} {e : Env} {s : State} {m : MethodId} {args : Array Value} {below : List Frame} {meth : Method} {c : Code} {D : va_G} {cy : Nat → ClassId} {A : Nat → Prop} {Q : State → Prop} {X : (Nat → Prop) → State → Heap → Prop} {aK aV : Nat → Nat} {tO tT : Nat} {gO gT : Nat → Int32} {a : Nat → Nat → Nat} {ba : Nat → Nat} {o b L i cells slots : Nat} {xs : Nat → Int32} {w : va_W} (C : Fg p s m args meth c cL_law 7 RL D cy A) (hE : X A s s.heap) (hT : EnvT X cy aK aV tO tT gO gT) (hN : EnvN X) (hl : l.stackTraces = false) (hx : va_X b L xs s s.heap) (hbl : b < s.heap.size) (hbA : ¬ A b) (hi : i + 5 ≤ L) (hL : L ≤ 2560) (hc : cells + 500 ≤ room_1.cells) (hs : slots + 10000 ≤ room_1.slots) (hJ : JW cy a ba o w) (kk : ∀ w' : va_W, JW cy a ba o w' → vW p l e room_1 s m args below meth c D vwCl A Q 7 (cells + 500) (slots + 10000) w' [some (.ref b), some (.ref (a 0 0)), some (.ref (ba 9)), some (.ref o), some (.int (nI i)), none, none] 3456 []) : vW p l e room_1 s m args below meth c D vwCl A Q 7 cells slots w [some (.ref b), some (.ref (a 0 0)), some (.ref (ba 9)), some (.ref o), some (.int (nI i)), none, none] 3442 [] := by
  have hX := hT.1.1
  obtain ⟨f, r, hf, hq, kn, ra, th, sm, n, v, hC, hB, hM, rfl⟩ := hJ
  refine r_aload_n C dL_law_3442 rfl ?_
  refine c_V (st := []) hX.1.stb C hE (C_digest hT.1 hC (fun i q hi hq => hB _ _)) pk_X2_digest qm_L_339 0 6 rfl rfl wc_0 rfl rfl (Nat.le_of_ble_eq_true rfl) dL_law_3443 ⟨(Nat.le_of_ble_eq_true rfl), (Nat.le_of_ble_eq_true rfl)⟩ ⟨show cells + 10 ≤ room_1.cells by omega, show slots + 436 ≤ room_1.slots by omega⟩ (fun v9 w9 h9 => ?_) (fun _ h9 => h9.elim)
  obtain ⟨rfl, f', r', rfl, sc⟩ := h9
  have hC' := sc.inv hC
  have hB' := sc.2.2.2 hB
  have hM' : MR f' r' hf hq := MR_itm hM sc.1 (fun i k hi hk => ((hM.2.1 i hi).2 k hk).trans (sc.2.2.1 i k hi).symm)
  refine r_aload_n C dL_law_3446 rfl ?_
  refine t_swap3 ?_
  refine c_V (st := [.long (dgF f r kn)]) hX.1.stb C hE (D_digest hT.1 hC hM (hM.hb hC hB)) pk_X4_digest qm_L_343 0 8 rfl rfl wm_0 rfl rfl (Nat.le_of_ble_eq_true rfl) dL_law_3447 ⟨(Nat.le_of_ble_eq_true rfl), (Nat.le_of_ble_eq_true rfl)⟩ ⟨show cells + 10 + 460 ≤ room_1.cells by omega, show slots + 436 + 9400 ≤ room_1.slots by omega⟩ (fun v9 w9 h9 => ?_) (fun _ h9 => h9.elim)
  obtain ⟨rfl, rfl⟩ := h9
  refine t_swap3 ?_
  rw [dg_eq (kn := kn) hC hM]
  refine r_lcmpE C dL_law_3450 ?_
  refine r_if_eq (tgt := 3456) C dL_law_3451 (by decide) (fun _ => ?_) (fun hne => absurd rfl hne)
  refine r_widen (k := cells + 500) (n := slots + 10000) (show cells + 10 + 460 ≤ cells + 500 by omega) (show slots + 436 + 9400 ≤ slots + 10000 by omega) ?_
  exact kk _ ⟨f', r', hf, hq, _, ra, _, _, n, v, hC', hB', hM', rfl⟩
