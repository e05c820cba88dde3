theorem dL_law_2720 : decode cL_law 2720 = .ok (.i2l, 1) := by decide +kernel
theorem dL_law_2721 : decode cL_law 2721 = .ok (.lcmp, 1) := by decide +kernel
theorem dL_law_2722 : decode cL_law 2722 = .ok (.ifCond .eq 5, 3) := by decide +kernel
theorem dL_law_2725 : decode cL_law 2725 = .ok (.iconst 0, 1) := by decide +kernel
theorem dL_law_2726 : decode cL_law 2726 = .ok (.ireturn, 1) := by decide +kernel
theorem dL_law_2727 : decode cL_law 2727 = .ok (.goto 780, 3) := by decide +kernel
theorem dL_law_2730 : decode cL_law 2730 = .ok (.aload_n 1, 1) := by decide +kernel
theorem dL_law_2731 : decode cL_law 2731 = .ok (.aload_n 3, 1) := by decide +kernel
theorem dL_law_2732 : decode cL_law 2732 = .ok (.invokestatic 350, 3) := by decide +kernel
theorem dL_law_2735 : decode cL_law 2735 = .ok (.istore 6, 2) := by decide +kernel
theorem dL_law_2737 : decode cL_law 2737 = .ok (.aload_n 2, 1) := by decide +kernel
theorem dL_law_2738 : decode cL_law 2738 = .ok (.invokevirtual 352, 3) := by decide +kernel
theorem dL_law_2741 : decode cL_law 2741 = .ok (.istore 7, 2) := by decide +kernel
theorem dL_law_2743 : decode cL_law 2743 = .ok (.aload_n 2, 1) := by decide +kernel
theorem dL_law_2744 : decode cL_law 2744 = .ok (.invokevirtual 205, 3) := by decide +kernel
theorem dL_law_2747 : decode cL_law 2747 = .ok (.iload 6, 2) := by decide +kernel
theorem dL_law_2749 : decode cL_law 2749 = .ok (.if_icmp .eq 5, 3) := by decide +kernel
theorem dL_law_2752 : decode cL_law 2752 = .ok (.iconst 0, 1) := by decide +kernel
theorem dL_law_2753 : decode cL_law 2753 = .ok (.ireturn, 1) := by decide +kernel
theorem dL_law_2754 : decode cL_law 2754 = .ok (.iload 6, 2) := by decide +kernel
theorem dL_law_2756 : decode cL_law 2756 = .ok (.ifCond .ne 15, 3) := by decide +kernel
theorem dL_law_2759 : decode cL_law 2759 = .ok (.aload_n 3, 1) := by decide +kernel
theorem dL_law_2760 : decode cL_law 2760 = .ok (.iconst 0, 1) := by decide +kernel
theorem dL_law_2761 : decode cL_law 2761 = .ok (.laload, 1) := by decide +kernel
theorem dL_law_2762 : decode cL_law 2762 = .ok (.iload 7, 2) := by decide +kernel
theorem dL_law_2764 : decode cL_law 2764 = .ok (.i2l, 1) := by decide +kernel
theorem dL_law_2765 : decode cL_law 2765 = .ok (.lcmp, 1) := by decide +kernel
theorem dL_law_2766 : decode cL_law 2766 = .ok (.ifCond .eq 5, 3) := by decide +kernel
theorem dL_law_2769 : decode cL_law 2769 = .ok (.iconst 0, 1) := by decide +kernel
theorem dL_law_2770 : decode cL_law 2770 = .ok (.ireturn, 1) := by decide +kernel
theorem dL_law_2771 : decode cL_law 2771 = .ok (.goto 736, 3) := by decide +kernel
theorem dL_law_2774 : decode cL_law 2774 = .ok (.aload_n 1, 1) := by decide +kernel
theorem dL_law_2775 : decode cL_law 2775 = .ok (.aload_n 0, 1) := by decide +kernel
theorem dL_law_2776 : decode cL_law 2776 = .ok (.iload 5, 2) := by decide +kernel
theorem dL_law_2778 : decode cL_law 2778 = .ok (.iconst 1, 1) := by decide +kernel
theorem dL_law_2779 : decode cL_law 2779 = .ok (.iadd, 1) := by decide +kernel
theorem dL_law_2780 : decode cL_law 2780 = .ok (.iaload, 1) := by decide +kernel
theorem dL_law_2781 : decode cL_law 2781 = .ok (.aload_n 3, 1) := by decide +kernel
theorem dL_law_2782 : decode cL_law 2782 = .ok (.invokestatic 353, 3) := by decide +kernel
theorem dL_law_2785 : decode cL_law 2785 = .ok (.istore 6, 2) := by decide +kernel
theorem dL_law_2787 : decode cL_law 2787 = .ok (.aload_n 2, 1) := by decide +kernel
theorem dL_law_2788 : decode cL_law 2788 = .ok (.aload_n 0, 1) := by decide +kernel
theorem dL_law_2789 : decode cL_law 2789 = .ok (.iload 5, 2) := by decide +kernel
theorem dL_law_2791 : decode cL_law 2791 = .ok (.iconst 1, 1) := by decide +kernel
theorem dL_law_2792 : decode cL_law 2792 = .ok (.iadd, 1) := by decide +kernel
theorem dL_law_2793 : decode cL_law 2793 = .ok (.iaload, 1) := by decide +kernel
theorem dL_law_2794 : decode cL_law 2794 = .ok (.invokevirtual 355, 3) := by decide +kernel
theorem dL_law_2797 : decode cL_law 2797 = .ok (.istore 7, 2) := by decide +kernel
theorem dL_law_2799 : decode cL_law 2799 = .ok (.aload_n 2, 1) := by decide +kernel
theorem dL_law_2800 : decode cL_law 2800 = .ok (.invokevirtual 205, 3) := by decide +kernel
theorem dL_law_2803 : decode cL_law 2803 = .ok (.iload 6, 2) := by decide +kernel
theorem dL_law_2805 : decode cL_law 2805 = .ok (.if_icmp .eq 5, 3) := by decide +kernel
theorem dL_law_2808 : decode cL_law 2808 = .ok (.iconst 0, 1) := by decide +kernel
theorem dL_law_2809 : decode cL_law 2809 = .ok (.ireturn, 1) := by decide +kernel
theorem dL_law_2810 : decode cL_law 2810 = .ok (.iload 6, 2) := by decide +kernel
theorem dL_law_2812 : decode cL_law 2812 = .ok (.ifCond .ne 15, 3) := by decide +kernel
theorem dL_law_2815 : decode cL_law 2815 = .ok (.aload_n 3, 1) := by decide +kernel
theorem dL_law_2816 : decode cL_law 2816 = .ok (.iconst 0, 1) := by decide +kernel
theorem dL_law_2817 : decode cL_law 2817 = .ok (.laload, 1) := by decide +kernel
theorem dL_law_2818 : decode cL_law 2818 = .ok (.iload 7, 2) := by decide +kernel
theorem dL_law_2820 : decode cL_law 2820 = .ok (.i2l, 1) := by decide +kernel
theorem dL_law_2821 : decode cL_law 2821 = .ok (.lcmp, 1) := by decide +kernel
theorem dL_law_2822 : decode cL_law 2822 = .ok (.ifCond .eq 5, 3) := by decide +kernel
theorem dL_law_2825 : decode cL_law 2825 = .ok (.iconst 0, 1) := by decide +kernel
theorem dL_law_2826 : decode cL_law 2826 = .ok (.ireturn, 1) := by decide +kernel
theorem dL_law_2827 : decode cL_law 2827 = .ok (.goto 680, 3) := by decide +kernel
theorem dL_law_2830 : decode cL_law 2830 = .ok (.aload_n 1, 1) := by decide +kernel
theorem dL_law_2831 : decode cL_law 2831 = .ok (.aload_n 3, 1) := by decide +kernel
theorem dL_law_2832 : decode cL_law 2832 = .ok (.invokestatic 356, 3) := by decide +kernel
theorem dL_law_2835 : decode cL_law 2835 = .ok (.istore 6, 2) := by decide +kernel
theorem dL_law_2837 : decode cL_law 2837 = .ok (.aload_n 2, 1) := by decide +kernel
theorem dL_law_2838 : decode cL_law 2838 = .ok (.invokevirtual 358, 3) := by decide +kernel
theorem dL_law_2841 : decode cL_law 2841 = .ok (.istore 7, 2) := by decide +kernel
theorem dL_law_2843 : decode cL_law 2843 = .ok (.aload_n 2, 1) := by decide +kernel
theorem dL_law_2844 : decode cL_law 2844 = .ok (.invokevirtual 205, 3) := by decide +kernel
theorem dL_law_2847 : decode cL_law 2847 = .ok (.iload 6, 2) := by decide +kernel
theorem dL_law_2849 : decode cL_law 2849 = .ok (.if_icmp .eq 5, 3) := by decide +kernel
theorem dL_law_2852 : decode cL_law 2852 = .ok (.iconst 0, 1) := by decide +kernel
theorem dL_law_2853 : decode cL_law 2853 = .ok (.ireturn, 1) := by decide +kernel
theorem dL_law_2854 : decode cL_law 2854 = .ok (.iload 6, 2) := by decide +kernel
theorem dL_law_2856 : decode cL_law 2856 = .ok (.ifCond .ne 15, 3) := by decide +kernel
theorem dL_law_2859 : decode cL_law 2859 = .ok (.aload_n 3, 1) := by decide +kernel
theorem dL_law_2860 : decode cL_law 2860 = .ok (.iconst 0, 1) := by decide +kernel
theorem dL_law_2861 : decode cL_law 2861 = .ok (.laload, 1) := by decide +kernel
theorem dL_law_2862 : decode cL_law 2862 = .ok (.iload 7, 2) := by decide +kernel
theorem dL_law_2864 : decode cL_law 2864 = .ok (.i2l, 1) := by decide +kernel
theorem dL_law_2865 : decode cL_law 2865 = .ok (.lcmp, 1) := by decide +kernel
theorem dL_law_2866 : decode cL_law 2866 = .ok (.ifCond .eq 5, 3) := by decide +kernel
theorem dL_law_2869 : decode cL_law 2869 = .ok (.iconst 0, 1) := by decide +kernel
theorem dL_law_2870 : decode cL_law 2870 = .ok (.ireturn, 1) := by decide +kernel
theorem dL_law_2871 : decode cL_law 2871 = .ok (.goto 636, 3) := by decide +kernel
theorem dL_law_2874 : decode cL_law 2874 = .ok (.aload_n 1, 1) := by decide +kernel
theorem dL_law_2875 : decode cL_law 2875 = .ok (.aload_n 3, 1) := by decide +kernel
theorem dL_law_2876 : decode cL_law 2876 = .ok (.invokestatic 359, 3) := by decide +kernel
theorem dL_law_2879 : decode cL_law 2879 = .ok (.istore 6, 2) := by decide +kernel
theorem dL_law_2881 : decode cL_law 2881 = .ok (.aload_n 2, 1) := by decide +kernel
theorem dL_law_2882 : decode cL_law 2882 = .ok (.invokevirtual 361, 3) := by decide +kernel
theorem dL_law_2885 : decode cL_law 2885 = .ok (.istore 7, 2) := by decide +kernel
theorem dL_law_2887 : decode cL_law 2887 = .ok (.aload_n 2, 1) := by decide +kernel
theorem dL_law_2888 : decode cL_law 2888 = .ok (.invokevirtual 205, 3) := by decide +kernel
theorem dL_law_2891 : decode cL_law 2891 = .ok (.iload 6, 2) := by decide +kernel
theorem dL_law_2893 : decode cL_law 2893 = .ok (.if_icmp .eq 5, 3) := by decide +kernel
theorem dL_law_2896 : decode cL_law 2896 = .ok (.iconst 0, 1) := by decide +kernel
theorem dL_law_2897 : decode cL_law 2897 = .ok (.ireturn, 1) := by decide +kernel
theorem dL_law_2898 : decode cL_law 2898 = .ok (.iload 6, 2) := by decide +kernel
theorem dL_law_2900 : decode cL_law 2900 = .ok (.ifCond .ne 15, 3) := by decide +kernel
theorem dL_law_2903 : decode cL_law 2903 = .ok (.aload_n 3, 1) := by decide +kernel
theorem dL_law_2904 : decode cL_law 2904 = .ok (.iconst 0, 1) := by decide +kernel
theorem dL_law_2905 : decode cL_law 2905 = .ok (.laload, 1) := by decide +kernel
theorem dL_law_2906 : decode cL_law 2906 = .ok (.iload 7, 2) := by decide +kernel
theorem dL_law_2908 : decode cL_law 2908 = .ok (.i2l, 1) := by decide +kernel
theorem dL_law_2909 : decode cL_law 2909 = .ok (.lcmp, 1) := by decide +kernel
theorem dL_law_2910 : decode cL_law 2910 = .ok (.ifCond .eq 5, 3) := by decide +kernel
theorem dL_law_2913 : decode cL_law 2913 = .ok (.iconst 0, 1) := by decide +kernel
theorem dL_law_2914 : decode cL_law 2914 = .ok (.ireturn, 1) := by decide +kernel
theorem dL_law_2915 : decode cL_law 2915 = .ok (.goto 592, 3) := by decide +kernel
theorem dL_law_2918 : decode cL_law 2918 = .ok (.aload_n 1, 1) := by decide +kernel
theorem dL_law_2919 : decode cL_law 2919 = .ok (.aload_n 3, 1) := by decide +kernel
theorem dL_law_2920 : decode cL_law 2920 = .ok (.invokestatic 362, 3) := by decide +kernel
theorem dL_law_2923 : decode cL_law 2923 = .ok (.istore 6, 2) := by decide +kernel
theorem dL_law_2925 : decode cL_law 2925 = .ok (.aload_n 2, 1) := by decide +kernel
theorem dL_law_2926 : decode cL_law 2926 = .ok (.invokevirtual 364, 3) := by decide +kernel
theorem dL_law_2929 : decode cL_law 2929 = .ok (.istore 7, 2) := by decide +kernel
theorem dL_law_2931 : decode cL_law 2931 = .ok (.aload_n 2, 1) := by decide +kernel
theorem dL_law_2932 : decode cL_law 2932 = .ok (.invokevirtual 205, 3) := by decide +kernel
theorem dL_law_2935 : decode cL_law 2935 = .ok (.iload 6, 2) := by decide +kernel
theorem dL_law_2937 : decode cL_law 2937 = .ok (.if_icmp .eq 5, 3) := by decide +kernel
theorem dL_law_2940 : decode cL_law 2940 = .ok (.iconst 0, 1) := by decide +kernel
theorem dL_law_2941 : decode cL_law 2941 = .ok (.ireturn, 1) := by decide +kernel
theorem dL_law_2942 : decode cL_law 2942 = .ok (.iload 6, 2) := by decide +kernel
theorem dL_law_2944 : decode cL_law 2944 = .ok (.ifCond .ne 15, 3) := by decide +kernel
theorem dL_law_2947 : decode cL_law 2947 = .ok (.aload_n 3, 1) := by decide +kernel
theorem dL_law_2948 : decode cL_law 2948 = .ok (.iconst 0, 1) := by decide +kernel
theorem dL_law_2949 : decode cL_law 2949 = .ok (.laload, 1) := by decide +kernel
theorem dL_law_2950 : decode cL_law 2950 = .ok (.iload 7, 2) := by decide +kernel
theorem dL_law_2952 : decode cL_law 2952 = .ok (.i2l, 1) := by decide +kernel
theorem dL_law_2953 : decode cL_law 2953 = .ok (.lcmp, 1) := by decide +kernel
theorem dL_law_2954 : decode cL_law 2954 = .ok (.ifCond .eq 5, 3) := by decide +kernel
theorem dL_law_2957 : decode cL_law 2957 = .ok (.iconst 0, 1) := by decide +kernel
theorem dL_law_2958 : decode cL_law 2958 = .ok (.ireturn, 1) := by decide +kernel
theorem dL_law_2959 : decode cL_law 2959 = .ok (.goto 548, 3) := by decide +kernel
theorem dL_law_2962 : decode cL_law 2962 = .ok (.aload_n 1, 1) := by decide +kernel
theorem dL_law_2963 : decode cL_law 2963 = .ok (.aload_n 0, 1) := by decide +kernel
theorem dL_law_2964 : decode cL_law 2964 = .ok (.iload 5, 2) := by decide +kernel
theorem dL_law_2966 : decode cL_law 2966 = .ok (.iconst 1, 1) := by decide +kernel
theorem dL_law_2967 : decode cL_law 2967 = .ok (.iadd, 1) := by decide +kernel
theorem dL_law_2968 : decode cL_law 2968 = .ok (.iaload, 1) := by decide +kernel
theorem dL_law_2969 : decode cL_law 2969 = .ok (.aload_n 3, 1) := by decide +kernel
theorem dL_law_2970 : decode cL_law 2970 = .ok (.invokestatic 365, 3) := by decide +kernel
theorem dL_law_2973 : decode cL_law 2973 = .ok (.istore 6, 2) := by decide +kernel
theorem dL_law_2975 : decode cL_law 2975 = .ok (.aload_n 2, 1) := by decide +kernel
theorem dL_law_2976 : decode cL_law 2976 = .ok (.aload_n 0, 1) := by decide +kernel
theorem dL_law_2977 : decode cL_law 2977 = .ok (.iload 5, 2) := by decide +kernel
theorem dL_law_2979 : decode cL_law 2979 = .ok (.iconst 1, 1) := by decide +kernel
theorem dL_law_2980 : decode cL_law 2980 = .ok (.iadd, 1) := by decide +kernel
theorem dL_law_2981 : decode cL_law 2981 = .ok (.iaload, 1) := by decide +kernel
theorem dL_law_2982 : decode cL_law 2982 = .ok (.invokevirtual 367, 3) := by decide +kernel
theorem dL_law_2985 : decode cL_law 2985 = .ok (.istore 7, 2) := by decide +kernel
theorem dL_law_2987 : decode cL_law 2987 = .ok (.aload_n 2, 1) := by decide +kernel
theorem dL_law_2988 : decode cL_law 2988 = .ok (.invokevirtual 205, 3) := by decide +kernel
theorem dL_law_2991 : decode cL_law 2991 = .ok (.iload 6, 2) := by decide +kernel
theorem dL_law_2993 : decode cL_law 2993 = .ok (.if_icmp .eq 5, 3) := by decide +kernel
theorem dL_law_2996 : decode cL_law 2996 = .ok (.iconst 0, 1) := by decide +kernel
theorem dL_law_2997 : decode cL_law 2997 = .ok (.ireturn, 1) := by decide +kernel
theorem dL_law_2998 : decode cL_law 2998 = .ok (.iload 6, 2) := by decide +kernel
theorem dL_law_3000 : decode cL_law 3000 = .ok (.ifCond .ne 15, 3) := by decide +kernel
theorem dL_law_3003 : decode cL_law 3003 = .ok (.aload_n 3, 1) := by decide +kernel
theorem dL_law_3004 : decode cL_law 3004 = .ok (.iconst 0, 1) := by decide +kernel
theorem dL_law_3005 : decode cL_law 3005 = .ok (.laload, 1) := by decide +kernel
theorem dL_law_3006 : decode cL_law 3006 = .ok (.iload 7, 2) := by decide +kernel
theorem dL_law_3008 : decode cL_law 3008 = .ok (.i2l, 1) := by decide +kernel
theorem dL_law_3009 : decode cL_law 3009 = .ok (.lcmp, 1) := by decide +kernel
theorem dL_law_3010 : decode cL_law 3010 = .ok (.ifCond .eq 5, 3) := by decide +kernel
theorem dL_law_3013 : decode cL_law 3013 = .ok (.iconst 0, 1) := by decide +kernel
theorem dL_law_3014 : decode cL_law 3014 = .ok (.ireturn, 1) := by decide +kernel
theorem dL_law_3015 : decode cL_law 3015 = .ok (.goto 492, 3) := by decide +kernel
theorem dL_law_3018 : decode cL_law 3018 = .ok (.aload_n 1, 1) := by decide +kernel
theorem dL_law_3019 : decode cL_law 3019 = .ok (.aload_n 0, 1) := by decide +kernel
theorem dL_law_3020 : decode cL_law 3020 = .ok (.iload 5, 2) := by decide +kernel
theorem dL_law_3022 : decode cL_law 3022 = .ok (.iconst 1, 1) := by decide +kernel
theorem dL_law_3023 : decode cL_law 3023 = .ok (.iadd, 1) := by decide +kernel
theorem dL_law_3024 : decode cL_law 3024 = .ok (.iaload, 1) := by decide +kernel
theorem dL_law_3025 : decode cL_law 3025 = .ok (.aload_n 0, 1) := by decide +kernel
theorem dL_law_3026 : decode cL_law 3026 = .ok (.iload 5, 2) := by decide +kernel
theorem dL_law_3028 : decode cL_law 3028 = .ok (.iconst 2, 1) := by decide +kernel
theorem dL_law_3029 : decode cL_law 3029 = .ok (.iadd, 1) := by decide +kernel
theorem dL_law_3030 : decode cL_law 3030 = .ok (.iaload, 1) := by decide +kernel
theorem dL_law_3031 : decode cL_law 3031 = .ok (.aload_n 0, 1) := by decide +kernel
theorem dL_law_3032 : decode cL_law 3032 = .ok (.iload 5, 2) := by decide +kernel
theorem dL_law_3034 : decode cL_law 3034 = .ok (.iconst 3, 1) := by decide +kernel
theorem dL_law_3035 : decode cL_law 3035 = .ok (.iadd, 1) := by decide +kernel
theorem dL_law_3036 : decode cL_law 3036 = .ok (.iaload, 1) := by decide +kernel
theorem dL_law_3037 : decode cL_law 3037 = .ok (.aload_n 0, 1) := by decide +kernel
theorem dL_law_3038 : decode cL_law 3038 = .ok (.iload 5, 2) := by decide +kernel
theorem dL_law_3040 : decode cL_law 3040 = .ok (.iconst 4, 1) := by decide +kernel
theorem dL_law_3041 : decode cL_law 3041 = .ok (.iadd, 1) := by decide +kernel
theorem dL_law_3042 : decode cL_law 3042 = .ok (.iaload, 1) := by decide +kernel
theorem dL_law_3043 : decode cL_law 3043 = .ok (.aload_n 0, 1) := by decide +kernel
theorem dL_law_3044 : decode cL_law 3044 = .ok (.iload 5, 2) := by decide +kernel
theorem dL_law_3046 : decode cL_law 3046 = .ok (.iconst 5, 1) := by decide +kernel
theorem dL_law_3047 : decode cL_law 3047 = .ok (.iadd, 1) := by decide +kernel
theorem dL_law_3048 : decode cL_law 3048 = .ok (.iaload, 1) := by decide +kernel
theorem dL_law_3049 : decode cL_law 3049 = .ok (.aload_n 3, 1) := by decide +kernel
theorem dL_law_3050 : decode cL_law 3050 = .ok (.invokestatic 368, 3) := by decide +kernel
theorem dL_law_3053 : decode cL_law 3053 = .ok (.istore 6, 2) := by decide +kernel
theorem dL_law_3055 : decode cL_law 3055 = .ok (.aload_n 2, 1) := by decide +kernel
theorem dL_law_3056 : decode cL_law 3056 = .ok (.aload_n 0, 1) := by decide +kernel
theorem dL_law_3057 : decode cL_law 3057 = .ok (.iload 5, 2) := by decide +kernel
theorem dL_law_3059 : decode cL_law 3059 = .ok (.iconst 1, 1) := by decide +kernel
theorem dL_law_3060 : decode cL_law 3060 = .ok (.iadd, 1) := by decide +kernel
theorem dL_law_3061 : decode cL_law 3061 = .ok (.iaload, 1) := by decide +kernel
theorem dL_law_3062 : decode cL_law 3062 = .ok (.aload_n 0, 1) := by decide +kernel
theorem dL_law_3063 : decode cL_law 3063 = .ok (.iload 5, 2) := by decide +kernel
theorem dL_law_3065 : decode cL_law 3065 = .ok (.iconst 2, 1) := by decide +kernel
theorem dL_law_3066 : decode cL_law 3066 = .ok (.iadd, 1) := by decide +kernel
theorem dL_law_3067 : decode cL_law 3067 = .ok (.iaload, 1) := by decide +kernel
theorem dL_law_3068 : decode cL_law 3068 = .ok (.aload_n 0, 1) := by decide +kernel
theorem dL_law_3069 : decode cL_law 3069 = .ok (.iload 5, 2) := by decide +kernel
theorem dL_law_3071 : decode cL_law 3071 = .ok (.iconst 3, 1) := by decide +kernel
theorem dL_law_3072 : decode cL_law 3072 = .ok (.iadd, 1) := by decide +kernel
theorem dL_law_3073 : decode cL_law 3073 = .ok (.iaload, 1) := by decide +kernel
theorem dL_law_3074 : decode cL_law 3074 = .ok (.aload_n 0, 1) := by decide +kernel
theorem dL_law_3075 : decode cL_law 3075 = .ok (.iload 5, 2) := by decide +kernel
theorem dL_law_3077 : decode cL_law 3077 = .ok (.iconst 4, 1) := by decide +kernel
theorem dL_law_3078 : decode cL_law 3078 = .ok (.iadd, 1) := by decide +kernel
theorem dL_law_3079 : decode cL_law 3079 = .ok (.iaload, 1) := by decide +kernel
theorem dL_law_3080 : decode cL_law 3080 = .ok (.aload_n 0, 1) := by decide +kernel
theorem dL_law_3081 : decode cL_law 3081 = .ok (.iload 5, 2) := by decide +kernel
theorem dL_law_3083 : decode cL_law 3083 = .ok (.iconst 5, 1) := by decide +kernel
theorem dL_law_3084 : decode cL_law 3084 = .ok (.iadd, 1) := by decide +kernel
theorem dL_law_3085 : decode cL_law 3085 = .ok (.iaload, 1) := by decide +kernel
theorem dL_law_3086 : decode cL_law 3086 = .ok (.invokevirtual 371, 3) := by decide +kernel
theorem dL_law_3089 : decode cL_law 3089 = .ok (.istore 7, 2) := by decide +kernel
theorem dL_law_3091 : decode cL_law 3091 = .ok (.aload_n 2, 1) := by decide +kernel
theorem dL_law_3092 : decode cL_law 3092 = .ok (.invokevirtual 205, 3) := by decide +kernel
theorem dL_law_3095 : decode cL_law 3095 = .ok (.iload 6, 2) := by decide +kernel
theorem dL_law_3097 : decode cL_law 3097 = .ok (.if_icmp .eq 5, 3) := by decide +kernel
theorem dL_law_3100 : decode cL_law 3100 = .ok (.iconst 0, 1) := by decide +kernel
theorem dL_law_3101 : decode cL_law 3101 = .ok (.ireturn, 1) := by decide +kernel
theorem dL_law_3102 : decode cL_law 3102 = .ok (.iload 6, 2) := by decide +kernel
theorem dL_law_3104 : decode cL_law 3104 = .ok (.ifCond .ne 15, 3) := by decide +kernel
theorem dL_law_3107 : decode cL_law 3107 = .ok (.aload_n 3, 1) := by decide +kernel
theorem dL_law_3108 : decode cL_law 3108 = .ok (.iconst 0, 1) := by decide +kernel
theorem dL_law_3109 : decode cL_law 3109 = .ok (.laload, 1) := by decide +kernel
theorem dL_law_3110 : decode cL_law 3110 = .ok (.iload 7, 2) := by decide +kernel
theorem dL_law_3112 : decode cL_law 3112 = .ok (.i2l, 1) := by decide +kernel
theorem dL_law_3113 : decode cL_law 3113 = .ok (.lcmp, 1) := by decide +kernel
theorem dL_law_3114 : decode cL_law 3114 = .ok (.ifCond .eq 5, 3) := by decide +kernel
theorem dL_law_3117 : decode cL_law 3117 = .ok (.iconst 0, 1) := by decide +kernel
theorem dL_law_3118 : decode cL_law 3118 = .ok (.ireturn, 1) := by decide +kernel
theorem dL_law_3119 : decode cL_law 3119 = .ok (.goto 388, 3) := by decide +kernel
theorem dL_law_3122 : decode cL_law 3122 = .ok (.aload_n 1, 1) := by decide +kernel
theorem dL_law_3123 : decode cL_law 3123 = .ok (.aload_n 0, 1) := by decide +kernel
theorem dL_law_3124 : decode cL_law 3124 = .ok (.iload 5, 2) := by decide +kernel
theorem dL_law_3126 : decode cL_law 3126 = .ok (.iconst 1, 1) := by decide +kernel
theorem dL_law_3127 : decode cL_law 3127 = .ok (.iadd, 1) := by decide +kernel
theorem dL_law_3128 : decode cL_law 3128 = .ok (.iaload, 1) := by decide +kernel
theorem dL_law_3129 : decode cL_law 3129 = .ok (.aload_n 0, 1) := by decide +kernel
theorem dL_law_3130 : decode cL_law 3130 = .ok (.iload 5, 2) := by decide +kernel
theorem dL_law_3132 : decode cL_law 3132 = .ok (.iconst 2, 1) := by decide +kernel
theorem dL_law_3133 : decode cL_law 3133 = .ok (.iadd, 1) := by decide +kernel
theorem dL_law_3134 : decode cL_law 3134 = .ok (.iaload, 1) := by decide +kernel
theorem dL_law_3135 : decode cL_law 3135 = .ok (.aload_n 3, 1) := by decide +kernel
theorem dL_law_3136 : decode cL_law 3136 = .ok (.invokestatic 372, 3) := by decide +kernel
theorem dL_law_3139 : decode cL_law 3139 = .ok (.istore 6, 2) := by decide +kernel
theorem dL_law_3141 : decode cL_law 3141 = .ok (.aload_n 2, 1) := by decide +kernel
theorem dL_law_3142 : decode cL_law 3142 = .ok (.aload_n 0, 1) := by decide +kernel
theorem dL_law_3143 : decode cL_law 3143 = .ok (.iload 5, 2) := by decide +kernel
theorem dL_law_3145 : decode cL_law 3145 = .ok (.iconst 1, 1) := by decide +kernel
theorem dL_law_3146 : decode cL_law 3146 = .ok (.iadd, 1) := by decide +kernel
theorem dL_law_3147 : decode cL_law 3147 = .ok (.iaload, 1) := by decide +kernel
theorem dL_law_3148 : decode cL_law 3148 = .ok (.aload_n 0, 1) := by decide +kernel
theorem dL_law_3149 : decode cL_law 3149 = .ok (.iload 5, 2) := by decide +kernel
theorem dL_law_3151 : decode cL_law 3151 = .ok (.iconst 2, 1) := by decide +kernel
theorem dL_law_3152 : decode cL_law 3152 = .ok (.iadd, 1) := by decide +kernel
theorem dL_law_3153 : decode cL_law 3153 = .ok (.iaload, 1) := by decide +kernel
theorem dL_law_3154 : decode cL_law 3154 = .ok (.invokevirtual 374, 3) := by decide +kernel
theorem dL_law_3157 : decode cL_law 3157 = .ok (.istore 7, 2) := by decide +kernel
theorem dL_law_3159 : decode cL_law 3159 = .ok (.aload_n 2, 1) := by decide +kernel
theorem dL_law_3160 : decode cL_law 3160 = .ok (.invokevirtual 205, 3) := by decide +kernel
theorem dL_law_3163 : decode cL_law 3163 = .ok (.iload 6, 2) := by decide +kernel
theorem dL_law_3165 : decode cL_law 3165 = .ok (.if_icmp .eq 5, 3) := by decide +kernel
theorem dL_law_3168 : decode cL_law 3168 = .ok (.iconst 0, 1) := by decide +kernel
theorem dL_law_3169 : decode cL_law 3169 = .ok (.ireturn, 1) := by decide +kernel
theorem dL_law_3170 : decode cL_law 3170 = .ok (.iload 6, 2) := by decide +kernel
theorem dL_law_3172 : decode cL_law 3172 = .ok (.ifCond .ne 15, 3) := by decide +kernel
theorem dL_law_3175 : decode cL_law 3175 = .ok (.aload_n 3, 1) := by decide +kernel
theorem dL_law_3176 : decode cL_law 3176 = .ok (.iconst 0, 1) := by decide +kernel
theorem dL_law_3177 : decode cL_law 3177 = .ok (.laload, 1) := by decide +kernel
theorem dL_law_3178 : decode cL_law 3178 = .ok (.iload 7, 2) := by decide +kernel
theorem dL_law_3180 : decode cL_law 3180 = .ok (.i2l, 1) := by decide +kernel
theorem dL_law_3181 : decode cL_law 3181 = .ok (.lcmp, 1) := by decide +kernel
theorem dL_law_3182 : decode cL_law 3182 = .ok (.ifCond .eq 5, 3) := by decide +kernel
theorem dL_law_3185 : decode cL_law 3185 = .ok (.iconst 0, 1) := by decide +kernel
theorem dL_law_3186 : decode cL_law 3186 = .ok (.ireturn, 1) := by decide +kernel
theorem dL_law_3187 : decode cL_law 3187 = .ok (.goto 320, 3) := by decide +kernel
theorem dL_law_3190 : decode cL_law 3190 = .ok (.aload_n 1, 1) := by decide +kernel
theorem dL_law_3191 : decode cL_law 3191 = .ok (.aload_n 0, 1) := by decide +kernel
theorem dL_law_3192 : decode cL_law 3192 = .ok (.iload 5, 2) := by decide +kernel
theorem dL_law_3194 : decode cL_law 3194 = .ok (.iconst 1, 1) := by decide +kernel
theorem dL_law_3195 : decode cL_law 3195 = .ok (.iadd, 1) := by decide +kernel
theorem dL_law_3196 : decode cL_law 3196 = .ok (.iaload, 1) := by decide +kernel
theorem dL_law_3197 : decode cL_law 3197 = .ok (.aload_n 0, 1) := by decide +kernel
theorem dL_law_3198 : decode cL_law 3198 = .ok (.iload 5, 2) := by decide +kernel
theorem dL_law_3200 : decode cL_law 3200 = .ok (.iconst 2, 1) := by decide +kernel
theorem dL_law_3201 : decode cL_law 3201 = .ok (.iadd, 1) := by decide +kernel
theorem dL_law_3202 : decode cL_law 3202 = .ok (.iaload, 1) := by decide +kernel
theorem dL_law_3203 : decode cL_law 3203 = .ok (.aload_n 0, 1) := by decide +kernel
theorem dL_law_3204 : decode cL_law 3204 = .ok (.iload 5, 2) := by decide +kernel
theorem dL_law_3206 : decode cL_law 3206 = .ok (.iconst 3, 1) := by decide +kernel
theorem dL_law_3207 : decode cL_law 3207 = .ok (.iadd, 1) := by decide +kernel
theorem dL_law_3208 : decode cL_law 3208 = .ok (.iaload, 1) := by decide +kernel
theorem dL_law_3209 : decode cL_law 3209 = .ok (.aload_n 3, 1) := by decide +kernel
theorem dL_law_3210 : decode cL_law 3210 = .ok (.invokestatic 375, 3) := by decide +kernel
theorem dL_law_3213 : decode cL_law 3213 = .ok (.istore 6, 2) := by decide +kernel
theorem dL_law_3215 : decode cL_law 3215 = .ok (.aload_n 2, 1) := by decide +kernel
theorem dL_law_3216 : decode cL_law 3216 = .ok (.aload_n 0, 1) := by decide +kernel
theorem dL_law_3217 : decode cL_law 3217 = .ok (.iload 5, 2) := by decide +kernel
theorem dL_law_3219 : decode cL_law 3219 = .ok (.iconst 1, 1) := by decide +kernel
theorem dL_law_3220 : decode cL_law 3220 = .ok (.iadd, 1) := by decide +kernel
theorem dL_law_3221 : decode cL_law 3221 = .ok (.iaload, 1) := by decide +kernel
theorem dL_law_3222 : decode cL_law 3222 = .ok (.aload_n 0, 1) := by decide +kernel
theorem dL_law_3223 : decode cL_law 3223 = .ok (.iload 5, 2) := by decide +kernel
theorem dL_law_3225 : decode cL_law 3225 = .ok (.iconst 2, 1) := by decide +kernel
theorem dL_law_3226 : decode cL_law 3226 = .ok (.iadd, 1) := by decide +kernel
theorem dL_law_3227 : decode cL_law 3227 = .ok (.iaload, 1) := by decide +kernel
theorem dL_law_3228 : decode cL_law 3228 = .ok (.aload_n 0, 1) := by decide +kernel
theorem dL_law_3229 : decode cL_law 3229 = .ok (.iload 5, 2) := by decide +kernel
theorem dL_law_3231 : decode cL_law 3231 = .ok (.iconst 3, 1) := by decide +kernel
theorem dL_law_3232 : decode cL_law 3232 = .ok (.iadd, 1) := by decide +kernel
theorem dL_law_3233 : decode cL_law 3233 = .ok (.iaload, 1) := by decide +kernel
theorem dL_law_3234 : decode cL_law 3234 = .ok (.invokevirtual 377, 3) := by decide +kernel
theorem dL_law_3237 : decode cL_law 3237 = .ok (.istore 7, 2) := by decide +kernel
theorem dL_law_3239 : decode cL_law 3239 = .ok (.aload_n 2, 1) := by decide +kernel
theorem dL_law_3240 : decode cL_law 3240 = .ok (.invokevirtual 205, 3) := by decide +kernel
theorem dL_law_3243 : decode cL_law 3243 = .ok (.iload 6, 2) := by decide +kernel
theorem dL_law_3245 : decode cL_law 3245 = .ok (.if_icmp .eq 5, 3) := by decide +kernel
theorem dL_law_3248 : decode cL_law 3248 = .ok (.iconst 0, 1) := by decide +kernel
theorem dL_law_3249 : decode cL_law 3249 = .ok (.ireturn, 1) := by decide +kernel
theorem dL_law_3250 : decode cL_law 3250 = .ok (.iload 6, 2) := by decide +kernel
theorem dL_law_3252 : decode cL_law 3252 = .ok (.ifCond .ne 15, 3) := by decide +kernel
theorem dL_law_3255 : decode cL_law 3255 = .ok (.aload_n 3, 1) := by decide +kernel
theorem dL_law_3256 : decode cL_law 3256 = .ok (.iconst 0, 1) := by decide +kernel
theorem dL_law_3257 : decode cL_law 3257 = .ok (.laload, 1) := by decide +kernel
theorem dL_law_3258 : decode cL_law 3258 = .ok (.iload 7, 2) := by decide +kernel
theorem dL_law_3260 : decode cL_law 3260 = .ok (.i2l, 1) := by decide +kernel
theorem dL_law_3261 : decode cL_law 3261 = .ok (.lcmp, 1) := by decide +kernel
theorem dL_law_3262 : decode cL_law 3262 = .ok (.ifCond .eq 5, 3) := by decide +kernel
theorem dL_law_3265 : decode cL_law 3265 = .ok (.iconst 0, 1) := by decide +kernel
theorem dL_law_3266 : decode cL_law 3266 = .ok (.ireturn, 1) := by decide +kernel
theorem dL_law_3267 : decode cL_law 3267 = .ok (.goto 240, 3) := by decide +kernel
theorem dL_law_3270 : decode cL_law 3270 = .ok (.aload_n 1, 1) := by decide +kernel
theorem dL_law_3271 : decode cL_law 3271 = .ok (.aload_n 0, 1) := by decide +kernel
theorem dL_law_3272 : decode cL_law 3272 = .ok (.iload 5, 2) := by decide +kernel
theorem dL_law_3274 : decode cL_law 3274 = .ok (.iconst 1, 1) := by decide +kernel
theorem dL_law_3275 : decode cL_law 3275 = .ok (.iadd, 1) := by decide +kernel
theorem dL_law_3276 : decode cL_law 3276 = .ok (.iaload, 1) := by decide +kernel
theorem dL_law_3277 : decode cL_law 3277 = .ok (.aload_n 0, 1) := by decide +kernel
theorem dL_law_3278 : decode cL_law 3278 = .ok (.iload 5, 2) := by decide +kernel
theorem dL_law_3280 : decode cL_law 3280 = .ok (.iconst 2, 1) := by decide +kernel
theorem dL_law_3281 : decode cL_law 3281 = .ok (.iadd, 1) := by decide +kernel
theorem dL_law_3282 : decode cL_law 3282 = .ok (.iaload, 1) := by decide +kernel
theorem dL_law_3283 : decode cL_law 3283 = .ok (.aload_n 3, 1) := by decide +kernel
theorem dL_law_3284 : decode cL_law 3284 = .ok (.invokestatic 378, 3) := by decide +kernel
theorem dL_law_3287 : decode cL_law 3287 = .ok (.istore 6, 2) := by decide +kernel
theorem dL_law_3289 : decode cL_law 3289 = .ok (.aload_n 2, 1) := by decide +kernel
theorem dL_law_3290 : decode cL_law 3290 = .ok (.aload_n 0, 1) := by decide +kernel
theorem dL_law_3291 : decode cL_law 3291 = .ok (.iload 5, 2) := by decide +kernel
theorem dL_law_3293 : decode cL_law 3293 = .ok (.iconst 1, 1) := by decide +kernel
theorem dL_law_3294 : decode cL_law 3294 = .ok (.iadd, 1) := by decide +kernel
theorem dL_law_3295 : decode cL_law 3295 = .ok (.iaload, 1) := by decide +kernel
theorem dL_law_3296 : decode cL_law 3296 = .ok (.aload_n 0, 1) := by decide +kernel
theorem dL_law_3297 : decode cL_law 3297 = .ok (.iload 5, 2) := by decide +kernel
theorem dL_law_3299 : decode cL_law 3299 = .ok (.iconst 2, 1) := by decide +kernel
theorem dL_law_3300 : decode cL_law 3300 = .ok (.iadd, 1) := by decide +kernel
theorem dL_law_3301 : decode cL_law 3301 = .ok (.iaload, 1) := by decide +kernel
theorem dL_law_3302 : decode cL_law 3302 = .ok (.invokevirtual 380, 3) := by decide +kernel
theorem dL_law_3305 : decode cL_law 3305 = .ok (.istore 7, 2) := by decide +kernel
theorem dL_law_3307 : decode cL_law 3307 = .ok (.aload_n 2, 1) := by decide +kernel
theorem dL_law_3308 : decode cL_law 3308 = .ok (.invokevirtual 205, 3) := by decide +kernel
theorem dL_law_3311 : decode cL_law 3311 = .ok (.iload 6, 2) := by decide +kernel
theorem dL_law_3313 : decode cL_law 3313 = .ok (.if_icmp .eq 5, 3) := by decide +kernel
theorem dL_law_3316 : decode cL_law 3316 = .ok (.iconst 0, 1) := by decide +kernel
theorem dL_law_3317 : decode cL_law 3317 = .ok (.ireturn, 1) := by decide +kernel
theorem dL_law_3318 : decode cL_law 3318 = .ok (.iload 6, 2) := by decide +kernel
theorem dL_law_3320 : decode cL_law 3320 = .ok (.ifCond .ne 15, 3) := by decide +kernel
theorem dL_law_3323 : decode cL_law 3323 = .ok (.aload_n 3, 1) := by decide +kernel
theorem dL_law_3324 : decode cL_law 3324 = .ok (.iconst 0, 1) := by decide +kernel
theorem dL_law_3325 : decode cL_law 3325 = .ok (.laload, 1) := by decide +kernel
theorem dL_law_3326 : decode cL_law 3326 = .ok (.iload 7, 2) := by decide +kernel
theorem dL_law_3328 : decode cL_law 3328 = .ok (.i2l, 1) := by decide +kernel
theorem dL_law_3329 : decode cL_law 3329 = .ok (.lcmp, 1) := by decide +kernel
theorem dL_law_3330 : decode cL_law 3330 = .ok (.ifCond .eq 5, 3) := by decide +kernel
theorem dL_law_3333 : decode cL_law 3333 = .ok (.iconst 0, 1) := by decide +kernel
theorem dL_law_3334 : decode cL_law 3334 = .ok (.ireturn, 1) := by decide +kernel
theorem dL_law_3335 : decode cL_law 3335 = .ok (.goto 172, 3) := by decide +kernel
theorem dL_law_3338 : decode cL_law 3338 = .ok (.aload_n 1, 1) := by decide +kernel
theorem dL_law_3339 : decode cL_law 3339 = .ok (.aload_n 3, 1) := by decide +kernel
theorem dL_law_3340 : decode cL_law 3340 = .ok (.invokestatic 381, 3) := by decide +kernel
theorem dL_law_3343 : decode cL_law 3343 = .ok (.istore 6, 2) := by decide +kernel
theorem dL_law_3345 : decode cL_law 3345 = .ok (.aload_n 2, 1) := by decide +kernel
theorem dL_law_3346 : decode cL_law 3346 = .ok (.invokevirtual 383, 3) := by decide +kernel
theorem dL_law_3349 : decode cL_law 3349 = .ok (.istore 7, 2) := by decide +kernel
theorem dL_law_3351 : decode cL_law 3351 = .ok (.aload_n 2, 1) := by decide +kernel
theorem dL_law_3352 : decode cL_law 3352 = .ok (.invokevirtual 205, 3) := by decide +kernel
theorem dL_law_3355 : decode cL_law 3355 = .ok (.iload 6, 2) := by decide +kernel
theorem dL_law_3357 : decode cL_law 3357 = .ok (.if_icmp .eq 5, 3) := by decide +kernel
theorem dL_law_3360 : decode cL_law 3360 = .ok (.iconst 0, 1) := by decide +kernel
theorem dL_law_3361 : decode cL_law 3361 = .ok (.ireturn, 1) := by decide +kernel
theorem dL_law_3362 : decode cL_law 3362 = .ok (.iload 6, 2) := by decide +kernel
theorem dL_law_3364 : decode cL_law 3364 = .ok (.ifCond .ne 15, 3) := by decide +kernel
theorem dL_law_3367 : decode cL_law 3367 = .ok (.aload_n 3, 1) := by decide +kernel
theorem dL_law_3368 : decode cL_law 3368 = .ok (.iconst 0, 1) := by decide +kernel
theorem dL_law_3369 : decode cL_law 3369 = .ok (.laload, 1) := by decide +kernel
theorem dL_law_3370 : decode cL_law 3370 = .ok (.iload 7, 2) := by decide +kernel
theorem dL_law_3372 : decode cL_law 3372 = .ok (.i2l, 1) := by decide +kernel
theorem dL_law_3373 : decode cL_law 3373 = .ok (.lcmp, 1) := by decide +kernel
theorem dL_law_3374 : decode cL_law 3374 = .ok (.ifCond .eq 5, 3) := by decide +kernel
theorem dL_law_3377 : decode cL_law 3377 = .ok (.iconst 0, 1) := by decide +kernel
theorem dL_law_3378 : decode cL_law 3378 = .ok (.ireturn, 1) := by decide +kernel
theorem dL_law_3379 : decode cL_law 3379 = .ok (.goto 128, 3) := by decide +kernel
theorem dL_law_3382 : decode cL_law 3382 = .ok (.aload_n 1, 1) := by decide +kernel
theorem dL_law_3383 : decode cL_law 3383 = .ok (.invokevirtual 384, 3) := by decide +kernel
theorem dL_law_3386 : decode cL_law 3386 = .ok (.aload_n 2, 1) := by decide +kernel
theorem dL_law_3387 : decode cL_law 3387 = .ok (.invokevirtual 387, 3) := by decide +kernel
theorem dL_law_3390 : decode cL_law 3390 = .ok (.if_icmp .eq 117, 3) := by decide +kernel
theorem dL_law_3393 : decode cL_law 3393 = .ok (.iconst 0, 1) := by decide +kernel
theorem dL_law_3394 : decode cL_law 3394 = .ok (.ireturn, 1) := by decide +kernel
theorem dL_law_3395 : decode cL_law 3395 = .ok (.aload_n 1, 1) := by decide +kernel
theorem dL_law_3396 : decode cL_law 3396 = .ok (.aload_n 0, 1) := by decide +kernel
theorem dL_law_3397 : decode cL_law 3397 = .ok (.iload 5, 2) := by decide +kernel
theorem dL_law_3399 : decode cL_law 3399 = .ok (.iconst 1, 1) := by decide +kernel
theorem dL_law_3400 : decode cL_law 3400 = .ok (.iadd, 1) := by decide +kernel
theorem dL_law_3401 : decode cL_law 3401 = .ok (.iaload, 1) := by decide +kernel
theorem dL_law_3402 : decode cL_law 3402 = .ok (.aload_n 3, 1) := by decide +kernel
theorem dL_law_3403 : decode cL_law 3403 = .ok (.invokestatic 388, 3) := by decide +kernel
theorem dL_law_3406 : decode cL_law 3406 = .ok (.istore 6, 2) := by decide +kernel
theorem dL_law_3408 : decode cL_law 3408 = .ok (.aload_n 2, 1) := by decide +kernel
theorem dL_law_3409 : decode cL_law 3409 = .ok (.aload_n 0, 1) := by decide +kernel
theorem dL_law_3410 : decode cL_law 3410 = .ok (.iload 5, 2) := by decide +kernel
theorem dL_law_3412 : decode cL_law 3412 = .ok (.iconst 1, 1) := by decide +kernel
theorem dL_law_3413 : decode cL_law 3413 = .ok (.iadd, 1) := by decide +kernel
theorem dL_law_3414 : decode cL_law 3414 = .ok (.iaload, 1) := by decide +kernel
theorem dL_law_3415 : decode cL_law 3415 = .ok (.invokevirtual 390, 3) := by decide +kernel
theorem dL_law_3418 : decode cL_law 3418 = .ok (.istore 7, 2) := by decide +kernel
theorem dL_law_3420 : decode cL_law 3420 = .ok (.aload_n 2, 1) := by decide +kernel
theorem dL_law_3421 : decode cL_law 3421 = .ok (.invokevirtual 205, 3) := by decide +kernel
theorem dL_law_3424 : decode cL_law 3424 = .ok (.iload 6, 2) := by decide +kernel
theorem dL_law_3426 : decode cL_law 3426 = .ok (.if_icmp .eq 5, 3) := by decide +kernel
theorem dL_law_3429 : decode cL_law 3429 = .ok (.iconst 0, 1) := by decide +kernel
theorem dL_law_3430 : decode cL_law 3430 = .ok (.ireturn, 1) := by decide +kernel
theorem dL_law_3431 : decode cL_law 3431 = .ok (.iload 6, 2) := by decide +kernel
theorem dL_law_3433 : decode cL_law 3433 = .ok (.ifCond .ne 15, 3) := by decide +kernel
theorem dL_law_3436 : decode cL_law 3436 = .ok (.aload_n 3, 1) := by decide +kernel
theorem dL_law_3437 : decode cL_law 3437 = .ok (.iconst 0, 1) := by decide +kernel
theorem dL_law_3438 : decode cL_law 3438 = .ok (.laload, 1) := by decide +kernel
theorem dL_law_3439 : decode cL_law 3439 = .ok (.iload 7, 2) := by decide +kernel
theorem dL_law_3441 : decode cL_law 3441 = .ok (.i2l, 1) := by decide +kernel
theorem dL_law_3442 : decode cL_law 3442 = .ok (.lcmp, 1) := by decide +kernel
theorem dL_law_3443 : decode cL_law 3443 = .ok (.ifCond .eq 5, 3) := by decide +kernel
theorem dL_law_3446 : decode cL_law 3446 = .ok (.iconst 0, 1) := by decide +kernel
theorem dL_law_3447 : decode cL_law 3447 = .ok (.ireturn, 1) := by decide +kernel
theorem dL_law_3448 : decode cL_law 3448 = .ok (.goto 59, 3) := by decide +kernel
theorem dL_law_3451 : decode cL_law 3451 = .ok (.aload_n 1, 1) := by decide +kernel
theorem dL_law_3452 : decode cL_law 3452 = .ok (.aload_n 0, 1) := by decide +kernel
theorem dL_law_3453 : decode cL_law 3453 = .ok (.iload 5, 2) := by decide +kernel
theorem dL_law_3455 : decode cL_law 3455 = .ok (.iconst 1, 1) := by decide +kernel
theorem dL_law_3456 : decode cL_law 3456 = .ok (.iadd, 1) := by decide +kernel
theorem dL_law_3457 : decode cL_law 3457 = .ok (.iaload, 1) := by decide +kernel
theorem dL_law_3458 : decode cL_law 3458 = .ok (.aload_n 3, 1) := by decide +kernel
theorem dL_law_3459 : decode cL_law 3459 = .ok (.invokestatic 391, 3) := by decide +kernel
theorem dL_law_3462 : decode cL_law 3462 = .ok (.istore 6, 2) := by decide +kernel
theorem dL_law_3464 : decode cL_law 3464 = .ok (.aload_n 2, 1) := by decide +kernel
theorem dL_law_3465 : decode cL_law 3465 = .ok (.aload_n 0, 1) := by decide +kernel
theorem dL_law_3466 : decode cL_law 3466 = .ok (.iload 5, 2) := by decide +kernel
theorem dL_law_3468 : decode cL_law 3468 = .ok (.iconst 1, 1) := by decide +kernel
theorem dL_law_3469 : decode cL_law 3469 = .ok (.iadd, 1) := by decide +kernel
theorem dL_law_3470 : decode cL_law 3470 = .ok (.iaload, 1) := by decide +kernel
theorem dL_law_3471 : decode cL_law 3471 = .ok (.invokevirtual 393, 3) := by decide +kernel
theorem dL_law_3474 : decode cL_law 3474 = .ok (.istore 7, 2) := by decide +kernel
theorem dL_law_3476 : decode cL_law 3476 = .ok (.aload_n 2, 1) := by decide +kernel
theorem dL_law_3477 : decode cL_law 3477 = .ok (.invokevirtual 205, 3) := by decide +kernel
theorem dL_law_3480 : decode cL_law 3480 = .ok (.iload 6, 2) := by decide +kernel
theorem dL_law_3482 : decode cL_law 3482 = .ok (.if_icmp .eq 5, 3) := by decide +kernel
theorem dL_law_3485 : decode cL_law 3485 = .ok (.iconst 0, 1) := by decide +kernel
theorem dL_law_3486 : decode cL_law 3486 = .ok (.ireturn, 1) := by decide +kernel
theorem dL_law_3487 : decode cL_law 3487 = .ok (.iload 6, 2) := by decide +kernel
theorem dL_law_3489 : decode cL_law 3489 = .ok (.ifCond .ne 15, 3) := by decide +kernel
theorem dL_law_3492 : decode cL_law 3492 = .ok (.aload_n 3, 1) := by decide +kernel
theorem dL_law_3493 : decode cL_law 3493 = .ok (.iconst 0, 1) := by decide +kernel
theorem dL_law_3494 : decode cL_law 3494 = .ok (.laload, 1) := by decide +kernel
theorem dL_law_3495 : decode cL_law 3495 = .ok (.iload 7, 2) := by decide +kernel
theorem dL_law_3497 : decode cL_law 3497 = .ok (.i2l, 1) := by decide +kernel
theorem dL_law_3498 : decode cL_law 3498 = .ok (.lcmp, 1) := by decide +kernel
theorem dL_law_3499 : decode cL_law 3499 = .ok (.ifCond .eq 5, 3) := by decide +kernel
theorem dL_law_3502 : decode cL_law 3502 = .ok (.iconst 0, 1) := by decide +kernel
theorem dL_law_3503 : decode cL_law 3503 = .ok (.ireturn, 1) := by decide +kernel
theorem dL_law_3504 : decode cL_law 3504 = .ok (.goto 3, 3) := by decide +kernel
theorem dL_law_3507 : decode cL_law 3507 = .ok (.iinc 5 6, 3) := by decide +kernel
theorem dL_law_3510 : decode cL_law 3510 = .ok (.goto (-3482), 3) := by decide +kernel
theorem dL_law_3513 : decode cL_law 3513 = .ok (.iconst 1, 1) := by decide +kernel
theorem dL_law_3514 : decode cL_law 3514 = .ok (.ireturn, 1) := by decide +kernel
