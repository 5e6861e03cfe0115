theorem dL_law_2700 : decode cL_law 2700 = .ok (.invokestatic 316, 3) := by decide +kernel
theorem dL_law_2703 : decode cL_law 2703 = .ok (.istore 6, 2) := by decide +kernel
theorem dL_law_2705 : decode cL_law 2705 = .ok (.aload_n 2, 1) := by decide +kernel
theorem dL_law_2706 : decode cL_law 2706 = .ok (.aload_n 0, 1) := by decide +kernel
theorem dL_law_2707 : decode cL_law 2707 = .ok (.iload 5, 2) := by decide +kernel
theorem dL_law_2709 : decode cL_law 2709 = .ok (.iconst 1, 1) := by decide +kernel
theorem dL_law_2710 : decode cL_law 2710 = .ok (.iadd, 1) := by decide +kernel
theorem dL_law_2711 : decode cL_law 2711 = .ok (.iaload, 1) := by decide +kernel
theorem dL_law_2712 : decode cL_law 2712 = .ok (.invokevirtual 318, 3) := by decide +kernel
theorem dL_law_2715 : decode cL_law 2715 = .ok (.istore 7, 2) := by decide +kernel
theorem dL_law_2717 : decode cL_law 2717 = .ok (.aload_n 2, 1) := by decide +kernel
theorem dL_law_2718 : decode cL_law 2718 = .ok (.invokevirtual 181, 3) := by decide +kernel
theorem dL_law_2721 : decode cL_law 2721 = .ok (.iload 6, 2) := by decide +kernel
theorem dL_law_2723 : decode cL_law 2723 = .ok (.if_icmp .eq 5, 3) := by decide +kernel
theorem dL_law_2726 : decode cL_law 2726 = .ok (.iconst 0, 1) := by decide +kernel
theorem dL_law_2727 : decode cL_law 2727 = .ok (.ireturn, 1) := by decide +kernel
theorem dL_law_2728 : decode cL_law 2728 = .ok (.iload 6, 2) := by decide +kernel
theorem dL_law_2730 : decode cL_law 2730 = .ok (.ifCond .ne 15, 3) := by decide +kernel
theorem dL_law_2733 : decode cL_law 2733 = .ok (.aload_n 3, 1) := by decide +kernel
theorem dL_law_2734 : decode cL_law 2734 = .ok (.iconst 0, 1) := by decide +kernel
theorem dL_law_2735 : decode cL_law 2735 = .ok (.laload, 1) := by decide +kernel
theorem dL_law_2736 : decode cL_law 2736 = .ok (.iload 7, 2) := by decide +kernel
theorem dL_law_2738 : decode cL_law 2738 = .ok (.i2l, 1) := by decide +kernel
theorem dL_law_2739 : decode cL_law 2739 = .ok (.lcmp, 1) := by decide +kernel
theorem dL_law_2740 : decode cL_law 2740 = .ok (.ifCond .eq 5, 3) := by decide +kernel
theorem dL_law_2743 : decode cL_law 2743 = .ok (.iconst 0, 1) := by decide +kernel
theorem dL_law_2744 : decode cL_law 2744 = .ok (.ireturn, 1) := by decide +kernel
theorem dL_law_2745 : decode cL_law 2745 = .ok (.goto 892, 3) := by decide +kernel
theorem dL_law_2748 : decode cL_law 2748 = .ok (.aload_n 1, 1) := by decide +kernel
theorem dL_law_2749 : decode cL_law 2749 = .ok (.aload_n 0, 1) := by decide +kernel
theorem dL_law_2750 : decode cL_law 2750 = .ok (.iload 5, 2) := by decide +kernel
theorem dL_law_2752 : decode cL_law 2752 = .ok (.iconst 1, 1) := by decide +kernel
theorem dL_law_2753 : decode cL_law 2753 = .ok (.iadd, 1) := by decide +kernel
theorem dL_law_2754 : decode cL_law 2754 = .ok (.iaload, 1) := by decide +kernel
theorem dL_law_2755 : decode cL_law 2755 = .ok (.aload_n 3, 1) := by decide +kernel
theorem dL_law_2756 : decode cL_law 2756 = .ok (.invokestatic 319, 3) := by decide +kernel
theorem dL_law_2759 : decode cL_law 2759 = .ok (.istore 6, 2) := by decide +kernel
theorem dL_law_2761 : decode cL_law 2761 = .ok (.aload_n 2, 1) := by decide +kernel
theorem dL_law_2762 : decode cL_law 2762 = .ok (.aload_n 0, 1) := by decide +kernel
theorem dL_law_2763 : decode cL_law 2763 = .ok (.iload 5, 2) := by decide +kernel
theorem dL_law_2765 : decode cL_law 2765 = .ok (.iconst 1, 1) := by decide +kernel
theorem dL_law_2766 : decode cL_law 2766 = .ok (.iadd, 1) := by decide +kernel
theorem dL_law_2767 : decode cL_law 2767 = .ok (.iaload, 1) := by decide +kernel
theorem dL_law_2768 : decode cL_law 2768 = .ok (.invokevirtual 321, 3) := by decide +kernel
theorem dL_law_2771 : decode cL_law 2771 = .ok (.istore 7, 2) := by decide +kernel
theorem dL_law_2773 : decode cL_law 2773 = .ok (.aload_n 2, 1) := by decide +kernel
theorem dL_law_2774 : decode cL_law 2774 = .ok (.invokevirtual 181, 3) := by decide +kernel
theorem dL_law_2777 : decode cL_law 2777 = .ok (.iload 6, 2) := by decide +kernel
theorem dL_law_2779 : decode cL_law 2779 = .ok (.if_icmp .eq 5, 3) := by decide +kernel
theorem dL_law_2782 : decode cL_law 2782 = .ok (.iconst 0, 1) := by decide +kernel
theorem dL_law_2783 : decode cL_law 2783 = .ok (.ireturn, 1) := by decide +kernel
theorem dL_law_2784 : decode cL_law 2784 = .ok (.iload 6, 2) := by decide +kernel
theorem dL_law_2786 : decode cL_law 2786 = .ok (.ifCond .ne 15, 3) := by decide +kernel
theorem dL_law_2789 : decode cL_law 2789 = .ok (.aload_n 3, 1) := by decide +kernel
theorem dL_law_2790 : decode cL_law 2790 = .ok (.iconst 0, 1) := by decide +kernel
theorem dL_law_2791 : decode cL_law 2791 = .ok (.laload, 1) := by decide +kernel
theorem dL_law_2792 : decode cL_law 2792 = .ok (.iload 7, 2) := by decide +kernel
theorem dL_law_2794 : decode cL_law 2794 = .ok (.i2l, 1) := by decide +kernel
theorem dL_law_2795 : decode cL_law 2795 = .ok (.lcmp, 1) := by decide +kernel
theorem dL_law_2796 : decode cL_law 2796 = .ok (.ifCond .eq 5, 3) := by decide +kernel
theorem dL_law_2799 : decode cL_law 2799 = .ok (.iconst 0, 1) := by decide +kernel
theorem dL_law_2800 : decode cL_law 2800 = .ok (.ireturn, 1) := by decide +kernel
theorem dL_law_2801 : decode cL_law 2801 = .ok (.goto 836, 3) := by decide +kernel
theorem dL_law_2804 : decode cL_law 2804 = .ok (.aload_n 1, 1) := by decide +kernel
theorem dL_law_2805 : decode cL_law 2805 = .ok (.aload_n 0, 1) := by decide +kernel
theorem dL_law_2806 : decode cL_law 2806 = .ok (.iload 5, 2) := by decide +kernel
theorem dL_law_2808 : decode cL_law 2808 = .ok (.iconst 1, 1) := by decide +kernel
theorem dL_law_2809 : decode cL_law 2809 = .ok (.iadd, 1) := by decide +kernel
theorem dL_law_2810 : decode cL_law 2810 = .ok (.iaload, 1) := by decide +kernel
theorem dL_law_2811 : decode cL_law 2811 = .ok (.aload_n 0, 1) := by decide +kernel
theorem dL_law_2812 : decode cL_law 2812 = .ok (.iload 5, 2) := by decide +kernel
theorem dL_law_2814 : decode cL_law 2814 = .ok (.iconst 2, 1) := by decide +kernel
theorem dL_law_2815 : decode cL_law 2815 = .ok (.iadd, 1) := by decide +kernel
theorem dL_law_2816 : decode cL_law 2816 = .ok (.iaload, 1) := by decide +kernel
theorem dL_law_2817 : decode cL_law 2817 = .ok (.aload_n 3, 1) := by decide +kernel
theorem dL_law_2818 : decode cL_law 2818 = .ok (.invokestatic 322, 3) := by decide +kernel
theorem dL_law_2821 : decode cL_law 2821 = .ok (.istore 6, 2) := by decide +kernel
theorem dL_law_2823 : decode cL_law 2823 = .ok (.aload_n 2, 1) := by decide +kernel
theorem dL_law_2824 : decode cL_law 2824 = .ok (.aload_n 0, 1) := by decide +kernel
theorem dL_law_2825 : decode cL_law 2825 = .ok (.iload 5, 2) := by decide +kernel
theorem dL_law_2827 : decode cL_law 2827 = .ok (.iconst 1, 1) := by decide +kernel
theorem dL_law_2828 : decode cL_law 2828 = .ok (.iadd, 1) := by decide +kernel
theorem dL_law_2829 : decode cL_law 2829 = .ok (.iaload, 1) := by decide +kernel
theorem dL_law_2830 : decode cL_law 2830 = .ok (.aload_n 0, 1) := by decide +kernel
theorem dL_law_2831 : decode cL_law 2831 = .ok (.iload 5, 2) := by decide +kernel
theorem dL_law_2833 : decode cL_law 2833 = .ok (.iconst 2, 1) := by decide +kernel
theorem dL_law_2834 : decode cL_law 2834 = .ok (.iadd, 1) := by decide +kernel
theorem dL_law_2835 : decode cL_law 2835 = .ok (.iaload, 1) := by decide +kernel
theorem dL_law_2836 : decode cL_law 2836 = .ok (.invokevirtual 324, 3) := by decide +kernel
theorem dL_law_2839 : decode cL_law 2839 = .ok (.istore 7, 2) := by decide +kernel
theorem dL_law_2841 : decode cL_law 2841 = .ok (.aload_n 2, 1) := by decide +kernel
theorem dL_law_2842 : decode cL_law 2842 = .ok (.invokevirtual 181, 3) := by decide +kernel
theorem dL_law_2845 : decode cL_law 2845 = .ok (.iload 6, 2) := by decide +kernel
theorem dL_law_2847 : decode cL_law 2847 = .ok (.if_icmp .eq 5, 3) := by decide +kernel
theorem dL_law_2850 : decode cL_law 2850 = .ok (.iconst 0, 1) := by decide +kernel
theorem dL_law_2851 : decode cL_law 2851 = .ok (.ireturn, 1) := by decide +kernel
theorem dL_law_2852 : decode cL_law 2852 = .ok (.iload 6, 2) := by decide +kernel
theorem dL_law_2854 : decode cL_law 2854 = .ok (.ifCond .ne 15, 3) := by decide +kernel
theorem dL_law_2857 : decode cL_law 2857 = .ok (.aload_n 3, 1) := by decide +kernel
theorem dL_law_2858 : decode cL_law 2858 = .ok (.iconst 0, 1) := by decide +kernel
theorem dL_law_2859 : decode cL_law 2859 = .ok (.laload, 1) := by decide +kernel
theorem dL_law_2860 : decode cL_law 2860 = .ok (.iload 7, 2) := by decide +kernel
theorem dL_law_2862 : decode cL_law 2862 = .ok (.i2l, 1) := by decide +kernel
theorem dL_law_2863 : decode cL_law 2863 = .ok (.lcmp, 1) := by decide +kernel
theorem dL_law_2864 : decode cL_law 2864 = .ok (.ifCond .eq 5, 3) := by decide +kernel
theorem dL_law_2867 : decode cL_law 2867 = .ok (.iconst 0, 1) := by decide +kernel
theorem dL_law_2868 : decode cL_law 2868 = .ok (.ireturn, 1) := by decide +kernel
theorem dL_law_2869 : decode cL_law 2869 = .ok (.goto 768, 3) := by decide +kernel
theorem dL_law_2872 : decode cL_law 2872 = .ok (.aload_n 1, 1) := by decide +kernel
theorem dL_law_2873 : decode cL_law 2873 = .ok (.aload_n 0, 1) := by decide +kernel
theorem dL_law_2874 : decode cL_law 2874 = .ok (.iload 5, 2) := by decide +kernel
theorem dL_law_2876 : decode cL_law 2876 = .ok (.iconst 1, 1) := by decide +kernel
theorem dL_law_2877 : decode cL_law 2877 = .ok (.iadd, 1) := by decide +kernel
theorem dL_law_2878 : decode cL_law 2878 = .ok (.iaload, 1) := by decide +kernel
theorem dL_law_2879 : decode cL_law 2879 = .ok (.aload_n 3, 1) := by decide +kernel
theorem dL_law_2880 : decode cL_law 2880 = .ok (.invokestatic 325, 3) := by decide +kernel
theorem dL_law_2883 : decode cL_law 2883 = .ok (.istore 6, 2) := by decide +kernel
theorem dL_law_2885 : decode cL_law 2885 = .ok (.aload_n 2, 1) := by decide +kernel
theorem dL_law_2886 : decode cL_law 2886 = .ok (.aload_n 0, 1) := by decide +kernel
theorem dL_law_2887 : decode cL_law 2887 = .ok (.iload 5, 2) := by decide +kernel
theorem dL_law_2889 : decode cL_law 2889 = .ok (.iconst 1, 1) := by decide +kernel
theorem dL_law_2890 : decode cL_law 2890 = .ok (.iadd, 1) := by decide +kernel
theorem dL_law_2891 : decode cL_law 2891 = .ok (.iaload, 1) := by decide +kernel
theorem dL_law_2892 : decode cL_law 2892 = .ok (.invokevirtual 327, 3) := by decide +kernel
theorem dL_law_2895 : decode cL_law 2895 = .ok (.istore 7, 2) := by decide +kernel
theorem dL_law_2897 : decode cL_law 2897 = .ok (.aload_n 2, 1) := by decide +kernel
theorem dL_law_2898 : decode cL_law 2898 = .ok (.invokevirtual 181, 3) := by decide +kernel
theorem dL_law_2901 : decode cL_law 2901 = .ok (.iload 6, 2) := by decide +kernel
theorem dL_law_2903 : decode cL_law 2903 = .ok (.if_icmp .eq 5, 3) := by decide +kernel
theorem dL_law_2906 : decode cL_law 2906 = .ok (.iconst 0, 1) := by decide +kernel
theorem dL_law_2907 : decode cL_law 2907 = .ok (.ireturn, 1) := by decide +kernel
theorem dL_law_2908 : decode cL_law 2908 = .ok (.iload 6, 2) := by decide +kernel
theorem dL_law_2910 : decode cL_law 2910 = .ok (.ifCond .ne 15, 3) := by decide +kernel
theorem dL_law_2913 : decode cL_law 2913 = .ok (.aload_n 3, 1) := by decide +kernel
theorem dL_law_2914 : decode cL_law 2914 = .ok (.iconst 0, 1) := by decide +kernel
theorem dL_law_2915 : decode cL_law 2915 = .ok (.laload, 1) := by decide +kernel
theorem dL_law_2916 : decode cL_law 2916 = .ok (.iload 7, 2) := by decide +kernel
theorem dL_law_2918 : decode cL_law 2918 = .ok (.i2l, 1) := by decide +kernel
theorem dL_law_2919 : decode cL_law 2919 = .ok (.lcmp, 1) := by decide +kernel
theorem dL_law_2920 : decode cL_law 2920 = .ok (.ifCond .eq 5, 3) := by decide +kernel
theorem dL_law_2923 : decode cL_law 2923 = .ok (.iconst 0, 1) := by decide +kernel
theorem dL_law_2924 : decode cL_law 2924 = .ok (.ireturn, 1) := by decide +kernel
theorem dL_law_2925 : decode cL_law 2925 = .ok (.goto 712, 3) := by decide +kernel
theorem dL_law_2928 : decode cL_law 2928 = .ok (.aload_n 1, 1) := by decide +kernel
theorem dL_law_2929 : decode cL_law 2929 = .ok (.aload_n 0, 1) := by decide +kernel
theorem dL_law_2930 : decode cL_law 2930 = .ok (.iload 5, 2) := by decide +kernel
theorem dL_law_2932 : decode cL_law 2932 = .ok (.iconst 1, 1) := by decide +kernel
theorem dL_law_2933 : decode cL_law 2933 = .ok (.iadd, 1) := by decide +kernel
theorem dL_law_2934 : decode cL_law 2934 = .ok (.iaload, 1) := by decide +kernel
theorem dL_law_2935 : decode cL_law 2935 = .ok (.aload_n 0, 1) := by decide +kernel
theorem dL_law_2936 : decode cL_law 2936 = .ok (.iload 5, 2) := by decide +kernel
theorem dL_law_2938 : decode cL_law 2938 = .ok (.iconst 2, 1) := by decide +kernel
theorem dL_law_2939 : decode cL_law 2939 = .ok (.iadd, 1) := by decide +kernel
theorem dL_law_2940 : decode cL_law 2940 = .ok (.iaload, 1) := by decide +kernel
theorem dL_law_2941 : decode cL_law 2941 = .ok (.aload_n 0, 1) := by decide +kernel
theorem dL_law_2942 : decode cL_law 2942 = .ok (.iload 5, 2) := by decide +kernel
theorem dL_law_2944 : decode cL_law 2944 = .ok (.iconst 3, 1) := by decide +kernel
theorem dL_law_2945 : decode cL_law 2945 = .ok (.iadd, 1) := by decide +kernel
theorem dL_law_2946 : decode cL_law 2946 = .ok (.iaload, 1) := by decide +kernel
theorem dL_law_2947 : decode cL_law 2947 = .ok (.aload_n 0, 1) := by decide +kernel
theorem dL_law_2948 : decode cL_law 2948 = .ok (.iload 5, 2) := by decide +kernel
theorem dL_law_2950 : decode cL_law 2950 = .ok (.iconst 4, 1) := by decide +kernel
theorem dL_law_2951 : decode cL_law 2951 = .ok (.iadd, 1) := by decide +kernel
theorem dL_law_2952 : decode cL_law 2952 = .ok (.iaload, 1) := by decide +kernel
theorem dL_law_2953 : decode cL_law 2953 = .ok (.aload_n 3, 1) := by decide +kernel
theorem dL_law_2954 : decode cL_law 2954 = .ok (.invokestatic 328, 3) := by decide +kernel
theorem dL_law_2957 : decode cL_law 2957 = .ok (.istore 6, 2) := by decide +kernel
theorem dL_law_2959 : decode cL_law 2959 = .ok (.aload_n 2, 1) := by decide +kernel
theorem dL_law_2960 : decode cL_law 2960 = .ok (.aload_n 0, 1) := by decide +kernel
theorem dL_law_2961 : decode cL_law 2961 = .ok (.iload 5, 2) := by decide +kernel
theorem dL_law_2963 : decode cL_law 2963 = .ok (.iconst 1, 1) := by decide +kernel
theorem dL_law_2964 : decode cL_law 2964 = .ok (.iadd, 1) := by decide +kernel
theorem dL_law_2965 : decode cL_law 2965 = .ok (.iaload, 1) := by decide +kernel
theorem dL_law_2966 : decode cL_law 2966 = .ok (.aload_n 0, 1) := by decide +kernel
theorem dL_law_2967 : decode cL_law 2967 = .ok (.iload 5, 2) := by decide +kernel
theorem dL_law_2969 : decode cL_law 2969 = .ok (.iconst 2, 1) := by decide +kernel
theorem dL_law_2970 : decode cL_law 2970 = .ok (.iadd, 1) := by decide +kernel
theorem dL_law_2971 : decode cL_law 2971 = .ok (.iaload, 1) := by decide +kernel
theorem dL_law_2972 : decode cL_law 2972 = .ok (.aload_n 0, 1) := by decide +kernel
theorem dL_law_2973 : decode cL_law 2973 = .ok (.iload 5, 2) := by decide +kernel
theorem dL_law_2975 : decode cL_law 2975 = .ok (.iconst 3, 1) := by decide +kernel
theorem dL_law_2976 : decode cL_law 2976 = .ok (.iadd, 1) := by decide +kernel
theorem dL_law_2977 : decode cL_law 2977 = .ok (.iaload, 1) := by decide +kernel
theorem dL_law_2978 : decode cL_law 2978 = .ok (.aload_n 0, 1) := by decide +kernel
theorem dL_law_2979 : decode cL_law 2979 = .ok (.iload 5, 2) := by decide +kernel
theorem dL_law_2981 : decode cL_law 2981 = .ok (.iconst 4, 1) := by decide +kernel
theorem dL_law_2982 : decode cL_law 2982 = .ok (.iadd, 1) := by decide +kernel
theorem dL_law_2983 : decode cL_law 2983 = .ok (.iaload, 1) := by decide +kernel
theorem dL_law_2984 : decode cL_law 2984 = .ok (.invokevirtual 331, 3) := by decide +kernel
theorem dL_law_2987 : decode cL_law 2987 = .ok (.istore 7, 2) := by decide +kernel
theorem dL_law_2989 : decode cL_law 2989 = .ok (.aload_n 2, 1) := by decide +kernel
theorem dL_law_2990 : decode cL_law 2990 = .ok (.invokevirtual 181, 3) := by decide +kernel
theorem dL_law_2993 : decode cL_law 2993 = .ok (.iload 6, 2) := by decide +kernel
theorem dL_law_2995 : decode cL_law 2995 = .ok (.if_icmp .eq 5, 3) := by decide +kernel
theorem dL_law_2998 : decode cL_law 2998 = .ok (.iconst 0, 1) := by decide +kernel
theorem dL_law_2999 : decode cL_law 2999 = .ok (.ireturn, 1) := by decide +kernel
theorem dL_law_3000 : decode cL_law 3000 = .ok (.iload 6, 2) := by decide +kernel
theorem dL_law_3002 : decode cL_law 3002 = .ok (.ifCond .ne 15, 3) := by decide +kernel
theorem dL_law_3005 : decode cL_law 3005 = .ok (.aload_n 3, 1) := by decide +kernel
theorem dL_law_3006 : decode cL_law 3006 = .ok (.iconst 0, 1) := by decide +kernel
theorem dL_law_3007 : decode cL_law 3007 = .ok (.laload, 1) := by decide +kernel
theorem dL_law_3008 : decode cL_law 3008 = .ok (.iload 7, 2) := by decide +kernel
theorem dL_law_3010 : decode cL_law 3010 = .ok (.i2l, 1) := by decide +kernel
theorem dL_law_3011 : decode cL_law 3011 = .ok (.lcmp, 1) := by decide +kernel
theorem dL_law_3012 : decode cL_law 3012 = .ok (.ifCond .eq 5, 3) := by decide +kernel
theorem dL_law_3015 : decode cL_law 3015 = .ok (.iconst 0, 1) := by decide +kernel
theorem dL_law_3016 : decode cL_law 3016 = .ok (.ireturn, 1) := by decide +kernel
theorem dL_law_3017 : decode cL_law 3017 = .ok (.goto 620, 3) := by decide +kernel
theorem dL_law_3020 : decode cL_law 3020 = .ok (.aload_n 1, 1) := by decide +kernel
theorem dL_law_3021 : decode cL_law 3021 = .ok (.aload_n 0, 1) := by decide +kernel
theorem dL_law_3022 : decode cL_law 3022 = .ok (.iload 5, 2) := by decide +kernel
theorem dL_law_3024 : decode cL_law 3024 = .ok (.iconst 1, 1) := by decide +kernel
theorem dL_law_3025 : decode cL_law 3025 = .ok (.iadd, 1) := by decide +kernel
theorem dL_law_3026 : decode cL_law 3026 = .ok (.iaload, 1) := by decide +kernel
theorem dL_law_3027 : decode cL_law 3027 = .ok (.aload_n 0, 1) := by decide +kernel
theorem dL_law_3028 : decode cL_law 3028 = .ok (.iload 5, 2) := by decide +kernel
theorem dL_law_3030 : decode cL_law 3030 = .ok (.iconst 2, 1) := by decide +kernel
theorem dL_law_3031 : decode cL_law 3031 = .ok (.iadd, 1) := by decide +kernel
theorem dL_law_3032 : decode cL_law 3032 = .ok (.iaload, 1) := by decide +kernel
theorem dL_law_3033 : decode cL_law 3033 = .ok (.aload_n 0, 1) := by decide +kernel
theorem dL_law_3034 : decode cL_law 3034 = .ok (.iload 5, 2) := by decide +kernel
theorem dL_law_3036 : decode cL_law 3036 = .ok (.iconst 3, 1) := by decide +kernel
theorem dL_law_3037 : decode cL_law 3037 = .ok (.iadd, 1) := by decide +kernel
theorem dL_law_3038 : decode cL_law 3038 = .ok (.iaload, 1) := by decide +kernel
theorem dL_law_3039 : decode cL_law 3039 = .ok (.aload_n 0, 1) := by decide +kernel
theorem dL_law_3040 : decode cL_law 3040 = .ok (.iload 5, 2) := by decide +kernel
theorem dL_law_3042 : decode cL_law 3042 = .ok (.iconst 4, 1) := by decide +kernel
theorem dL_law_3043 : decode cL_law 3043 = .ok (.iadd, 1) := by decide +kernel
theorem dL_law_3044 : decode cL_law 3044 = .ok (.iaload, 1) := by decide +kernel
theorem dL_law_3045 : decode cL_law 3045 = .ok (.aload_n 3, 1) := by decide +kernel
theorem dL_law_3046 : decode cL_law 3046 = .ok (.invokestatic 332, 3) := by decide +kernel
theorem dL_law_3049 : decode cL_law 3049 = .ok (.istore 6, 2) := by decide +kernel
theorem dL_law_3051 : decode cL_law 3051 = .ok (.aload_n 2, 1) := by decide +kernel
theorem dL_law_3052 : decode cL_law 3052 = .ok (.aload_n 0, 1) := by decide +kernel
theorem dL_law_3053 : decode cL_law 3053 = .ok (.iload 5, 2) := by decide +kernel
theorem dL_law_3055 : decode cL_law 3055 = .ok (.iconst 1, 1) := by decide +kernel
theorem dL_law_3056 : decode cL_law 3056 = .ok (.iadd, 1) := by decide +kernel
theorem dL_law_3057 : decode cL_law 3057 = .ok (.iaload, 1) := by decide +kernel
theorem dL_law_3058 : decode cL_law 3058 = .ok (.aload_n 0, 1) := by decide +kernel
theorem dL_law_3059 : decode cL_law 3059 = .ok (.iload 5, 2) := by decide +kernel
theorem dL_law_3061 : decode cL_law 3061 = .ok (.iconst 2, 1) := by decide +kernel
theorem dL_law_3062 : decode cL_law 3062 = .ok (.iadd, 1) := by decide +kernel
theorem dL_law_3063 : decode cL_law 3063 = .ok (.iaload, 1) := by decide +kernel
theorem dL_law_3064 : decode cL_law 3064 = .ok (.aload_n 0, 1) := by decide +kernel
theorem dL_law_3065 : decode cL_law 3065 = .ok (.iload 5, 2) := by decide +kernel
theorem dL_law_3067 : decode cL_law 3067 = .ok (.iconst 3, 1) := by decide +kernel
theorem dL_law_3068 : decode cL_law 3068 = .ok (.iadd, 1) := by decide +kernel
theorem dL_law_3069 : decode cL_law 3069 = .ok (.iaload, 1) := by decide +kernel
theorem dL_law_3070 : decode cL_law 3070 = .ok (.aload_n 0, 1) := by decide +kernel
theorem dL_law_3071 : decode cL_law 3071 = .ok (.iload 5, 2) := by decide +kernel
theorem dL_law_3073 : decode cL_law 3073 = .ok (.iconst 4, 1) := by decide +kernel
theorem dL_law_3074 : decode cL_law 3074 = .ok (.iadd, 1) := by decide +kernel
theorem dL_law_3075 : decode cL_law 3075 = .ok (.iaload, 1) := by decide +kernel
theorem dL_law_3076 : decode cL_law 3076 = .ok (.invokevirtual 334, 3) := by decide +kernel
theorem dL_law_3079 : decode cL_law 3079 = .ok (.istore 7, 2) := by decide +kernel
theorem dL_law_3081 : decode cL_law 3081 = .ok (.aload_n 2, 1) := by decide +kernel
theorem dL_law_3082 : decode cL_law 3082 = .ok (.invokevirtual 181, 3) := by decide +kernel
theorem dL_law_3085 : decode cL_law 3085 = .ok (.iload 6, 2) := by decide +kernel
theorem dL_law_3087 : decode cL_law 3087 = .ok (.if_icmp .eq 5, 3) := by decide +kernel
theorem dL_law_3090 : decode cL_law 3090 = .ok (.iconst 0, 1) := by decide +kernel
theorem dL_law_3091 : decode cL_law 3091 = .ok (.ireturn, 1) := by decide +kernel
theorem dL_law_3092 : decode cL_law 3092 = .ok (.iload 6, 2) := by decide +kernel
theorem dL_law_3094 : decode cL_law 3094 = .ok (.ifCond .ne 15, 3) := by decide +kernel
theorem dL_law_3097 : decode cL_law 3097 = .ok (.aload_n 3, 1) := by decide +kernel
theorem dL_law_3098 : decode cL_law 3098 = .ok (.iconst 0, 1) := by decide +kernel
theorem dL_law_3099 : decode cL_law 3099 = .ok (.laload, 1) := by decide +kernel
theorem dL_law_3100 : decode cL_law 3100 = .ok (.iload 7, 2) := by decide +kernel
theorem dL_law_3102 : decode cL_law 3102 = .ok (.i2l, 1) := by decide +kernel
theorem dL_law_3103 : decode cL_law 3103 = .ok (.lcmp, 1) := by decide +kernel
theorem dL_law_3104 : decode cL_law 3104 = .ok (.ifCond .eq 5, 3) := by decide +kernel
theorem dL_law_3107 : decode cL_law 3107 = .ok (.iconst 0, 1) := by decide +kernel
theorem dL_law_3108 : decode cL_law 3108 = .ok (.ireturn, 1) := by decide +kernel
theorem dL_law_3109 : decode cL_law 3109 = .ok (.goto 528, 3) := by decide +kernel
theorem dL_law_3112 : decode cL_law 3112 = .ok (.aload_n 1, 1) := by decide +kernel
theorem dL_law_3113 : decode cL_law 3113 = .ok (.aload_n 0, 1) := by decide +kernel
theorem dL_law_3114 : decode cL_law 3114 = .ok (.iload 5, 2) := by decide +kernel
theorem dL_law_3116 : decode cL_law 3116 = .ok (.iconst 1, 1) := by decide +kernel
theorem dL_law_3117 : decode cL_law 3117 = .ok (.iadd, 1) := by decide +kernel
theorem dL_law_3118 : decode cL_law 3118 = .ok (.iaload, 1) := by decide +kernel
theorem dL_law_3119 : decode cL_law 3119 = .ok (.aload_n 0, 1) := by decide +kernel
theorem dL_law_3120 : decode cL_law 3120 = .ok (.iload 5, 2) := by decide +kernel
theorem dL_law_3122 : decode cL_law 3122 = .ok (.iconst 2, 1) := by decide +kernel
theorem dL_law_3123 : decode cL_law 3123 = .ok (.iadd, 1) := by decide +kernel
theorem dL_law_3124 : decode cL_law 3124 = .ok (.iaload, 1) := by decide +kernel
theorem dL_law_3125 : decode cL_law 3125 = .ok (.aload_n 3, 1) := by decide +kernel
theorem dL_law_3126 : decode cL_law 3126 = .ok (.invokestatic 335, 3) := by decide +kernel
theorem dL_law_3129 : decode cL_law 3129 = .ok (.istore 6, 2) := by decide +kernel
theorem dL_law_3131 : decode cL_law 3131 = .ok (.aload_n 2, 1) := by decide +kernel
theorem dL_law_3132 : decode cL_law 3132 = .ok (.aload_n 0, 1) := by decide +kernel
theorem dL_law_3133 : decode cL_law 3133 = .ok (.iload 5, 2) := by decide +kernel
theorem dL_law_3135 : decode cL_law 3135 = .ok (.iconst 1, 1) := by decide +kernel
theorem dL_law_3136 : decode cL_law 3136 = .ok (.iadd, 1) := by decide +kernel
theorem dL_law_3137 : decode cL_law 3137 = .ok (.iaload, 1) := by decide +kernel
theorem dL_law_3138 : decode cL_law 3138 = .ok (.aload_n 0, 1) := by decide +kernel
theorem dL_law_3139 : decode cL_law 3139 = .ok (.iload 5, 2) := by decide +kernel
theorem dL_law_3141 : decode cL_law 3141 = .ok (.iconst 2, 1) := by decide +kernel
theorem dL_law_3142 : decode cL_law 3142 = .ok (.iadd, 1) := by decide +kernel
theorem dL_law_3143 : decode cL_law 3143 = .ok (.iaload, 1) := by decide +kernel
theorem dL_law_3144 : decode cL_law 3144 = .ok (.invokevirtual 337, 3) := by decide +kernel
theorem dL_law_3147 : decode cL_law 3147 = .ok (.istore 7, 2) := by decide +kernel
theorem dL_law_3149 : decode cL_law 3149 = .ok (.aload_n 2, 1) := by decide +kernel
theorem dL_law_3150 : decode cL_law 3150 = .ok (.invokevirtual 181, 3) := by decide +kernel
theorem dL_law_3153 : decode cL_law 3153 = .ok (.iload 6, 2) := by decide +kernel
theorem dL_law_3155 : decode cL_law 3155 = .ok (.if_icmp .eq 5, 3) := by decide +kernel
theorem dL_law_3158 : decode cL_law 3158 = .ok (.iconst 0, 1) := by decide +kernel
theorem dL_law_3159 : decode cL_law 3159 = .ok (.ireturn, 1) := by decide +kernel
theorem dL_law_3160 : decode cL_law 3160 = .ok (.iload 6, 2) := by decide +kernel
theorem dL_law_3162 : decode cL_law 3162 = .ok (.ifCond .ne 15, 3) := by decide +kernel
theorem dL_law_3165 : decode cL_law 3165 = .ok (.aload_n 3, 1) := by decide +kernel
theorem dL_law_3166 : decode cL_law 3166 = .ok (.iconst 0, 1) := by decide +kernel
theorem dL_law_3167 : decode cL_law 3167 = .ok (.laload, 1) := by decide +kernel
theorem dL_law_3168 : decode cL_law 3168 = .ok (.iload 7, 2) := by decide +kernel
theorem dL_law_3170 : decode cL_law 3170 = .ok (.i2l, 1) := by decide +kernel
theorem dL_law_3171 : decode cL_law 3171 = .ok (.lcmp, 1) := by decide +kernel
theorem dL_law_3172 : decode cL_law 3172 = .ok (.ifCond .eq 5, 3) := by decide +kernel
theorem dL_law_3175 : decode cL_law 3175 = .ok (.iconst 0, 1) := by decide +kernel
theorem dL_law_3176 : decode cL_law 3176 = .ok (.ireturn, 1) := by decide +kernel
theorem dL_law_3177 : decode cL_law 3177 = .ok (.goto 460, 3) := by decide +kernel
theorem dL_law_3180 : decode cL_law 3180 = .ok (.aload_n 1, 1) := by decide +kernel
theorem dL_law_3181 : decode cL_law 3181 = .ok (.aload_n 0, 1) := by decide +kernel
theorem dL_law_3182 : decode cL_law 3182 = .ok (.iload 5, 2) := by decide +kernel
theorem dL_law_3184 : decode cL_law 3184 = .ok (.iconst 1, 1) := by decide +kernel
theorem dL_law_3185 : decode cL_law 3185 = .ok (.iadd, 1) := by decide +kernel
theorem dL_law_3186 : decode cL_law 3186 = .ok (.iaload, 1) := by decide +kernel
theorem dL_law_3187 : decode cL_law 3187 = .ok (.aload_n 0, 1) := by decide +kernel
theorem dL_law_3188 : decode cL_law 3188 = .ok (.iload 5, 2) := by decide +kernel
theorem dL_law_3190 : decode cL_law 3190 = .ok (.iconst 2, 1) := by decide +kernel
theorem dL_law_3191 : decode cL_law 3191 = .ok (.iadd, 1) := by decide +kernel
theorem dL_law_3192 : decode cL_law 3192 = .ok (.iaload, 1) := by decide +kernel
theorem dL_law_3193 : decode cL_law 3193 = .ok (.aload_n 0, 1) := by decide +kernel
theorem dL_law_3194 : decode cL_law 3194 = .ok (.iload 5, 2) := by decide +kernel
theorem dL_law_3196 : decode cL_law 3196 = .ok (.iconst 3, 1) := by decide +kernel
theorem dL_law_3197 : decode cL_law 3197 = .ok (.iadd, 1) := by decide +kernel
theorem dL_law_3198 : decode cL_law 3198 = .ok (.iaload, 1) := by decide +kernel
theorem dL_law_3199 : decode cL_law 3199 = .ok (.aload_n 3, 1) := by decide +kernel
theorem dL_law_3200 : decode cL_law 3200 = .ok (.invokestatic 338, 3) := by decide +kernel
theorem dL_law_3203 : decode cL_law 3203 = .ok (.istore 6, 2) := by decide +kernel
theorem dL_law_3205 : decode cL_law 3205 = .ok (.aload_n 2, 1) := by decide +kernel
theorem dL_law_3206 : decode cL_law 3206 = .ok (.aload_n 0, 1) := by decide +kernel
theorem dL_law_3207 : decode cL_law 3207 = .ok (.iload 5, 2) := by decide +kernel
theorem dL_law_3209 : decode cL_law 3209 = .ok (.iconst 1, 1) := by decide +kernel
theorem dL_law_3210 : decode cL_law 3210 = .ok (.iadd, 1) := by decide +kernel
theorem dL_law_3211 : decode cL_law 3211 = .ok (.iaload, 1) := by decide +kernel
theorem dL_law_3212 : decode cL_law 3212 = .ok (.aload_n 0, 1) := by decide +kernel
theorem dL_law_3213 : decode cL_law 3213 = .ok (.iload 5, 2) := by decide +kernel
theorem dL_law_3215 : decode cL_law 3215 = .ok (.iconst 2, 1) := by decide +kernel
theorem dL_law_3216 : decode cL_law 3216 = .ok (.iadd, 1) := by decide +kernel
theorem dL_law_3217 : decode cL_law 3217 = .ok (.iaload, 1) := by decide +kernel
theorem dL_law_3218 : decode cL_law 3218 = .ok (.aload_n 0, 1) := by decide +kernel
theorem dL_law_3219 : decode cL_law 3219 = .ok (.iload 5, 2) := by decide +kernel
theorem dL_law_3221 : decode cL_law 3221 = .ok (.iconst 3, 1) := by decide +kernel
theorem dL_law_3222 : decode cL_law 3222 = .ok (.iadd, 1) := by decide +kernel
theorem dL_law_3223 : decode cL_law 3223 = .ok (.iaload, 1) := by decide +kernel
theorem dL_law_3224 : decode cL_law 3224 = .ok (.invokevirtual 340, 3) := by decide +kernel
theorem dL_law_3227 : decode cL_law 3227 = .ok (.istore 7, 2) := by decide +kernel
theorem dL_law_3229 : decode cL_law 3229 = .ok (.aload_n 2, 1) := by decide +kernel
theorem dL_law_3230 : decode cL_law 3230 = .ok (.invokevirtual 181, 3) := by decide +kernel
theorem dL_law_3233 : decode cL_law 3233 = .ok (.iload 6, 2) := by decide +kernel
theorem dL_law_3235 : decode cL_law 3235 = .ok (.if_icmp .eq 5, 3) := by decide +kernel
theorem dL_law_3238 : decode cL_law 3238 = .ok (.iconst 0, 1) := by decide +kernel
theorem dL_law_3239 : decode cL_law 3239 = .ok (.ireturn, 1) := by decide +kernel
theorem dL_law_3240 : decode cL_law 3240 = .ok (.iload 6, 2) := by decide +kernel
theorem dL_law_3242 : decode cL_law 3242 = .ok (.ifCond .ne 15, 3) := by decide +kernel
theorem dL_law_3245 : decode cL_law 3245 = .ok (.aload_n 3, 1) := by decide +kernel
theorem dL_law_3246 : decode cL_law 3246 = .ok (.iconst 0, 1) := by decide +kernel
theorem dL_law_3247 : decode cL_law 3247 = .ok (.laload, 1) := by decide +kernel
theorem dL_law_3248 : decode cL_law 3248 = .ok (.iload 7, 2) := by decide +kernel
theorem dL_law_3250 : decode cL_law 3250 = .ok (.i2l, 1) := by decide +kernel
theorem dL_law_3251 : decode cL_law 3251 = .ok (.lcmp, 1) := by decide +kernel
theorem dL_law_3252 : decode cL_law 3252 = .ok (.ifCond .eq 5, 3) := by decide +kernel
theorem dL_law_3255 : decode cL_law 3255 = .ok (.iconst 0, 1) := by decide +kernel
theorem dL_law_3256 : decode cL_law 3256 = .ok (.ireturn, 1) := by decide +kernel
theorem dL_law_3257 : decode cL_law 3257 = .ok (.goto 380, 3) := by decide +kernel
theorem dL_law_3260 : decode cL_law 3260 = .ok (.aload_n 1, 1) := by decide +kernel
theorem dL_law_3261 : decode cL_law 3261 = .ok (.aload_n 0, 1) := by decide +kernel
theorem dL_law_3262 : decode cL_law 3262 = .ok (.iload 5, 2) := by decide +kernel
theorem dL_law_3264 : decode cL_law 3264 = .ok (.iconst 1, 1) := by decide +kernel
theorem dL_law_3265 : decode cL_law 3265 = .ok (.iadd, 1) := by decide +kernel
theorem dL_law_3266 : decode cL_law 3266 = .ok (.iaload, 1) := by decide +kernel
theorem dL_law_3267 : decode cL_law 3267 = .ok (.aload_n 3, 1) := by decide +kernel
theorem dL_law_3268 : decode cL_law 3268 = .ok (.invokestatic 341, 3) := by decide +kernel
theorem dL_law_3271 : decode cL_law 3271 = .ok (.istore 6, 2) := by decide +kernel
theorem dL_law_3273 : decode cL_law 3273 = .ok (.aload_n 2, 1) := by decide +kernel
theorem dL_law_3274 : decode cL_law 3274 = .ok (.aload_n 0, 1) := by decide +kernel
theorem dL_law_3275 : decode cL_law 3275 = .ok (.iload 5, 2) := by decide +kernel
theorem dL_law_3277 : decode cL_law 3277 = .ok (.iconst 1, 1) := by decide +kernel
theorem dL_law_3278 : decode cL_law 3278 = .ok (.iadd, 1) := by decide +kernel
theorem dL_law_3279 : decode cL_law 3279 = .ok (.iaload, 1) := by decide +kernel
theorem dL_law_3280 : decode cL_law 3280 = .ok (.invokevirtual 343, 3) := by decide +kernel
theorem dL_law_3283 : decode cL_law 3283 = .ok (.istore 7, 2) := by decide +kernel
theorem dL_law_3285 : decode cL_law 3285 = .ok (.aload_n 2, 1) := by decide +kernel
theorem dL_law_3286 : decode cL_law 3286 = .ok (.invokevirtual 181, 3) := by decide +kernel
theorem dL_law_3289 : decode cL_law 3289 = .ok (.iload 6, 2) := by decide +kernel
theorem dL_law_3291 : decode cL_law 3291 = .ok (.if_icmp .eq 5, 3) := by decide +kernel
theorem dL_law_3294 : decode cL_law 3294 = .ok (.iconst 0, 1) := by decide +kernel
theorem dL_law_3295 : decode cL_law 3295 = .ok (.ireturn, 1) := by decide +kernel
theorem dL_law_3296 : decode cL_law 3296 = .ok (.iload 6, 2) := by decide +kernel
theorem dL_law_3298 : decode cL_law 3298 = .ok (.ifCond .ne 15, 3) := by decide +kernel
theorem dL_law_3301 : decode cL_law 3301 = .ok (.aload_n 3, 1) := by decide +kernel
theorem dL_law_3302 : decode cL_law 3302 = .ok (.iconst 0, 1) := by decide +kernel
theorem dL_law_3303 : decode cL_law 3303 = .ok (.laload, 1) := by decide +kernel
theorem dL_law_3304 : decode cL_law 3304 = .ok (.iload 7, 2) := by decide +kernel
theorem dL_law_3306 : decode cL_law 3306 = .ok (.i2l, 1) := by decide +kernel
theorem dL_law_3307 : decode cL_law 3307 = .ok (.lcmp, 1) := by decide +kernel
theorem dL_law_3308 : decode cL_law 3308 = .ok (.ifCond .eq 5, 3) := by decide +kernel
theorem dL_law_3311 : decode cL_law 3311 = .ok (.iconst 0, 1) := by decide +kernel
theorem dL_law_3312 : decode cL_law 3312 = .ok (.ireturn, 1) := by decide +kernel
theorem dL_law_3313 : decode cL_law 3313 = .ok (.goto 324, 3) := by decide +kernel
theorem dL_law_3316 : decode cL_law 3316 = .ok (.aload_n 1, 1) := by decide +kernel
theorem dL_law_3317 : decode cL_law 3317 = .ok (.aload_n 0, 1) := by decide +kernel
theorem dL_law_3318 : decode cL_law 3318 = .ok (.iload 5, 2) := by decide +kernel
theorem dL_law_3320 : decode cL_law 3320 = .ok (.iconst 1, 1) := by decide +kernel
theorem dL_law_3321 : decode cL_law 3321 = .ok (.iadd, 1) := by decide +kernel
theorem dL_law_3322 : decode cL_law 3322 = .ok (.iaload, 1) := by decide +kernel
theorem dL_law_3323 : decode cL_law 3323 = .ok (.ifCond .eq 7, 3) := by decide +kernel
theorem dL_law_3326 : decode cL_law 3326 = .ok (.iconst 1, 1) := by decide +kernel
theorem dL_law_3327 : decode cL_law 3327 = .ok (.goto 4, 3) := by decide +kernel
theorem dL_law_3330 : decode cL_law 3330 = .ok (.iconst 0, 1) := by decide +kernel
theorem dL_law_3331 : decode cL_law 3331 = .ok (.invokevirtual 344, 3) := by decide +kernel
theorem dL_law_3334 : decode cL_law 3334 = .ok (.aload_n 2, 1) := by decide +kernel
theorem dL_law_3335 : decode cL_law 3335 = .ok (.aload_n 0, 1) := by decide +kernel
theorem dL_law_3336 : decode cL_law 3336 = .ok (.iload 5, 2) := by decide +kernel
theorem dL_law_3338 : decode cL_law 3338 = .ok (.iconst 1, 1) := by decide +kernel
theorem dL_law_3339 : decode cL_law 3339 = .ok (.iadd, 1) := by decide +kernel
theorem dL_law_3340 : decode cL_law 3340 = .ok (.iaload, 1) := by decide +kernel
theorem dL_law_3341 : decode cL_law 3341 = .ok (.ifCond .eq 7, 3) := by decide +kernel
theorem dL_law_3344 : decode cL_law 3344 = .ok (.iconst 1, 1) := by decide +kernel
theorem dL_law_3345 : decode cL_law 3345 = .ok (.goto 4, 3) := by decide +kernel
theorem dL_law_3348 : decode cL_law 3348 = .ok (.iconst 0, 1) := by decide +kernel
theorem dL_law_3349 : decode cL_law 3349 = .ok (.invokevirtual 348, 3) := by decide +kernel
theorem dL_law_3352 : decode cL_law 3352 = .ok (.if_icmp .eq 285, 3) := by decide +kernel
theorem dL_law_3355 : decode cL_law 3355 = .ok (.iconst 0, 1) := by decide +kernel
theorem dL_law_3356 : decode cL_law 3356 = .ok (.ireturn, 1) := by decide +kernel
theorem dL_law_3357 : decode cL_law 3357 = .ok (.aload_n 1, 1) := by decide +kernel
theorem dL_law_3358 : decode cL_law 3358 = .ok (.aload_n 0, 1) := by decide +kernel
theorem dL_law_3359 : decode cL_law 3359 = .ok (.iload 5, 2) := by decide +kernel
theorem dL_law_3361 : decode cL_law 3361 = .ok (.iconst 1, 1) := by decide +kernel
theorem dL_law_3362 : decode cL_law 3362 = .ok (.iadd, 1) := by decide +kernel
theorem dL_law_3363 : decode cL_law 3363 = .ok (.iaload, 1) := by decide +kernel
theorem dL_law_3364 : decode cL_law 3364 = .ok (.aload_n 3, 1) := by decide +kernel
theorem dL_law_3365 : decode cL_law 3365 = .ok (.invokestatic 349, 3) := by decide +kernel
theorem dL_law_3368 : decode cL_law 3368 = .ok (.istore 6, 2) := by decide +kernel
theorem dL_law_3370 : decode cL_law 3370 = .ok (.aload_n 2, 1) := by decide +kernel
theorem dL_law_3371 : decode cL_law 3371 = .ok (.aload_n 0, 1) := by decide +kernel
theorem dL_law_3372 : decode cL_law 3372 = .ok (.iload 5, 2) := by decide +kernel
theorem dL_law_3374 : decode cL_law 3374 = .ok (.iconst 1, 1) := by decide +kernel
theorem dL_law_3375 : decode cL_law 3375 = .ok (.iadd, 1) := by decide +kernel
theorem dL_law_3376 : decode cL_law 3376 = .ok (.iaload, 1) := by decide +kernel
theorem dL_law_3377 : decode cL_law 3377 = .ok (.invokevirtual 351, 3) := by decide +kernel
theorem dL_law_3380 : decode cL_law 3380 = .ok (.istore 7, 2) := by decide +kernel
theorem dL_law_3382 : decode cL_law 3382 = .ok (.aload_n 2, 1) := by decide +kernel
theorem dL_law_3383 : decode cL_law 3383 = .ok (.invokevirtual 181, 3) := by decide +kernel
theorem dL_law_3386 : decode cL_law 3386 = .ok (.iload 6, 2) := by decide +kernel
theorem dL_law_3388 : decode cL_law 3388 = .ok (.if_icmp .eq 5, 3) := by decide +kernel
theorem dL_law_3391 : decode cL_law 3391 = .ok (.iconst 0, 1) := by decide +kernel
theorem dL_law_3392 : decode cL_law 3392 = .ok (.ireturn, 1) := by decide +kernel
theorem dL_law_3393 : decode cL_law 3393 = .ok (.iload 6, 2) := by decide +kernel
theorem dL_law_3395 : decode cL_law 3395 = .ok (.ifCond .ne 15, 3) := by decide +kernel
theorem dL_law_3398 : decode cL_law 3398 = .ok (.aload_n 3, 1) := by decide +kernel
theorem dL_law_3399 : decode cL_law 3399 = .ok (.iconst 0, 1) := by decide +kernel
theorem dL_law_3400 : decode cL_law 3400 = .ok (.laload, 1) := by decide +kernel
theorem dL_law_3401 : decode cL_law 3401 = .ok (.iload 7, 2) := by decide +kernel
theorem dL_law_3403 : decode cL_law 3403 = .ok (.i2l, 1) := by decide +kernel
theorem dL_law_3404 : decode cL_law 3404 = .ok (.lcmp, 1) := by decide +kernel
theorem dL_law_3405 : decode cL_law 3405 = .ok (.ifCond .eq 5, 3) := by decide +kernel
theorem dL_law_3408 : decode cL_law 3408 = .ok (.iconst 0, 1) := by decide +kernel
theorem dL_law_3409 : decode cL_law 3409 = .ok (.ireturn, 1) := by decide +kernel
theorem dL_law_3410 : decode cL_law 3410 = .ok (.goto 227, 3) := by decide +kernel
theorem dL_law_3413 : decode cL_law 3413 = .ok (.aload_n 1, 1) := by decide +kernel
theorem dL_law_3414 : decode cL_law 3414 = .ok (.aload_n 0, 1) := by decide +kernel
theorem dL_law_3415 : decode cL_law 3415 = .ok (.iload 5, 2) := by decide +kernel
theorem dL_law_3417 : decode cL_law 3417 = .ok (.iconst 1, 1) := by decide +kernel
theorem dL_law_3418 : decode cL_law 3418 = .ok (.iadd, 1) := by decide +kernel
theorem dL_law_3419 : decode cL_law 3419 = .ok (.iaload, 1) := by decide +kernel
theorem dL_law_3420 : decode cL_law 3420 = .ok (.aload_n 3, 1) := by decide +kernel
theorem dL_law_3421 : decode cL_law 3421 = .ok (.invokestatic 352, 3) := by decide +kernel
theorem dL_law_3424 : decode cL_law 3424 = .ok (.istore 6, 2) := by decide +kernel
theorem dL_law_3426 : decode cL_law 3426 = .ok (.aload_n 2, 1) := by decide +kernel
theorem dL_law_3427 : decode cL_law 3427 = .ok (.aload_n 0, 1) := by decide +kernel
theorem dL_law_3428 : decode cL_law 3428 = .ok (.iload 5, 2) := by decide +kernel
theorem dL_law_3430 : decode cL_law 3430 = .ok (.iconst 1, 1) := by decide +kernel
theorem dL_law_3431 : decode cL_law 3431 = .ok (.iadd, 1) := by decide +kernel
theorem dL_law_3432 : decode cL_law 3432 = .ok (.iaload, 1) := by decide +kernel
theorem dL_law_3433 : decode cL_law 3433 = .ok (.invokevirtual 354, 3) := by decide +kernel
theorem dL_law_3436 : decode cL_law 3436 = .ok (.istore 7, 2) := by decide +kernel
theorem dL_law_3438 : decode cL_law 3438 = .ok (.aload_n 2, 1) := by decide +kernel
theorem dL_law_3439 : decode cL_law 3439 = .ok (.invokevirtual 181, 3) := by decide +kernel
theorem dL_law_3442 : decode cL_law 3442 = .ok (.iload 6, 2) := by decide +kernel
theorem dL_law_3444 : decode cL_law 3444 = .ok (.if_icmp .eq 5, 3) := by decide +kernel
theorem dL_law_3447 : decode cL_law 3447 = .ok (.iconst 0, 1) := by decide +kernel
theorem dL_law_3448 : decode cL_law 3448 = .ok (.ireturn, 1) := by decide +kernel
theorem dL_law_3449 : decode cL_law 3449 = .ok (.iload 6, 2) := by decide +kernel
theorem dL_law_3451 : decode cL_law 3451 = .ok (.ifCond .ne 15, 3) := by decide +kernel
theorem dL_law_3454 : decode cL_law 3454 = .ok (.aload_n 3, 1) := by decide +kernel
theorem dL_law_3455 : decode cL_law 3455 = .ok (.iconst 0, 1) := by decide +kernel
theorem dL_law_3456 : decode cL_law 3456 = .ok (.laload, 1) := by decide +kernel
theorem dL_law_3457 : decode cL_law 3457 = .ok (.iload 7, 2) := by decide +kernel
theorem dL_law_3459 : decode cL_law 3459 = .ok (.i2l, 1) := by decide +kernel
theorem dL_law_3460 : decode cL_law 3460 = .ok (.lcmp, 1) := by decide +kernel
theorem dL_law_3461 : decode cL_law 3461 = .ok (.ifCond .eq 5, 3) := by decide +kernel
theorem dL_law_3464 : decode cL_law 3464 = .ok (.iconst 0, 1) := by decide +kernel
theorem dL_law_3465 : decode cL_law 3465 = .ok (.ireturn, 1) := by decide +kernel
theorem dL_law_3466 : decode cL_law 3466 = .ok (.goto 171, 3) := by decide +kernel
theorem dL_law_3469 : decode cL_law 3469 = .ok (.aload_n 1, 1) := by decide +kernel
theorem dL_law_3470 : decode cL_law 3470 = .ok (.aload_n 0, 1) := by decide +kernel
theorem dL_law_3471 : decode cL_law 3471 = .ok (.iload 5, 2) := by decide +kernel
theorem dL_law_3473 : decode cL_law 3473 = .ok (.iconst 1, 1) := by decide +kernel
theorem dL_law_3474 : decode cL_law 3474 = .ok (.iadd, 1) := by decide +kernel
theorem dL_law_3475 : decode cL_law 3475 = .ok (.iaload, 1) := by decide +kernel
theorem dL_law_3476 : decode cL_law 3476 = .ok (.aload_n 3, 1) := by decide +kernel
theorem dL_law_3477 : decode cL_law 3477 = .ok (.invokestatic 355, 3) := by decide +kernel
theorem dL_law_3480 : decode cL_law 3480 = .ok (.istore 6, 2) := by decide +kernel
theorem dL_law_3482 : decode cL_law 3482 = .ok (.aload_n 2, 1) := by decide +kernel
theorem dL_law_3483 : decode cL_law 3483 = .ok (.aload_n 0, 1) := by decide +kernel
theorem dL_law_3484 : decode cL_law 3484 = .ok (.iload 5, 2) := by decide +kernel
theorem dL_law_3486 : decode cL_law 3486 = .ok (.iconst 1, 1) := by decide +kernel
theorem dL_law_3487 : decode cL_law 3487 = .ok (.iadd, 1) := by decide +kernel
theorem dL_law_3488 : decode cL_law 3488 = .ok (.iaload, 1) := by decide +kernel
theorem dL_law_3489 : decode cL_law 3489 = .ok (.invokevirtual 357, 3) := by decide +kernel
theorem dL_law_3492 : decode cL_law 3492 = .ok (.istore 7, 2) := by decide +kernel
theorem dL_law_3494 : decode cL_law 3494 = .ok (.aload_n 2, 1) := by decide +kernel
theorem dL_law_3495 : decode cL_law 3495 = .ok (.invokevirtual 181, 3) := by decide +kernel
theorem dL_law_3498 : decode cL_law 3498 = .ok (.iload 6, 2) := by decide +kernel
theorem dL_law_3500 : decode cL_law 3500 = .ok (.if_icmp .eq 5, 3) := by decide +kernel
theorem dL_law_3503 : decode cL_law 3503 = .ok (.iconst 0, 1) := by decide +kernel
theorem dL_law_3504 : decode cL_law 3504 = .ok (.ireturn, 1) := by decide +kernel
theorem dL_law_3505 : decode cL_law 3505 = .ok (.iload 6, 2) := by decide +kernel
theorem dL_law_3507 : decode cL_law 3507 = .ok (.ifCond .ne 15, 3) := by decide +kernel
theorem dL_law_3510 : decode cL_law 3510 = .ok (.aload_n 3, 1) := by decide +kernel
theorem dL_law_3511 : decode cL_law 3511 = .ok (.iconst 0, 1) := by decide +kernel
theorem dL_law_3512 : decode cL_law 3512 = .ok (.laload, 1) := by decide +kernel
theorem dL_law_3513 : decode cL_law 3513 = .ok (.iload 7, 2) := by decide +kernel
theorem dL_law_3515 : decode cL_law 3515 = .ok (.i2l, 1) := by decide +kernel
theorem dL_law_3516 : decode cL_law 3516 = .ok (.lcmp, 1) := by decide +kernel
theorem dL_law_3517 : decode cL_law 3517 = .ok (.ifCond .eq 5, 3) := by decide +kernel
theorem dL_law_3520 : decode cL_law 3520 = .ok (.iconst 0, 1) := by decide +kernel
theorem dL_law_3521 : decode cL_law 3521 = .ok (.ireturn, 1) := by decide +kernel
theorem dL_law_3522 : decode cL_law 3522 = .ok (.goto 115, 3) := by decide +kernel
theorem dL_law_3525 : decode cL_law 3525 = .ok (.aload_n 1, 1) := by decide +kernel
theorem dL_law_3526 : decode cL_law 3526 = .ok (.invokevirtual 358, 3) := by decide +kernel
theorem dL_law_3529 : decode cL_law 3529 = .ok (.aload_n 2, 1) := by decide +kernel
theorem dL_law_3530 : decode cL_law 3530 = .ok (.invokevirtual 361, 3) := by decide +kernel
theorem dL_law_3533 : decode cL_law 3533 = .ok (.if_icmp .eq 104, 3) := by decide +kernel
theorem dL_law_3536 : decode cL_law 3536 = .ok (.iconst 0, 1) := by decide +kernel
theorem dL_law_3537 : decode cL_law 3537 = .ok (.ireturn, 1) := by decide +kernel
theorem dL_law_3538 : decode cL_law 3538 = .ok (.aload_n 1, 1) := by decide +kernel
theorem dL_law_3539 : decode cL_law 3539 = .ok (.aload_n 3, 1) := by decide +kernel
theorem dL_law_3540 : decode cL_law 3540 = .ok (.invokestatic 362, 3) := by decide +kernel
theorem dL_law_3543 : decode cL_law 3543 = .ok (.istore 6, 2) := by decide +kernel
theorem dL_law_3545 : decode cL_law 3545 = .ok (.aload_n 2, 1) := by decide +kernel
theorem dL_law_3546 : decode cL_law 3546 = .ok (.invokevirtual 365, 3) := by decide +kernel
theorem dL_law_3549 : decode cL_law 3549 = .ok (.istore 7, 2) := by decide +kernel
theorem dL_law_3551 : decode cL_law 3551 = .ok (.aload_n 2, 1) := by decide +kernel
theorem dL_law_3552 : decode cL_law 3552 = .ok (.invokevirtual 181, 3) := by decide +kernel
theorem dL_law_3555 : decode cL_law 3555 = .ok (.iload 6, 2) := by decide +kernel
theorem dL_law_3557 : decode cL_law 3557 = .ok (.if_icmp .eq 5, 3) := by decide +kernel
theorem dL_law_3560 : decode cL_law 3560 = .ok (.iconst 0, 1) := by decide +kernel
theorem dL_law_3561 : decode cL_law 3561 = .ok (.ireturn, 1) := by decide +kernel
theorem dL_law_3562 : decode cL_law 3562 = .ok (.iload 6, 2) := by decide +kernel
theorem dL_law_3564 : decode cL_law 3564 = .ok (.ifCond .ne 15, 3) := by decide +kernel
theorem dL_law_3567 : decode cL_law 3567 = .ok (.aload_n 3, 1) := by decide +kernel
theorem dL_law_3568 : decode cL_law 3568 = .ok (.iconst 0, 1) := by decide +kernel
theorem dL_law_3569 : decode cL_law 3569 = .ok (.laload, 1) := by decide +kernel
theorem dL_law_3570 : decode cL_law 3570 = .ok (.iload 7, 2) := by decide +kernel
theorem dL_law_3572 : decode cL_law 3572 = .ok (.i2l, 1) := by decide +kernel
theorem dL_law_3573 : decode cL_law 3573 = .ok (.lcmp, 1) := by decide +kernel
theorem dL_law_3574 : decode cL_law 3574 = .ok (.ifCond .eq 5, 3) := by decide +kernel
theorem dL_law_3577 : decode cL_law 3577 = .ok (.iconst 0, 1) := by decide +kernel
theorem dL_law_3578 : decode cL_law 3578 = .ok (.ireturn, 1) := by decide +kernel
theorem dL_law_3579 : decode cL_law 3579 = .ok (.goto 58, 3) := by decide +kernel
theorem dL_law_3582 : decode cL_law 3582 = .ok (.aload_n 1, 1) := by decide +kernel
theorem dL_law_3583 : decode cL_law 3583 = .ok (.invokevirtual 366, 3) := by decide +kernel
theorem dL_law_3586 : decode cL_law 3586 = .ok (.aload_n 2, 1) := by decide +kernel
theorem dL_law_3587 : decode cL_law 3587 = .ok (.invokevirtual 369, 3) := by decide +kernel
theorem dL_law_3590 : decode cL_law 3590 = .ok (.goto 47, 3) := by decide +kernel
theorem dL_law_3593 : decode cL_law 3593 = .ok (.aload_n 1, 1) := by decide +kernel
theorem dL_law_3594 : decode cL_law 3594 = .ok (.aload_n 3, 1) := by decide +kernel
theorem dL_law_3595 : decode cL_law 3595 = .ok (.invokestatic 370, 3) := by decide +kernel
theorem dL_law_3598 : decode cL_law 3598 = .ok (.istore 6, 2) := by decide +kernel
theorem dL_law_3600 : decode cL_law 3600 = .ok (.aload_n 2, 1) := by decide +kernel
theorem dL_law_3601 : decode cL_law 3601 = .ok (.invokevirtual 372, 3) := by decide +kernel
theorem dL_law_3604 : decode cL_law 3604 = .ok (.istore 7, 2) := by decide +kernel
theorem dL_law_3606 : decode cL_law 3606 = .ok (.aload_n 2, 1) := by decide +kernel
theorem dL_law_3607 : decode cL_law 3607 = .ok (.invokevirtual 181, 3) := by decide +kernel
theorem dL_law_3610 : decode cL_law 3610 = .ok (.iload 6, 2) := by decide +kernel
theorem dL_law_3612 : decode cL_law 3612 = .ok (.if_icmp .eq 5, 3) := by decide +kernel
theorem dL_law_3615 : decode cL_law 3615 = .ok (.iconst 0, 1) := by decide +kernel
theorem dL_law_3616 : decode cL_law 3616 = .ok (.ireturn, 1) := by decide +kernel
theorem dL_law_3617 : decode cL_law 3617 = .ok (.iload 6, 2) := by decide +kernel
theorem dL_law_3619 : decode cL_law 3619 = .ok (.ifCond .ne 15, 3) := by decide +kernel
theorem dL_law_3622 : decode cL_law 3622 = .ok (.aload_n 3, 1) := by decide +kernel
theorem dL_law_3623 : decode cL_law 3623 = .ok (.iconst 0, 1) := by decide +kernel
theorem dL_law_3624 : decode cL_law 3624 = .ok (.laload, 1) := by decide +kernel
theorem dL_law_3625 : decode cL_law 3625 = .ok (.iload 7, 2) := by decide +kernel
theorem dL_law_3627 : decode cL_law 3627 = .ok (.i2l, 1) := by decide +kernel
theorem dL_law_3628 : decode cL_law 3628 = .ok (.lcmp, 1) := by decide +kernel
theorem dL_law_3629 : decode cL_law 3629 = .ok (.ifCond .eq 5, 3) := by decide +kernel
theorem dL_law_3632 : decode cL_law 3632 = .ok (.iconst 0, 1) := by decide +kernel
theorem dL_law_3633 : decode cL_law 3633 = .ok (.ireturn, 1) := by decide +kernel
theorem dL_law_3634 : decode cL_law 3634 = .ok (.goto 3, 3) := by decide +kernel
theorem dL_law_3637 : decode cL_law 3637 = .ok (.iinc 5 6, 3) := by decide +kernel
theorem dL_law_3640 : decode cL_law 3640 = .ok (.goto (-3612), 3) := by decide +kernel
theorem dL_law_3643 : decode cL_law 3643 = .ok (.iconst 1, 1) := by decide +kernel
theorem dL_law_3644 : decode cL_law 3644 = .ok (.ireturn, 1) := by decide +kernel
