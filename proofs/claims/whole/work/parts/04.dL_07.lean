/-! what each instruction decodes to, as printed -/
theorem dL_law_2865 : decode cL_law 2865 = .ok (.iload 5, 2) := by decide +kernel
theorem dL_law_2867 : decode cL_law 2867 = .ok (.if_icmp .eq 5, 3) := by decide +kernel
theorem dL_law_2870 : decode cL_law 2870 = .ok (.iconst 0, 1) := by decide +kernel
theorem dL_law_2871 : decode cL_law 2871 = .ok (.ireturn, 1) := by decide +kernel
theorem dL_law_2872 : decode cL_law 2872 = .ok (.iload 5, 2) := by decide +kernel
theorem dL_law_2874 : decode cL_law 2874 = .ok (.ifCond .ne 15, 3) := by decide +kernel
theorem dL_law_2877 : decode cL_law 2877 = .ok (.aload_n 3, 1) := by decide +kernel
theorem dL_law_2878 : decode cL_law 2878 = .ok (.iconst 0, 1) := by decide +kernel
theorem dL_law_2879 : decode cL_law 2879 = .ok (.laload, 1) := by decide +kernel
theorem dL_law_2880 : decode cL_law 2880 = .ok (.iload 6, 2) := by decide +kernel
theorem dL_law_2882 : decode cL_law 2882 = .ok (.i2l, 1) := by decide +kernel
theorem dL_law_2883 : decode cL_law 2883 = .ok (.lcmp, 1) := by decide +kernel
theorem dL_law_2884 : decode cL_law 2884 = .ok (.ifCond .eq 5, 3) := by decide +kernel
theorem dL_law_2887 : decode cL_law 2887 = .ok (.iconst 0, 1) := by decide +kernel
theorem dL_law_2888 : decode cL_law 2888 = .ok (.ireturn, 1) := by decide +kernel
theorem dL_law_2889 : decode cL_law 2889 = .ok (.goto 339, 3) := by decide +kernel
theorem dL_law_2892 : decode cL_law 2892 = .ok (.aload_n 1, 1) := by decide +kernel
theorem dL_law_2893 : decode cL_law 2893 = .ok (.aload_n 0, 1) := by decide +kernel
theorem dL_law_2894 : decode cL_law 2894 = .ok (.iload 4, 2) := by decide +kernel
theorem dL_law_2896 : decode cL_law 2896 = .ok (.iconst 1, 1) := by decide +kernel
theorem dL_law_2897 : decode cL_law 2897 = .ok (.iadd, 1) := by decide +kernel
theorem dL_law_2898 : decode cL_law 2898 = .ok (.iaload, 1) := by decide +kernel
theorem dL_law_2899 : decode cL_law 2899 = .ok (.aload_n 3, 1) := by decide +kernel
theorem dL_law_2900 : decode cL_law 2900 = .ok (.invokestatic 310, 3) := by decide +kernel
theorem dL_law_2903 : decode cL_law 2903 = .ok (.istore 5, 2) := by decide +kernel
theorem dL_law_2905 : decode cL_law 2905 = .ok (.aload_n 2, 1) := by decide +kernel
theorem dL_law_2906 : decode cL_law 2906 = .ok (.aload_n 0, 1) := by decide +kernel
theorem dL_law_2907 : decode cL_law 2907 = .ok (.iload 4, 2) := by decide +kernel
theorem dL_law_2909 : decode cL_law 2909 = .ok (.iconst 1, 1) := by decide +kernel
theorem dL_law_2910 : decode cL_law 2910 = .ok (.iadd, 1) := by decide +kernel
theorem dL_law_2911 : decode cL_law 2911 = .ok (.iaload, 1) := by decide +kernel
theorem dL_law_2912 : decode cL_law 2912 = .ok (.invokevirtual 312, 3) := by decide +kernel
theorem dL_law_2915 : decode cL_law 2915 = .ok (.istore 6, 2) := by decide +kernel
theorem dL_law_2917 : decode cL_law 2917 = .ok (.aload_n 2, 1) := by decide +kernel
theorem dL_law_2918 : decode cL_law 2918 = .ok (.invokevirtual 151, 3) := by decide +kernel
theorem dL_law_2921 : decode cL_law 2921 = .ok (.iload 5, 2) := by decide +kernel
theorem dL_law_2923 : decode cL_law 2923 = .ok (.if_icmp .eq 5, 3) := by decide +kernel
theorem dL_law_2926 : decode cL_law 2926 = .ok (.iconst 0, 1) := by decide +kernel
theorem dL_law_2927 : decode cL_law 2927 = .ok (.ireturn, 1) := by decide +kernel
theorem dL_law_2928 : decode cL_law 2928 = .ok (.iload 5, 2) := by decide +kernel
theorem dL_law_2930 : decode cL_law 2930 = .ok (.ifCond .ne 15, 3) := by decide +kernel
theorem dL_law_2933 : decode cL_law 2933 = .ok (.aload_n 3, 1) := by decide +kernel
theorem dL_law_2934 : decode cL_law 2934 = .ok (.iconst 0, 1) := by decide +kernel
theorem dL_law_2935 : decode cL_law 2935 = .ok (.laload, 1) := by decide +kernel
theorem dL_law_2936 : decode cL_law 2936 = .ok (.iload 6, 2) := by decide +kernel
theorem dL_law_2938 : decode cL_law 2938 = .ok (.i2l, 1) := by decide +kernel
theorem dL_law_2939 : decode cL_law 2939 = .ok (.lcmp, 1) := by decide +kernel
theorem dL_law_2940 : decode cL_law 2940 = .ok (.ifCond .eq 5, 3) := by decide +kernel
theorem dL_law_2943 : decode cL_law 2943 = .ok (.iconst 0, 1) := by decide +kernel
theorem dL_law_2944 : decode cL_law 2944 = .ok (.ireturn, 1) := by decide +kernel
theorem dL_law_2945 : decode cL_law 2945 = .ok (.goto 283, 3) := by decide +kernel
theorem dL_law_2948 : decode cL_law 2948 = .ok (.aload_n 1, 1) := by decide +kernel
theorem dL_law_2949 : decode cL_law 2949 = .ok (.aload_n 3, 1) := by decide +kernel
theorem dL_law_2950 : decode cL_law 2950 = .ok (.invokestatic 313, 3) := by decide +kernel
theorem dL_law_2953 : decode cL_law 2953 = .ok (.istore 5, 2) := by decide +kernel
theorem dL_law_2955 : decode cL_law 2955 = .ok (.aload_n 2, 1) := by decide +kernel
theorem dL_law_2956 : decode cL_law 2956 = .ok (.invokevirtual 316, 3) := by decide +kernel
theorem dL_law_2959 : decode cL_law 2959 = .ok (.istore 6, 2) := by decide +kernel
theorem dL_law_2961 : decode cL_law 2961 = .ok (.aload_n 2, 1) := by decide +kernel
theorem dL_law_2962 : decode cL_law 2962 = .ok (.invokevirtual 151, 3) := by decide +kernel
theorem dL_law_2965 : decode cL_law 2965 = .ok (.iload 5, 2) := by decide +kernel
theorem dL_law_2967 : decode cL_law 2967 = .ok (.if_icmp .eq 5, 3) := by decide +kernel
theorem dL_law_2970 : decode cL_law 2970 = .ok (.iconst 0, 1) := by decide +kernel
theorem dL_law_2971 : decode cL_law 2971 = .ok (.ireturn, 1) := by decide +kernel
theorem dL_law_2972 : decode cL_law 2972 = .ok (.iload 5, 2) := by decide +kernel
theorem dL_law_2974 : decode cL_law 2974 = .ok (.ifCond .ne 15, 3) := by decide +kernel
theorem dL_law_2977 : decode cL_law 2977 = .ok (.aload_n 3, 1) := by decide +kernel
theorem dL_law_2978 : decode cL_law 2978 = .ok (.iconst 0, 1) := by decide +kernel
theorem dL_law_2979 : decode cL_law 2979 = .ok (.laload, 1) := by decide +kernel
theorem dL_law_2980 : decode cL_law 2980 = .ok (.iload 6, 2) := by decide +kernel
theorem dL_law_2982 : decode cL_law 2982 = .ok (.i2l, 1) := by decide +kernel
theorem dL_law_2983 : decode cL_law 2983 = .ok (.lcmp, 1) := by decide +kernel
theorem dL_law_2984 : decode cL_law 2984 = .ok (.ifCond .eq 5, 3) := by decide +kernel
theorem dL_law_2987 : decode cL_law 2987 = .ok (.iconst 0, 1) := by decide +kernel
theorem dL_law_2988 : decode cL_law 2988 = .ok (.ireturn, 1) := by decide +kernel
theorem dL_law_2989 : decode cL_law 2989 = .ok (.goto 239, 3) := by decide +kernel
theorem dL_law_2992 : decode cL_law 2992 = .ok (.aload_n 1, 1) := by decide +kernel
theorem dL_law_2993 : decode cL_law 2993 = .ok (.aload_n 0, 1) := by decide +kernel
theorem dL_law_2994 : decode cL_law 2994 = .ok (.iload 4, 2) := by decide +kernel
theorem dL_law_2996 : decode cL_law 2996 = .ok (.iconst 1, 1) := by decide +kernel
theorem dL_law_2997 : decode cL_law 2997 = .ok (.iadd, 1) := by decide +kernel
theorem dL_law_2998 : decode cL_law 2998 = .ok (.iaload, 1) := by decide +kernel
theorem dL_law_2999 : decode cL_law 2999 = .ok (.aload_n 3, 1) := by decide +kernel
theorem dL_law_3000 : decode cL_law 3000 = .ok (.invokestatic 317, 3) := by decide +kernel
theorem dL_law_3003 : decode cL_law 3003 = .ok (.istore 5, 2) := by decide +kernel
theorem dL_law_3005 : decode cL_law 3005 = .ok (.aload_n 2, 1) := by decide +kernel
theorem dL_law_3006 : decode cL_law 3006 = .ok (.aload_n 0, 1) := by decide +kernel
theorem dL_law_3007 : decode cL_law 3007 = .ok (.iload 4, 2) := by decide +kernel
theorem dL_law_3009 : decode cL_law 3009 = .ok (.iconst 1, 1) := by decide +kernel
theorem dL_law_3010 : decode cL_law 3010 = .ok (.iadd, 1) := by decide +kernel
theorem dL_law_3011 : decode cL_law 3011 = .ok (.iaload, 1) := by decide +kernel
theorem dL_law_3012 : decode cL_law 3012 = .ok (.invokevirtual 319, 3) := by decide +kernel
theorem dL_law_3015 : decode cL_law 3015 = .ok (.istore 6, 2) := by decide +kernel
theorem dL_law_3017 : decode cL_law 3017 = .ok (.aload_n 2, 1) := by decide +kernel
theorem dL_law_3018 : decode cL_law 3018 = .ok (.invokevirtual 151, 3) := by decide +kernel
theorem dL_law_3021 : decode cL_law 3021 = .ok (.iload 5, 2) := by decide +kernel
theorem dL_law_3023 : decode cL_law 3023 = .ok (.if_icmp .eq 5, 3) := by decide +kernel
theorem dL_law_3026 : decode cL_law 3026 = .ok (.iconst 0, 1) := by decide +kernel
theorem dL_law_3027 : decode cL_law 3027 = .ok (.ireturn, 1) := by decide +kernel
theorem dL_law_3028 : decode cL_law 3028 = .ok (.iload 5, 2) := by decide +kernel
theorem dL_law_3030 : decode cL_law 3030 = .ok (.ifCond .ne 15, 3) := by decide +kernel
theorem dL_law_3033 : decode cL_law 3033 = .ok (.aload_n 3, 1) := by decide +kernel
theorem dL_law_3034 : decode cL_law 3034 = .ok (.iconst 0, 1) := by decide +kernel
theorem dL_law_3035 : decode cL_law 3035 = .ok (.laload, 1) := by decide +kernel
theorem dL_law_3036 : decode cL_law 3036 = .ok (.iload 6, 2) := by decide +kernel
theorem dL_law_3038 : decode cL_law 3038 = .ok (.i2l, 1) := by decide +kernel
theorem dL_law_3039 : decode cL_law 3039 = .ok (.lcmp, 1) := by decide +kernel
theorem dL_law_3040 : decode cL_law 3040 = .ok (.ifCond .eq 5, 3) := by decide +kernel
theorem dL_law_3043 : decode cL_law 3043 = .ok (.iconst 0, 1) := by decide +kernel
theorem dL_law_3044 : decode cL_law 3044 = .ok (.ireturn, 1) := by decide +kernel
theorem dL_law_3045 : decode cL_law 3045 = .ok (.goto 183, 3) := by decide +kernel
theorem dL_law_3048 : decode cL_law 3048 = .ok (.aload_n 1, 1) := by decide +kernel
theorem dL_law_3049 : decode cL_law 3049 = .ok (.aload_n 0, 1) := by decide +kernel
theorem dL_law_3050 : decode cL_law 3050 = .ok (.iload 4, 2) := by decide +kernel
theorem dL_law_3052 : decode cL_law 3052 = .ok (.iconst 1, 1) := by decide +kernel
theorem dL_law_3053 : decode cL_law 3053 = .ok (.iadd, 1) := by decide +kernel
theorem dL_law_3054 : decode cL_law 3054 = .ok (.iaload, 1) := by decide +kernel
theorem dL_law_3055 : decode cL_law 3055 = .ok (.aload_n 3, 1) := by decide +kernel
theorem dL_law_3056 : decode cL_law 3056 = .ok (.invokestatic 320, 3) := by decide +kernel
theorem dL_law_3059 : decode cL_law 3059 = .ok (.istore 5, 2) := by decide +kernel
theorem dL_law_3061 : decode cL_law 3061 = .ok (.aload_n 2, 1) := by decide +kernel
theorem dL_law_3062 : decode cL_law 3062 = .ok (.aload_n 0, 1) := by decide +kernel
theorem dL_law_3063 : decode cL_law 3063 = .ok (.iload 4, 2) := by decide +kernel
theorem dL_law_3065 : decode cL_law 3065 = .ok (.iconst 1, 1) := by decide +kernel
theorem dL_law_3066 : decode cL_law 3066 = .ok (.iadd, 1) := by decide +kernel
theorem dL_law_3067 : decode cL_law 3067 = .ok (.iaload, 1) := by decide +kernel
theorem dL_law_3068 : decode cL_law 3068 = .ok (.invokevirtual 322, 3) := by decide +kernel
theorem dL_law_3071 : decode cL_law 3071 = .ok (.istore 6, 2) := by decide +kernel
theorem dL_law_3073 : decode cL_law 3073 = .ok (.aload_n 2, 1) := by decide +kernel
theorem dL_law_3074 : decode cL_law 3074 = .ok (.invokevirtual 151, 3) := by decide +kernel
theorem dL_law_3077 : decode cL_law 3077 = .ok (.iload 5, 2) := by decide +kernel
theorem dL_law_3079 : decode cL_law 3079 = .ok (.if_icmp .eq 5, 3) := by decide +kernel
theorem dL_law_3082 : decode cL_law 3082 = .ok (.iconst 0, 1) := by decide +kernel
theorem dL_law_3083 : decode cL_law 3083 = .ok (.ireturn, 1) := by decide +kernel
theorem dL_law_3084 : decode cL_law 3084 = .ok (.iload 5, 2) := by decide +kernel
theorem dL_law_3086 : decode cL_law 3086 = .ok (.ifCond .ne 15, 3) := by decide +kernel
theorem dL_law_3089 : decode cL_law 3089 = .ok (.aload_n 3, 1) := by decide +kernel
theorem dL_law_3090 : decode cL_law 3090 = .ok (.iconst 0, 1) := by decide +kernel
theorem dL_law_3091 : decode cL_law 3091 = .ok (.laload, 1) := by decide +kernel
theorem dL_law_3092 : decode cL_law 3092 = .ok (.iload 6, 2) := by decide +kernel
theorem dL_law_3094 : decode cL_law 3094 = .ok (.i2l, 1) := by decide +kernel
theorem dL_law_3095 : decode cL_law 3095 = .ok (.lcmp, 1) := by decide +kernel
theorem dL_law_3096 : decode cL_law 3096 = .ok (.ifCond .eq 5, 3) := by decide +kernel
theorem dL_law_3099 : decode cL_law 3099 = .ok (.iconst 0, 1) := by decide +kernel
theorem dL_law_3100 : decode cL_law 3100 = .ok (.ireturn, 1) := by decide +kernel
theorem dL_law_3101 : decode cL_law 3101 = .ok (.goto 127, 3) := by decide +kernel
theorem dL_law_3104 : decode cL_law 3104 = .ok (.aload_n 1, 1) := by decide +kernel
theorem dL_law_3105 : decode cL_law 3105 = .ok (.aload_n 0, 1) := by decide +kernel
theorem dL_law_3106 : decode cL_law 3106 = .ok (.iload 4, 2) := by decide +kernel
theorem dL_law_3108 : decode cL_law 3108 = .ok (.iconst 1, 1) := by decide +kernel
theorem dL_law_3109 : decode cL_law 3109 = .ok (.iadd, 1) := by decide +kernel
theorem dL_law_3110 : decode cL_law 3110 = .ok (.iaload, 1) := by decide +kernel
theorem dL_law_3111 : decode cL_law 3111 = .ok (.aload_n 0, 1) := by decide +kernel
theorem dL_law_3112 : decode cL_law 3112 = .ok (.iload 4, 2) := by decide +kernel
theorem dL_law_3114 : decode cL_law 3114 = .ok (.iconst 2, 1) := by decide +kernel
theorem dL_law_3115 : decode cL_law 3115 = .ok (.iadd, 1) := by decide +kernel
theorem dL_law_3116 : decode cL_law 3116 = .ok (.iaload, 1) := by decide +kernel
theorem dL_law_3117 : decode cL_law 3117 = .ok (.aload_n 3, 1) := by decide +kernel
theorem dL_law_3118 : decode cL_law 3118 = .ok (.invokestatic 323, 3) := by decide +kernel
theorem dL_law_3121 : decode cL_law 3121 = .ok (.istore 5, 2) := by decide +kernel
theorem dL_law_3123 : decode cL_law 3123 = .ok (.aload_n 2, 1) := by decide +kernel
theorem dL_law_3124 : decode cL_law 3124 = .ok (.aload_n 0, 1) := by decide +kernel
theorem dL_law_3125 : decode cL_law 3125 = .ok (.iload 4, 2) := by decide +kernel
theorem dL_law_3127 : decode cL_law 3127 = .ok (.iconst 1, 1) := by decide +kernel
theorem dL_law_3128 : decode cL_law 3128 = .ok (.iadd, 1) := by decide +kernel
theorem dL_law_3129 : decode cL_law 3129 = .ok (.iaload, 1) := by decide +kernel
theorem dL_law_3130 : decode cL_law 3130 = .ok (.aload_n 0, 1) := by decide +kernel
theorem dL_law_3131 : decode cL_law 3131 = .ok (.iload 4, 2) := by decide +kernel
theorem dL_law_3133 : decode cL_law 3133 = .ok (.iconst 2, 1) := by decide +kernel
theorem dL_law_3134 : decode cL_law 3134 = .ok (.iadd, 1) := by decide +kernel
theorem dL_law_3135 : decode cL_law 3135 = .ok (.iaload, 1) := by decide +kernel
theorem dL_law_3136 : decode cL_law 3136 = .ok (.invokevirtual 325, 3) := by decide +kernel
theorem dL_law_3139 : decode cL_law 3139 = .ok (.istore 6, 2) := by decide +kernel
theorem dL_law_3141 : decode cL_law 3141 = .ok (.aload_n 2, 1) := by decide +kernel
theorem dL_law_3142 : decode cL_law 3142 = .ok (.invokevirtual 151, 3) := by decide +kernel
theorem dL_law_3145 : decode cL_law 3145 = .ok (.iload 5, 2) := by decide +kernel
theorem dL_law_3147 : decode cL_law 3147 = .ok (.if_icmp .eq 5, 3) := by decide +kernel
theorem dL_law_3150 : decode cL_law 3150 = .ok (.iconst 0, 1) := by decide +kernel
theorem dL_law_3151 : decode cL_law 3151 = .ok (.ireturn, 1) := by decide +kernel
theorem dL_law_3152 : decode cL_law 3152 = .ok (.iload 5, 2) := by decide +kernel
theorem dL_law_3154 : decode cL_law 3154 = .ok (.ifCond .ne 15, 3) := by decide +kernel
theorem dL_law_3157 : decode cL_law 3157 = .ok (.aload_n 3, 1) := by decide +kernel
theorem dL_law_3158 : decode cL_law 3158 = .ok (.iconst 0, 1) := by decide +kernel
theorem dL_law_3159 : decode cL_law 3159 = .ok (.laload, 1) := by decide +kernel
theorem dL_law_3160 : decode cL_law 3160 = .ok (.iload 6, 2) := by decide +kernel
theorem dL_law_3162 : decode cL_law 3162 = .ok (.i2l, 1) := by decide +kernel
theorem dL_law_3163 : decode cL_law 3163 = .ok (.lcmp, 1) := by decide +kernel
theorem dL_law_3164 : decode cL_law 3164 = .ok (.ifCond .eq 5, 3) := by decide +kernel
theorem dL_law_3167 : decode cL_law 3167 = .ok (.iconst 0, 1) := by decide +kernel
theorem dL_law_3168 : decode cL_law 3168 = .ok (.ireturn, 1) := by decide +kernel
theorem dL_law_3169 : decode cL_law 3169 = .ok (.goto 59, 3) := by decide +kernel
theorem dL_law_3172 : decode cL_law 3172 = .ok (.aload_n 1, 1) := by decide +kernel
theorem dL_law_3173 : decode cL_law 3173 = .ok (.aload_n 0, 1) := by decide +kernel
theorem dL_law_3174 : decode cL_law 3174 = .ok (.iload 4, 2) := by decide +kernel
theorem dL_law_3176 : decode cL_law 3176 = .ok (.iconst 1, 1) := by decide +kernel
theorem dL_law_3177 : decode cL_law 3177 = .ok (.iadd, 1) := by decide +kernel
theorem dL_law_3178 : decode cL_law 3178 = .ok (.iaload, 1) := by decide +kernel
theorem dL_law_3179 : decode cL_law 3179 = .ok (.aload_n 3, 1) := by decide +kernel
theorem dL_law_3180 : decode cL_law 3180 = .ok (.invokestatic 326, 3) := by decide +kernel
theorem dL_law_3183 : decode cL_law 3183 = .ok (.istore 5, 2) := by decide +kernel
theorem dL_law_3185 : decode cL_law 3185 = .ok (.aload_n 2, 1) := by decide +kernel
theorem dL_law_3186 : decode cL_law 3186 = .ok (.aload_n 0, 1) := by decide +kernel
theorem dL_law_3187 : decode cL_law 3187 = .ok (.iload 4, 2) := by decide +kernel
theorem dL_law_3189 : decode cL_law 3189 = .ok (.iconst 1, 1) := by decide +kernel
theorem dL_law_3190 : decode cL_law 3190 = .ok (.iadd, 1) := by decide +kernel
theorem dL_law_3191 : decode cL_law 3191 = .ok (.iaload, 1) := by decide +kernel
theorem dL_law_3192 : decode cL_law 3192 = .ok (.invokevirtual 328, 3) := by decide +kernel
theorem dL_law_3195 : decode cL_law 3195 = .ok (.istore 6, 2) := by decide +kernel
theorem dL_law_3197 : decode cL_law 3197 = .ok (.aload_n 2, 1) := by decide +kernel
theorem dL_law_3198 : decode cL_law 3198 = .ok (.invokevirtual 151, 3) := by decide +kernel
theorem dL_law_3201 : decode cL_law 3201 = .ok (.iload 5, 2) := by decide +kernel
theorem dL_law_3203 : decode cL_law 3203 = .ok (.if_icmp .eq 5, 3) := by decide +kernel
theorem dL_law_3206 : decode cL_law 3206 = .ok (.iconst 0, 1) := by decide +kernel
theorem dL_law_3207 : decode cL_law 3207 = .ok (.ireturn, 1) := by decide +kernel
theorem dL_law_3208 : decode cL_law 3208 = .ok (.iload 5, 2) := by decide +kernel
theorem dL_law_3210 : decode cL_law 3210 = .ok (.ifCond .ne 15, 3) := by decide +kernel
theorem dL_law_3213 : decode cL_law 3213 = .ok (.aload_n 3, 1) := by decide +kernel
theorem dL_law_3214 : decode cL_law 3214 = .ok (.iconst 0, 1) := by decide +kernel
theorem dL_law_3215 : decode cL_law 3215 = .ok (.laload, 1) := by decide +kernel
theorem dL_law_3216 : decode cL_law 3216 = .ok (.iload 6, 2) := by decide +kernel
theorem dL_law_3218 : decode cL_law 3218 = .ok (.i2l, 1) := by decide +kernel
theorem dL_law_3219 : decode cL_law 3219 = .ok (.lcmp, 1) := by decide +kernel
theorem dL_law_3220 : decode cL_law 3220 = .ok (.ifCond .eq 5, 3) := by decide +kernel
theorem dL_law_3223 : decode cL_law 3223 = .ok (.iconst 0, 1) := by decide +kernel
theorem dL_law_3224 : decode cL_law 3224 = .ok (.ireturn, 1) := by decide +kernel
theorem dL_law_3225 : decode cL_law 3225 = .ok (.goto 3, 3) := by decide +kernel
theorem dL_law_3228 : decode cL_law 3228 = .ok (.iinc 4 6, 3) := by decide +kernel
theorem dL_law_3231 : decode cL_law 3231 = .ok (.goto (-3208), 3) := by decide +kernel
theorem dL_law_3234 : decode cL_law 3234 = .ok (.iconst 1, 1) := by decide +kernel
theorem dL_law_3235 : decode cL_law 3235 = .ok (.ireturn, 1) := by decide +kernel
