/-! THE LAW, DECODED -/
theorem dL_law_2966 : decode cL_law 2966 = .ok (.iaload, 1) := by decide +kernel
theorem dL_law_2967 : decode cL_law 2967 = .ok (.aload_n 0, 1) := by decide +kernel
theorem dL_law_2968 : decode cL_law 2968 = .ok (.iload 5, 2) := by decide +kernel
theorem dL_law_2970 : decode cL_law 2970 = .ok (.iconst 2, 1) := by decide +kernel
theorem dL_law_2971 : decode cL_law 2971 = .ok (.iadd, 1) := by decide +kernel
theorem dL_law_2972 : decode cL_law 2972 = .ok (.iaload, 1) := by decide +kernel
theorem dL_law_2973 : decode cL_law 2973 = .ok (.aload_n 3, 1) := by decide +kernel
theorem dL_law_2974 : decode cL_law 2974 = .ok (.invokestatic 362, 3) := by decide +kernel
theorem dL_law_2977 : decode cL_law 2977 = .ok (.istore 6, 2) := by decide +kernel
theorem dL_law_2979 : decode cL_law 2979 = .ok (.aload_n 2, 1) := by decide +kernel
theorem dL_law_2980 : decode cL_law 2980 = .ok (.aload_n 0, 1) := by decide +kernel
theorem dL_law_2981 : decode cL_law 2981 = .ok (.iload 5, 2) := by decide +kernel
theorem dL_law_2983 : decode cL_law 2983 = .ok (.iconst 1, 1) := by decide +kernel
theorem dL_law_2984 : decode cL_law 2984 = .ok (.iadd, 1) := by decide +kernel
theorem dL_law_2985 : decode cL_law 2985 = .ok (.iaload, 1) := by decide +kernel
theorem dL_law_2986 : decode cL_law 2986 = .ok (.aload_n 0, 1) := by decide +kernel
theorem dL_law_2987 : decode cL_law 2987 = .ok (.iload 5, 2) := by decide +kernel
theorem dL_law_2989 : decode cL_law 2989 = .ok (.iconst 2, 1) := by decide +kernel
theorem dL_law_2990 : decode cL_law 2990 = .ok (.iadd, 1) := by decide +kernel
theorem dL_law_2991 : decode cL_law 2991 = .ok (.iaload, 1) := by decide +kernel
theorem dL_law_2992 : decode cL_law 2992 = .ok (.invokevirtual 364, 3) := by decide +kernel
theorem dL_law_2995 : decode cL_law 2995 = .ok (.istore 7, 2) := by decide +kernel
theorem dL_law_2997 : decode cL_law 2997 = .ok (.aload_n 2, 1) := by decide +kernel
theorem dL_law_2998 : decode cL_law 2998 = .ok (.invokevirtual 191, 3) := by decide +kernel
theorem dL_law_3001 : decode cL_law 3001 = .ok (.iload 6, 2) := by decide +kernel
theorem dL_law_3003 : decode cL_law 3003 = .ok (.if_icmp .eq 5, 3) := by decide +kernel
theorem dL_law_3006 : decode cL_law 3006 = .ok (.iconst 0, 1) := by decide +kernel
theorem dL_law_3007 : decode cL_law 3007 = .ok (.ireturn, 1) := by decide +kernel
theorem dL_law_3008 : decode cL_law 3008 = .ok (.iload 6, 2) := by decide +kernel
theorem dL_law_3010 : decode cL_law 3010 = .ok (.ifCond .ne 15, 3) := by decide +kernel
theorem dL_law_3013 : decode cL_law 3013 = .ok (.aload_n 3, 1) := by decide +kernel
theorem dL_law_3014 : decode cL_law 3014 = .ok (.iconst 0, 1) := by decide +kernel
theorem dL_law_3015 : decode cL_law 3015 = .ok (.laload, 1) := by decide +kernel
theorem dL_law_3016 : decode cL_law 3016 = .ok (.iload 7, 2) := by decide +kernel
theorem dL_law_3018 : decode cL_law 3018 = .ok (.i2l, 1) := by decide +kernel
theorem dL_law_3019 : decode cL_law 3019 = .ok (.lcmp, 1) := by decide +kernel
theorem dL_law_3020 : decode cL_law 3020 = .ok (.ifCond .eq 5, 3) := by decide +kernel
theorem dL_law_3023 : decode cL_law 3023 = .ok (.iconst 0, 1) := by decide +kernel
theorem dL_law_3024 : decode cL_law 3024 = .ok (.ireturn, 1) := by decide +kernel
theorem dL_law_3025 : decode cL_law 3025 = .ok (.goto 586, 3) := by decide +kernel
theorem dL_law_3028 : decode cL_law 3028 = .ok (.aload_n 1, 1) := by decide +kernel
theorem dL_law_3029 : decode cL_law 3029 = .ok (.aload_n 0, 1) := by decide +kernel
theorem dL_law_3030 : decode cL_law 3030 = .ok (.iload 5, 2) := by decide +kernel
theorem dL_law_3032 : decode cL_law 3032 = .ok (.iconst 1, 1) := by decide +kernel
theorem dL_law_3033 : decode cL_law 3033 = .ok (.iadd, 1) := by decide +kernel
theorem dL_law_3034 : decode cL_law 3034 = .ok (.iaload, 1) := by decide +kernel
theorem dL_law_3035 : decode cL_law 3035 = .ok (.aload_n 3, 1) := by decide +kernel
theorem dL_law_3036 : decode cL_law 3036 = .ok (.invokestatic 365, 3) := by decide +kernel
theorem dL_law_3039 : decode cL_law 3039 = .ok (.istore 6, 2) := by decide +kernel
theorem dL_law_3041 : decode cL_law 3041 = .ok (.aload_n 2, 1) := by decide +kernel
theorem dL_law_3042 : decode cL_law 3042 = .ok (.aload_n 0, 1) := by decide +kernel
theorem dL_law_3043 : decode cL_law 3043 = .ok (.iload 5, 2) := by decide +kernel
theorem dL_law_3045 : decode cL_law 3045 = .ok (.iconst 1, 1) := by decide +kernel
theorem dL_law_3046 : decode cL_law 3046 = .ok (.iadd, 1) := by decide +kernel
theorem dL_law_3047 : decode cL_law 3047 = .ok (.iaload, 1) := by decide +kernel
theorem dL_law_3048 : decode cL_law 3048 = .ok (.invokevirtual 367, 3) := by decide +kernel
theorem dL_law_3051 : decode cL_law 3051 = .ok (.istore 7, 2) := by decide +kernel
theorem dL_law_3053 : decode cL_law 3053 = .ok (.aload_n 2, 1) := by decide +kernel
theorem dL_law_3054 : decode cL_law 3054 = .ok (.invokevirtual 191, 3) := by decide +kernel
theorem dL_law_3057 : decode cL_law 3057 = .ok (.iload 6, 2) := by decide +kernel
theorem dL_law_3059 : decode cL_law 3059 = .ok (.if_icmp .eq 5, 3) := by decide +kernel
theorem dL_law_3062 : decode cL_law 3062 = .ok (.iconst 0, 1) := by decide +kernel
theorem dL_law_3063 : decode cL_law 3063 = .ok (.ireturn, 1) := by decide +kernel
theorem dL_law_3064 : decode cL_law 3064 = .ok (.iload 6, 2) := by decide +kernel
theorem dL_law_3066 : decode cL_law 3066 = .ok (.ifCond .ne 15, 3) := by decide +kernel
theorem dL_law_3069 : decode cL_law 3069 = .ok (.aload_n 3, 1) := by decide +kernel
theorem dL_law_3070 : decode cL_law 3070 = .ok (.iconst 0, 1) := by decide +kernel
theorem dL_law_3071 : decode cL_law 3071 = .ok (.laload, 1) := by decide +kernel
theorem dL_law_3072 : decode cL_law 3072 = .ok (.iload 7, 2) := by decide +kernel
theorem dL_law_3074 : decode cL_law 3074 = .ok (.i2l, 1) := by decide +kernel
theorem dL_law_3075 : decode cL_law 3075 = .ok (.lcmp, 1) := by decide +kernel
theorem dL_law_3076 : decode cL_law 3076 = .ok (.ifCond .eq 5, 3) := by decide +kernel
theorem dL_law_3079 : decode cL_law 3079 = .ok (.iconst 0, 1) := by decide +kernel
theorem dL_law_3080 : decode cL_law 3080 = .ok (.ireturn, 1) := by decide +kernel
theorem dL_law_3081 : decode cL_law 3081 = .ok (.goto 530, 3) := by decide +kernel
theorem dL_law_3084 : decode cL_law 3084 = .ok (.aload_n 1, 1) := by decide +kernel
theorem dL_law_3085 : decode cL_law 3085 = .ok (.aload_n 0, 1) := by decide +kernel
theorem dL_law_3086 : decode cL_law 3086 = .ok (.iload 5, 2) := by decide +kernel
theorem dL_law_3088 : decode cL_law 3088 = .ok (.iconst 1, 1) := by decide +kernel
theorem dL_law_3089 : decode cL_law 3089 = .ok (.iadd, 1) := by decide +kernel
theorem dL_law_3090 : decode cL_law 3090 = .ok (.iaload, 1) := by decide +kernel
theorem dL_law_3091 : decode cL_law 3091 = .ok (.aload_n 0, 1) := by decide +kernel
theorem dL_law_3092 : decode cL_law 3092 = .ok (.iload 5, 2) := by decide +kernel
theorem dL_law_3094 : decode cL_law 3094 = .ok (.iconst 2, 1) := by decide +kernel
theorem dL_law_3095 : decode cL_law 3095 = .ok (.iadd, 1) := by decide +kernel
theorem dL_law_3096 : decode cL_law 3096 = .ok (.iaload, 1) := by decide +kernel
theorem dL_law_3097 : decode cL_law 3097 = .ok (.ifCond .eq 7, 3) := by decide +kernel
theorem dL_law_3100 : decode cL_law 3100 = .ok (.iconst 1, 1) := by decide +kernel
theorem dL_law_3101 : decode cL_law 3101 = .ok (.goto 4, 3) := by decide +kernel
theorem dL_law_3104 : decode cL_law 3104 = .ok (.iconst 0, 1) := by decide +kernel
theorem dL_law_3105 : decode cL_law 3105 = .ok (.aload_n 3, 1) := by decide +kernel
theorem dL_law_3106 : decode cL_law 3106 = .ok (.invokestatic 368, 3) := by decide +kernel
theorem dL_law_3109 : decode cL_law 3109 = .ok (.istore 6, 2) := by decide +kernel
theorem dL_law_3111 : decode cL_law 3111 = .ok (.aload_n 2, 1) := by decide +kernel
theorem dL_law_3112 : decode cL_law 3112 = .ok (.aload_n 0, 1) := by decide +kernel
theorem dL_law_3113 : decode cL_law 3113 = .ok (.iload 5, 2) := by decide +kernel
theorem dL_law_3115 : decode cL_law 3115 = .ok (.iconst 1, 1) := by decide +kernel
theorem dL_law_3116 : decode cL_law 3116 = .ok (.iadd, 1) := by decide +kernel
theorem dL_law_3117 : decode cL_law 3117 = .ok (.iaload, 1) := by decide +kernel
theorem dL_law_3118 : decode cL_law 3118 = .ok (.aload_n 0, 1) := by decide +kernel
