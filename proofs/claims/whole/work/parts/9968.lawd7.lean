theorem dL_law_2962 : decode cL_law 2962 = .ok (.iload 5, 2) := by decide +kernel
theorem dL_law_2964 : decode cL_law 2964 = .ok (.iconst 2, 1) := by decide +kernel
theorem dL_law_2965 : decode cL_law 2965 = .ok (.iadd, 1) := by decide +kernel
theorem dL_law_2966 : decode cL_law 2966 = .ok (.iaload, 1) := by decide +kernel
theorem dL_law_2967 : decode cL_law 2967 = .ok (.aload_n 0, 1) := by decide +kernel
theorem dL_law_2968 : decode cL_law 2968 = .ok (.iload 5, 2) := by decide +kernel
theorem dL_law_2970 : decode cL_law 2970 = .ok (.iconst 3, 1) := by decide +kernel
theorem dL_law_2971 : decode cL_law 2971 = .ok (.iadd, 1) := by decide +kernel
theorem dL_law_2972 : decode cL_law 2972 = .ok (.iaload, 1) := by decide +kernel
theorem dL_law_2973 : decode cL_law 2973 = .ok (.aload_n 0, 1) := by decide +kernel
theorem dL_law_2974 : decode cL_law 2974 = .ok (.iload 5, 2) := by decide +kernel
theorem dL_law_2976 : decode cL_law 2976 = .ok (.iconst 4, 1) := by decide +kernel
theorem dL_law_2977 : decode cL_law 2977 = .ok (.iadd, 1) := by decide +kernel
theorem dL_law_2978 : decode cL_law 2978 = .ok (.iaload, 1) := by decide +kernel
theorem dL_law_2979 : decode cL_law 2979 = .ok (.aload_n 0, 1) := by decide +kernel
theorem dL_law_2980 : decode cL_law 2980 = .ok (.iload 5, 2) := by decide +kernel
theorem dL_law_2982 : decode cL_law 2982 = .ok (.iconst 5, 1) := by decide +kernel
theorem dL_law_2983 : decode cL_law 2983 = .ok (.iadd, 1) := by decide +kernel
theorem dL_law_2984 : decode cL_law 2984 = .ok (.iaload, 1) := by decide +kernel
theorem dL_law_2985 : decode cL_law 2985 = .ok (.invokevirtual 323, 3) := by decide +kernel
theorem dL_law_2988 : decode cL_law 2988 = .ok (.istore 7, 2) := by decide +kernel
theorem dL_law_2990 : decode cL_law 2990 = .ok (.aload_n 2, 1) := by decide +kernel
theorem dL_law_2991 : decode cL_law 2991 = .ok (.invokevirtual 168, 3) := by decide +kernel
theorem dL_law_2994 : decode cL_law 2994 = .ok (.iload 6, 2) := by decide +kernel
theorem dL_law_2996 : decode cL_law 2996 = .ok (.if_icmp .eq 5, 3) := by decide +kernel
theorem dL_law_2999 : decode cL_law 2999 = .ok (.iconst 0, 1) := by decide +kernel
theorem dL_law_3000 : decode cL_law 3000 = .ok (.ireturn, 1) := by decide +kernel
theorem dL_law_3001 : decode cL_law 3001 = .ok (.iload 6, 2) := by decide +kernel
theorem dL_law_3003 : decode cL_law 3003 = .ok (.ifCond .ne 15, 3) := by decide +kernel
theorem dL_law_3006 : decode cL_law 3006 = .ok (.aload_n 3, 1) := by decide +kernel
theorem dL_law_3007 : decode cL_law 3007 = .ok (.iconst 0, 1) := by decide +kernel
theorem dL_law_3008 : decode cL_law 3008 = .ok (.laload, 1) := by decide +kernel
theorem dL_law_3009 : decode cL_law 3009 = .ok (.iload 7, 2) := by decide +kernel
theorem dL_law_3011 : decode cL_law 3011 = .ok (.i2l, 1) := by decide +kernel
theorem dL_law_3012 : decode cL_law 3012 = .ok (.lcmp, 1) := by decide +kernel
theorem dL_law_3013 : decode cL_law 3013 = .ok (.ifCond .eq 5, 3) := by decide +kernel
theorem dL_law_3016 : decode cL_law 3016 = .ok (.iconst 0, 1) := by decide +kernel
theorem dL_law_3017 : decode cL_law 3017 = .ok (.ireturn, 1) := by decide +kernel
theorem dL_law_3018 : decode cL_law 3018 = .ok (.goto 343, 3) := by decide +kernel
theorem dL_law_3021 : decode cL_law 3021 = .ok (.aload_n 1, 1) := by decide +kernel
theorem dL_law_3022 : decode cL_law 3022 = .ok (.invokevirtual 324, 3) := by decide +kernel
theorem dL_law_3025 : decode cL_law 3025 = .ok (.aload_n 2, 1) := by decide +kernel
theorem dL_law_3026 : decode cL_law 3026 = .ok (.invokevirtual 327, 3) := by decide +kernel
theorem dL_law_3029 : decode cL_law 3029 = .ok (.if_icmp .eq 332, 3) := by decide +kernel
theorem dL_law_3032 : decode cL_law 3032 = .ok (.iconst 0, 1) := by decide +kernel
theorem dL_law_3033 : decode cL_law 3033 = .ok (.ireturn, 1) := by decide +kernel
theorem dL_law_3034 : decode cL_law 3034 = .ok (.aload_n 1, 1) := by decide +kernel
theorem dL_law_3035 : decode cL_law 3035 = .ok (.aload_n 3, 1) := by decide +kernel
theorem dL_law_3036 : decode cL_law 3036 = .ok (.invokestatic 328, 3) := by decide +kernel
theorem dL_law_3039 : decode cL_law 3039 = .ok (.istore 6, 2) := by decide +kernel
theorem dL_law_3041 : decode cL_law 3041 = .ok (.aload_n 2, 1) := by decide +kernel
theorem dL_law_3042 : decode cL_law 3042 = .ok (.invokevirtual 330, 3) := by decide +kernel
theorem dL_law_3045 : decode cL_law 3045 = .ok (.istore 7, 2) := by decide +kernel
theorem dL_law_3047 : decode cL_law 3047 = .ok (.aload_n 2, 1) := by decide +kernel
theorem dL_law_3048 : decode cL_law 3048 = .ok (.invokevirtual 168, 3) := by decide +kernel
theorem dL_law_3051 : decode cL_law 3051 = .ok (.iload 6, 2) := by decide +kernel
theorem dL_law_3053 : decode cL_law 3053 = .ok (.if_icmp .eq 5, 3) := by decide +kernel
theorem dL_law_3056 : decode cL_law 3056 = .ok (.iconst 0, 1) := by decide +kernel
theorem dL_law_3057 : decode cL_law 3057 = .ok (.ireturn, 1) := by decide +kernel
theorem dL_law_3058 : decode cL_law 3058 = .ok (.iload 6, 2) := by decide +kernel
theorem dL_law_3060 : decode cL_law 3060 = .ok (.ifCond .ne 15, 3) := by decide +kernel
theorem dL_law_3063 : decode cL_law 3063 = .ok (.aload_n 3, 1) := by decide +kernel
theorem dL_law_3064 : decode cL_law 3064 = .ok (.iconst 0, 1) := by decide +kernel
theorem dL_law_3065 : decode cL_law 3065 = .ok (.laload, 1) := by decide +kernel
theorem dL_law_3066 : decode cL_law 3066 = .ok (.iload 7, 2) := by decide +kernel
theorem dL_law_3068 : decode cL_law 3068 = .ok (.i2l, 1) := by decide +kernel
theorem dL_law_3069 : decode cL_law 3069 = .ok (.lcmp, 1) := by decide +kernel
theorem dL_law_3070 : decode cL_law 3070 = .ok (.ifCond .eq 5, 3) := by decide +kernel
theorem dL_law_3073 : decode cL_law 3073 = .ok (.iconst 0, 1) := by decide +kernel
theorem dL_law_3074 : decode cL_law 3074 = .ok (.ireturn, 1) := by decide +kernel
theorem dL_law_3075 : decode cL_law 3075 = .ok (.goto 286, 3) := by decide +kernel
theorem dL_law_3078 : decode cL_law 3078 = .ok (.aload_n 1, 1) := by decide +kernel
theorem dL_law_3079 : decode cL_law 3079 = .ok (.invokevirtual 331, 3) := by decide +kernel
theorem dL_law_3082 : decode cL_law 3082 = .ok (.aload_n 2, 1) := by decide +kernel
theorem dL_law_3083 : decode cL_law 3083 = .ok (.invokevirtual 334, 3) := by decide +kernel
theorem dL_law_3086 : decode cL_law 3086 = .ok (.if_icmp .eq 275, 3) := by decide +kernel
theorem dL_law_3089 : decode cL_law 3089 = .ok (.iconst 0, 1) := by decide +kernel
theorem dL_law_3090 : decode cL_law 3090 = .ok (.ireturn, 1) := by decide +kernel
theorem dL_law_3091 : decode cL_law 3091 = .ok (.aload_n 1, 1) := by decide +kernel
theorem dL_law_3092 : decode cL_law 3092 = .ok (.aload_n 3, 1) := by decide +kernel
theorem dL_law_3093 : decode cL_law 3093 = .ok (.invokestatic 335, 3) := by decide +kernel
theorem dL_law_3096 : decode cL_law 3096 = .ok (.istore 6, 2) := by decide +kernel
theorem dL_law_3098 : decode cL_law 3098 = .ok (.aload_n 2, 1) := by decide +kernel
theorem dL_law_3099 : decode cL_law 3099 = .ok (.invokevirtual 337, 3) := by decide +kernel
theorem dL_law_3102 : decode cL_law 3102 = .ok (.istore 7, 2) := by decide +kernel
theorem dL_law_3104 : decode cL_law 3104 = .ok (.aload_n 2, 1) := by decide +kernel
theorem dL_law_3105 : decode cL_law 3105 = .ok (.invokevirtual 168, 3) := by decide +kernel
theorem dL_law_3108 : decode cL_law 3108 = .ok (.iload 6, 2) := by decide +kernel
theorem dL_law_3110 : decode cL_law 3110 = .ok (.if_icmp .eq 5, 3) := by decide +kernel
theorem dL_law_3113 : decode cL_law 3113 = .ok (.iconst 0, 1) := by decide +kernel
theorem dL_law_3114 : decode cL_law 3114 = .ok (.ireturn, 1) := by decide +kernel
theorem dL_law_3115 : decode cL_law 3115 = .ok (.iload 6, 2) := by decide +kernel
theorem dL_law_3117 : decode cL_law 3117 = .ok (.ifCond .ne 15, 3) := by decide +kernel
theorem dL_law_3120 : decode cL_law 3120 = .ok (.aload_n 3, 1) := by decide +kernel
theorem dL_law_3121 : decode cL_law 3121 = .ok (.iconst 0, 1) := by decide +kernel
theorem dL_law_3122 : decode cL_law 3122 = .ok (.laload, 1) := by decide +kernel
theorem dL_law_3123 : decode cL_law 3123 = .ok (.iload 7, 2) := by decide +kernel
theorem dL_law_3125 : decode cL_law 3125 = .ok (.i2l, 1) := by decide +kernel
theorem dL_law_3126 : decode cL_law 3126 = .ok (.lcmp, 1) := by decide +kernel
theorem dL_law_3127 : decode cL_law 3127 = .ok (.ifCond .eq 5, 3) := by decide +kernel
theorem dL_law_3130 : decode cL_law 3130 = .ok (.iconst 0, 1) := by decide +kernel
theorem dL_law_3131 : decode cL_law 3131 = .ok (.ireturn, 1) := by decide +kernel
theorem dL_law_3132 : decode cL_law 3132 = .ok (.goto 229, 3) := by decide +kernel
theorem dL_law_3135 : decode cL_law 3135 = .ok (.aload_n 1, 1) := by decide +kernel
theorem dL_law_3136 : decode cL_law 3136 = .ok (.aload_n 0, 1) := by decide +kernel
theorem dL_law_3137 : decode cL_law 3137 = .ok (.iload 5, 2) := by decide +kernel
theorem dL_law_3139 : decode cL_law 3139 = .ok (.iconst 1, 1) := by decide +kernel
theorem dL_law_3140 : decode cL_law 3140 = .ok (.iadd, 1) := by decide +kernel
theorem dL_law_3141 : decode cL_law 3141 = .ok (.iaload, 1) := by decide +kernel
theorem dL_law_3142 : decode cL_law 3142 = .ok (.aload_n 3, 1) := by decide +kernel
theorem dL_law_3143 : decode cL_law 3143 = .ok (.invokestatic 338, 3) := by decide +kernel
theorem dL_law_3146 : decode cL_law 3146 = .ok (.istore 6, 2) := by decide +kernel
theorem dL_law_3148 : decode cL_law 3148 = .ok (.aload_n 2, 1) := by decide +kernel
theorem dL_law_3149 : decode cL_law 3149 = .ok (.aload_n 0, 1) := by decide +kernel
theorem dL_law_3150 : decode cL_law 3150 = .ok (.iload 5, 2) := by decide +kernel
theorem dL_law_3152 : decode cL_law 3152 = .ok (.iconst 1, 1) := by decide +kernel
theorem dL_law_3153 : decode cL_law 3153 = .ok (.iadd, 1) := by decide +kernel
theorem dL_law_3154 : decode cL_law 3154 = .ok (.iaload, 1) := by decide +kernel
theorem dL_law_3155 : decode cL_law 3155 = .ok (.invokevirtual 340, 3) := by decide +kernel
theorem dL_law_3158 : decode cL_law 3158 = .ok (.istore 7, 2) := by decide +kernel
theorem dL_law_3160 : decode cL_law 3160 = .ok (.aload_n 2, 1) := by decide +kernel
theorem dL_law_3161 : decode cL_law 3161 = .ok (.invokevirtual 168, 3) := by decide +kernel
theorem dL_law_3164 : decode cL_law 3164 = .ok (.iload 6, 2) := by decide +kernel
theorem dL_law_3166 : decode cL_law 3166 = .ok (.if_icmp .eq 5, 3) := by decide +kernel
theorem dL_law_3169 : decode cL_law 3169 = .ok (.iconst 0, 1) := by decide +kernel
theorem dL_law_3170 : decode cL_law 3170 = .ok (.ireturn, 1) := by decide +kernel
theorem dL_law_3171 : decode cL_law 3171 = .ok (.iload 6, 2) := by decide +kernel
theorem dL_law_3173 : decode cL_law 3173 = .ok (.ifCond .ne 15, 3) := by decide +kernel
theorem dL_law_3176 : decode cL_law 3176 = .ok (.aload_n 3, 1) := by decide +kernel
theorem dL_law_3177 : decode cL_law 3177 = .ok (.iconst 0, 1) := by decide +kernel
theorem dL_law_3178 : decode cL_law 3178 = .ok (.laload, 1) := by decide +kernel
theorem dL_law_3179 : decode cL_law 3179 = .ok (.iload 7, 2) := by decide +kernel
theorem dL_law_3181 : decode cL_law 3181 = .ok (.i2l, 1) := by decide +kernel
theorem dL_law_3182 : decode cL_law 3182 = .ok (.lcmp, 1) := by decide +kernel
theorem dL_law_3183 : decode cL_law 3183 = .ok (.ifCond .eq 5, 3) := by decide +kernel
theorem dL_law_3186 : decode cL_law 3186 = .ok (.iconst 0, 1) := by decide +kernel
theorem dL_law_3187 : decode cL_law 3187 = .ok (.ireturn, 1) := by decide +kernel
theorem dL_law_3188 : decode cL_law 3188 = .ok (.goto 173, 3) := by decide +kernel
theorem dL_law_3191 : decode cL_law 3191 = .ok (.aload_n 1, 1) := by decide +kernel
theorem dL_law_3192 : decode cL_law 3192 = .ok (.invokevirtual 341, 3) := by decide +kernel
theorem dL_law_3195 : decode cL_law 3195 = .ok (.aload_n 2, 1) := by decide +kernel
theorem dL_law_3196 : decode cL_law 3196 = .ok (.invokevirtual 344, 3) := by decide +kernel
theorem dL_law_3199 : decode cL_law 3199 = .ok (.if_icmp .eq 162, 3) := by decide +kernel
theorem dL_law_3202 : decode cL_law 3202 = .ok (.iconst 0, 1) := by decide +kernel
theorem dL_law_3203 : decode cL_law 3203 = .ok (.ireturn, 1) := by decide +kernel
theorem dL_law_3204 : decode cL_law 3204 = .ok (.aload_n 1, 1) := by decide +kernel
theorem dL_law_3205 : decode cL_law 3205 = .ok (.invokevirtual 345, 3) := by decide +kernel
theorem dL_law_3208 : decode cL_law 3208 = .ok (.aload_n 2, 1) := by decide +kernel
theorem dL_law_3209 : decode cL_law 3209 = .ok (.invokevirtual 348, 3) := by decide +kernel
theorem dL_law_3212 : decode cL_law 3212 = .ok (.if_icmp .eq 149, 3) := by decide +kernel
theorem dL_law_3215 : decode cL_law 3215 = .ok (.iconst 0, 1) := by decide +kernel
theorem dL_law_3216 : decode cL_law 3216 = .ok (.ireturn, 1) := by decide +kernel
theorem dL_law_3217 : decode cL_law 3217 = .ok (.aload_n 1, 1) := by decide +kernel
theorem dL_law_3218 : decode cL_law 3218 = .ok (.aload 4, 2) := by decide +kernel
theorem dL_law_3220 : decode cL_law 3220 = .ok (.invokestatic 349, 3) := by decide +kernel
theorem dL_law_3223 : decode cL_law 3223 = .ok (.istore 6, 2) := by decide +kernel
theorem dL_law_3225 : decode cL_law 3225 = .ok (.aload_n 2, 1) := by decide +kernel
theorem dL_law_3226 : decode cL_law 3226 = .ok (.invokevirtual 352, 3) := by decide +kernel
theorem dL_law_3229 : decode cL_law 3229 = .ok (.dstore 7, 2) := by decide +kernel
theorem dL_law_3231 : decode cL_law 3231 = .ok (.aload_n 2, 1) := by decide +kernel
theorem dL_law_3232 : decode cL_law 3232 = .ok (.invokevirtual 168, 3) := by decide +kernel
theorem dL_law_3235 : decode cL_law 3235 = .ok (.iload 6, 2) := by decide +kernel
theorem dL_law_3237 : decode cL_law 3237 = .ok (.if_icmp .eq 5, 3) := by decide +kernel
theorem dL_law_3240 : decode cL_law 3240 = .ok (.iconst 0, 1) := by decide +kernel
theorem dL_law_3241 : decode cL_law 3241 = .ok (.ireturn, 1) := by decide +kernel
theorem dL_law_3242 : decode cL_law 3242 = .ok (.iload 6, 2) := by decide +kernel
theorem dL_law_3244 : decode cL_law 3244 = .ok (.ifCond .ne 35, 3) := by decide +kernel
theorem dL_law_3247 : decode cL_law 3247 = .ok (.aload 4, 2) := by decide +kernel
theorem dL_law_3249 : decode cL_law 3249 = .ok (.iconst 0, 1) := by decide +kernel
theorem dL_law_3250 : decode cL_law 3250 = .ok (.daload, 1) := by decide +kernel
theorem dL_law_3251 : decode cL_law 3251 = .ok (.dload 7, 2) := by decide +kernel
theorem dL_law_3253 : decode cL_law 3253 = .ok (.dcmp .l, 1) := by decide +kernel
theorem dL_law_3254 : decode cL_law 3254 = .ok (.ifCond .eq 25, 3) := by decide +kernel
theorem dL_law_3257 : decode cL_law 3257 = .ok (.aload 4, 2) := by decide +kernel
theorem dL_law_3259 : decode cL_law 3259 = .ok (.iconst 0, 1) := by decide +kernel
theorem dL_law_3260 : decode cL_law 3260 = .ok (.daload, 1) := by decide +kernel
theorem dL_law_3261 : decode cL_law 3261 = .ok (.aload 4, 2) := by decide +kernel
theorem dL_law_3263 : decode cL_law 3263 = .ok (.iconst 0, 1) := by decide +kernel
theorem dL_law_3264 : decode cL_law 3264 = .ok (.daload, 1) := by decide +kernel
theorem dL_law_3265 : decode cL_law 3265 = .ok (.dcmp .l, 1) := by decide +kernel
theorem dL_law_3266 : decode cL_law 3266 = .ok (.ifCond .eq 11, 3) := by decide +kernel
theorem dL_law_3269 : decode cL_law 3269 = .ok (.dload 7, 2) := by decide +kernel
theorem dL_law_3271 : decode cL_law 3271 = .ok (.dload 7, 2) := by decide +kernel
theorem dL_law_3273 : decode cL_law 3273 = .ok (.dcmp .l, 1) := by decide +kernel
theorem dL_law_3274 : decode cL_law 3274 = .ok (.ifCond .ne 5, 3) := by decide +kernel
theorem dL_law_3277 : decode cL_law 3277 = .ok (.iconst 0, 1) := by decide +kernel
theorem dL_law_3278 : decode cL_law 3278 = .ok (.ireturn, 1) := by decide +kernel
theorem dL_law_3279 : decode cL_law 3279 = .ok (.goto 82, 3) := by decide +kernel
theorem dL_law_3282 : decode cL_law 3282 = .ok (.aload_n 1, 1) := by decide +kernel
theorem dL_law_3283 : decode cL_law 3283 = .ok (.aload 4, 2) := by decide +kernel
theorem dL_law_3285 : decode cL_law 3285 = .ok (.invokestatic 353, 3) := by decide +kernel
theorem dL_law_3288 : decode cL_law 3288 = .ok (.istore 6, 2) := by decide +kernel
theorem dL_law_3290 : decode cL_law 3290 = .ok (.aload_n 2, 1) := by decide +kernel
theorem dL_law_3291 : decode cL_law 3291 = .ok (.invokevirtual 355, 3) := by decide +kernel
theorem dL_law_3294 : decode cL_law 3294 = .ok (.fstore 7, 2) := by decide +kernel
theorem dL_law_3296 : decode cL_law 3296 = .ok (.aload_n 2, 1) := by decide +kernel
theorem dL_law_3297 : decode cL_law 3297 = .ok (.invokevirtual 168, 3) := by decide +kernel
theorem dL_law_3300 : decode cL_law 3300 = .ok (.iload 6, 2) := by decide +kernel
theorem dL_law_3302 : decode cL_law 3302 = .ok (.if_icmp .eq 5, 3) := by decide +kernel
theorem dL_law_3305 : decode cL_law 3305 = .ok (.iconst 0, 1) := by decide +kernel
theorem dL_law_3306 : decode cL_law 3306 = .ok (.ireturn, 1) := by decide +kernel
theorem dL_law_3307 : decode cL_law 3307 = .ok (.iload 6, 2) := by decide +kernel
theorem dL_law_3309 : decode cL_law 3309 = .ok (.ifCond .ne 36, 3) := by decide +kernel
theorem dL_law_3312 : decode cL_law 3312 = .ok (.aload 4, 2) := by decide +kernel
theorem dL_law_3314 : decode cL_law 3314 = .ok (.iconst 0, 1) := by decide +kernel
theorem dL_law_3315 : decode cL_law 3315 = .ok (.daload, 1) := by decide +kernel
theorem dL_law_3316 : decode cL_law 3316 = .ok (.fload 7, 2) := by decide +kernel
theorem dL_law_3318 : decode cL_law 3318 = .ok (.f2d, 1) := by decide +kernel
theorem dL_law_3319 : decode cL_law 3319 = .ok (.dcmp .l, 1) := by decide +kernel
theorem dL_law_3320 : decode cL_law 3320 = .ok (.ifCond .eq 25, 3) := by decide +kernel
theorem dL_law_3323 : decode cL_law 3323 = .ok (.aload 4, 2) := by decide +kernel
theorem dL_law_3325 : decode cL_law 3325 = .ok (.iconst 0, 1) := by decide +kernel
theorem dL_law_3326 : decode cL_law 3326 = .ok (.daload, 1) := by decide +kernel
theorem dL_law_3327 : decode cL_law 3327 = .ok (.aload 4, 2) := by decide +kernel
theorem dL_law_3329 : decode cL_law 3329 = .ok (.iconst 0, 1) := by decide +kernel
theorem dL_law_3330 : decode cL_law 3330 = .ok (.daload, 1) := by decide +kernel
theorem dL_law_3331 : decode cL_law 3331 = .ok (.dcmp .l, 1) := by decide +kernel
theorem dL_law_3332 : decode cL_law 3332 = .ok (.ifCond .eq 11, 3) := by decide +kernel
theorem dL_law_3335 : decode cL_law 3335 = .ok (.fload 7, 2) := by decide +kernel
theorem dL_law_3337 : decode cL_law 3337 = .ok (.fload 7, 2) := by decide +kernel
theorem dL_law_3339 : decode cL_law 3339 = .ok (.fcmp .l, 1) := by decide +kernel
theorem dL_law_3340 : decode cL_law 3340 = .ok (.ifCond .ne 5, 3) := by decide +kernel
theorem dL_law_3343 : decode cL_law 3343 = .ok (.iconst 0, 1) := by decide +kernel
theorem dL_law_3344 : decode cL_law 3344 = .ok (.ireturn, 1) := by decide +kernel
theorem dL_law_3345 : decode cL_law 3345 = .ok (.goto 16, 3) := by decide +kernel
theorem dL_law_3348 : decode cL_law 3348 = .ok (.aload_n 1, 1) := by decide +kernel
theorem dL_law_3349 : decode cL_law 3349 = .ok (.invokevirtual 356, 3) := by decide +kernel
theorem dL_law_3352 : decode cL_law 3352 = .ok (.aload_n 2, 1) := by decide +kernel
theorem dL_law_3353 : decode cL_law 3353 = .ok (.invokevirtual 359, 3) := by decide +kernel
theorem dL_law_3356 : decode cL_law 3356 = .ok (.if_icmp .eq 5, 3) := by decide +kernel
theorem dL_law_3359 : decode cL_law 3359 = .ok (.iconst 0, 1) := by decide +kernel
theorem dL_law_3360 : decode cL_law 3360 = .ok (.ireturn, 1) := by decide +kernel
theorem dL_law_3361 : decode cL_law 3361 = .ok (.iinc 5 6, 3) := by decide +kernel
theorem dL_law_3364 : decode cL_law 3364 = .ok (.goto (-3336), 3) := by decide +kernel
theorem dL_law_3367 : decode cL_law 3367 = .ok (.iconst 1, 1) := by decide +kernel
theorem dL_law_3368 : decode cL_law 3368 = .ok (.ireturn, 1) := by decide +kernel
