theorem dL_law__3001 : decode cL_law_ 3001 = .ok (.aload_n 1, 1) := by decide +kernel
theorem dL_law__3002 : decode cL_law_ 3002 = .ok (.aload_n 0, 1) := by decide +kernel
theorem dL_law__3003 : decode cL_law_ 3003 = .ok (.iload 4, 2) := by decide +kernel
theorem dL_law__3005 : decode cL_law_ 3005 = .ok (.iconst 1, 1) := by decide +kernel
theorem dL_law__3006 : decode cL_law_ 3006 = .ok (.iadd, 1) := by decide +kernel
theorem dL_law__3007 : decode cL_law_ 3007 = .ok (.iaload, 1) := by decide +kernel
theorem dL_law__3008 : decode cL_law_ 3008 = .ok (.aload_n 0, 1) := by decide +kernel
theorem dL_law__3009 : decode cL_law_ 3009 = .ok (.iload 4, 2) := by decide +kernel
theorem dL_law__3011 : decode cL_law_ 3011 = .ok (.iconst 2, 1) := by decide +kernel
theorem dL_law__3012 : decode cL_law_ 3012 = .ok (.iadd, 1) := by decide +kernel
theorem dL_law__3013 : decode cL_law_ 3013 = .ok (.iaload, 1) := by decide +kernel
theorem dL_law__3014 : decode cL_law_ 3014 = .ok (.aload_n 0, 1) := by decide +kernel
theorem dL_law__3015 : decode cL_law_ 3015 = .ok (.iload 4, 2) := by decide +kernel
theorem dL_law__3017 : decode cL_law_ 3017 = .ok (.iconst 3, 1) := by decide +kernel
theorem dL_law__3018 : decode cL_law_ 3018 = .ok (.iadd, 1) := by decide +kernel
theorem dL_law__3019 : decode cL_law_ 3019 = .ok (.iaload, 1) := by decide +kernel
theorem dL_law__3020 : decode cL_law_ 3020 = .ok (.aload_n 3, 1) := by decide +kernel
theorem zw_1069 : Cond.methodLink RL 301 yL_stepAt ∈ zT := zT_of 1441 (by decide +kernel) (by decide +kernel)
theorem zw_1070 : Cond.static yL_stepAt ∈ zT := zT_of 1442 (by decide +kernel) (by decide +kernel)
theorem zw_1071 : Cond.codeWith yL_stepAt cL_stepAt 6 (some .int) [(0, 12, 15, 21), (0, 12, 19, 13)] ∈ zT := zT_of 1443 (by decide +kernel) (by decide +kernel)
theorem dL_law__3021 : decode cL_law_ 3021 = .ok (.invokestatic 301, 3) := by decide +kernel
theorem dL_law__3024 : decode cL_law_ 3024 = .ok (.istore 5, 2) := by decide +kernel
theorem dL_law__3026 : decode cL_law_ 3026 = .ok (.aload_n 2, 1) := by decide +kernel
theorem dL_law__3027 : decode cL_law_ 3027 = .ok (.aload_n 0, 1) := by decide +kernel
theorem dL_law__3028 : decode cL_law_ 3028 = .ok (.iload 4, 2) := by decide +kernel
theorem dL_law__3030 : decode cL_law_ 3030 = .ok (.iconst 1, 1) := by decide +kernel
theorem dL_law__3031 : decode cL_law_ 3031 = .ok (.iadd, 1) := by decide +kernel
theorem dL_law__3032 : decode cL_law_ 3032 = .ok (.iaload, 1) := by decide +kernel
theorem dL_law__3033 : decode cL_law_ 3033 = .ok (.aload_n 0, 1) := by decide +kernel
theorem dL_law__3034 : decode cL_law_ 3034 = .ok (.iload 4, 2) := by decide +kernel
theorem dL_law__3036 : decode cL_law_ 3036 = .ok (.iconst 2, 1) := by decide +kernel
theorem dL_law__3037 : decode cL_law_ 3037 = .ok (.iadd, 1) := by decide +kernel
theorem dL_law__3038 : decode cL_law_ 3038 = .ok (.iaload, 1) := by decide +kernel
theorem dL_law__3039 : decode cL_law_ 3039 = .ok (.aload_n 0, 1) := by decide +kernel
theorem dL_law__3040 : decode cL_law_ 3040 = .ok (.iload 4, 2) := by decide +kernel
theorem dL_law__3042 : decode cL_law_ 3042 = .ok (.iconst 3, 1) := by decide +kernel
theorem dL_law__3043 : decode cL_law_ 3043 = .ok (.iadd, 1) := by decide +kernel
theorem dL_law__3044 : decode cL_law_ 3044 = .ok (.iaload, 1) := by decide +kernel
theorem zw_1072 : Cond.methodLink RL 303 yX12_stepAt ∈ zT := zT_of 2024 (by decide +kernel) (by decide +kernel)
theorem zw_1073 : Cond.instanceMethod yX12_stepAt ∈ zT := zT_of 2025 (by decide +kernel) (by decide +kernel)
theorem zw_1074 : Cond.selects RX12 yX12_stepAt yX12_stepAt ∈ zT := zT_of 2026 (by decide +kernel) (by decide +kernel)
theorem zw_1075 : Cond.code yX12_stepAt cX12_stepAt 4 (some .int) ∈ zT := zT_of 2027 (by decide +kernel) (by decide +kernel)
theorem dL_law__3045 : decode cL_law_ 3045 = .ok (.invokevirtual 303, 3) := by decide +kernel
theorem dL_law__3048 : decode cL_law_ 3048 = .ok (.istore 6, 2) := by decide +kernel
theorem dL_law__3050 : decode cL_law_ 3050 = .ok (.aload_n 2, 1) := by decide +kernel
theorem dL_law__3051 : decode cL_law_ 3051 = .ok (.invokevirtual 161, 3) := by decide +kernel
theorem dL_law__3054 : decode cL_law_ 3054 = .ok (.iload 5, 2) := by decide +kernel
theorem dL_law__3056 : decode cL_law_ 3056 = .ok (.if_icmp .eq 5, 3) := by decide +kernel
theorem dL_law__3061 : decode cL_law_ 3061 = .ok (.iload 5, 2) := by decide +kernel
theorem dL_law__3063 : decode cL_law_ 3063 = .ok (.ifCond .ne 15, 3) := by decide +kernel
theorem dL_law__3078 : decode cL_law_ 3078 = .ok (.goto 355, 3) := by decide +kernel
theorem dL_law__3066 : decode cL_law_ 3066 = .ok (.aload_n 3, 1) := by decide +kernel
theorem dL_law__3067 : decode cL_law_ 3067 = .ok (.iconst 0, 1) := by decide +kernel
theorem dL_law__3068 : decode cL_law_ 3068 = .ok (.laload, 1) := by decide +kernel
theorem dL_law__3069 : decode cL_law_ 3069 = .ok (.iload 6, 2) := by decide +kernel
theorem dL_law__3071 : decode cL_law_ 3071 = .ok (.i2l, 1) := by decide +kernel
theorem dL_law__3072 : decode cL_law_ 3072 = .ok (.lcmp, 1) := by decide +kernel
theorem dL_law__3073 : decode cL_law_ 3073 = .ok (.ifCond .eq 5, 3) := by decide +kernel
theorem dL_law__3081 : decode cL_law_ 3081 = .ok (.aload_n 1, 1) := by decide +kernel
theorem dL_law__3082 : decode cL_law_ 3082 = .ok (.aload_n 0, 1) := by decide +kernel
theorem dL_law__3083 : decode cL_law_ 3083 = .ok (.iload 4, 2) := by decide +kernel
theorem dL_law__3085 : decode cL_law_ 3085 = .ok (.iconst 1, 1) := by decide +kernel
theorem dL_law__3086 : decode cL_law_ 3086 = .ok (.iadd, 1) := by decide +kernel
theorem dL_law__3087 : decode cL_law_ 3087 = .ok (.iaload, 1) := by decide +kernel
theorem dL_law__3088 : decode cL_law_ 3088 = .ok (.aload_n 3, 1) := by decide +kernel
theorem zw_1076 : Cond.methodLink RL 304 yL_needs ∈ zT := zT_of 1453 (by decide +kernel) (by decide +kernel)
theorem zw_1077 : Cond.static yL_needs ∈ zT := zT_of 1454 (by decide +kernel) (by decide +kernel)
theorem zw_1078 : Cond.codeWith yL_needs cL_needs 4 (some .int) [(0, 9, 12, 21)] ∈ zT := zT_of 1455 (by decide +kernel) (by decide +kernel)
theorem dL_law__3089 : decode cL_law_ 3089 = .ok (.invokestatic 304, 3) := by decide +kernel
theorem dL_law__3092 : decode cL_law_ 3092 = .ok (.istore 5, 2) := by decide +kernel
theorem dL_law__3094 : decode cL_law_ 3094 = .ok (.aload_n 2, 1) := by decide +kernel
theorem dL_law__3095 : decode cL_law_ 3095 = .ok (.aload_n 0, 1) := by decide +kernel
theorem dL_law__3096 : decode cL_law_ 3096 = .ok (.iload 4, 2) := by decide +kernel
theorem dL_law__3098 : decode cL_law_ 3098 = .ok (.iconst 1, 1) := by decide +kernel
theorem dL_law__3099 : decode cL_law_ 3099 = .ok (.iadd, 1) := by decide +kernel
theorem dL_law__3100 : decode cL_law_ 3100 = .ok (.iaload, 1) := by decide +kernel
theorem zw_1079 : Cond.methodLink RL 306 yX12_needs ∈ zT := zT_of 2032 (by decide +kernel) (by decide +kernel)
theorem zw_1080 : Cond.instanceMethod yX12_needs ∈ zT := zT_of 2033 (by decide +kernel) (by decide +kernel)
theorem zw_1081 : Cond.selects RX12 yX12_needs yX12_needs ∈ zT := zT_of 2034 (by decide +kernel) (by decide +kernel)
theorem zw_1082 : Cond.code yX12_needs cX12_needs 6 (some .int) ∈ zT := zT_of 2035 (by decide +kernel) (by decide +kernel)
theorem dL_law__3101 : decode cL_law_ 3101 = .ok (.invokevirtual 306, 3) := by decide +kernel
theorem dL_law__3104 : decode cL_law_ 3104 = .ok (.istore 6, 2) := by decide +kernel
theorem dL_law__3106 : decode cL_law_ 3106 = .ok (.aload_n 2, 1) := by decide +kernel
theorem dL_law__3107 : decode cL_law_ 3107 = .ok (.invokevirtual 161, 3) := by decide +kernel
theorem dL_law__3110 : decode cL_law_ 3110 = .ok (.iload 5, 2) := by decide +kernel
theorem dL_law__3112 : decode cL_law_ 3112 = .ok (.if_icmp .eq 5, 3) := by decide +kernel
theorem dL_law__3117 : decode cL_law_ 3117 = .ok (.iload 5, 2) := by decide +kernel
theorem dL_law__3119 : decode cL_law_ 3119 = .ok (.ifCond .ne 15, 3) := by decide +kernel
theorem dL_law__3134 : decode cL_law_ 3134 = .ok (.goto 299, 3) := by decide +kernel
theorem dL_law__3122 : decode cL_law_ 3122 = .ok (.aload_n 3, 1) := by decide +kernel
theorem dL_law__3123 : decode cL_law_ 3123 = .ok (.iconst 0, 1) := by decide +kernel
theorem dL_law__3124 : decode cL_law_ 3124 = .ok (.laload, 1) := by decide +kernel
theorem dL_law__3125 : decode cL_law_ 3125 = .ok (.iload 6, 2) := by decide +kernel
theorem dL_law__3127 : decode cL_law_ 3127 = .ok (.i2l, 1) := by decide +kernel
theorem dL_law__3128 : decode cL_law_ 3128 = .ok (.lcmp, 1) := by decide +kernel
theorem dL_law__3129 : decode cL_law_ 3129 = .ok (.ifCond .eq 5, 3) := by decide +kernel
theorem dL_law__3137 : decode cL_law_ 3137 = .ok (.aload_n 1, 1) := by decide +kernel
theorem zw_1083 : Cond.methodLink RL 307 yX11_orders ∈ zT := zT_of 463 (by decide +kernel) (by decide +kernel)
theorem zw_1084 : Cond.instanceMethod yX11_orders ∈ zT := zT_of 464 (by decide +kernel) (by decide +kernel)
theorem zw_1085 : Cond.selects RX11 yX11_orders yX11_orders ∈ zT := zT_of 465 (by decide +kernel) (by decide +kernel)
theorem zw_1086 : Cond.code yX11_orders cX11_orders 1 (some .int) ∈ zT := zT_of 466 (by decide +kernel) (by decide +kernel)
theorem dL_law__3138 : decode cL_law_ 3138 = .ok (.invokevirtual 307, 3) := by decide +kernel
theorem dL_law__3141 : decode cL_law_ 3141 = .ok (.aload_n 2, 1) := by decide +kernel
theorem zw_1087 : Cond.methodLink RL 310 yX12_orders ∈ zT := zT_of 2036 (by decide +kernel) (by decide +kernel)
theorem zw_1088 : Cond.instanceMethod yX12_orders ∈ zT := zT_of 2037 (by decide +kernel) (by decide +kernel)
theorem zw_1089 : Cond.selects RX12 yX12_orders yX12_orders ∈ zT := zT_of 2038 (by decide +kernel) (by decide +kernel)
theorem zw_1090 : Cond.code yX12_orders cX12_orders 3 (some .int) ∈ zT := zT_of 2039 (by decide +kernel) (by decide +kernel)
theorem dL_law__3142 : decode cL_law_ 3142 = .ok (.invokevirtual 310, 3) := by decide +kernel
theorem dL_law__3145 : decode cL_law_ 3145 = .ok (.if_icmp .eq 288, 3) := by decide +kernel
theorem dL_law__3150 : decode cL_law_ 3150 = .ok (.aload_n 1, 1) := by decide +kernel
theorem dL_law__3151 : decode cL_law_ 3151 = .ok (.aload_n 0, 1) := by decide +kernel
theorem dL_law__3152 : decode cL_law_ 3152 = .ok (.iload 4, 2) := by decide +kernel
theorem dL_law__3154 : decode cL_law_ 3154 = .ok (.iconst 1, 1) := by decide +kernel
theorem dL_law__3155 : decode cL_law_ 3155 = .ok (.iadd, 1) := by decide +kernel
theorem dL_law__3156 : decode cL_law_ 3156 = .ok (.iaload, 1) := by decide +kernel
theorem dL_law__3157 : decode cL_law_ 3157 = .ok (.aload_n 0, 1) := by decide +kernel
theorem dL_law__3158 : decode cL_law_ 3158 = .ok (.iload 4, 2) := by decide +kernel
theorem dL_law__3160 : decode cL_law_ 3160 = .ok (.iconst 2, 1) := by decide +kernel
theorem dL_law__3161 : decode cL_law_ 3161 = .ok (.iadd, 1) := by decide +kernel
theorem dL_law__3162 : decode cL_law_ 3162 = .ok (.iaload, 1) := by decide +kernel
theorem dL_law__3163 : decode cL_law_ 3163 = .ok (.aload_n 0, 1) := by decide +kernel
theorem dL_law__3164 : decode cL_law_ 3164 = .ok (.iload 4, 2) := by decide +kernel
theorem dL_law__3166 : decode cL_law_ 3166 = .ok (.iconst 3, 1) := by decide +kernel
theorem dL_law__3167 : decode cL_law_ 3167 = .ok (.iadd, 1) := by decide +kernel
theorem dL_law__3168 : decode cL_law_ 3168 = .ok (.iaload, 1) := by decide +kernel
theorem dL_law__3169 : decode cL_law_ 3169 = .ok (.aload_n 0, 1) := by decide +kernel
theorem dL_law__3170 : decode cL_law_ 3170 = .ok (.iload 4, 2) := by decide +kernel
theorem dL_law__3172 : decode cL_law_ 3172 = .ok (.iconst 4, 1) := by decide +kernel
theorem dL_law__3173 : decode cL_law_ 3173 = .ok (.iadd, 1) := by decide +kernel
theorem dL_law__3174 : decode cL_law_ 3174 = .ok (.iaload, 1) := by decide +kernel
theorem dL_law__3175 : decode cL_law_ 3175 = .ok (.aload_n 3, 1) := by decide +kernel
theorem zw_1091 : Cond.methodLink RL 311 yL_fails ∈ zT := zT_of 1464 (by decide +kernel) (by decide +kernel)
theorem zw_1092 : Cond.static yL_fails ∈ zT := zT_of 1465 (by decide +kernel) (by decide +kernel)
theorem zw_1093 : Cond.codeWith yL_fails cL_fails 7 (some .int) [(0, 14, 17, 21), (0, 14, 21, 15), (0, 14, 25, 13)] ∈ zT := zT_of 1466 (by decide +kernel) (by decide +kernel)
theorem dL_law__3176 : decode cL_law_ 3176 = .ok (.invokestatic 311, 3) := by decide +kernel
theorem dL_law__3179 : decode cL_law_ 3179 = .ok (.istore 5, 2) := by decide +kernel
theorem dL_law__3181 : decode cL_law_ 3181 = .ok (.aload_n 2, 1) := by decide +kernel
theorem dL_law__3182 : decode cL_law_ 3182 = .ok (.aload_n 0, 1) := by decide +kernel
theorem dL_law__3183 : decode cL_law_ 3183 = .ok (.iload 4, 2) := by decide +kernel
theorem dL_law__3185 : decode cL_law_ 3185 = .ok (.iconst 1, 1) := by decide +kernel
theorem dL_law__3186 : decode cL_law_ 3186 = .ok (.iadd, 1) := by decide +kernel
theorem dL_law__3187 : decode cL_law_ 3187 = .ok (.iaload, 1) := by decide +kernel
theorem dL_law__3188 : decode cL_law_ 3188 = .ok (.aload_n 0, 1) := by decide +kernel
theorem dL_law__3189 : decode cL_law_ 3189 = .ok (.iload 4, 2) := by decide +kernel
theorem dL_law__3191 : decode cL_law_ 3191 = .ok (.iconst 2, 1) := by decide +kernel
theorem dL_law__3192 : decode cL_law_ 3192 = .ok (.iadd, 1) := by decide +kernel
theorem dL_law__3193 : decode cL_law_ 3193 = .ok (.iaload, 1) := by decide +kernel
theorem dL_law__3194 : decode cL_law_ 3194 = .ok (.aload_n 0, 1) := by decide +kernel
theorem dL_law__3195 : decode cL_law_ 3195 = .ok (.iload 4, 2) := by decide +kernel
theorem dL_law__3197 : decode cL_law_ 3197 = .ok (.iconst 3, 1) := by decide +kernel
theorem dL_law__3198 : decode cL_law_ 3198 = .ok (.iadd, 1) := by decide +kernel
theorem dL_law__3199 : decode cL_law_ 3199 = .ok (.iaload, 1) := by decide +kernel
theorem dL_law__3200 : decode cL_law_ 3200 = .ok (.aload_n 0, 1) := by decide +kernel
theorem dL_law__3201 : decode cL_law_ 3201 = .ok (.iload 4, 2) := by decide +kernel
theorem dL_law__3203 : decode cL_law_ 3203 = .ok (.iconst 4, 1) := by decide +kernel
theorem dL_law__3204 : decode cL_law_ 3204 = .ok (.iadd, 1) := by decide +kernel
theorem dL_law__3205 : decode cL_law_ 3205 = .ok (.iaload, 1) := by decide +kernel
theorem zw_1094 : Cond.methodLink RL 313 yX12_fails ∈ zT := zT_of 2070 (by decide +kernel) (by decide +kernel)
theorem zw_1095 : Cond.instanceMethod yX12_fails ∈ zT := zT_of 2071 (by decide +kernel) (by decide +kernel)
theorem zw_1096 : Cond.selects RX12 yX12_fails yX12_fails ∈ zT := zT_of 2072 (by decide +kernel) (by decide +kernel)
theorem zw_1097 : Cond.code yX12_fails cX12_fails 6 (some .int) ∈ zT := zT_of 2073 (by decide +kernel) (by decide +kernel)
theorem dL_law__3206 : decode cL_law_ 3206 = .ok (.invokevirtual 313, 3) := by decide +kernel
theorem dL_law__3209 : decode cL_law_ 3209 = .ok (.istore 6, 2) := by decide +kernel
theorem dL_law__3211 : decode cL_law_ 3211 = .ok (.aload_n 2, 1) := by decide +kernel
theorem dL_law__3212 : decode cL_law_ 3212 = .ok (.invokevirtual 161, 3) := by decide +kernel
theorem dL_law__3215 : decode cL_law_ 3215 = .ok (.iload 5, 2) := by decide +kernel
theorem dL_law__3217 : decode cL_law_ 3217 = .ok (.if_icmp .eq 5, 3) := by decide +kernel
theorem dL_law__3222 : decode cL_law_ 3222 = .ok (.iload 5, 2) := by decide +kernel
theorem dL_law__3224 : decode cL_law_ 3224 = .ok (.ifCond .ne 15, 3) := by decide +kernel
theorem dL_law__3239 : decode cL_law_ 3239 = .ok (.goto 194, 3) := by decide +kernel
theorem dL_law__3227 : decode cL_law_ 3227 = .ok (.aload_n 3, 1) := by decide +kernel
theorem dL_law__3228 : decode cL_law_ 3228 = .ok (.iconst 0, 1) := by decide +kernel
theorem dL_law__3229 : decode cL_law_ 3229 = .ok (.laload, 1) := by decide +kernel
theorem dL_law__3230 : decode cL_law_ 3230 = .ok (.iload 6, 2) := by decide +kernel
theorem dL_law__3232 : decode cL_law_ 3232 = .ok (.i2l, 1) := by decide +kernel
theorem dL_law__3233 : decode cL_law_ 3233 = .ok (.lcmp, 1) := by decide +kernel
theorem dL_law__3234 : decode cL_law_ 3234 = .ok (.ifCond .eq 5, 3) := by decide +kernel
theorem dL_law__3242 : decode cL_law_ 3242 = .ok (.aload_n 1, 1) := by decide +kernel
theorem dL_law__3243 : decode cL_law_ 3243 = .ok (.aload_n 0, 1) := by decide +kernel
theorem dL_law__3244 : decode cL_law_ 3244 = .ok (.iload 4, 2) := by decide +kernel
theorem dL_law__3246 : decode cL_law_ 3246 = .ok (.iconst 1, 1) := by decide +kernel
theorem dL_law__3247 : decode cL_law_ 3247 = .ok (.iadd, 1) := by decide +kernel
theorem dL_law__3248 : decode cL_law_ 3248 = .ok (.iaload, 1) := by decide +kernel
theorem dL_law__3249 : decode cL_law_ 3249 = .ok (.aload_n 0, 1) := by decide +kernel
theorem dL_law__3250 : decode cL_law_ 3250 = .ok (.iload 4, 2) := by decide +kernel
theorem dL_law__3252 : decode cL_law_ 3252 = .ok (.iconst 2, 1) := by decide +kernel
theorem dL_law__3253 : decode cL_law_ 3253 = .ok (.iadd, 1) := by decide +kernel
theorem dL_law__3254 : decode cL_law_ 3254 = .ok (.iaload, 1) := by decide +kernel
theorem dL_law__3255 : decode cL_law_ 3255 = .ok (.aload_n 0, 1) := by decide +kernel
theorem dL_law__3256 : decode cL_law_ 3256 = .ok (.iload 4, 2) := by decide +kernel
theorem dL_law__3258 : decode cL_law_ 3258 = .ok (.iconst 3, 1) := by decide +kernel
theorem dL_law__3259 : decode cL_law_ 3259 = .ok (.iadd, 1) := by decide +kernel
theorem dL_law__3260 : decode cL_law_ 3260 = .ok (.iaload, 1) := by decide +kernel
theorem dL_law__3261 : decode cL_law_ 3261 = .ok (.aload_n 3, 1) := by decide +kernel
theorem zw_1098 : Cond.methodLink RL 314 yL_value ∈ zT := zT_of 1472 (by decide +kernel) (by decide +kernel)
theorem zw_1099 : Cond.static yL_value ∈ zT := zT_of 1473 (by decide +kernel) (by decide +kernel)
theorem zw_1100 : Cond.codeWith yL_value cL_value 6 (some .int) [(0, 12, 15, 21), (0, 12, 19, 15), (0, 12, 23, 13)] ∈ zT := zT_of 1474 (by decide +kernel) (by decide +kernel)
theorem dL_law__3262 : decode cL_law_ 3262 = .ok (.invokestatic 314, 3) := by decide +kernel
theorem dL_law__3265 : decode cL_law_ 3265 = .ok (.istore 5, 2) := by decide +kernel
theorem dL_law__3267 : decode cL_law_ 3267 = .ok (.aload_n 2, 1) := by decide +kernel
theorem dL_law__3268 : decode cL_law_ 3268 = .ok (.aload_n 0, 1) := by decide +kernel
theorem dL_law__3269 : decode cL_law_ 3269 = .ok (.iload 4, 2) := by decide +kernel
theorem dL_law__3271 : decode cL_law_ 3271 = .ok (.iconst 1, 1) := by decide +kernel
theorem dL_law__3272 : decode cL_law_ 3272 = .ok (.iadd, 1) := by decide +kernel
theorem dL_law__3273 : decode cL_law_ 3273 = .ok (.iaload, 1) := by decide +kernel
theorem dL_law__3274 : decode cL_law_ 3274 = .ok (.aload_n 0, 1) := by decide +kernel
theorem dL_law__3275 : decode cL_law_ 3275 = .ok (.iload 4, 2) := by decide +kernel
theorem dL_law__3277 : decode cL_law_ 3277 = .ok (.iconst 2, 1) := by decide +kernel
theorem dL_law__3278 : decode cL_law_ 3278 = .ok (.iadd, 1) := by decide +kernel
theorem dL_law__3279 : decode cL_law_ 3279 = .ok (.iaload, 1) := by decide +kernel
theorem dL_law__3280 : decode cL_law_ 3280 = .ok (.aload_n 0, 1) := by decide +kernel
theorem dL_law__3281 : decode cL_law_ 3281 = .ok (.iload 4, 2) := by decide +kernel
theorem dL_law__3283 : decode cL_law_ 3283 = .ok (.iconst 3, 1) := by decide +kernel
theorem dL_law__3284 : decode cL_law_ 3284 = .ok (.iadd, 1) := by decide +kernel
theorem dL_law__3285 : decode cL_law_ 3285 = .ok (.iaload, 1) := by decide +kernel
theorem zw_1101 : Cond.methodLink RL 316 yX12_value ∈ zT := zT_of 2074 (by decide +kernel) (by decide +kernel)
theorem zw_1102 : Cond.instanceMethod yX12_value ∈ zT := zT_of 2075 (by decide +kernel) (by decide +kernel)
theorem zw_1103 : Cond.selects RX12 yX12_value yX12_value ∈ zT := zT_of 2076 (by decide +kernel) (by decide +kernel)
theorem zw_1104 : Cond.code yX12_value cX12_value 4 (some .int) ∈ zT := zT_of 2077 (by decide +kernel) (by decide +kernel)
theorem dL_law__3286 : decode cL_law_ 3286 = .ok (.invokevirtual 316, 3) := by decide +kernel
theorem dL_law__3289 : decode cL_law_ 3289 = .ok (.istore 6, 2) := by decide +kernel
theorem dL_law__3291 : decode cL_law_ 3291 = .ok (.aload_n 2, 1) := by decide +kernel
theorem dL_law__3292 : decode cL_law_ 3292 = .ok (.invokevirtual 161, 3) := by decide +kernel
theorem dL_law__3295 : decode cL_law_ 3295 = .ok (.iload 5, 2) := by decide +kernel
theorem dL_law__3297 : decode cL_law_ 3297 = .ok (.if_icmp .eq 5, 3) := by decide +kernel
theorem dL_law__3302 : decode cL_law_ 3302 = .ok (.iload 5, 2) := by decide +kernel
theorem dL_law__3304 : decode cL_law_ 3304 = .ok (.ifCond .ne 15, 3) := by decide +kernel
theorem dL_law__3319 : decode cL_law_ 3319 = .ok (.goto 114, 3) := by decide +kernel
theorem dL_law__3307 : decode cL_law_ 3307 = .ok (.aload_n 3, 1) := by decide +kernel
theorem dL_law__3308 : decode cL_law_ 3308 = .ok (.iconst 0, 1) := by decide +kernel
theorem dL_law__3309 : decode cL_law_ 3309 = .ok (.laload, 1) := by decide +kernel
theorem dL_law__3310 : decode cL_law_ 3310 = .ok (.iload 6, 2) := by decide +kernel
theorem dL_law__3312 : decode cL_law_ 3312 = .ok (.i2l, 1) := by decide +kernel
theorem dL_law__3313 : decode cL_law_ 3313 = .ok (.lcmp, 1) := by decide +kernel
theorem dL_law__3314 : decode cL_law_ 3314 = .ok (.ifCond .eq 5, 3) := by decide +kernel
theorem dL_law__3406 : decode cL_law_ 3406 = .ok (.aload_n 1, 1) := by decide +kernel
theorem zw_1105 : Cond.methodLink RL 327 yX11_checksum ∈ zT := zT_of 569 (by decide +kernel) (by decide +kernel)
theorem zw_1106 : Cond.instanceMethod yX11_checksum ∈ zT := zT_of 570 (by decide +kernel) (by decide +kernel)
theorem zw_1107 : Cond.selects RX11 yX11_checksum yX11_checksum ∈ zT := zT_of 571 (by decide +kernel) (by decide +kernel)
theorem zw_1108 : Cond.code yX11_checksum cX11_checksum 5 (some .long) ∈ zT := zT_of 572 (by decide +kernel) (by decide +kernel)
theorem dL_law__3407 : decode cL_law_ 3407 = .ok (.invokevirtual 327, 3) := by decide +kernel
theorem dL_law__3410 : decode cL_law_ 3410 = .ok (.aload_n 2, 1) := by decide +kernel
theorem zw_1109 : Cond.methodLink RL 331 yX12_checksum ∈ zT := zT_of 2086 (by decide +kernel) (by decide +kernel)
theorem zw_1110 : Cond.instanceMethod yX12_checksum ∈ zT := zT_of 2087 (by decide +kernel) (by decide +kernel)
theorem zw_1111 : Cond.selects RX12 yX12_checksum yX12_checksum ∈ zT := zT_of 2088 (by decide +kernel) (by decide +kernel)
theorem zw_1112 : Cond.code yX12_checksum cX12_checksum 5 (some .long) ∈ zT := zT_of 2089 (by decide +kernel) (by decide +kernel)
theorem dL_law__3411 : decode cL_law_ 3411 = .ok (.invokevirtual 331, 3) := by decide +kernel
theorem dL_law__3414 : decode cL_law_ 3414 = .ok (.lcmp, 1) := by decide +kernel
theorem dL_law__3415 : decode cL_law_ 3415 = .ok (.ifCond .eq 18, 3) := by decide +kernel
theorem dL_law__3420 : decode cL_law_ 3420 = .ok (.aload_n 1, 1) := by decide +kernel
theorem zw_1113 : Cond.methodLink RL 332 yX11_errors ∈ zT := zT_of 577 (by decide +kernel) (by decide +kernel)
theorem zw_1114 : Cond.instanceMethod yX11_errors ∈ zT := zT_of 578 (by decide +kernel) (by decide +kernel)
theorem zw_1115 : Cond.selects RX11 yX11_errors yX11_errors ∈ zT := zT_of 579 (by decide +kernel) (by decide +kernel)
theorem zw_1116 : Cond.code yX11_errors cX11_errors 5 (some .int) ∈ zT := zT_of 580 (by decide +kernel) (by decide +kernel)
theorem dL_law__3421 : decode cL_law_ 3421 = .ok (.invokevirtual 332, 3) := by decide +kernel
theorem dL_law__3424 : decode cL_law_ 3424 = .ok (.aload_n 2, 1) := by decide +kernel
theorem zw_1117 : Cond.methodLink RL 335 yX12_errors ∈ zT := zT_of 2094 (by decide +kernel) (by decide +kernel)
theorem zw_1118 : Cond.instanceMethod yX12_errors ∈ zT := zT_of 2095 (by decide +kernel) (by decide +kernel)
theorem zw_1119 : Cond.selects RX12 yX12_errors yX12_errors ∈ zT := zT_of 2096 (by decide +kernel) (by decide +kernel)
theorem zw_1120 : Cond.code yX12_errors cX12_errors 9 (some .int) ∈ zT := zT_of 2097 (by decide +kernel) (by decide +kernel)
theorem dL_law__3425 : decode cL_law_ 3425 = .ok (.invokevirtual 335, 3) := by decide +kernel
theorem dL_law__3428 : decode cL_law_ 3428 = .ok (.if_icmp .eq 5, 3) := by decide +kernel
set_option maxHeartbeats 4000000 in
set_option maxRecDepth 100000 in
theorem zcase_stepAt {p : Program} {l : Launch} {e : Env} {s : State} {m : MethodId} {below : List Frame} {meth : Method} {c : Code} {b L : Nat} {xs : Nat → Int32} {A : Nat → Prop} (D : va_G) (h cs : Nat → Nat) (fn : Nat → Option Nat) (hn : ∀ k : Nat, k < 4 → fn k = some (h 8)) (o : Nat) (cL : ClassId) (a : Nat → Nat) (cI : ClassId) (hx : p.tables.exec = Jvm.exec) (hb : c.code = code) (hml : c.maxLocals = 9) (hr : meth.sig.returnType = ret) (hown : s.vm.findClass RL = some m.cls) (ht : ∀ w ∈ zT, w.before #[Value.ref b] s = true) (hlocks : meth.locks = false) (hX : va_X b L xs s s.heap) (hbl : b < s.heap.size) (hL : L = 6) (hAe : ∀ q : Nat, A q ↔ s.heap.size ≤ q) (hl0 : l.stackTraces = false) (hEx : zEx A s) (hNc : zNc s) {H : Heap} {locs : List Loc} {ls : Array Slot} (hK : va_K D vwCl [((cs 0), .object RX0), (cL, .long), (cI, .int)] s) (hP : va_P D vwCl [((h 0), .inr (11, [.ref (h 1), .ref (h 9), .int 0, .int 0, .ref (h 20), .ref (h 37), .int 0, .ref (h 38), .ref (h 42), .ref (h 43), .ref (h 44), .ref (h 45), .ref (h 46), .ref (h 47), .ref (h 48)])), ((h 1), .inr (8, [.ref (h 2), .int 0, .ref (h 3), .ref (h 4), .int 0, .ref (h 5), .int 0, .ref (h 6), .int 0, .ref (h 7), .int 0])), ((h 7), .inl ((cs 0), 4, .inr (.inr (.inr (.inr fn))))), ((h 8), .inr (0, [.ref (h 102), .ref (h 103), .int 0])), (o, .inl (cL, 1, .inr (.inl (fun _ => 0)))), ((a 0), .inr (12, zMo a zI0)), ((a 1), .inl (cI, 6792, .inl zI0))] H) (hD : va_D A [((h 0), .inr (11, [.ref (h 1), .ref (h 9), .int 0, .int 0, .ref (h 20), .ref (h 37), .int 0, .ref (h 38), .ref (h 42), .ref (h 43), .ref (h 44), .ref (h 45), .ref (h 46), .ref (h 47), .ref (h 48)])), ((h 1), .inr (8, [.ref (h 2), .int 0, .ref (h 3), .ref (h 4), .int 0, .ref (h 5), .int 0, .ref (h 6), .int 0, .ref (h 7), .int 0])), ((h 7), .inl ((cs 0), 4, .inr (.inr (.inr (.inr fn))))), ((h 8), .inr (0, [.ref (h 102), .ref (h 103), .int 0])), (o, .inl (cL, 1, .inr (.inl (fun _ => 0)))), ((a 0), .inr (12, zMo a zI0)), ((a 1), .inl (cI, 6792, .inl zI0))]) (hS : va_S A s.heap H locs) (hl : lv_has ls 9 [(0, .ref b), (1, .ref (h 0)), (2, .ref (a 0)), (3, .ref o), (4, .int 0)]) : W p l e room_1 s m #[Value.ref b] below meth c H locs 1192 188302 (lw_Z below #[Value.ref b] s) (F0 m 3001 ls []) := by
  have hbA : ¬ A b := fun h => Nat.not_le.mpr hbl ((hAe b).mp h)
  have hA : ∀ q : Nat, s.heap.size ≤ q → A q := fun q h => (hAe q).mpr h
  refine lv_aload_n hx hb dL_law__3001 rfl (lv_at hl 1 rfl) ?_
  refine lv_aload_n hx hb dL_law__3002 rfl (lv_at hl 0 rfl) ?_
  refine lv_iload hx hb dL_law__3003 (lv_at hl 4 rfl) ?_
  refine lv_iconst (v := 1) hx hb dL_law__3005 (by decide) ?_
  refine lv_iadd hx hb dL_law__3006 ?_
  refine lv_topi (fun x_1 e_1 => ?_)
  obtain rfl : x_1 = 1 := e_1.trans (by decide)
  refine va_sld hx hb hX hbl hbA hS (by rw [hL]; exact vp_in_iff.mpr (by decide)) dL_law__3007 ?_
  refine W.eq (g2 := F0 m 3008 ls (.int (xs 1) :: .ref (h 0) :: [])) rfl ?_
  refine lv_aload_n hx hb dL_law__3008 rfl (lv_at hl 0 rfl) ?_
  refine lv_iload hx hb dL_law__3009 (lv_at hl 4 rfl) ?_
  refine lv_iconst (v := 2) hx hb dL_law__3011 (by decide) ?_
  refine lv_iadd hx hb dL_law__3012 ?_
  refine lv_topi (fun x_2 e_2 => ?_)
  obtain rfl : x_2 = 2 := e_2.trans (by decide)
  refine va_sld hx hb hX hbl hbA hS (by rw [hL]; exact vp_in_iff.mpr (by decide)) dL_law__3013 ?_
  refine W.eq (g2 := F0 m 3014 ls (.int (xs 2) :: .int (xs 1) :: .ref (h 0) :: [])) rfl ?_
  refine lv_aload_n hx hb dL_law__3014 rfl (lv_at hl 0 rfl) ?_
  refine lv_iload hx hb dL_law__3015 (lv_at hl 4 rfl) ?_
  refine lv_iconst (v := 3) hx hb dL_law__3017 (by decide) ?_
  refine lv_iadd hx hb dL_law__3018 ?_
  refine lv_topi (fun x_3 e_3 => ?_)
  obtain rfl : x_3 = 3 := e_3.trans (by decide)
  refine va_sld hx hb hX hbl hbA hS (by rw [hL]; exact vp_in_iff.mpr (by decide)) dL_law__3019 ?_
  refine W.eq (g2 := F0 m 3020 ls (.int (xs 3) :: .int (xs 2) :: .int (xs 1) :: .ref (h 0) :: [])) rfl ?_
  refine lv_aload_n hx hb dL_law__3020 rfl (lv_at hl 3 rfl) ?_
  have hPc := hP.sub (ws' := [((h 0), .inr (11, [.ref (h 1), .ref (h 9), .int 0, .int 0, .ref (h 20), .ref (h 37), .int 0, .ref (h 38), .ref (h 42), .ref (h 43), .ref (h 44), .ref (h 45), .ref (h 46), .ref (h 47), .ref (h 48)])), ((h 1), .inr (8, [.ref (h 2), .int 0, .ref (h 3), .ref (h 4), .int 0, .ref (h 5), .int 0, .ref (h 6), .int 0, .ref (h 7), .int 0])), ((h 7), .inl ((cs 0), 4, .inr (.inr (.inr (.inr fn))))), ((h 8), .inr (0, [.ref (h 102), .ref (h 103), .int 0])), (o, .inl (cL, 1, .inr (.inl (fun _ => 0))))]) [0, 1, 2, 3, 4] rfl
  have hDc := hD.sub (ws' := [((h 0), .inr (11, [.ref (h 1), .ref (h 9), .int 0, .int 0, .ref (h 20), .ref (h 37), .int 0, .ref (h 38), .ref (h 42), .ref (h 43), .ref (h 44), .ref (h 45), .ref (h 46), .ref (h 47), .ref (h 48)])), ((h 1), .inr (8, [.ref (h 2), .int 0, .ref (h 3), .ref (h 4), .int 0, .ref (h 5), .int 0, .ref (h 6), .int 0, .ref (h 7), .int 0])), ((h 7), .inl ((cs 0), 4, .inr (.inr (.inr (.inr fn))))), ((h 8), .inr (0, [.ref (h 102), .ref (h 103), .int 0])), (o, .inl (cL, 1, .inr (.inl (fun _ => 0))))]) [0, 1, 2, 3, 4] (by decide) rfl
  have hKc := hK.sub (tys' := [((cs 0), .object RX0), (cL, .long)]) [0, 1] rfl
  have hFc := va_free (wc := [((h 0), .inr (11, [.ref (h 1), .ref (h 9), .int 0, .int 0, .ref (h 20), .ref (h 37), .int 0, .ref (h 38), .ref (h 42), .ref (h 43), .ref (h 44), .ref (h 45), .ref (h 46), .ref (h 47), .ref (h 48)])), ((h 1), .inr (8, [.ref (h 2), .int 0, .ref (h 3), .ref (h 4), .int 0, .ref (h 5), .int 0, .ref (h 6), .int 0, .ref (h 7), .int 0])), ((h 7), .inl ((cs 0), 4, .inr (.inr (.inr (.inr fn))))), ((h 8), .inr (0, [.ref (h 102), .ref (h 103), .int 0])), (o, .inl (cL, 1, .inr (.inl (fun _ => 0))))]) hD hS hA [0, 1, 2, 3, 4] rfl
  refine va_calli (vx_runSW (As := [.ref (h 0), .int (xs 1), .int (xs 2), .int (xs 3), .ref o]) (rest := []) ⟨hx, hb, hml, hown, ht⟩ (k_L_stepAt l hl0 _ D h cs (xs 1) (xs 2) (xs 3) fn hn o cL) (vx_cwSW 5 ht (zG_S zw_1069 zw_1070 zw_773 zw_1071) rfl rfl rfl (by decide +kernel) ⟨Nat.le_of_ble_eq_true rfl, Nat.le_of_ble_eq_true rfl⟩) (zY_S hNc hEx hS hFc hPc hKc hDc) rfl rfl hl.1 rfl (lv_room (Nat.le_of_ble_eq_true rfl)) dL_law__3021 ⟨Nat.le_of_ble_eq_true rfl, Nat.le_of_ble_eq_true rfl⟩) hS (fun q _ h => hFc q h) hFc (fun r_4 u_4 t H1 locs ht0 hvm hw_4 hB hz1 hk1 hS => ?_)
  obtain ⟨g_4, hg_4, hB⟩ := hB
  obtain ⟨hP1, hK1, hD1⟩ := hB
  rw [ht0] at hP1
  have hK1 := va_K.moved hvm.symm hK1
  obtain ⟨hP, hD⟩ := va_join (wr := [((a 0), .inr (12, zMo a zI0)), ((a 1), .inl (cI, 6792, .inl zI0))]) (w1 := [(o, .inl (cL, 1, .inr (.inl g_4)))]) hP hD [0, 1, 2, 3, 4] [5, 6] rfl rfl (by decide) (by decide) hk1 hFc hP1 hD1
  generalize H1 = H at hP hS ⊢
  have hP : va_P D vwCl [((a 0), .inr (12, zMo a zI0)), ((a 1), .inl (cI, 6792, .inl zI0)), (o, .inl (cL, 1, .inr (.inl g_4)))] H := hP
  have hD : va_D A [((a 0), .inr (12, zMo a zI0)), ((a 1), .inl (cI, 6792, .inl zI0)), (o, .inl (cL, 1, .inr (.inl g_4)))] := hD
  refine W.widen (k := 1194) (n := 188314) (Nat.le_of_ble_eq_true rfl) (Nat.le_of_ble_eq_true rfl) ?_
  refine lv_istore (lv' := [(5, .int r_4), (0, .ref b), (1, .ref (h 0)), (2, .ref (a 0)), (3, .ref o), (4, .int 0)]) hx hb dL_law__3024 hl (by decide) rfl (fun ls hl => ?_)
  refine lv_aload_n hx hb dL_law__3026 rfl (lv_at hl 3 rfl) ?_
  refine lv_aload_n hx hb dL_law__3027 rfl (lv_at hl 1 rfl) ?_
  refine lv_iload hx hb dL_law__3028 (lv_at hl 5 rfl) ?_
  refine lv_iconst (v := 1) hx hb dL_law__3030 (by decide) ?_
  refine lv_iadd hx hb dL_law__3031 ?_
  refine lv_topi (fun x_5 e_5 => ?_)
  obtain rfl : x_5 = 1 := e_5.trans (by decide)
  refine va_sld hx hb hX hbl hbA hS (by rw [hL]; exact vp_in_iff.mpr (by decide)) dL_law__3032 ?_
  refine W.eq (g2 := F0 m 3033 ls (.int (xs 1) :: .ref (a 0) :: [])) rfl ?_
  refine lv_aload_n hx hb dL_law__3033 rfl (lv_at hl 1 rfl) ?_
  refine lv_iload hx hb dL_law__3034 (lv_at hl 5 rfl) ?_
  refine lv_iconst (v := 2) hx hb dL_law__3036 (by decide) ?_
  refine lv_iadd hx hb dL_law__3037 ?_
  refine lv_topi (fun x_6 e_6 => ?_)
  obtain rfl : x_6 = 2 := e_6.trans (by decide)
  refine va_sld hx hb hX hbl hbA hS (by rw [hL]; exact vp_in_iff.mpr (by decide)) dL_law__3038 ?_
  refine W.eq (g2 := F0 m 3039 ls (.int (xs 2) :: .int (xs 1) :: .ref (a 0) :: [])) rfl ?_
  refine lv_aload_n hx hb dL_law__3039 rfl (lv_at hl 1 rfl) ?_
  refine lv_iload hx hb dL_law__3040 (lv_at hl 5 rfl) ?_
  refine lv_iconst (v := 3) hx hb dL_law__3042 (by decide) ?_
  refine lv_iadd hx hb dL_law__3043 ?_
  refine lv_topi (fun x_7 e_7 => ?_)
  obtain rfl : x_7 = 3 := e_7.trans (by decide)
  refine va_sld hx hb hX hbl hbA hS (by rw [hL]; exact vp_in_iff.mpr (by decide)) dL_law__3044 ?_
  refine W.eq (g2 := F0 m 3045 ls (.int (xs 3) :: .int (xs 2) :: .int (xs 1) :: .ref (a 0) :: [])) rfl ?_
  have hPc := hP.sub (ws' := [((a 0), .inr (12, zMo a zI0)), ((a 1), .inl (cI, 6792, .inl zI0))]) [0, 1] rfl
  have hDc := hD.sub (ws' := [((a 0), .inr (12, zMo a zI0)), ((a 1), .inl (cI, 6792, .inl zI0))]) [0, 1] (by decide) rfl
  have hKc := hK.sub (tys' := [(cI, .int)]) [2] rfl
  have hFc := va_free (wc := [((a 0), .inr (12, zMo a zI0)), ((a 1), .inl (cI, 6792, .inl zI0))]) hD hS hA [0, 1] rfl
  refine va_calli (va_runV (As := [.int (xs 1), .int (xs 2), .int (xs 3)]) (rest := []) ⟨hx, hb, hml, hown, ht⟩ (k_X12_stepAt l _ D a cI (xs 1) (xs 2) (xs 3)) (cwV 3 ht (zG_V zw_1072 zw_1073 zw_1074 zw_2 zw_1075) rfl rfl rfl (by decide +kernel) ⟨Nat.le_of_ble_eq_true rfl, Nat.le_of_ble_eq_true rfl⟩) (zM_V (va_recv hK hP (ci := 12) (q0 := 0) rfl rfl) hPc hKc hDc) rfl rfl hl.1 rfl (lv_room (Nat.le_of_ble_eq_true rfl)) dL_law__3045 ⟨Nat.le_of_ble_eq_true rfl, Nat.le_of_ble_eq_true rfl⟩) hS (fun q _ h => hFc q h) hFc (fun r_8 u_8 t H1 locs ht0 hvm hw_8 hB hz1 hk1 hS => ?_)
  obtain ⟨hP1, hK1, hD1⟩ := hB
  rw [ht0] at hP1
  have hK1 := va_K.moved hvm.symm hK1
  obtain ⟨hP, hD⟩ := va_join (wr := [(o, .inl (cL, 1, .inr (.inl g_4)))]) (w1 := [((a 0), .inr (12, zMo a u_8))]) hP hD [0, 1] [2] rfl rfl (by decide) (by decide) hk1 hFc hP1 hD1
  generalize H1 = H at hP hS ⊢
  have hP : va_P D vwCl [(o, .inl (cL, 1, .inr (.inl g_4))), ((a 0), .inr (12, zMo a u_8))] H := hP
  have hD : va_D A [(o, .inl (cL, 1, .inr (.inl g_4))), ((a 0), .inr (12, zMo a u_8))] := hD
  refine lv_istore (lv' := [(6, .int r_8), (5, .int r_4), (0, .ref b), (1, .ref (h 0)), (2, .ref (a 0)), (3, .ref o), (4, .int 0)]) hx hb dL_law__3048 hl (by decide) rfl (fun ls hl => ?_)
  refine lv_aload_n hx hb dL_law__3050 rfl (lv_at hl 4 rfl) ?_
  refine vp_callSi (va_runV (As := []) (rest := []) ⟨hx, hb, hml, hown, ht⟩ (k_X12_thrown l D a u_8) (cwV 0 ht (zG_V zw_779 zw_780 zw_781 zw_2 zw_782) rfl rfl rfl (by decide +kernel) ⟨Nat.le_of_ble_eq_true rfl, Nat.le_of_ble_eq_true rfl⟩) (zR_V (va_recv hK hP (ci := 12) (q0 := 1) rfl rfl) (hP.sub (ws' := [((a 0), .inr (12, zMo a u_8))]) [1] rfl) (hK.sub (tys' := []) [] rfl)) rfl rfl hl.1 rfl (lv_room (Nat.le_of_ble_eq_true rfl)) dL_law__3051 ⟨Nat.le_of_ble_eq_true rfl, Nat.le_of_ble_eq_true rfl⟩).run (fun r_9 hw_9 => ?_)
  refine lv_iload hx hb dL_law__3054 (lv_at hl 1 rfl) ?_
  refine lv_icmp_eq (tgt := 3061) hx hb dL_law__3056 (by decide) (fun c_10 => ?_) (fun c_10 => ?_)
  · skip
    simp only [fa_lt, fa_le, fa_eq, Int32.reduceToInt] at c_10
    refine lv_iload hx hb dL_law__3061 (lv_at hl 1 rfl) ?_
    refine lv_if_ne (tgt := 3078) hx hb dL_law__3063 (by decide) (fun c_11 => ?_) (fun c_11 => ?_)
    · skip
      simp only [fa_lt, fa_le, fa_eq, Int32.reduceToInt] at c_11
      refine lv_goto (tgt := 3433) hx hb dL_law__3078 (by decide) ?_
      refine W.widen (k := 2000) (n := 400000) (Nat.le_of_ble_eq_true rfl) (Nat.le_of_ble_eq_true rfl) ?_
      exact zlaw_end hx hb hml hr hown ht hlocks hX hbl hL hAe hS (lv_sub hl [2, 6] rfl)
    · skip
      simp only [fa_lt, fa_le, fa_eq, Int32.reduceToInt] at c_11
      refine lv_aload_n hx hb dL_law__3066 rfl (lv_at hl 5 rfl) ?_
      refine lv_iconst (v := 0) hx hb dL_law__3067 (by decide) ?_
      refine va_lald hx hb hK hP 0 1 rfl rfl (vp_in_iff.mpr (by decide)) dL_law__3068 ?_
      refine W.eq (g2 := F0 m 3069 ls (.long (g_4 0) :: [])) rfl ?_
      refine lv_iload hx hb dL_law__3069 (lv_at hl 0 rfl) ?_
      refine lv_i2l (v := (r_8).toInt64) hx hb dL_law__3071 rfl ?_
      refine W.lcmp hx hb dL_law__3072 ?_
      refine lv_if_eq (tgt := 3078) hx hb dL_law__3073 (by decide) (fun c_12 => ?_) (fun c_12 => ?_)
      · skip
        refine lv_goto (tgt := 3433) hx hb dL_law__3078 (by decide) ?_
        refine W.widen (k := 2000) (n := 400000) (Nat.le_of_ble_eq_true rfl) (Nat.le_of_ble_eq_true rfl) ?_
        exact zlaw_end hx hb hml hr hown ht hlocks hX hbl hL hAe hS (lv_sub hl [2, 6] rfl)
      · skip
        simp only [fa_lt, fa_le, fa_eq, Int32.reduceToInt] at c_12
        exfalso; exact c_12 (by rw [hg_4, ← (zF_stepAt hw_8 hw_4).2 ((zF_stepAt hw_8 hw_4).1.trans (Int32.toInt_inj.mp (show r_4.toInt = (0 : Int32).toInt by rw [c_11]; rfl)))]; rw [zcmp_self]; rfl)
  · skip
    simp only [fa_lt, fa_le, fa_eq, Int32.reduceToInt] at c_10
    exfalso; exact c_10 (by rw [hw_9, (zF_stepAt hw_8 hw_4).1])
set_option maxHeartbeats 4000000 in
set_option maxRecDepth 100000 in
theorem zcase_needs {p : Program} {l : Launch} {e : Env} {s : State} {m : MethodId} {below : List Frame} {meth : Method} {c : Code} {b L : Nat} {xs : Nat → Int32} {A : Nat → Prop} (D : va_G) (h cs : Nat → Nat) (fn : Nat → Option Nat) (hn : ∀ k : Nat, k < 4 → fn k = some (h 8)) (o : Nat) (cL : ClassId) (a : Nat → Nat) (cI : ClassId) (hx : p.tables.exec = Jvm.exec) (hb : c.code = code) (hml : c.maxLocals = 9) (hr : meth.sig.returnType = ret) (hown : s.vm.findClass RL = some m.cls) (ht : ∀ w ∈ zT, w.before #[Value.ref b] s = true) (hlocks : meth.locks = false) (hX : va_X b L xs s s.heap) (hbl : b < s.heap.size) (hL : L = 6) (hAe : ∀ q : Nat, A q ↔ s.heap.size ≤ q) (hl0 : l.stackTraces = false) (hEx : zEx A s) (hNc : zNc s) {H : Heap} {locs : List Loc} {ls : Array Slot} (hK : va_K D vwCl [((cs 0), .object RX0), (cL, .long), (cI, .int)] s) (hP : va_P D vwCl [((h 0), .inr (11, [.ref (h 1), .ref (h 9), .int 0, .int 0, .ref (h 20), .ref (h 37), .int 0, .ref (h 38), .ref (h 42), .ref (h 43), .ref (h 44), .ref (h 45), .ref (h 46), .ref (h 47), .ref (h 48)])), ((h 1), .inr (8, [.ref (h 2), .int 0, .ref (h 3), .ref (h 4), .int 0, .ref (h 5), .int 0, .ref (h 6), .int 0, .ref (h 7), .int 0])), ((h 7), .inl ((cs 0), 4, .inr (.inr (.inr (.inr fn))))), ((h 8), .inr (0, [.ref (h 102), .ref (h 103), .int 0])), (o, .inl (cL, 1, .inr (.inl (fun _ => 0)))), ((a 0), .inr (12, zMo a zI0)), ((a 1), .inl (cI, 6792, .inl zI0))] H) (hD : va_D A [((h 0), .inr (11, [.ref (h 1), .ref (h 9), .int 0, .int 0, .ref (h 20), .ref (h 37), .int 0, .ref (h 38), .ref (h 42), .ref (h 43), .ref (h 44), .ref (h 45), .ref (h 46), .ref (h 47), .ref (h 48)])), ((h 1), .inr (8, [.ref (h 2), .int 0, .ref (h 3), .ref (h 4), .int 0, .ref (h 5), .int 0, .ref (h 6), .int 0, .ref (h 7), .int 0])), ((h 7), .inl ((cs 0), 4, .inr (.inr (.inr (.inr fn))))), ((h 8), .inr (0, [.ref (h 102), .ref (h 103), .int 0])), (o, .inl (cL, 1, .inr (.inl (fun _ => 0)))), ((a 0), .inr (12, zMo a zI0)), ((a 1), .inl (cI, 6792, .inl zI0))]) (hS : va_S A s.heap H locs) (hl : lv_has ls 9 [(0, .ref b), (1, .ref (h 0)), (2, .ref (a 0)), (3, .ref o), (4, .int 0)]) : W p l e room_1 s m #[Value.ref b] below meth c H locs 1192 188302 (lw_Z below #[Value.ref b] s) (F0 m 3081 ls []) := by
  have hbA : ¬ A b := fun h => Nat.not_le.mpr hbl ((hAe b).mp h)
  have hA : ∀ q : Nat, s.heap.size ≤ q → A q := fun q h => (hAe q).mpr h
  refine lv_aload_n hx hb dL_law__3081 rfl (lv_at hl 1 rfl) ?_
  refine lv_aload_n hx hb dL_law__3082 rfl (lv_at hl 0 rfl) ?_
  refine lv_iload hx hb dL_law__3083 (lv_at hl 4 rfl) ?_
  refine lv_iconst (v := 1) hx hb dL_law__3085 (by decide) ?_
  refine lv_iadd hx hb dL_law__3086 ?_
  refine lv_topi (fun x_1 e_1 => ?_)
  obtain rfl : x_1 = 1 := e_1.trans (by decide)
  refine va_sld hx hb hX hbl hbA hS (by rw [hL]; exact vp_in_iff.mpr (by decide)) dL_law__3087 ?_
  refine W.eq (g2 := F0 m 3088 ls (.int (xs 1) :: .ref (h 0) :: [])) rfl ?_
  refine lv_aload_n hx hb dL_law__3088 rfl (lv_at hl 3 rfl) ?_
  have hPc := hP.sub (ws' := [((h 0), .inr (11, [.ref (h 1), .ref (h 9), .int 0, .int 0, .ref (h 20), .ref (h 37), .int 0, .ref (h 38), .ref (h 42), .ref (h 43), .ref (h 44), .ref (h 45), .ref (h 46), .ref (h 47), .ref (h 48)])), ((h 1), .inr (8, [.ref (h 2), .int 0, .ref (h 3), .ref (h 4), .int 0, .ref (h 5), .int 0, .ref (h 6), .int 0, .ref (h 7), .int 0])), ((h 7), .inl ((cs 0), 4, .inr (.inr (.inr (.inr fn))))), ((h 8), .inr (0, [.ref (h 102), .ref (h 103), .int 0])), (o, .inl (cL, 1, .inr (.inl (fun _ => 0))))]) [0, 1, 2, 3, 4] rfl
  have hDc := hD.sub (ws' := [((h 0), .inr (11, [.ref (h 1), .ref (h 9), .int 0, .int 0, .ref (h 20), .ref (h 37), .int 0, .ref (h 38), .ref (h 42), .ref (h 43), .ref (h 44), .ref (h 45), .ref (h 46), .ref (h 47), .ref (h 48)])), ((h 1), .inr (8, [.ref (h 2), .int 0, .ref (h 3), .ref (h 4), .int 0, .ref (h 5), .int 0, .ref (h 6), .int 0, .ref (h 7), .int 0])), ((h 7), .inl ((cs 0), 4, .inr (.inr (.inr (.inr fn))))), ((h 8), .inr (0, [.ref (h 102), .ref (h 103), .int 0])), (o, .inl (cL, 1, .inr (.inl (fun _ => 0))))]) [0, 1, 2, 3, 4] (by decide) rfl
  have hKc := hK.sub (tys' := [((cs 0), .object RX0), (cL, .long)]) [0, 1] rfl
  have hFc := va_free (wc := [((h 0), .inr (11, [.ref (h 1), .ref (h 9), .int 0, .int 0, .ref (h 20), .ref (h 37), .int 0, .ref (h 38), .ref (h 42), .ref (h 43), .ref (h 44), .ref (h 45), .ref (h 46), .ref (h 47), .ref (h 48)])), ((h 1), .inr (8, [.ref (h 2), .int 0, .ref (h 3), .ref (h 4), .int 0, .ref (h 5), .int 0, .ref (h 6), .int 0, .ref (h 7), .int 0])), ((h 7), .inl ((cs 0), 4, .inr (.inr (.inr (.inr fn))))), ((h 8), .inr (0, [.ref (h 102), .ref (h 103), .int 0])), (o, .inl (cL, 1, .inr (.inl (fun _ => 0))))]) hD hS hA [0, 1, 2, 3, 4] rfl
  refine va_calli (vx_runSW (As := [.ref (h 0), .int (xs 1), .ref o]) (rest := []) ⟨hx, hb, hml, hown, ht⟩ (k_L_needs l hl0 _ D h cs (xs 1) fn hn o cL) (vx_cwSW 3 ht (zG_S zw_1076 zw_1077 zw_773 zw_1078) rfl rfl rfl (by decide +kernel) ⟨Nat.le_of_ble_eq_true rfl, Nat.le_of_ble_eq_true rfl⟩) (zY_S hNc hEx hS hFc hPc hKc hDc) rfl rfl hl.1 rfl (lv_room (Nat.le_of_ble_eq_true rfl)) dL_law__3089 ⟨Nat.le_of_ble_eq_true rfl, Nat.le_of_ble_eq_true rfl⟩) hS (fun q _ h => hFc q h) hFc (fun r_2 u_2 t H1 locs ht0 hvm hw_2 hB hz1 hk1 hS => ?_)
  obtain ⟨g_2, hg_2, hB⟩ := hB
  obtain ⟨hP1, hK1, hD1⟩ := hB
  rw [ht0] at hP1
  have hK1 := va_K.moved hvm.symm hK1
  obtain ⟨hP, hD⟩ := va_join (wr := [((a 0), .inr (12, zMo a zI0)), ((a 1), .inl (cI, 6792, .inl zI0))]) (w1 := [(o, .inl (cL, 1, .inr (.inl g_2)))]) hP hD [0, 1, 2, 3, 4] [5, 6] rfl rfl (by decide) (by decide) hk1 hFc hP1 hD1
  generalize H1 = H at hP hS ⊢
  have hP : va_P D vwCl [((a 0), .inr (12, zMo a zI0)), ((a 1), .inl (cI, 6792, .inl zI0)), (o, .inl (cL, 1, .inr (.inl g_2)))] H := hP
  have hD : va_D A [((a 0), .inr (12, zMo a zI0)), ((a 1), .inl (cI, 6792, .inl zI0)), (o, .inl (cL, 1, .inr (.inl g_2)))] := hD
  refine W.widen (k := 1193) (n := 188308) (Nat.le_of_ble_eq_true rfl) (Nat.le_of_ble_eq_true rfl) ?_
  refine lv_istore (lv' := [(5, .int r_2), (0, .ref b), (1, .ref (h 0)), (2, .ref (a 0)), (3, .ref o), (4, .int 0)]) hx hb dL_law__3092 hl (by decide) rfl (fun ls hl => ?_)
  refine lv_aload_n hx hb dL_law__3094 rfl (lv_at hl 3 rfl) ?_
  refine lv_aload_n hx hb dL_law__3095 rfl (lv_at hl 1 rfl) ?_
  refine lv_iload hx hb dL_law__3096 (lv_at hl 5 rfl) ?_
  refine lv_iconst (v := 1) hx hb dL_law__3098 (by decide) ?_
  refine lv_iadd hx hb dL_law__3099 ?_
  refine lv_topi (fun x_3 e_3 => ?_)
  obtain rfl : x_3 = 1 := e_3.trans (by decide)
  refine va_sld hx hb hX hbl hbA hS (by rw [hL]; exact vp_in_iff.mpr (by decide)) dL_law__3100 ?_
  refine W.eq (g2 := F0 m 3101 ls (.int (xs 1) :: .ref (a 0) :: [])) rfl ?_
  have hPc := hP.sub (ws' := [((a 0), .inr (12, zMo a zI0)), ((a 1), .inl (cI, 6792, .inl zI0))]) [0, 1] rfl
  have hDc := hD.sub (ws' := [((a 0), .inr (12, zMo a zI0)), ((a 1), .inl (cI, 6792, .inl zI0))]) [0, 1] (by decide) rfl
  have hKc := hK.sub (tys' := [(cI, .int)]) [2] rfl
  have hFc := va_free (wc := [((a 0), .inr (12, zMo a zI0)), ((a 1), .inl (cI, 6792, .inl zI0))]) hD hS hA [0, 1] rfl
  refine va_calli (va_runV (As := [.int (xs 1)]) (rest := []) ⟨hx, hb, hml, hown, ht⟩ (k_X12_needs l _ D a cI (xs 1)) (cwV 1 ht (zG_V zw_1079 zw_1080 zw_1081 zw_2 zw_1082) rfl rfl rfl (by decide +kernel) ⟨Nat.le_of_ble_eq_true rfl, Nat.le_of_ble_eq_true rfl⟩) (zM_V (va_recv hK hP (ci := 12) (q0 := 0) rfl rfl) hPc hKc hDc) rfl rfl hl.1 rfl (lv_room (Nat.le_of_ble_eq_true rfl)) dL_law__3101 ⟨Nat.le_of_ble_eq_true rfl, Nat.le_of_ble_eq_true rfl⟩) hS (fun q _ h => hFc q h) hFc (fun r_4 u_4 t H1 locs ht0 hvm hw_4 hB hz1 hk1 hS => ?_)
  obtain ⟨hP1, hK1, hD1⟩ := hB
  rw [ht0] at hP1
  have hK1 := va_K.moved hvm.symm hK1
  obtain ⟨hP, hD⟩ := va_join (wr := [(o, .inl (cL, 1, .inr (.inl g_2)))]) (w1 := [((a 0), .inr (12, zMo a u_4))]) hP hD [0, 1] [2] rfl rfl (by decide) (by decide) hk1 hFc hP1 hD1
  generalize H1 = H at hP hS ⊢
  have hP : va_P D vwCl [(o, .inl (cL, 1, .inr (.inl g_2))), ((a 0), .inr (12, zMo a u_4))] H := hP
  have hD : va_D A [(o, .inl (cL, 1, .inr (.inl g_2))), ((a 0), .inr (12, zMo a u_4))] := hD
  refine lv_istore (lv' := [(6, .int r_4), (5, .int r_2), (0, .ref b), (1, .ref (h 0)), (2, .ref (a 0)), (3, .ref o), (4, .int 0)]) hx hb dL_law__3104 hl (by decide) rfl (fun ls hl => ?_)
  refine lv_aload_n hx hb dL_law__3106 rfl (lv_at hl 4 rfl) ?_
  refine vp_callSi (va_runV (As := []) (rest := []) ⟨hx, hb, hml, hown, ht⟩ (k_X12_thrown l D a u_4) (cwV 0 ht (zG_V zw_779 zw_780 zw_781 zw_2 zw_782) rfl rfl rfl (by decide +kernel) ⟨Nat.le_of_ble_eq_true rfl, Nat.le_of_ble_eq_true rfl⟩) (zR_V (va_recv hK hP (ci := 12) (q0 := 1) rfl rfl) (hP.sub (ws' := [((a 0), .inr (12, zMo a u_4))]) [1] rfl) (hK.sub (tys' := []) [] rfl)) rfl rfl hl.1 rfl (lv_room (Nat.le_of_ble_eq_true rfl)) dL_law__3107 ⟨Nat.le_of_ble_eq_true rfl, Nat.le_of_ble_eq_true rfl⟩).run (fun r_5 hw_5 => ?_)
  refine lv_iload hx hb dL_law__3110 (lv_at hl 1 rfl) ?_
  refine lv_icmp_eq (tgt := 3117) hx hb dL_law__3112 (by decide) (fun c_6 => ?_) (fun c_6 => ?_)
  · skip
    simp only [fa_lt, fa_le, fa_eq, Int32.reduceToInt] at c_6
    refine lv_iload hx hb dL_law__3117 (lv_at hl 1 rfl) ?_
    refine lv_if_ne (tgt := 3134) hx hb dL_law__3119 (by decide) (fun c_7 => ?_) (fun c_7 => ?_)
    · skip
      simp only [fa_lt, fa_le, fa_eq, Int32.reduceToInt] at c_7
      refine lv_goto (tgt := 3433) hx hb dL_law__3134 (by decide) ?_
      refine W.widen (k := 2000) (n := 400000) (Nat.le_of_ble_eq_true rfl) (Nat.le_of_ble_eq_true rfl) ?_
      exact zlaw_end hx hb hml hr hown ht hlocks hX hbl hL hAe hS (lv_sub hl [2, 6] rfl)
    · skip
      simp only [fa_lt, fa_le, fa_eq, Int32.reduceToInt] at c_7
      refine lv_aload_n hx hb dL_law__3122 rfl (lv_at hl 5 rfl) ?_
      refine lv_iconst (v := 0) hx hb dL_law__3123 (by decide) ?_
      refine va_lald hx hb hK hP 0 1 rfl rfl (vp_in_iff.mpr (by decide)) dL_law__3124 ?_
      refine W.eq (g2 := F0 m 3125 ls (.long (g_2 0) :: [])) rfl ?_
      refine lv_iload hx hb dL_law__3125 (lv_at hl 0 rfl) ?_
      refine lv_i2l (v := (r_4).toInt64) hx hb dL_law__3127 rfl ?_
      refine W.lcmp hx hb dL_law__3128 ?_
      refine lv_if_eq (tgt := 3134) hx hb dL_law__3129 (by decide) (fun c_8 => ?_) (fun c_8 => ?_)
      · skip
        refine lv_goto (tgt := 3433) hx hb dL_law__3134 (by decide) ?_
        refine W.widen (k := 2000) (n := 400000) (Nat.le_of_ble_eq_true rfl) (Nat.le_of_ble_eq_true rfl) ?_
        exact zlaw_end hx hb hml hr hown ht hlocks hX hbl hL hAe hS (lv_sub hl [2, 6] rfl)
      · skip
        simp only [fa_lt, fa_le, fa_eq, Int32.reduceToInt] at c_8
        exfalso; exact c_8 (by rw [hg_2, ← (zF_needs hw_4 hw_2).2 ((zF_needs hw_4 hw_2).1.trans (Int32.toInt_inj.mp (show r_2.toInt = (0 : Int32).toInt by rw [c_7]; rfl)))]; rw [zcmp_self]; rfl)
  · skip
    simp only [fa_lt, fa_le, fa_eq, Int32.reduceToInt] at c_6
    exfalso; exact c_6 (by rw [hw_5, (zF_needs hw_4 hw_2).1])
set_option maxHeartbeats 4000000 in
set_option maxRecDepth 100000 in
theorem zcase_orders {p : Program} {l : Launch} {e : Env} {s : State} {m : MethodId} {below : List Frame} {meth : Method} {c : Code} {b L : Nat} {xs : Nat → Int32} {A : Nat → Prop} (D : va_G) (h cs : Nat → Nat) (a : Nat → Nat) (cI : ClassId) (o : Nat) (hx : p.tables.exec = Jvm.exec) (hb : c.code = code) (hml : c.maxLocals = 9) (hr : meth.sig.returnType = ret) (hown : s.vm.findClass RL = some m.cls) (ht : ∀ w ∈ zT, w.before #[Value.ref b] s = true) (hlocks : meth.locks = false) (hX : va_X b L xs s s.heap) (hbl : b < s.heap.size) (hL : L = 6) (hAe : ∀ q : Nat, A q ↔ s.heap.size ≤ q) (hl0 : l.stackTraces = false) (hEx : zEx A s) (hNc : zNc s) {H : Heap} {locs : List Loc} {ls : Array Slot} (hK : va_K D vwCl [((cs 4), .object RX4), ((cs 13), .int), (cI, .int)] s) (hP : va_P D vwCl [((h 0), .inr (11, [.ref (h 1), .ref (h 9), .int 0, .int 0, .ref (h 20), .ref (h 37), .int 0, .ref (h 38), .ref (h 42), .ref (h 43), .ref (h 44), .ref (h 45), .ref (h 46), .ref (h 47), .ref (h 48)])), ((h 1), .inr (8, [.ref (h 2), .int 0, .ref (h 3), .ref (h 4), .int 0, .ref (h 5), .int 0, .ref (h 6), .int 0, .ref (h 7), .int 0])), ((h 4), .inl ((cs 4), 100, .inr (.inr (.inr (.inr (fun _ => none)))))), ((h 48), .inr (5, [.ref (h 49), .ref (h 50), .ref (h 88), .ref (h 89), .ref (h 90), .int (-1), .int 1, .null, .null, .int 0])), ((h 49), .inl ((cs 13), 2048, .inl zI0)), ((a 0), .inr (12, zMo a zI0)), ((a 1), .inl (cI, 6792, .inl zI0))] H) (hD : va_D A [((h 0), .inr (11, [.ref (h 1), .ref (h 9), .int 0, .int 0, .ref (h 20), .ref (h 37), .int 0, .ref (h 38), .ref (h 42), .ref (h 43), .ref (h 44), .ref (h 45), .ref (h 46), .ref (h 47), .ref (h 48)])), ((h 1), .inr (8, [.ref (h 2), .int 0, .ref (h 3), .ref (h 4), .int 0, .ref (h 5), .int 0, .ref (h 6), .int 0, .ref (h 7), .int 0])), ((h 4), .inl ((cs 4), 100, .inr (.inr (.inr (.inr (fun _ => none)))))), ((h 48), .inr (5, [.ref (h 49), .ref (h 50), .ref (h 88), .ref (h 89), .ref (h 90), .int (-1), .int 1, .null, .null, .int 0])), ((h 49), .inl ((cs 13), 2048, .inl zI0)), ((a 0), .inr (12, zMo a zI0)), ((a 1), .inl (cI, 6792, .inl zI0))]) (hS : va_S A s.heap H locs) (hl : lv_has ls 9 [(0, .ref b), (1, .ref (h 0)), (2, .ref (a 0)), (3, .ref o), (4, .int 0)]) : W p l e room_1 s m #[Value.ref b] below meth c H locs 1192 188302 (lw_Z below #[Value.ref b] s) (F0 m 3137 ls []) := by
  have hbA : ¬ A b := fun h => Nat.not_le.mpr hbl ((hAe b).mp h)
  have hA : ∀ q : Nat, s.heap.size ≤ q → A q := fun q h => (hAe q).mpr h
  refine lv_aload_n hx hb dL_law__3137 rfl (lv_at hl 1 rfl) ?_
  have hPc := hP.sub (ws' := [((h 0), .inr (11, [.ref (h 1), .ref (h 9), .int 0, .int 0, .ref (h 20), .ref (h 37), .int 0, .ref (h 38), .ref (h 42), .ref (h 43), .ref (h 44), .ref (h 45), .ref (h 46), .ref (h 47), .ref (h 48)])), ((h 1), .inr (8, [.ref (h 2), .int 0, .ref (h 3), .ref (h 4), .int 0, .ref (h 5), .int 0, .ref (h 6), .int 0, .ref (h 7), .int 0])), ((h 4), .inl ((cs 4), 100, .inr (.inr (.inr (.inr (fun _ => none)))))), ((h 48), .inr (5, [.ref (h 49), .ref (h 50), .ref (h 88), .ref (h 89), .ref (h 90), .int (-1), .int 1, .null, .null, .int 0])), ((h 49), .inl ((cs 13), 2048, .inl zI0))]) [0, 1, 2, 3, 4] rfl
  have hDc := hD.sub (ws' := [((h 0), .inr (11, [.ref (h 1), .ref (h 9), .int 0, .int 0, .ref (h 20), .ref (h 37), .int 0, .ref (h 38), .ref (h 42), .ref (h 43), .ref (h 44), .ref (h 45), .ref (h 46), .ref (h 47), .ref (h 48)])), ((h 1), .inr (8, [.ref (h 2), .int 0, .ref (h 3), .ref (h 4), .int 0, .ref (h 5), .int 0, .ref (h 6), .int 0, .ref (h 7), .int 0])), ((h 4), .inl ((cs 4), 100, .inr (.inr (.inr (.inr (fun _ => none)))))), ((h 48), .inr (5, [.ref (h 49), .ref (h 50), .ref (h 88), .ref (h 89), .ref (h 90), .int (-1), .int 1, .null, .null, .int 0])), ((h 49), .inl ((cs 13), 2048, .inl zI0))]) [0, 1, 2, 3, 4] (by decide) rfl
  have hKc := hK.sub (tys' := [((cs 4), .object RX4), ((cs 13), .int)]) [0, 1] rfl
  have hFc := va_free (wc := [((h 0), .inr (11, [.ref (h 1), .ref (h 9), .int 0, .int 0, .ref (h 20), .ref (h 37), .int 0, .ref (h 38), .ref (h 42), .ref (h 43), .ref (h 44), .ref (h 45), .ref (h 46), .ref (h 47), .ref (h 48)])), ((h 1), .inr (8, [.ref (h 2), .int 0, .ref (h 3), .ref (h 4), .int 0, .ref (h 5), .int 0, .ref (h 6), .int 0, .ref (h 7), .int 0])), ((h 4), .inl ((cs 4), 100, .inr (.inr (.inr (.inr (fun _ => none)))))), ((h 48), .inr (5, [.ref (h 49), .ref (h 50), .ref (h 88), .ref (h 89), .ref (h 90), .int (-1), .int 1, .null, .null, .int 0])), ((h 49), .inl ((cs 13), 2048, .inl zI0))]) hD hS hA [0, 1, 2, 3, 4] rfl
  refine va_calli (va_runV (As := []) (rest := []) ⟨hx, hb, hml, hown, ht⟩ (k_X11_orders l _ D h cs) (cwV 0 ht (zG_V zw_1083 zw_1084 zw_1085 zw_404 zw_1086) rfl rfl rfl (by decide +kernel) ⟨Nat.le_of_ble_eq_true rfl, Nat.le_of_ble_eq_true rfl⟩) (zM_V (va_recv hK hP (ci := 11) (q0 := 0) rfl rfl) hPc hKc hDc) rfl rfl hl.1 rfl (lv_room (Nat.le_of_ble_eq_true rfl)) dL_law__3138 ⟨Nat.le_of_ble_eq_true rfl, Nat.le_of_ble_eq_true rfl⟩) hS (fun q _ h => hFc q h) hFc (fun r_1 u_1 t H1 locs ht0 hvm hw_1 hB hz1 hk1 hS => ?_)
  obtain ⟨hP1, hK1, hD1⟩ := hB
  rw [ht0] at hP1
  have hK1 := va_K.moved hvm.symm hK1
  obtain ⟨hP, hD⟩ := va_join (wr := [((a 0), .inr (12, zMo a zI0)), ((a 1), .inl (cI, 6792, .inl zI0))]) (w1 := []) hP hD [0, 1, 2, 3, 4] [5, 6] rfl rfl (by decide) (by decide) hk1 hFc hP1 hD1
  generalize H1 = H at hP hS ⊢
  have hP : va_P D vwCl [((a 0), .inr (12, zMo a zI0)), ((a 1), .inl (cI, 6792, .inl zI0))] H := hP
  have hD : va_D A [((a 0), .inr (12, zMo a zI0)), ((a 1), .inl (cI, 6792, .inl zI0))] := hD
  obtain rfl : r_1 = 1 := hw_1
  refine lv_aload_n hx hb dL_law__3141 rfl (lv_at hl 2 rfl) ?_
  have hPc := hP.sub (ws' := [((a 0), .inr (12, zMo a zI0)), ((a 1), .inl (cI, 6792, .inl zI0))]) [0, 1] rfl
  have hDc := hD.sub (ws' := [((a 0), .inr (12, zMo a zI0)), ((a 1), .inl (cI, 6792, .inl zI0))]) [0, 1] (by decide) rfl
  have hKc := hK.sub (tys' := [(cI, .int)]) [2] rfl
  have hFc := va_free (wc := [((a 0), .inr (12, zMo a zI0)), ((a 1), .inl (cI, 6792, .inl zI0))]) hD hS hA [0, 1] rfl
  refine va_calli (va_runV (As := []) (rest := [.int 1]) ⟨hx, hb, hml, hown, ht⟩ (k_X12_orders l _ D a cI) (cwV 0 ht (zG_V zw_1087 zw_1088 zw_1089 zw_2 zw_1090) rfl rfl rfl (by decide +kernel) ⟨Nat.le_of_ble_eq_true rfl, Nat.le_of_ble_eq_true rfl⟩) (zM_V (va_recv hK hP (ci := 12) (q0 := 0) rfl rfl) hPc hKc hDc) rfl rfl hl.1 rfl (lv_room (Nat.le_of_ble_eq_true rfl)) dL_law__3142 ⟨Nat.le_of_ble_eq_true rfl, Nat.le_of_ble_eq_true rfl⟩) hS (fun q _ h => hFc q h) hFc (fun r_2 u_2 t H1 locs ht0 hvm hw_2 hB hz1 hk1 hS => ?_)
  obtain ⟨hP1, hK1, hD1⟩ := hB
  rw [ht0] at hP1
  have hK1 := va_K.moved hvm.symm hK1
  obtain ⟨hP, hD⟩ := va_join (wr := []) (w1 := []) hP hD [0, 1] [] rfl rfl (by decide) (by decide) hk1 hFc hP1 hD1
  generalize H1 = H at hP hS ⊢
  have hP : va_P D vwCl [] H := hP
  have hD : va_D A [] := hD
  obtain rfl : r_2 = 1 := hw_2
  refine lv_icmp_eq (tgt := 3433) hx hb dL_law__3145 (by decide) (fun c_3 => ?_) (fun c_3 => ?_)
  · skip
    refine W.widen (k := 2000) (n := 400000) (Nat.le_of_ble_eq_true rfl) (Nat.le_of_ble_eq_true rfl) ?_
    exact zlaw_end hx hb hml hr hown ht hlocks hX hbl hL hAe hS (lv_sub hl [0, 4] rfl)
  · skip
    exact absurd c_3 (by decide)
set_option maxHeartbeats 4000000 in
set_option maxRecDepth 100000 in
theorem zcase_fails {p : Program} {l : Launch} {e : Env} {s : State} {m : MethodId} {below : List Frame} {meth : Method} {c : Code} {b L : Nat} {xs : Nat → Int32} {A : Nat → Prop} (D : va_G) (h cs : Nat → Nat) (o : Nat) (cL : ClassId) (a : Nat → Nat) (cI : ClassId) (hx : p.tables.exec = Jvm.exec) (hb : c.code = code) (hml : c.maxLocals = 9) (hr : meth.sig.returnType = ret) (hown : s.vm.findClass RL = some m.cls) (ht : ∀ w ∈ zT, w.before #[Value.ref b] s = true) (hlocks : meth.locks = false) (hX : va_X b L xs s s.heap) (hbl : b < s.heap.size) (hL : L = 6) (hAe : ∀ q : Nat, A q ↔ s.heap.size ≤ q) (hl0 : l.stackTraces = false) (hEx : zEx A s) (hNc : zNc s) {H : Heap} {locs : List Loc} {ls : Array Slot} (hK : va_K D vwCl [((cs 9), .object RX9), (cL, .long), (cI, .int)] s) (hP : va_P D vwCl [((h 0), .inr (11, [.ref (h 1), .ref (h 9), .int 0, .int 0, .ref (h 20), .ref (h 37), .int 0, .ref (h 38), .ref (h 42), .ref (h 43), .ref (h 44), .ref (h 45), .ref (h 46), .ref (h 47), .ref (h 48)])), ((h 1), .inr (8, [.ref (h 2), .int 0, .ref (h 3), .ref (h 4), .int 0, .ref (h 5), .int 0, .ref (h 6), .int 0, .ref (h 7), .int 0])), ((h 3), .inl ((cs 9), 10, .inr (.inr (.inr (.inr (fun _ => none)))))), (o, .inl (cL, 1, .inr (.inl (fun _ => 0)))), ((a 0), .inr (12, zMo a zI0)), ((a 1), .inl (cI, 6792, .inl zI0))] H) (hD : va_D A [((h 0), .inr (11, [.ref (h 1), .ref (h 9), .int 0, .int 0, .ref (h 20), .ref (h 37), .int 0, .ref (h 38), .ref (h 42), .ref (h 43), .ref (h 44), .ref (h 45), .ref (h 46), .ref (h 47), .ref (h 48)])), ((h 1), .inr (8, [.ref (h 2), .int 0, .ref (h 3), .ref (h 4), .int 0, .ref (h 5), .int 0, .ref (h 6), .int 0, .ref (h 7), .int 0])), ((h 3), .inl ((cs 9), 10, .inr (.inr (.inr (.inr (fun _ => none)))))), (o, .inl (cL, 1, .inr (.inl (fun _ => 0)))), ((a 0), .inr (12, zMo a zI0)), ((a 1), .inl (cI, 6792, .inl zI0))]) (hS : va_S A s.heap H locs) (hl : lv_has ls 9 [(0, .ref b), (1, .ref (h 0)), (2, .ref (a 0)), (3, .ref o), (4, .int 0)]) : W p l e room_1 s m #[Value.ref b] below meth c H locs 1192 188302 (lw_Z below #[Value.ref b] s) (F0 m 3150 ls []) := by
  have hbA : ¬ A b := fun h => Nat.not_le.mpr hbl ((hAe b).mp h)
  have hA : ∀ q : Nat, s.heap.size ≤ q → A q := fun q h => (hAe q).mpr h
  refine lv_aload_n hx hb dL_law__3150 rfl (lv_at hl 1 rfl) ?_
  refine lv_aload_n hx hb dL_law__3151 rfl (lv_at hl 0 rfl) ?_
  refine lv_iload hx hb dL_law__3152 (lv_at hl 4 rfl) ?_
  refine lv_iconst (v := 1) hx hb dL_law__3154 (by decide) ?_
  refine lv_iadd hx hb dL_law__3155 ?_
  refine lv_topi (fun x_1 e_1 => ?_)
  obtain rfl : x_1 = 1 := e_1.trans (by decide)
  refine va_sld hx hb hX hbl hbA hS (by rw [hL]; exact vp_in_iff.mpr (by decide)) dL_law__3156 ?_
  refine W.eq (g2 := F0 m 3157 ls (.int (xs 1) :: .ref (h 0) :: [])) rfl ?_
  refine lv_aload_n hx hb dL_law__3157 rfl (lv_at hl 0 rfl) ?_
  refine lv_iload hx hb dL_law__3158 (lv_at hl 4 rfl) ?_
  refine lv_iconst (v := 2) hx hb dL_law__3160 (by decide) ?_
  refine lv_iadd hx hb dL_law__3161 ?_
  refine lv_topi (fun x_2 e_2 => ?_)
  obtain rfl : x_2 = 2 := e_2.trans (by decide)
  refine va_sld hx hb hX hbl hbA hS (by rw [hL]; exact vp_in_iff.mpr (by decide)) dL_law__3162 ?_
  refine W.eq (g2 := F0 m 3163 ls (.int (xs 2) :: .int (xs 1) :: .ref (h 0) :: [])) rfl ?_
  refine lv_aload_n hx hb dL_law__3163 rfl (lv_at hl 0 rfl) ?_
  refine lv_iload hx hb dL_law__3164 (lv_at hl 4 rfl) ?_
  refine lv_iconst (v := 3) hx hb dL_law__3166 (by decide) ?_
  refine lv_iadd hx hb dL_law__3167 ?_
  refine lv_topi (fun x_3 e_3 => ?_)
  obtain rfl : x_3 = 3 := e_3.trans (by decide)
  refine va_sld hx hb hX hbl hbA hS (by rw [hL]; exact vp_in_iff.mpr (by decide)) dL_law__3168 ?_
  refine W.eq (g2 := F0 m 3169 ls (.int (xs 3) :: .int (xs 2) :: .int (xs 1) :: .ref (h 0) :: [])) rfl ?_
  refine lv_aload_n hx hb dL_law__3169 rfl (lv_at hl 0 rfl) ?_
  refine lv_iload hx hb dL_law__3170 (lv_at hl 4 rfl) ?_
  refine lv_iconst (v := 4) hx hb dL_law__3172 (by decide) ?_
  refine lv_iadd hx hb dL_law__3173 ?_
  refine lv_topi (fun x_4 e_4 => ?_)
  obtain rfl : x_4 = 4 := e_4.trans (by decide)
  refine va_sld hx hb hX hbl hbA hS (by rw [hL]; exact vp_in_iff.mpr (by decide)) dL_law__3174 ?_
  refine W.eq (g2 := F0 m 3175 ls (.int (xs 4) :: .int (xs 3) :: .int (xs 2) :: .int (xs 1) :: .ref (h 0) :: [])) rfl ?_
  refine lv_aload_n hx hb dL_law__3175 rfl (lv_at hl 3 rfl) ?_
  have hPc := hP.sub (ws' := [((h 0), .inr (11, [.ref (h 1), .ref (h 9), .int 0, .int 0, .ref (h 20), .ref (h 37), .int 0, .ref (h 38), .ref (h 42), .ref (h 43), .ref (h 44), .ref (h 45), .ref (h 46), .ref (h 47), .ref (h 48)])), ((h 1), .inr (8, [.ref (h 2), .int 0, .ref (h 3), .ref (h 4), .int 0, .ref (h 5), .int 0, .ref (h 6), .int 0, .ref (h 7), .int 0])), ((h 3), .inl ((cs 9), 10, .inr (.inr (.inr (.inr (fun _ => none)))))), (o, .inl (cL, 1, .inr (.inl (fun _ => 0))))]) [0, 1, 2, 3] rfl
  have hDc := hD.sub (ws' := [((h 0), .inr (11, [.ref (h 1), .ref (h 9), .int 0, .int 0, .ref (h 20), .ref (h 37), .int 0, .ref (h 38), .ref (h 42), .ref (h 43), .ref (h 44), .ref (h 45), .ref (h 46), .ref (h 47), .ref (h 48)])), ((h 1), .inr (8, [.ref (h 2), .int 0, .ref (h 3), .ref (h 4), .int 0, .ref (h 5), .int 0, .ref (h 6), .int 0, .ref (h 7), .int 0])), ((h 3), .inl ((cs 9), 10, .inr (.inr (.inr (.inr (fun _ => none)))))), (o, .inl (cL, 1, .inr (.inl (fun _ => 0))))]) [0, 1, 2, 3] (by decide) rfl
  have hKc := hK.sub (tys' := [((cs 9), .object RX9), (cL, .long)]) [0, 1] rfl
  have hFc := va_free (wc := [((h 0), .inr (11, [.ref (h 1), .ref (h 9), .int 0, .int 0, .ref (h 20), .ref (h 37), .int 0, .ref (h 38), .ref (h 42), .ref (h 43), .ref (h 44), .ref (h 45), .ref (h 46), .ref (h 47), .ref (h 48)])), ((h 1), .inr (8, [.ref (h 2), .int 0, .ref (h 3), .ref (h 4), .int 0, .ref (h 5), .int 0, .ref (h 6), .int 0, .ref (h 7), .int 0])), ((h 3), .inl ((cs 9), 10, .inr (.inr (.inr (.inr (fun _ => none)))))), (o, .inl (cL, 1, .inr (.inl (fun _ => 0))))]) hD hS hA [0, 1, 2, 3] rfl
  refine va_calli (vx_runSW (As := [.ref (h 0), .int (xs 1), .int (xs 2), .int (xs 3), .int (xs 4), .ref o]) (rest := []) ⟨hx, hb, hml, hown, ht⟩ (k_L_fails l hl0 _ D h cs (xs 1) (xs 2) (xs 3) (xs 4) o cL) (vx_cwSW 6 ht (zG_S zw_1091 zw_1092 zw_773 zw_1093) rfl rfl rfl (by decide +kernel) ⟨Nat.le_of_ble_eq_true rfl, Nat.le_of_ble_eq_true rfl⟩) (zY_S hNc hEx hS hFc hPc hKc hDc) rfl rfl hl.1 rfl (lv_room (Nat.le_of_ble_eq_true rfl)) dL_law__3176 ⟨Nat.le_of_ble_eq_true rfl, Nat.le_of_ble_eq_true rfl⟩) hS (fun q _ h => hFc q h) hFc (fun r_5 u_5 t H1 locs ht0 hvm hw_5 hB hz1 hk1 hS => ?_)
  obtain ⟨g_5, hg_5, hB⟩ := hB
  obtain ⟨hP1, hK1, hD1⟩ := hB
  rw [ht0] at hP1
  have hK1 := va_K.moved hvm.symm hK1
  obtain ⟨hP, hD⟩ := va_join (wr := [((a 0), .inr (12, zMo a zI0)), ((a 1), .inl (cI, 6792, .inl zI0))]) (w1 := [(o, .inl (cL, 1, .inr (.inl g_5)))]) hP hD [0, 1, 2, 3] [4, 5] rfl rfl (by decide) (by decide) hk1 hFc hP1 hD1
  generalize H1 = H at hP hS ⊢
  have hP : va_P D vwCl [((a 0), .inr (12, zMo a zI0)), ((a 1), .inl (cI, 6792, .inl zI0)), (o, .inl (cL, 1, .inr (.inl g_5)))] H := hP
  have hD : va_D A [((a 0), .inr (12, zMo a zI0)), ((a 1), .inl (cI, 6792, .inl zI0)), (o, .inl (cL, 1, .inr (.inl g_5)))] := hD
  refine W.widen (k := 1196) (n := 188329) (Nat.le_of_ble_eq_true rfl) (Nat.le_of_ble_eq_true rfl) ?_
  refine lv_istore (lv' := [(5, .int r_5), (0, .ref b), (1, .ref (h 0)), (2, .ref (a 0)), (3, .ref o), (4, .int 0)]) hx hb dL_law__3179 hl (by decide) rfl (fun ls hl => ?_)
  refine lv_aload_n hx hb dL_law__3181 rfl (lv_at hl 3 rfl) ?_
  refine lv_aload_n hx hb dL_law__3182 rfl (lv_at hl 1 rfl) ?_
  refine lv_iload hx hb dL_law__3183 (lv_at hl 5 rfl) ?_
  refine lv_iconst (v := 1) hx hb dL_law__3185 (by decide) ?_
  refine lv_iadd hx hb dL_law__3186 ?_
  refine lv_topi (fun x_6 e_6 => ?_)
  obtain rfl : x_6 = 1 := e_6.trans (by decide)
  refine va_sld hx hb hX hbl hbA hS (by rw [hL]; exact vp_in_iff.mpr (by decide)) dL_law__3187 ?_
  refine W.eq (g2 := F0 m 3188 ls (.int (xs 1) :: .ref (a 0) :: [])) rfl ?_
  refine lv_aload_n hx hb dL_law__3188 rfl (lv_at hl 1 rfl) ?_
  refine lv_iload hx hb dL_law__3189 (lv_at hl 5 rfl) ?_
  refine lv_iconst (v := 2) hx hb dL_law__3191 (by decide) ?_
  refine lv_iadd hx hb dL_law__3192 ?_
  refine lv_topi (fun x_7 e_7 => ?_)
  obtain rfl : x_7 = 2 := e_7.trans (by decide)
  refine va_sld hx hb hX hbl hbA hS (by rw [hL]; exact vp_in_iff.mpr (by decide)) dL_law__3193 ?_
  refine W.eq (g2 := F0 m 3194 ls (.int (xs 2) :: .int (xs 1) :: .ref (a 0) :: [])) rfl ?_
  refine lv_aload_n hx hb dL_law__3194 rfl (lv_at hl 1 rfl) ?_
  refine lv_iload hx hb dL_law__3195 (lv_at hl 5 rfl) ?_
  refine lv_iconst (v := 3) hx hb dL_law__3197 (by decide) ?_
  refine lv_iadd hx hb dL_law__3198 ?_
  refine lv_topi (fun x_8 e_8 => ?_)
  obtain rfl : x_8 = 3 := e_8.trans (by decide)
  refine va_sld hx hb hX hbl hbA hS (by rw [hL]; exact vp_in_iff.mpr (by decide)) dL_law__3199 ?_
  refine W.eq (g2 := F0 m 3200 ls (.int (xs 3) :: .int (xs 2) :: .int (xs 1) :: .ref (a 0) :: [])) rfl ?_
  refine lv_aload_n hx hb dL_law__3200 rfl (lv_at hl 1 rfl) ?_
  refine lv_iload hx hb dL_law__3201 (lv_at hl 5 rfl) ?_
  refine lv_iconst (v := 4) hx hb dL_law__3203 (by decide) ?_
  refine lv_iadd hx hb dL_law__3204 ?_
  refine lv_topi (fun x_9 e_9 => ?_)
  obtain rfl : x_9 = 4 := e_9.trans (by decide)
  refine va_sld hx hb hX hbl hbA hS (by rw [hL]; exact vp_in_iff.mpr (by decide)) dL_law__3205 ?_
  refine W.eq (g2 := F0 m 3206 ls (.int (xs 4) :: .int (xs 3) :: .int (xs 2) :: .int (xs 1) :: .ref (a 0) :: [])) rfl ?_
  have hPc := hP.sub (ws' := [((a 0), .inr (12, zMo a zI0)), ((a 1), .inl (cI, 6792, .inl zI0))]) [0, 1] rfl
  have hDc := hD.sub (ws' := [((a 0), .inr (12, zMo a zI0)), ((a 1), .inl (cI, 6792, .inl zI0))]) [0, 1] (by decide) rfl
  have hKc := hK.sub (tys' := [(cI, .int)]) [2] rfl
  have hFc := va_free (wc := [((a 0), .inr (12, zMo a zI0)), ((a 1), .inl (cI, 6792, .inl zI0))]) hD hS hA [0, 1] rfl
  refine va_calli (va_runV (As := [.int (xs 1), .int (xs 2), .int (xs 3), .int (xs 4)]) (rest := []) ⟨hx, hb, hml, hown, ht⟩ (k_X12_fails l _ D a cI (xs 1) (xs 2) (xs 3) (xs 4)) (cwV 4 ht (zG_V zw_1094 zw_1095 zw_1096 zw_2 zw_1097) rfl rfl rfl (by decide +kernel) ⟨Nat.le_of_ble_eq_true rfl, Nat.le_of_ble_eq_true rfl⟩) (zM_V (va_recv hK hP (ci := 12) (q0 := 0) rfl rfl) hPc hKc hDc) rfl rfl hl.1 rfl (lv_room (Nat.le_of_ble_eq_true rfl)) dL_law__3206 ⟨Nat.le_of_ble_eq_true rfl, Nat.le_of_ble_eq_true rfl⟩) hS (fun q _ h => hFc q h) hFc (fun r_10 u_10 t H1 locs ht0 hvm hw_10 hB hz1 hk1 hS => ?_)
  obtain ⟨hP1, hK1, hD1⟩ := hB
  rw [ht0] at hP1
  have hK1 := va_K.moved hvm.symm hK1
  obtain ⟨hP, hD⟩ := va_join (wr := [(o, .inl (cL, 1, .inr (.inl g_5)))]) (w1 := [((a 0), .inr (12, zMo a u_10))]) hP hD [0, 1] [2] rfl rfl (by decide) (by decide) hk1 hFc hP1 hD1
  generalize H1 = H at hP hS ⊢
  have hP : va_P D vwCl [(o, .inl (cL, 1, .inr (.inl g_5))), ((a 0), .inr (12, zMo a u_10))] H := hP
  have hD : va_D A [(o, .inl (cL, 1, .inr (.inl g_5))), ((a 0), .inr (12, zMo a u_10))] := hD
  refine lv_istore (lv' := [(6, .int r_10), (5, .int r_5), (0, .ref b), (1, .ref (h 0)), (2, .ref (a 0)), (3, .ref o), (4, .int 0)]) hx hb dL_law__3209 hl (by decide) rfl (fun ls hl => ?_)
  refine lv_aload_n hx hb dL_law__3211 rfl (lv_at hl 4 rfl) ?_
  refine vp_callSi (va_runV (As := []) (rest := []) ⟨hx, hb, hml, hown, ht⟩ (k_X12_thrown l D a u_10) (cwV 0 ht (zG_V zw_779 zw_780 zw_781 zw_2 zw_782) rfl rfl rfl (by decide +kernel) ⟨Nat.le_of_ble_eq_true rfl, Nat.le_of_ble_eq_true rfl⟩) (zR_V (va_recv hK hP (ci := 12) (q0 := 1) rfl rfl) (hP.sub (ws' := [((a 0), .inr (12, zMo a u_10))]) [1] rfl) (hK.sub (tys' := []) [] rfl)) rfl rfl hl.1 rfl (lv_room (Nat.le_of_ble_eq_true rfl)) dL_law__3212 ⟨Nat.le_of_ble_eq_true rfl, Nat.le_of_ble_eq_true rfl⟩).run (fun r_11 hw_11 => ?_)
  refine lv_iload hx hb dL_law__3215 (lv_at hl 1 rfl) ?_
  refine lv_icmp_eq (tgt := 3222) hx hb dL_law__3217 (by decide) (fun c_12 => ?_) (fun c_12 => ?_)
  · skip
    simp only [fa_lt, fa_le, fa_eq, Int32.reduceToInt] at c_12
    refine lv_iload hx hb dL_law__3222 (lv_at hl 1 rfl) ?_
    refine lv_if_ne (tgt := 3239) hx hb dL_law__3224 (by decide) (fun c_13 => ?_) (fun c_13 => ?_)
    · skip
      simp only [fa_lt, fa_le, fa_eq, Int32.reduceToInt] at c_13
      refine lv_goto (tgt := 3433) hx hb dL_law__3239 (by decide) ?_
      refine W.widen (k := 2000) (n := 400000) (Nat.le_of_ble_eq_true rfl) (Nat.le_of_ble_eq_true rfl) ?_
      exact zlaw_end hx hb hml hr hown ht hlocks hX hbl hL hAe hS (lv_sub hl [2, 6] rfl)
    · skip
      simp only [fa_lt, fa_le, fa_eq, Int32.reduceToInt] at c_13
      refine lv_aload_n hx hb dL_law__3227 rfl (lv_at hl 5 rfl) ?_
      refine lv_iconst (v := 0) hx hb dL_law__3228 (by decide) ?_
      refine va_lald hx hb hK hP 0 1 rfl rfl (vp_in_iff.mpr (by decide)) dL_law__3229 ?_
      refine W.eq (g2 := F0 m 3230 ls (.long (g_5 0) :: [])) rfl ?_
      refine lv_iload hx hb dL_law__3230 (lv_at hl 0 rfl) ?_
      refine lv_i2l (v := (r_10).toInt64) hx hb dL_law__3232 rfl ?_
      refine W.lcmp hx hb dL_law__3233 ?_
      refine lv_if_eq (tgt := 3239) hx hb dL_law__3234 (by decide) (fun c_14 => ?_) (fun c_14 => ?_)
      · skip
        refine lv_goto (tgt := 3433) hx hb dL_law__3239 (by decide) ?_
        refine W.widen (k := 2000) (n := 400000) (Nat.le_of_ble_eq_true rfl) (Nat.le_of_ble_eq_true rfl) ?_
        exact zlaw_end hx hb hml hr hown ht hlocks hX hbl hL hAe hS (lv_sub hl [2, 6] rfl)
      · skip
        simp only [fa_lt, fa_le, fa_eq, Int32.reduceToInt] at c_14
        exfalso; exact c_14 (by rw [hg_5, ← (zF_fails hw_10 hw_5).2 ((zF_fails hw_10 hw_5).1.trans (Int32.toInt_inj.mp (show r_5.toInt = (0 : Int32).toInt by rw [c_13]; rfl)))]; rw [zcmp_self]; rfl)
  · skip
    simp only [fa_lt, fa_le, fa_eq, Int32.reduceToInt] at c_12
    exfalso; exact c_12 (by rw [hw_11, (zF_fails hw_10 hw_5).1])
set_option maxHeartbeats 4000000 in
set_option maxRecDepth 100000 in
theorem zcase_value {p : Program} {l : Launch} {e : Env} {s : State} {m : MethodId} {below : List Frame} {meth : Method} {c : Code} {b L : Nat} {xs : Nat → Int32} {A : Nat → Prop} (D : va_G) (h cs : Nat → Nat) (o : Nat) (cL : ClassId) (a : Nat → Nat) (cI : ClassId) (hx : p.tables.exec = Jvm.exec) (hb : c.code = code) (hml : c.maxLocals = 9) (hr : meth.sig.returnType = ret) (hown : s.vm.findClass RL = some m.cls) (ht : ∀ w ∈ zT, w.before #[Value.ref b] s = true) (hlocks : meth.locks = false) (hX : va_X b L xs s s.heap) (hbl : b < s.heap.size) (hL : L = 6) (hAe : ∀ q : Nat, A q ↔ s.heap.size ≤ q) (hl0 : l.stackTraces = false) (hEx : zEx A s) (hNc : zNc s) {H : Heap} {locs : List Loc} {ls : Array Slot} (hK : va_K D vwCl [((cs 9), .object RX9), (cL, .long), (cI, .int)] s) (hP : va_P D vwCl [((h 0), .inr (11, [.ref (h 1), .ref (h 9), .int 0, .int 0, .ref (h 20), .ref (h 37), .int 0, .ref (h 38), .ref (h 42), .ref (h 43), .ref (h 44), .ref (h 45), .ref (h 46), .ref (h 47), .ref (h 48)])), ((h 1), .inr (8, [.ref (h 2), .int 0, .ref (h 3), .ref (h 4), .int 0, .ref (h 5), .int 0, .ref (h 6), .int 0, .ref (h 7), .int 0])), ((h 3), .inl ((cs 9), 10, .inr (.inr (.inr (.inr (fun _ => none)))))), (o, .inl (cL, 1, .inr (.inl (fun _ => 0)))), ((a 0), .inr (12, zMo a zI0)), ((a 1), .inl (cI, 6792, .inl zI0))] H) (hD : va_D A [((h 0), .inr (11, [.ref (h 1), .ref (h 9), .int 0, .int 0, .ref (h 20), .ref (h 37), .int 0, .ref (h 38), .ref (h 42), .ref (h 43), .ref (h 44), .ref (h 45), .ref (h 46), .ref (h 47), .ref (h 48)])), ((h 1), .inr (8, [.ref (h 2), .int 0, .ref (h 3), .ref (h 4), .int 0, .ref (h 5), .int 0, .ref (h 6), .int 0, .ref (h 7), .int 0])), ((h 3), .inl ((cs 9), 10, .inr (.inr (.inr (.inr (fun _ => none)))))), (o, .inl (cL, 1, .inr (.inl (fun _ => 0)))), ((a 0), .inr (12, zMo a zI0)), ((a 1), .inl (cI, 6792, .inl zI0))]) (hS : va_S A s.heap H locs) (hl : lv_has ls 9 [(0, .ref b), (1, .ref (h 0)), (2, .ref (a 0)), (3, .ref o), (4, .int 0)]) : W p l e room_1 s m #[Value.ref b] below meth c H locs 1192 188302 (lw_Z below #[Value.ref b] s) (F0 m 3242 ls []) := by
  have hbA : ¬ A b := fun h => Nat.not_le.mpr hbl ((hAe b).mp h)
  have hA : ∀ q : Nat, s.heap.size ≤ q → A q := fun q h => (hAe q).mpr h
  refine lv_aload_n hx hb dL_law__3242 rfl (lv_at hl 1 rfl) ?_
  refine lv_aload_n hx hb dL_law__3243 rfl (lv_at hl 0 rfl) ?_
  refine lv_iload hx hb dL_law__3244 (lv_at hl 4 rfl) ?_
  refine lv_iconst (v := 1) hx hb dL_law__3246 (by decide) ?_
  refine lv_iadd hx hb dL_law__3247 ?_
  refine lv_topi (fun x_1 e_1 => ?_)
  obtain rfl : x_1 = 1 := e_1.trans (by decide)
  refine va_sld hx hb hX hbl hbA hS (by rw [hL]; exact vp_in_iff.mpr (by decide)) dL_law__3248 ?_
  refine W.eq (g2 := F0 m 3249 ls (.int (xs 1) :: .ref (h 0) :: [])) rfl ?_
  refine lv_aload_n hx hb dL_law__3249 rfl (lv_at hl 0 rfl) ?_
  refine lv_iload hx hb dL_law__3250 (lv_at hl 4 rfl) ?_
  refine lv_iconst (v := 2) hx hb dL_law__3252 (by decide) ?_
  refine lv_iadd hx hb dL_law__3253 ?_
  refine lv_topi (fun x_2 e_2 => ?_)
  obtain rfl : x_2 = 2 := e_2.trans (by decide)
  refine va_sld hx hb hX hbl hbA hS (by rw [hL]; exact vp_in_iff.mpr (by decide)) dL_law__3254 ?_
  refine W.eq (g2 := F0 m 3255 ls (.int (xs 2) :: .int (xs 1) :: .ref (h 0) :: [])) rfl ?_
  refine lv_aload_n hx hb dL_law__3255 rfl (lv_at hl 0 rfl) ?_
  refine lv_iload hx hb dL_law__3256 (lv_at hl 4 rfl) ?_
  refine lv_iconst (v := 3) hx hb dL_law__3258 (by decide) ?_
  refine lv_iadd hx hb dL_law__3259 ?_
  refine lv_topi (fun x_3 e_3 => ?_)
  obtain rfl : x_3 = 3 := e_3.trans (by decide)
  refine va_sld hx hb hX hbl hbA hS (by rw [hL]; exact vp_in_iff.mpr (by decide)) dL_law__3260 ?_
  refine W.eq (g2 := F0 m 3261 ls (.int (xs 3) :: .int (xs 2) :: .int (xs 1) :: .ref (h 0) :: [])) rfl ?_
  refine lv_aload_n hx hb dL_law__3261 rfl (lv_at hl 3 rfl) ?_
  have hPc := hP.sub (ws' := [((h 0), .inr (11, [.ref (h 1), .ref (h 9), .int 0, .int 0, .ref (h 20), .ref (h 37), .int 0, .ref (h 38), .ref (h 42), .ref (h 43), .ref (h 44), .ref (h 45), .ref (h 46), .ref (h 47), .ref (h 48)])), ((h 1), .inr (8, [.ref (h 2), .int 0, .ref (h 3), .ref (h 4), .int 0, .ref (h 5), .int 0, .ref (h 6), .int 0, .ref (h 7), .int 0])), ((h 3), .inl ((cs 9), 10, .inr (.inr (.inr (.inr (fun _ => none)))))), (o, .inl (cL, 1, .inr (.inl (fun _ => 0))))]) [0, 1, 2, 3] rfl
  have hDc := hD.sub (ws' := [((h 0), .inr (11, [.ref (h 1), .ref (h 9), .int 0, .int 0, .ref (h 20), .ref (h 37), .int 0, .ref (h 38), .ref (h 42), .ref (h 43), .ref (h 44), .ref (h 45), .ref (h 46), .ref (h 47), .ref (h 48)])), ((h 1), .inr (8, [.ref (h 2), .int 0, .ref (h 3), .ref (h 4), .int 0, .ref (h 5), .int 0, .ref (h 6), .int 0, .ref (h 7), .int 0])), ((h 3), .inl ((cs 9), 10, .inr (.inr (.inr (.inr (fun _ => none)))))), (o, .inl (cL, 1, .inr (.inl (fun _ => 0))))]) [0, 1, 2, 3] (by decide) rfl
  have hKc := hK.sub (tys' := [((cs 9), .object RX9), (cL, .long)]) [0, 1] rfl
  have hFc := va_free (wc := [((h 0), .inr (11, [.ref (h 1), .ref (h 9), .int 0, .int 0, .ref (h 20), .ref (h 37), .int 0, .ref (h 38), .ref (h 42), .ref (h 43), .ref (h 44), .ref (h 45), .ref (h 46), .ref (h 47), .ref (h 48)])), ((h 1), .inr (8, [.ref (h 2), .int 0, .ref (h 3), .ref (h 4), .int 0, .ref (h 5), .int 0, .ref (h 6), .int 0, .ref (h 7), .int 0])), ((h 3), .inl ((cs 9), 10, .inr (.inr (.inr (.inr (fun _ => none)))))), (o, .inl (cL, 1, .inr (.inl (fun _ => 0))))]) hD hS hA [0, 1, 2, 3] rfl
  refine va_calli (vx_runSW (As := [.ref (h 0), .int (xs 1), .int (xs 2), .int (xs 3), .ref o]) (rest := []) ⟨hx, hb, hml, hown, ht⟩ (k_L_value l hl0 _ D h cs (xs 1) (xs 2) (xs 3) o cL) (vx_cwSW 5 ht (zG_S zw_1098 zw_1099 zw_773 zw_1100) rfl rfl rfl (by decide +kernel) ⟨Nat.le_of_ble_eq_true rfl, Nat.le_of_ble_eq_true rfl⟩) (zY_S hNc hEx hS hFc hPc hKc hDc) rfl rfl hl.1 rfl (lv_room (Nat.le_of_ble_eq_true rfl)) dL_law__3262 ⟨Nat.le_of_ble_eq_true rfl, Nat.le_of_ble_eq_true rfl⟩) hS (fun q _ h => hFc q h) hFc (fun r_4 u_4 t H1 locs ht0 hvm hw_4 hB hz1 hk1 hS => ?_)
  obtain ⟨g_4, hg_4, hB⟩ := hB
  obtain ⟨hP1, hK1, hD1⟩ := hB
  rw [ht0] at hP1
  have hK1 := va_K.moved hvm.symm hK1
  obtain ⟨hP, hD⟩ := va_join (wr := [((a 0), .inr (12, zMo a zI0)), ((a 1), .inl (cI, 6792, .inl zI0))]) (w1 := [(o, .inl (cL, 1, .inr (.inl g_4)))]) hP hD [0, 1, 2, 3] [4, 5] rfl rfl (by decide) (by decide) hk1 hFc hP1 hD1
  generalize H1 = H at hP hS ⊢
  have hP : va_P D vwCl [((a 0), .inr (12, zMo a zI0)), ((a 1), .inl (cI, 6792, .inl zI0)), (o, .inl (cL, 1, .inr (.inl g_4)))] H := hP
  have hD : va_D A [((a 0), .inr (12, zMo a zI0)), ((a 1), .inl (cI, 6792, .inl zI0)), (o, .inl (cL, 1, .inr (.inl g_4)))] := hD
  refine W.widen (k := 1194) (n := 188314) (Nat.le_of_ble_eq_true rfl) (Nat.le_of_ble_eq_true rfl) ?_
  refine lv_istore (lv' := [(5, .int r_4), (0, .ref b), (1, .ref (h 0)), (2, .ref (a 0)), (3, .ref o), (4, .int 0)]) hx hb dL_law__3265 hl (by decide) rfl (fun ls hl => ?_)
  refine lv_aload_n hx hb dL_law__3267 rfl (lv_at hl 3 rfl) ?_
  refine lv_aload_n hx hb dL_law__3268 rfl (lv_at hl 1 rfl) ?_
  refine lv_iload hx hb dL_law__3269 (lv_at hl 5 rfl) ?_
  refine lv_iconst (v := 1) hx hb dL_law__3271 (by decide) ?_
  refine lv_iadd hx hb dL_law__3272 ?_
  refine lv_topi (fun x_5 e_5 => ?_)
  obtain rfl : x_5 = 1 := e_5.trans (by decide)
  refine va_sld hx hb hX hbl hbA hS (by rw [hL]; exact vp_in_iff.mpr (by decide)) dL_law__3273 ?_
  refine W.eq (g2 := F0 m 3274 ls (.int (xs 1) :: .ref (a 0) :: [])) rfl ?_
  refine lv_aload_n hx hb dL_law__3274 rfl (lv_at hl 1 rfl) ?_
  refine lv_iload hx hb dL_law__3275 (lv_at hl 5 rfl) ?_
  refine lv_iconst (v := 2) hx hb dL_law__3277 (by decide) ?_
  refine lv_iadd hx hb dL_law__3278 ?_
  refine lv_topi (fun x_6 e_6 => ?_)
  obtain rfl : x_6 = 2 := e_6.trans (by decide)
  refine va_sld hx hb hX hbl hbA hS (by rw [hL]; exact vp_in_iff.mpr (by decide)) dL_law__3279 ?_
  refine W.eq (g2 := F0 m 3280 ls (.int (xs 2) :: .int (xs 1) :: .ref (a 0) :: [])) rfl ?_
  refine lv_aload_n hx hb dL_law__3280 rfl (lv_at hl 1 rfl) ?_
  refine lv_iload hx hb dL_law__3281 (lv_at hl 5 rfl) ?_
  refine lv_iconst (v := 3) hx hb dL_law__3283 (by decide) ?_
  refine lv_iadd hx hb dL_law__3284 ?_
  refine lv_topi (fun x_7 e_7 => ?_)
  obtain rfl : x_7 = 3 := e_7.trans (by decide)
  refine va_sld hx hb hX hbl hbA hS (by rw [hL]; exact vp_in_iff.mpr (by decide)) dL_law__3285 ?_
  refine W.eq (g2 := F0 m 3286 ls (.int (xs 3) :: .int (xs 2) :: .int (xs 1) :: .ref (a 0) :: [])) rfl ?_
  have hPc := hP.sub (ws' := [((a 0), .inr (12, zMo a zI0)), ((a 1), .inl (cI, 6792, .inl zI0))]) [0, 1] rfl
  have hDc := hD.sub (ws' := [((a 0), .inr (12, zMo a zI0)), ((a 1), .inl (cI, 6792, .inl zI0))]) [0, 1] (by decide) rfl
  have hKc := hK.sub (tys' := [(cI, .int)]) [2] rfl
  have hFc := va_free (wc := [((a 0), .inr (12, zMo a zI0)), ((a 1), .inl (cI, 6792, .inl zI0))]) hD hS hA [0, 1] rfl
  refine va_calli (va_runV (As := [.int (xs 1), .int (xs 2), .int (xs 3)]) (rest := []) ⟨hx, hb, hml, hown, ht⟩ (k_X12_value l _ D a cI (xs 1) (xs 2) (xs 3)) (cwV 3 ht (zG_V zw_1101 zw_1102 zw_1103 zw_2 zw_1104) rfl rfl rfl (by decide +kernel) ⟨Nat.le_of_ble_eq_true rfl, Nat.le_of_ble_eq_true rfl⟩) (zM_V (va_recv hK hP (ci := 12) (q0 := 0) rfl rfl) hPc hKc hDc) rfl rfl hl.1 rfl (lv_room (Nat.le_of_ble_eq_true rfl)) dL_law__3286 ⟨Nat.le_of_ble_eq_true rfl, Nat.le_of_ble_eq_true rfl⟩) hS (fun q _ h => hFc q h) hFc (fun r_8 u_8 t H1 locs ht0 hvm hw_8 hB hz1 hk1 hS => ?_)
  obtain ⟨hP1, hK1, hD1⟩ := hB
  rw [ht0] at hP1
  have hK1 := va_K.moved hvm.symm hK1
  obtain ⟨hP, hD⟩ := va_join (wr := [(o, .inl (cL, 1, .inr (.inl g_4)))]) (w1 := [((a 0), .inr (12, zMo a u_8))]) hP hD [0, 1] [2] rfl rfl (by decide) (by decide) hk1 hFc hP1 hD1
  generalize H1 = H at hP hS ⊢
  have hP : va_P D vwCl [(o, .inl (cL, 1, .inr (.inl g_4))), ((a 0), .inr (12, zMo a u_8))] H := hP
  have hD : va_D A [(o, .inl (cL, 1, .inr (.inl g_4))), ((a 0), .inr (12, zMo a u_8))] := hD
  refine lv_istore (lv' := [(6, .int r_8), (5, .int r_4), (0, .ref b), (1, .ref (h 0)), (2, .ref (a 0)), (3, .ref o), (4, .int 0)]) hx hb dL_law__3289 hl (by decide) rfl (fun ls hl => ?_)
  refine lv_aload_n hx hb dL_law__3291 rfl (lv_at hl 4 rfl) ?_
  refine vp_callSi (va_runV (As := []) (rest := []) ⟨hx, hb, hml, hown, ht⟩ (k_X12_thrown l D a u_8) (cwV 0 ht (zG_V zw_779 zw_780 zw_781 zw_2 zw_782) rfl rfl rfl (by decide +kernel) ⟨Nat.le_of_ble_eq_true rfl, Nat.le_of_ble_eq_true rfl⟩) (zR_V (va_recv hK hP (ci := 12) (q0 := 1) rfl rfl) (hP.sub (ws' := [((a 0), .inr (12, zMo a u_8))]) [1] rfl) (hK.sub (tys' := []) [] rfl)) rfl rfl hl.1 rfl (lv_room (Nat.le_of_ble_eq_true rfl)) dL_law__3292 ⟨Nat.le_of_ble_eq_true rfl, Nat.le_of_ble_eq_true rfl⟩).run (fun r_9 hw_9 => ?_)
  refine lv_iload hx hb dL_law__3295 (lv_at hl 1 rfl) ?_
  refine lv_icmp_eq (tgt := 3302) hx hb dL_law__3297 (by decide) (fun c_10 => ?_) (fun c_10 => ?_)
  · skip
    simp only [fa_lt, fa_le, fa_eq, Int32.reduceToInt] at c_10
    refine lv_iload hx hb dL_law__3302 (lv_at hl 1 rfl) ?_
    refine lv_if_ne (tgt := 3319) hx hb dL_law__3304 (by decide) (fun c_11 => ?_) (fun c_11 => ?_)
    · skip
      simp only [fa_lt, fa_le, fa_eq, Int32.reduceToInt] at c_11
      refine lv_goto (tgt := 3433) hx hb dL_law__3319 (by decide) ?_
      refine W.widen (k := 2000) (n := 400000) (Nat.le_of_ble_eq_true rfl) (Nat.le_of_ble_eq_true rfl) ?_
      exact zlaw_end hx hb hml hr hown ht hlocks hX hbl hL hAe hS (lv_sub hl [2, 6] rfl)
    · skip
      simp only [fa_lt, fa_le, fa_eq, Int32.reduceToInt] at c_11
      refine lv_aload_n hx hb dL_law__3307 rfl (lv_at hl 5 rfl) ?_
      refine lv_iconst (v := 0) hx hb dL_law__3308 (by decide) ?_
      refine va_lald hx hb hK hP 0 1 rfl rfl (vp_in_iff.mpr (by decide)) dL_law__3309 ?_
      refine W.eq (g2 := F0 m 3310 ls (.long (g_4 0) :: [])) rfl ?_
      refine lv_iload hx hb dL_law__3310 (lv_at hl 0 rfl) ?_
      refine lv_i2l (v := (r_8).toInt64) hx hb dL_law__3312 rfl ?_
      refine W.lcmp hx hb dL_law__3313 ?_
      refine lv_if_eq (tgt := 3319) hx hb dL_law__3314 (by decide) (fun c_12 => ?_) (fun c_12 => ?_)
      · skip
        refine lv_goto (tgt := 3433) hx hb dL_law__3319 (by decide) ?_
        refine W.widen (k := 2000) (n := 400000) (Nat.le_of_ble_eq_true rfl) (Nat.le_of_ble_eq_true rfl) ?_
        exact zlaw_end hx hb hml hr hown ht hlocks hX hbl hL hAe hS (lv_sub hl [2, 6] rfl)
      · skip
        simp only [fa_lt, fa_le, fa_eq, Int32.reduceToInt] at c_12
        exfalso; exact c_12 (by rw [hg_4, ← (zF_value hw_8 hw_4).2 ((zF_value hw_8 hw_4).1.trans (Int32.toInt_inj.mp (show r_4.toInt = (0 : Int32).toInt by rw [c_11]; rfl)))]; rw [zcmp_self]; rfl)
  · skip
    simp only [fa_lt, fa_le, fa_eq, Int32.reduceToInt] at c_10
    exfalso; exact c_10 (by rw [hw_9, (zF_value hw_8 hw_4).1])
set_option maxHeartbeats 4000000 in
set_option maxRecDepth 100000 in
theorem zcase_checksum {p : Program} {l : Launch} {e : Env} {s : State} {m : MethodId} {below : List Frame} {meth : Method} {c : Code} {b L : Nat} {xs : Nat → Int32} {A : Nat → Prop} (D : va_G) (h cs : Nat → Nat) (a : Nat → Nat) (cI : ClassId) (o : Nat) (hx : p.tables.exec = Jvm.exec) (hb : c.code = code) (hml : c.maxLocals = 9) (hr : meth.sig.returnType = ret) (hown : s.vm.findClass RL = some m.cls) (ht : ∀ w ∈ zT, w.before #[Value.ref b] s = true) (hlocks : meth.locks = false) (hX : va_X b L xs s s.heap) (hbl : b < s.heap.size) (hL : L = 6) (hAe : ∀ q : Nat, A q ↔ s.heap.size ≤ q) (hl0 : l.stackTraces = false) (hEx : zEx A s) (hNc : zNc s) {H : Heap} {locs : List Loc} {ls : Array Slot} (hK : va_K D vwCl [((cs 4), .object RX4), (cI, .int)] s) (hP : va_P D vwCl [((h 0), .inr (11, [.ref (h 1), .ref (h 9), .int 0, .int 0, .ref (h 20), .ref (h 37), .int 0, .ref (h 38), .ref (h 42), .ref (h 43), .ref (h 44), .ref (h 45), .ref (h 46), .ref (h 47), .ref (h 48)])), ((h 1), .inr (8, [.ref (h 2), .int 0, .ref (h 3), .ref (h 4), .int 0, .ref (h 5), .int 0, .ref (h 6), .int 0, .ref (h 7), .int 0])), ((h 4), .inl ((cs 4), 100, .inr (.inr (.inr (.inr (fun _ => none)))))), ((a 0), .inr (12, zMo a zI0)), ((a 1), .inl (cI, 6792, .inl zI0))] H) (hD : va_D A [((h 0), .inr (11, [.ref (h 1), .ref (h 9), .int 0, .int 0, .ref (h 20), .ref (h 37), .int 0, .ref (h 38), .ref (h 42), .ref (h 43), .ref (h 44), .ref (h 45), .ref (h 46), .ref (h 47), .ref (h 48)])), ((h 1), .inr (8, [.ref (h 2), .int 0, .ref (h 3), .ref (h 4), .int 0, .ref (h 5), .int 0, .ref (h 6), .int 0, .ref (h 7), .int 0])), ((h 4), .inl ((cs 4), 100, .inr (.inr (.inr (.inr (fun _ => none)))))), ((a 0), .inr (12, zMo a zI0)), ((a 1), .inl (cI, 6792, .inl zI0))]) (hS : va_S A s.heap H locs) (hl : lv_has ls 9 [(0, .ref b), (1, .ref (h 0)), (2, .ref (a 0)), (3, .ref o), (4, .int 0)]) : W p l e room_1 s m #[Value.ref b] below meth c H locs 1192 188302 (lw_Z below #[Value.ref b] s) (F0 m 3406 ls []) := by
  have hbA : ¬ A b := fun h => Nat.not_le.mpr hbl ((hAe b).mp h)
  have hA : ∀ q : Nat, s.heap.size ≤ q → A q := fun q h => (hAe q).mpr h
  refine lv_aload_n hx hb dL_law__3406 rfl (lv_at hl 1 rfl) ?_
  have hPc := hP.sub (ws' := [((h 0), .inr (11, [.ref (h 1), .ref (h 9), .int 0, .int 0, .ref (h 20), .ref (h 37), .int 0, .ref (h 38), .ref (h 42), .ref (h 43), .ref (h 44), .ref (h 45), .ref (h 46), .ref (h 47), .ref (h 48)])), ((h 1), .inr (8, [.ref (h 2), .int 0, .ref (h 3), .ref (h 4), .int 0, .ref (h 5), .int 0, .ref (h 6), .int 0, .ref (h 7), .int 0])), ((h 4), .inl ((cs 4), 100, .inr (.inr (.inr (.inr (fun _ => none))))))]) [0, 1, 2] rfl
  have hDc := hD.sub (ws' := [((h 0), .inr (11, [.ref (h 1), .ref (h 9), .int 0, .int 0, .ref (h 20), .ref (h 37), .int 0, .ref (h 38), .ref (h 42), .ref (h 43), .ref (h 44), .ref (h 45), .ref (h 46), .ref (h 47), .ref (h 48)])), ((h 1), .inr (8, [.ref (h 2), .int 0, .ref (h 3), .ref (h 4), .int 0, .ref (h 5), .int 0, .ref (h 6), .int 0, .ref (h 7), .int 0])), ((h 4), .inl ((cs 4), 100, .inr (.inr (.inr (.inr (fun _ => none))))))]) [0, 1, 2] (by decide) rfl
  have hKc := hK.sub (tys' := [((cs 4), .object RX4)]) [0] rfl
  have hFc := va_free (wc := [((h 0), .inr (11, [.ref (h 1), .ref (h 9), .int 0, .int 0, .ref (h 20), .ref (h 37), .int 0, .ref (h 38), .ref (h 42), .ref (h 43), .ref (h 44), .ref (h 45), .ref (h 46), .ref (h 47), .ref (h 48)])), ((h 1), .inr (8, [.ref (h 2), .int 0, .ref (h 3), .ref (h 4), .int 0, .ref (h 5), .int 0, .ref (h 6), .int 0, .ref (h 7), .int 0])), ((h 4), .inl ((cs 4), 100, .inr (.inr (.inr (.inr (fun _ => none))))))]) hD hS hA [0, 1, 2] rfl
  refine va_calll (va_runV (As := []) (rest := []) ⟨hx, hb, hml, hown, ht⟩ (k_X11_checksum l _ D h cs) (cwV 0 ht (zG_V zw_1105 zw_1106 zw_1107 zw_404 zw_1108) rfl rfl rfl (by decide +kernel) ⟨Nat.le_of_ble_eq_true rfl, Nat.le_of_ble_eq_true rfl⟩) (zM_V (va_recv hK hP (ci := 11) (q0 := 0) rfl rfl) hPc hKc hDc) rfl rfl hl.1 rfl (lv_room (Nat.le_of_ble_eq_true rfl)) dL_law__3407 ⟨Nat.le_of_ble_eq_true rfl, Nat.le_of_ble_eq_true rfl⟩) hS (fun q _ h => hFc q h) hFc (fun r_1 u_1 t H1 locs ht0 hvm hw_1 hB hz1 hk1 hS => ?_)
  obtain ⟨hP1, hK1, hD1⟩ := hB
  rw [ht0] at hP1
  have hK1 := va_K.moved hvm.symm hK1
  obtain ⟨hP, hD⟩ := va_join (wr := [((a 0), .inr (12, zMo a zI0)), ((a 1), .inl (cI, 6792, .inl zI0))]) (w1 := []) hP hD [0, 1, 2] [3, 4] rfl rfl (by decide) (by decide) hk1 hFc hP1 hD1
  generalize H1 = H at hP hS ⊢
  have hP : va_P D vwCl [((a 0), .inr (12, zMo a zI0)), ((a 1), .inl (cI, 6792, .inl zI0))] H := hP
  have hD : va_D A [((a 0), .inr (12, zMo a zI0)), ((a 1), .inl (cI, 6792, .inl zI0))] := hD
  obtain rfl : r_1 = 7 := hw_1
  refine lv_aload_n hx hb dL_law__3410 rfl (lv_at hl 2 rfl) ?_
  have hPc := hP.sub (ws' := [((a 0), .inr (12, zMo a zI0)), ((a 1), .inl (cI, 6792, .inl zI0))]) [0, 1] rfl
  have hDc := hD.sub (ws' := [((a 0), .inr (12, zMo a zI0)), ((a 1), .inl (cI, 6792, .inl zI0))]) [0, 1] (by decide) rfl
  have hKc := hK.sub (tys' := [(cI, .int)]) [1] rfl
  have hFc := va_free (wc := [((a 0), .inr (12, zMo a zI0)), ((a 1), .inl (cI, 6792, .inl zI0))]) hD hS hA [0, 1] rfl
  refine va_calll (va_runV (As := []) (rest := [.long 7]) ⟨hx, hb, hml, hown, ht⟩ (k_X12_checksum l _ D a cI) (cwV 0 ht (zG_V zw_1109 zw_1110 zw_1111 zw_2 zw_1112) rfl rfl rfl (by decide +kernel) ⟨Nat.le_of_ble_eq_true rfl, Nat.le_of_ble_eq_true rfl⟩) (zM_V (va_recv hK hP (ci := 12) (q0 := 0) rfl rfl) hPc hKc hDc) rfl rfl hl.1 rfl (lv_room (Nat.le_of_ble_eq_true rfl)) dL_law__3411 ⟨Nat.le_of_ble_eq_true rfl, Nat.le_of_ble_eq_true rfl⟩) hS (fun q _ h => hFc q h) hFc (fun r_2 u_2 t H1 locs ht0 hvm hw_2 hB hz1 hk1 hS => ?_)
  obtain ⟨hP1, hK1, hD1⟩ := hB
  rw [ht0] at hP1
  have hK1 := va_K.moved hvm.symm hK1
  obtain ⟨hP, hD⟩ := va_join (wr := []) (w1 := []) hP hD [0, 1] [] rfl rfl (by decide) (by decide) hk1 hFc hP1 hD1
  generalize H1 = H at hP hS ⊢
  have hP : va_P D vwCl [] H := hP
  have hD : va_D A [] := hD
  obtain rfl : r_2 = 7 := hw_2
  refine W.lcmp hx hb dL_law__3414 ?_
  refine W.eq (g2 := F0 m 3415 ls (.int 0 :: [])) (by rw [zcmp_self]) ?_
  refine lv_if_eq (tgt := 3433) hx hb dL_law__3415 (by decide) (fun c_3 => ?_) (fun c_3 => ?_)
  · skip
    refine W.widen (k := 2000) (n := 400000) (Nat.le_of_ble_eq_true rfl) (Nat.le_of_ble_eq_true rfl) ?_
    exact zlaw_end hx hb hml hr hown ht hlocks hX hbl hL hAe hS (lv_sub hl [0, 4] rfl)
  · skip
    exact absurd c_3 (by decide)
set_option maxHeartbeats 4000000 in
set_option maxRecDepth 100000 in
theorem zcase_errors {p : Program} {l : Launch} {e : Env} {s : State} {m : MethodId} {below : List Frame} {meth : Method} {c : Code} {b L : Nat} {xs : Nat → Int32} {A : Nat → Prop} (D : va_G) (h cs : Nat → Nat) (fn : Nat → Option Nat) (hn : ∀ k : Nat, k < 4 → fn k = some (h 8)) (a : Nat → Nat) (cI : ClassId) (o : Nat) (hx : p.tables.exec = Jvm.exec) (hb : c.code = code) (hml : c.maxLocals = 9) (hr : meth.sig.returnType = ret) (hown : s.vm.findClass RL = some m.cls) (ht : ∀ w ∈ zT, w.before #[Value.ref b] s = true) (hlocks : meth.locks = false) (hX : va_X b L xs s s.heap) (hbl : b < s.heap.size) (hL : L = 6) (hAe : ∀ q : Nat, A q ↔ s.heap.size ≤ q) (hl0 : l.stackTraces = false) (hEx : zEx A s) (hNc : zNc s) {H : Heap} {locs : List Loc} {ls : Array Slot} (hK : va_K D vwCl [((cs 4), .object RX4), ((cs 13), .int), ((cs 0), .object RX0), (cI, .int)] s) (hP : va_P D vwCl [((h 0), .inr (11, [.ref (h 1), .ref (h 9), .int 0, .int 0, .ref (h 20), .ref (h 37), .int 0, .ref (h 38), .ref (h 42), .ref (h 43), .ref (h 44), .ref (h 45), .ref (h 46), .ref (h 47), .ref (h 48)])), ((h 1), .inr (8, [.ref (h 2), .int 0, .ref (h 3), .ref (h 4), .int 0, .ref (h 5), .int 0, .ref (h 6), .int 0, .ref (h 7), .int 0])), ((h 4), .inl ((cs 4), 100, .inr (.inr (.inr (.inr (fun _ => none)))))), ((h 7), .inl ((cs 0), 4, .inr (.inr (.inr (.inr fn))))), ((h 8), .inr (0, [.ref (h 102), .ref (h 103), .int 0])), ((h 46), .inr (1, [.ref (h 84), .ref (h 85), .ref (h 86), .ref (h 87), .int 0, .int 0, .int (-1), .int 0, .int (-1), .int (-1), .int 0])), ((h 48), .inr (5, [.ref (h 49), .ref (h 50), .ref (h 88), .ref (h 89), .ref (h 90), .int (-1), .int 1, .null, .null, .int 0])), ((h 49), .inl ((cs 13), 2048, .inl zI0)), ((h 50), .inl ((cs 13), 2048, .inl zI0)), ((a 0), .inr (12, zMo a zI0)), ((a 1), .inl (cI, 6792, .inl zI0))] H) (hD : va_D A [((h 0), .inr (11, [.ref (h 1), .ref (h 9), .int 0, .int 0, .ref (h 20), .ref (h 37), .int 0, .ref (h 38), .ref (h 42), .ref (h 43), .ref (h 44), .ref (h 45), .ref (h 46), .ref (h 47), .ref (h 48)])), ((h 1), .inr (8, [.ref (h 2), .int 0, .ref (h 3), .ref (h 4), .int 0, .ref (h 5), .int 0, .ref (h 6), .int 0, .ref (h 7), .int 0])), ((h 4), .inl ((cs 4), 100, .inr (.inr (.inr (.inr (fun _ => none)))))), ((h 7), .inl ((cs 0), 4, .inr (.inr (.inr (.inr fn))))), ((h 8), .inr (0, [.ref (h 102), .ref (h 103), .int 0])), ((h 46), .inr (1, [.ref (h 84), .ref (h 85), .ref (h 86), .ref (h 87), .int 0, .int 0, .int (-1), .int 0, .int (-1), .int (-1), .int 0])), ((h 48), .inr (5, [.ref (h 49), .ref (h 50), .ref (h 88), .ref (h 89), .ref (h 90), .int (-1), .int 1, .null, .null, .int 0])), ((h 49), .inl ((cs 13), 2048, .inl zI0)), ((h 50), .inl ((cs 13), 2048, .inl zI0)), ((a 0), .inr (12, zMo a zI0)), ((a 1), .inl (cI, 6792, .inl zI0))]) (hS : va_S A s.heap H locs) (hl : lv_has ls 9 [(0, .ref b), (1, .ref (h 0)), (2, .ref (a 0)), (3, .ref o), (4, .int 0)]) : W p l e room_1 s m #[Value.ref b] below meth c H locs 1192 188302 (lw_Z below #[Value.ref b] s) (F0 m 3420 ls []) := by
  have hbA : ¬ A b := fun h => Nat.not_le.mpr hbl ((hAe b).mp h)
  have hA : ∀ q : Nat, s.heap.size ≤ q → A q := fun q h => (hAe q).mpr h
  refine lv_aload_n hx hb dL_law__3420 rfl (lv_at hl 1 rfl) ?_
  have hPc := hP.sub (ws' := [((h 0), .inr (11, [.ref (h 1), .ref (h 9), .int 0, .int 0, .ref (h 20), .ref (h 37), .int 0, .ref (h 38), .ref (h 42), .ref (h 43), .ref (h 44), .ref (h 45), .ref (h 46), .ref (h 47), .ref (h 48)])), ((h 1), .inr (8, [.ref (h 2), .int 0, .ref (h 3), .ref (h 4), .int 0, .ref (h 5), .int 0, .ref (h 6), .int 0, .ref (h 7), .int 0])), ((h 4), .inl ((cs 4), 100, .inr (.inr (.inr (.inr (fun _ => none)))))), ((h 7), .inl ((cs 0), 4, .inr (.inr (.inr (.inr fn))))), ((h 8), .inr (0, [.ref (h 102), .ref (h 103), .int 0])), ((h 46), .inr (1, [.ref (h 84), .ref (h 85), .ref (h 86), .ref (h 87), .int 0, .int 0, .int (-1), .int 0, .int (-1), .int (-1), .int 0])), ((h 48), .inr (5, [.ref (h 49), .ref (h 50), .ref (h 88), .ref (h 89), .ref (h 90), .int (-1), .int 1, .null, .null, .int 0])), ((h 49), .inl ((cs 13), 2048, .inl zI0)), ((h 50), .inl ((cs 13), 2048, .inl zI0))]) [0, 1, 2, 3, 4, 5, 6, 7, 8] rfl
  have hDc := hD.sub (ws' := [((h 0), .inr (11, [.ref (h 1), .ref (h 9), .int 0, .int 0, .ref (h 20), .ref (h 37), .int 0, .ref (h 38), .ref (h 42), .ref (h 43), .ref (h 44), .ref (h 45), .ref (h 46), .ref (h 47), .ref (h 48)])), ((h 1), .inr (8, [.ref (h 2), .int 0, .ref (h 3), .ref (h 4), .int 0, .ref (h 5), .int 0, .ref (h 6), .int 0, .ref (h 7), .int 0])), ((h 4), .inl ((cs 4), 100, .inr (.inr (.inr (.inr (fun _ => none)))))), ((h 7), .inl ((cs 0), 4, .inr (.inr (.inr (.inr fn))))), ((h 8), .inr (0, [.ref (h 102), .ref (h 103), .int 0])), ((h 46), .inr (1, [.ref (h 84), .ref (h 85), .ref (h 86), .ref (h 87), .int 0, .int 0, .int (-1), .int 0, .int (-1), .int (-1), .int 0])), ((h 48), .inr (5, [.ref (h 49), .ref (h 50), .ref (h 88), .ref (h 89), .ref (h 90), .int (-1), .int 1, .null, .null, .int 0])), ((h 49), .inl ((cs 13), 2048, .inl zI0)), ((h 50), .inl ((cs 13), 2048, .inl zI0))]) [0, 1, 2, 3, 4, 5, 6, 7, 8] (by decide) rfl
  have hKc := hK.sub (tys' := [((cs 4), .object RX4), ((cs 13), .int), ((cs 0), .object RX0)]) [0, 1, 2] rfl
  have hFc := va_free (wc := [((h 0), .inr (11, [.ref (h 1), .ref (h 9), .int 0, .int 0, .ref (h 20), .ref (h 37), .int 0, .ref (h 38), .ref (h 42), .ref (h 43), .ref (h 44), .ref (h 45), .ref (h 46), .ref (h 47), .ref (h 48)])), ((h 1), .inr (8, [.ref (h 2), .int 0, .ref (h 3), .ref (h 4), .int 0, .ref (h 5), .int 0, .ref (h 6), .int 0, .ref (h 7), .int 0])), ((h 4), .inl ((cs 4), 100, .inr (.inr (.inr (.inr (fun _ => none)))))), ((h 7), .inl ((cs 0), 4, .inr (.inr (.inr (.inr fn))))), ((h 8), .inr (0, [.ref (h 102), .ref (h 103), .int 0])), ((h 46), .inr (1, [.ref (h 84), .ref (h 85), .ref (h 86), .ref (h 87), .int 0, .int 0, .int (-1), .int 0, .int (-1), .int (-1), .int 0])), ((h 48), .inr (5, [.ref (h 49), .ref (h 50), .ref (h 88), .ref (h 89), .ref (h 90), .int (-1), .int 1, .null, .null, .int 0])), ((h 49), .inl ((cs 13), 2048, .inl zI0)), ((h 50), .inl ((cs 13), 2048, .inl zI0))]) hD hS hA [0, 1, 2, 3, 4, 5, 6, 7, 8] rfl
  refine va_calli (va_runV (As := []) (rest := []) ⟨hx, hb, hml, hown, ht⟩ (k_X11_errors l _ D h cs fn hn) (cwV 0 ht (zG_V zw_1113 zw_1114 zw_1115 zw_404 zw_1116) rfl rfl rfl (by decide +kernel) ⟨Nat.le_of_ble_eq_true rfl, Nat.le_of_ble_eq_true rfl⟩) (zM_V (va_recv hK hP (ci := 11) (q0 := 0) rfl rfl) hPc hKc hDc) rfl rfl hl.1 rfl (lv_room (Nat.le_of_ble_eq_true rfl)) dL_law__3421 ⟨Nat.le_of_ble_eq_true rfl, Nat.le_of_ble_eq_true rfl⟩) hS (fun q _ h => hFc q h) hFc (fun r_1 u_1 t H1 locs ht0 hvm hw_1 hB hz1 hk1 hS => ?_)
  obtain ⟨hP1, hK1, hD1⟩ := hB
  rw [ht0] at hP1
  have hK1 := va_K.moved hvm.symm hK1
  obtain ⟨hP, hD⟩ := va_join (wr := [((a 0), .inr (12, zMo a zI0)), ((a 1), .inl (cI, 6792, .inl zI0))]) (w1 := []) hP hD [0, 1, 2, 3, 4, 5, 6, 7, 8] [9, 10] rfl rfl (by decide) (by decide) hk1 hFc hP1 hD1
  generalize H1 = H at hP hS ⊢
  have hP : va_P D vwCl [((a 0), .inr (12, zMo a zI0)), ((a 1), .inl (cI, 6792, .inl zI0))] H := hP
  have hD : va_D A [((a 0), .inr (12, zMo a zI0)), ((a 1), .inl (cI, 6792, .inl zI0))] := hD
  obtain rfl : r_1 = 0 := hw_1
  refine lv_aload_n hx hb dL_law__3424 rfl (lv_at hl 2 rfl) ?_
  have hPc := hP.sub (ws' := [((a 0), .inr (12, zMo a zI0)), ((a 1), .inl (cI, 6792, .inl zI0))]) [0, 1] rfl
  have hDc := hD.sub (ws' := [((a 0), .inr (12, zMo a zI0)), ((a 1), .inl (cI, 6792, .inl zI0))]) [0, 1] (by decide) rfl
  have hKc := hK.sub (tys' := [(cI, .int)]) [3] rfl
  have hFc := va_free (wc := [((a 0), .inr (12, zMo a zI0)), ((a 1), .inl (cI, 6792, .inl zI0))]) hD hS hA [0, 1] rfl
  refine va_calli (va_runV (As := []) (rest := [.int 0]) ⟨hx, hb, hml, hown, ht⟩ (k_X12_errors l _ D a cI) (cwV 0 ht (zG_V zw_1117 zw_1118 zw_1119 zw_2 zw_1120) rfl rfl rfl (by decide +kernel) ⟨Nat.le_of_ble_eq_true rfl, Nat.le_of_ble_eq_true rfl⟩) (zM_V (va_recv hK hP (ci := 12) (q0 := 0) rfl rfl) hPc hKc hDc) rfl rfl hl.1 rfl (lv_room (Nat.le_of_ble_eq_true rfl)) dL_law__3425 ⟨Nat.le_of_ble_eq_true rfl, Nat.le_of_ble_eq_true rfl⟩) hS (fun q _ h => hFc q h) hFc (fun r_2 u_2 t H1 locs ht0 hvm hw_2 hB hz1 hk1 hS => ?_)
  obtain ⟨hP1, hK1, hD1⟩ := hB
  rw [ht0] at hP1
  have hK1 := va_K.moved hvm.symm hK1
  obtain ⟨hP, hD⟩ := va_join (wr := []) (w1 := []) hP hD [0, 1] [] rfl rfl (by decide) (by decide) hk1 hFc hP1 hD1
  generalize H1 = H at hP hS ⊢
  have hP : va_P D vwCl [] H := hP
  have hD : va_D A [] := hD
  refine W.widen (k := 1195) (n := 188330) (Nat.le_of_ble_eq_true rfl) (Nat.le_of_ble_eq_true rfl) ?_
  obtain rfl : r_2 = 0 := hw_2
  refine lv_icmp_eq (tgt := 3433) hx hb dL_law__3428 (by decide) (fun c_3 => ?_) (fun c_3 => ?_)
  · skip
    refine W.widen (k := 2000) (n := 400000) (Nat.le_of_ble_eq_true rfl) (Nat.le_of_ble_eq_true rfl) ?_
    exact zlaw_end hx hb hml hr hown ht hlocks hX hbl hL hAe hS (lv_sub hl [0, 4] rfl)
  · skip
    exact absurd c_3 (by decide)
