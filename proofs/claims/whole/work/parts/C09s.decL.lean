/-! THE LAW, DECODED -/
theorem dL_law_3119 : decode cL_law 3119 = .ok (.iload 5, 2) := by decide +kernel
theorem dL_law_3121 : decode cL_law 3121 = .ok (.iconst 2, 1) := by decide +kernel
theorem dL_law_3122 : decode cL_law 3122 = .ok (.iadd, 1) := by decide +kernel
theorem dL_law_3123 : decode cL_law 3123 = .ok (.iaload, 1) := by decide +kernel
theorem dL_law_3124 : decode cL_law 3124 = .ok (.ifCond .eq 7, 3) := by decide +kernel
theorem dL_law_3127 : decode cL_law 3127 = .ok (.iconst 1, 1) := by decide +kernel
theorem dL_law_3128 : decode cL_law 3128 = .ok (.goto 4, 3) := by decide +kernel
theorem dL_law_3131 : decode cL_law 3131 = .ok (.iconst 0, 1) := by decide +kernel
theorem dL_law_3132 : decode cL_law 3132 = .ok (.invokevirtual 371, 3) := by decide +kernel
theorem dL_law_3135 : decode cL_law 3135 = .ok (.istore 7, 2) := by decide +kernel
theorem dL_law_3137 : decode cL_law 3137 = .ok (.aload_n 2, 1) := by decide +kernel
theorem dL_law_3138 : decode cL_law 3138 = .ok (.invokevirtual 191, 3) := by decide +kernel
theorem dL_law_3141 : decode cL_law 3141 = .ok (.iload 6, 2) := by decide +kernel
theorem dL_law_3143 : decode cL_law 3143 = .ok (.if_icmp .eq 5, 3) := by decide +kernel
theorem dL_law_3146 : decode cL_law 3146 = .ok (.iconst 0, 1) := by decide +kernel
theorem dL_law_3147 : decode cL_law 3147 = .ok (.ireturn, 1) := by decide +kernel
theorem dL_law_3148 : decode cL_law 3148 = .ok (.iload 6, 2) := by decide +kernel
theorem dL_law_3150 : decode cL_law 3150 = .ok (.ifCond .ne 22, 3) := by decide +kernel
theorem dL_law_3153 : decode cL_law 3153 = .ok (.aload_n 3, 1) := by decide +kernel
theorem dL_law_3154 : decode cL_law 3154 = .ok (.iconst 0, 1) := by decide +kernel
theorem dL_law_3155 : decode cL_law 3155 = .ok (.laload, 1) := by decide +kernel
theorem dL_law_3156 : decode cL_law 3156 = .ok (.iload 7, 2) := by decide +kernel
theorem dL_law_3158 : decode cL_law 3158 = .ok (.ifCond .eq 7, 3) := by decide +kernel
theorem dL_law_3161 : decode cL_law 3161 = .ok (.lconst 1, 1) := by decide +kernel
theorem dL_law_3162 : decode cL_law 3162 = .ok (.goto 4, 3) := by decide +kernel
theorem dL_law_3165 : decode cL_law 3165 = .ok (.lconst 0, 1) := by decide +kernel
theorem dL_law_3166 : decode cL_law 3166 = .ok (.lcmp, 1) := by decide +kernel
theorem dL_law_3167 : decode cL_law 3167 = .ok (.ifCond .eq 5, 3) := by decide +kernel
theorem dL_law_3170 : decode cL_law 3170 = .ok (.iconst 0, 1) := by decide +kernel
theorem dL_law_3171 : decode cL_law 3171 = .ok (.ireturn, 1) := by decide +kernel
theorem dL_law_3172 : decode cL_law 3172 = .ok (.goto 439, 3) := by decide +kernel
theorem dL_law_3175 : decode cL_law 3175 = .ok (.aload_n 1, 1) := by decide +kernel
theorem dL_law_3176 : decode cL_law 3176 = .ok (.aload_n 0, 1) := by decide +kernel
theorem dL_law_3177 : decode cL_law 3177 = .ok (.iload 5, 2) := by decide +kernel
theorem dL_law_3179 : decode cL_law 3179 = .ok (.iconst 1, 1) := by decide +kernel
theorem dL_law_3180 : decode cL_law 3180 = .ok (.iadd, 1) := by decide +kernel
theorem dL_law_3181 : decode cL_law 3181 = .ok (.iaload, 1) := by decide +kernel
theorem dL_law_3182 : decode cL_law 3182 = .ok (.aload_n 3, 1) := by decide +kernel
theorem dL_law_3183 : decode cL_law 3183 = .ok (.invokestatic 372, 3) := by decide +kernel
theorem dL_law_3186 : decode cL_law 3186 = .ok (.istore 6, 2) := by decide +kernel
theorem dL_law_3188 : decode cL_law 3188 = .ok (.aload_n 2, 1) := by decide +kernel
theorem dL_law_3189 : decode cL_law 3189 = .ok (.aload_n 0, 1) := by decide +kernel
theorem dL_law_3190 : decode cL_law 3190 = .ok (.iload 5, 2) := by decide +kernel
theorem dL_law_3192 : decode cL_law 3192 = .ok (.iconst 1, 1) := by decide +kernel
theorem dL_law_3193 : decode cL_law 3193 = .ok (.iadd, 1) := by decide +kernel
theorem dL_law_3194 : decode cL_law 3194 = .ok (.iaload, 1) := by decide +kernel
theorem dL_law_3195 : decode cL_law 3195 = .ok (.invokevirtual 374, 3) := by decide +kernel
theorem dL_law_3198 : decode cL_law 3198 = .ok (.istore 7, 2) := by decide +kernel
theorem dL_law_3200 : decode cL_law 3200 = .ok (.aload_n 2, 1) := by decide +kernel
theorem dL_law_3201 : decode cL_law 3201 = .ok (.invokevirtual 191, 3) := by decide +kernel
theorem dL_law_3204 : decode cL_law 3204 = .ok (.iload 6, 2) := by decide +kernel
theorem dL_law_3206 : decode cL_law 3206 = .ok (.if_icmp .eq 5, 3) := by decide +kernel
theorem dL_law_3209 : decode cL_law 3209 = .ok (.iconst 0, 1) := by decide +kernel
theorem dL_law_3210 : decode cL_law 3210 = .ok (.ireturn, 1) := by decide +kernel
theorem dL_law_3211 : decode cL_law 3211 = .ok (.iload 6, 2) := by decide +kernel
theorem dL_law_3213 : decode cL_law 3213 = .ok (.ifCond .ne 15, 3) := by decide +kernel
theorem dL_law_3216 : decode cL_law 3216 = .ok (.aload_n 3, 1) := by decide +kernel
theorem dL_law_3217 : decode cL_law 3217 = .ok (.iconst 0, 1) := by decide +kernel
theorem dL_law_3218 : decode cL_law 3218 = .ok (.laload, 1) := by decide +kernel
theorem dL_law_3219 : decode cL_law 3219 = .ok (.iload 7, 2) := by decide +kernel
theorem dL_law_3221 : decode cL_law 3221 = .ok (.i2l, 1) := by decide +kernel
theorem dL_law_3222 : decode cL_law 3222 = .ok (.lcmp, 1) := by decide +kernel
theorem dL_law_3223 : decode cL_law 3223 = .ok (.ifCond .eq 5, 3) := by decide +kernel
theorem dL_law_3226 : decode cL_law 3226 = .ok (.iconst 0, 1) := by decide +kernel
theorem dL_law_3227 : decode cL_law 3227 = .ok (.ireturn, 1) := by decide +kernel
theorem dL_law_3228 : decode cL_law 3228 = .ok (.goto 383, 3) := by decide +kernel
theorem dL_law_3231 : decode cL_law 3231 = .ok (.aload_n 1, 1) := by decide +kernel
theorem dL_law_3232 : decode cL_law 3232 = .ok (.aload_n 0, 1) := by decide +kernel
theorem dL_law_3233 : decode cL_law 3233 = .ok (.iload 5, 2) := by decide +kernel
theorem dL_law_3235 : decode cL_law 3235 = .ok (.iconst 1, 1) := by decide +kernel
theorem dL_law_3236 : decode cL_law 3236 = .ok (.iadd, 1) := by decide +kernel
theorem dL_law_3237 : decode cL_law 3237 = .ok (.iaload, 1) := by decide +kernel
theorem dL_law_3238 : decode cL_law 3238 = .ok (.aload_n 0, 1) := by decide +kernel
theorem dL_law_3239 : decode cL_law 3239 = .ok (.iload 5, 2) := by decide +kernel
theorem dL_law_3241 : decode cL_law 3241 = .ok (.iconst 2, 1) := by decide +kernel
theorem dL_law_3242 : decode cL_law 3242 = .ok (.iadd, 1) := by decide +kernel
theorem dL_law_3243 : decode cL_law 3243 = .ok (.iaload, 1) := by decide +kernel
theorem dL_law_3244 : decode cL_law 3244 = .ok (.aload_n 0, 1) := by decide +kernel
theorem dL_law_3245 : decode cL_law 3245 = .ok (.iload 5, 2) := by decide +kernel
theorem dL_law_3247 : decode cL_law 3247 = .ok (.iconst 3, 1) := by decide +kernel
theorem dL_law_3248 : decode cL_law 3248 = .ok (.iadd, 1) := by decide +kernel
theorem dL_law_3249 : decode cL_law 3249 = .ok (.iaload, 1) := by decide +kernel
theorem dL_law_3250 : decode cL_law 3250 = .ok (.aload_n 3, 1) := by decide +kernel
theorem dL_law_3251 : decode cL_law 3251 = .ok (.invokestatic 375, 3) := by decide +kernel
theorem dL_law_3254 : decode cL_law 3254 = .ok (.istore 6, 2) := by decide +kernel
theorem dL_law_3256 : decode cL_law 3256 = .ok (.aload_n 2, 1) := by decide +kernel
theorem dL_law_3257 : decode cL_law 3257 = .ok (.aload_n 0, 1) := by decide +kernel
theorem dL_law_3258 : decode cL_law 3258 = .ok (.iload 5, 2) := by decide +kernel
theorem dL_law_3260 : decode cL_law 3260 = .ok (.iconst 1, 1) := by decide +kernel
theorem dL_law_3261 : decode cL_law 3261 = .ok (.iadd, 1) := by decide +kernel
theorem dL_law_3262 : decode cL_law 3262 = .ok (.iaload, 1) := by decide +kernel
theorem dL_law_3263 : decode cL_law 3263 = .ok (.aload_n 0, 1) := by decide +kernel
theorem dL_law_3264 : decode cL_law 3264 = .ok (.iload 5, 2) := by decide +kernel
theorem dL_law_3266 : decode cL_law 3266 = .ok (.iconst 2, 1) := by decide +kernel
theorem dL_law_3267 : decode cL_law 3267 = .ok (.iadd, 1) := by decide +kernel
theorem dL_law_3268 : decode cL_law 3268 = .ok (.iaload, 1) := by decide +kernel
theorem dL_law_3269 : decode cL_law 3269 = .ok (.aload_n 0, 1) := by decide +kernel
theorem dL_law_3270 : decode cL_law 3270 = .ok (.iload 5, 2) := by decide +kernel
theorem dL_law_3272 : decode cL_law 3272 = .ok (.iconst 3, 1) := by decide +kernel
theorem dL_law_3273 : decode cL_law 3273 = .ok (.iadd, 1) := by decide +kernel
