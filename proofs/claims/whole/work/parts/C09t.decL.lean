/-! THE LAW, DECODED -/
theorem dL_law_3274 : decode cL_law 3274 = .ok (.iaload, 1) := by decide +kernel
theorem dL_law_3275 : decode cL_law 3275 = .ok (.invokevirtual 377, 3) := by decide +kernel
theorem dL_law_3278 : decode cL_law 3278 = .ok (.istore 7, 2) := by decide +kernel
theorem dL_law_3280 : decode cL_law 3280 = .ok (.aload_n 2, 1) := by decide +kernel
theorem dL_law_3281 : decode cL_law 3281 = .ok (.invokevirtual 191, 3) := by decide +kernel
theorem dL_law_3284 : decode cL_law 3284 = .ok (.iload 6, 2) := by decide +kernel
theorem dL_law_3286 : decode cL_law 3286 = .ok (.if_icmp .eq 5, 3) := by decide +kernel
theorem dL_law_3289 : decode cL_law 3289 = .ok (.iconst 0, 1) := by decide +kernel
theorem dL_law_3290 : decode cL_law 3290 = .ok (.ireturn, 1) := by decide +kernel
theorem dL_law_3291 : decode cL_law 3291 = .ok (.iload 6, 2) := by decide +kernel
theorem dL_law_3293 : decode cL_law 3293 = .ok (.ifCond .ne 22, 3) := by decide +kernel
theorem dL_law_3296 : decode cL_law 3296 = .ok (.aload_n 3, 1) := by decide +kernel
theorem dL_law_3297 : decode cL_law 3297 = .ok (.iconst 0, 1) := by decide +kernel
theorem dL_law_3298 : decode cL_law 3298 = .ok (.laload, 1) := by decide +kernel
theorem dL_law_3299 : decode cL_law 3299 = .ok (.iload 7, 2) := by decide +kernel
theorem dL_law_3301 : decode cL_law 3301 = .ok (.ifCond .eq 7, 3) := by decide +kernel
theorem dL_law_3304 : decode cL_law 3304 = .ok (.lconst 1, 1) := by decide +kernel
theorem dL_law_3305 : decode cL_law 3305 = .ok (.goto 4, 3) := by decide +kernel
theorem dL_law_3308 : decode cL_law 3308 = .ok (.lconst 0, 1) := by decide +kernel
theorem dL_law_3309 : decode cL_law 3309 = .ok (.lcmp, 1) := by decide +kernel
theorem dL_law_3310 : decode cL_law 3310 = .ok (.ifCond .eq 5, 3) := by decide +kernel
theorem dL_law_3313 : decode cL_law 3313 = .ok (.iconst 0, 1) := by decide +kernel
theorem dL_law_3314 : decode cL_law 3314 = .ok (.ireturn, 1) := by decide +kernel
theorem dL_law_3315 : decode cL_law 3315 = .ok (.goto 296, 3) := by decide +kernel
theorem dL_law_3318 : decode cL_law 3318 = .ok (.aload_n 1, 1) := by decide +kernel
theorem dL_law_3319 : decode cL_law 3319 = .ok (.aload_n 0, 1) := by decide +kernel
theorem dL_law_3320 : decode cL_law 3320 = .ok (.iload 5, 2) := by decide +kernel
theorem dL_law_3322 : decode cL_law 3322 = .ok (.iconst 1, 1) := by decide +kernel
theorem dL_law_3323 : decode cL_law 3323 = .ok (.iadd, 1) := by decide +kernel
theorem dL_law_3324 : decode cL_law 3324 = .ok (.iaload, 1) := by decide +kernel
theorem dL_law_3325 : decode cL_law 3325 = .ok (.aload_n 3, 1) := by decide +kernel
theorem dL_law_3326 : decode cL_law 3326 = .ok (.invokestatic 378, 3) := by decide +kernel
theorem dL_law_3329 : decode cL_law 3329 = .ok (.istore 6, 2) := by decide +kernel
theorem dL_law_3331 : decode cL_law 3331 = .ok (.aload_n 2, 1) := by decide +kernel
theorem dL_law_3332 : decode cL_law 3332 = .ok (.aload_n 0, 1) := by decide +kernel
theorem dL_law_3333 : decode cL_law 3333 = .ok (.iload 5, 2) := by decide +kernel
theorem dL_law_3335 : decode cL_law 3335 = .ok (.iconst 1, 1) := by decide +kernel
theorem dL_law_3336 : decode cL_law 3336 = .ok (.iadd, 1) := by decide +kernel
theorem dL_law_3337 : decode cL_law 3337 = .ok (.iaload, 1) := by decide +kernel
theorem dL_law_3338 : decode cL_law 3338 = .ok (.invokevirtual 380, 3) := by decide +kernel
theorem dL_law_3341 : decode cL_law 3341 = .ok (.istore 7, 2) := by decide +kernel
theorem dL_law_3343 : decode cL_law 3343 = .ok (.aload_n 2, 1) := by decide +kernel
theorem dL_law_3344 : decode cL_law 3344 = .ok (.invokevirtual 191, 3) := by decide +kernel
theorem dL_law_3347 : decode cL_law 3347 = .ok (.iload 6, 2) := by decide +kernel
theorem dL_law_3349 : decode cL_law 3349 = .ok (.if_icmp .eq 5, 3) := by decide +kernel
theorem dL_law_3352 : decode cL_law 3352 = .ok (.iconst 0, 1) := by decide +kernel
theorem dL_law_3353 : decode cL_law 3353 = .ok (.ireturn, 1) := by decide +kernel
theorem dL_law_3354 : decode cL_law 3354 = .ok (.iload 6, 2) := by decide +kernel
theorem dL_law_3356 : decode cL_law 3356 = .ok (.ifCond .ne 15, 3) := by decide +kernel
theorem dL_law_3359 : decode cL_law 3359 = .ok (.aload_n 3, 1) := by decide +kernel
theorem dL_law_3360 : decode cL_law 3360 = .ok (.iconst 0, 1) := by decide +kernel
theorem dL_law_3361 : decode cL_law 3361 = .ok (.laload, 1) := by decide +kernel
theorem dL_law_3362 : decode cL_law 3362 = .ok (.iload 7, 2) := by decide +kernel
theorem dL_law_3364 : decode cL_law 3364 = .ok (.i2l, 1) := by decide +kernel
theorem dL_law_3365 : decode cL_law 3365 = .ok (.lcmp, 1) := by decide +kernel
theorem dL_law_3366 : decode cL_law 3366 = .ok (.ifCond .eq 5, 3) := by decide +kernel
theorem dL_law_3369 : decode cL_law 3369 = .ok (.iconst 0, 1) := by decide +kernel
theorem dL_law_3370 : decode cL_law 3370 = .ok (.ireturn, 1) := by decide +kernel
theorem dL_law_3371 : decode cL_law 3371 = .ok (.goto 240, 3) := by decide +kernel
theorem dL_law_3374 : decode cL_law 3374 = .ok (.aload_n 1, 1) := by decide +kernel
theorem dL_law_3375 : decode cL_law 3375 = .ok (.aload_n 0, 1) := by decide +kernel
theorem dL_law_3376 : decode cL_law 3376 = .ok (.iload 5, 2) := by decide +kernel
theorem dL_law_3378 : decode cL_law 3378 = .ok (.iconst 1, 1) := by decide +kernel
theorem dL_law_3379 : decode cL_law 3379 = .ok (.iadd, 1) := by decide +kernel
theorem dL_law_3380 : decode cL_law 3380 = .ok (.iaload, 1) := by decide +kernel
theorem dL_law_3381 : decode cL_law 3381 = .ok (.aload_n 0, 1) := by decide +kernel
theorem dL_law_3382 : decode cL_law 3382 = .ok (.iload 5, 2) := by decide +kernel
theorem dL_law_3384 : decode cL_law 3384 = .ok (.iconst 2, 1) := by decide +kernel
theorem dL_law_3385 : decode cL_law 3385 = .ok (.iadd, 1) := by decide +kernel
theorem dL_law_3386 : decode cL_law 3386 = .ok (.iaload, 1) := by decide +kernel
theorem dL_law_3387 : decode cL_law 3387 = .ok (.aload_n 3, 1) := by decide +kernel
theorem dL_law_3388 : decode cL_law 3388 = .ok (.invokestatic 381, 3) := by decide +kernel
theorem dL_law_3391 : decode cL_law 3391 = .ok (.istore 6, 2) := by decide +kernel
theorem dL_law_3393 : decode cL_law 3393 = .ok (.aload_n 2, 1) := by decide +kernel
theorem dL_law_3394 : decode cL_law 3394 = .ok (.aload_n 0, 1) := by decide +kernel
theorem dL_law_3395 : decode cL_law 3395 = .ok (.iload 5, 2) := by decide +kernel
theorem dL_law_3397 : decode cL_law 3397 = .ok (.iconst 1, 1) := by decide +kernel
theorem dL_law_3398 : decode cL_law 3398 = .ok (.iadd, 1) := by decide +kernel
theorem dL_law_3399 : decode cL_law 3399 = .ok (.iaload, 1) := by decide +kernel
theorem dL_law_3400 : decode cL_law 3400 = .ok (.aload_n 0, 1) := by decide +kernel
theorem dL_law_3401 : decode cL_law 3401 = .ok (.iload 5, 2) := by decide +kernel
theorem dL_law_3403 : decode cL_law 3403 = .ok (.iconst 2, 1) := by decide +kernel
theorem dL_law_3404 : decode cL_law 3404 = .ok (.iadd, 1) := by decide +kernel
theorem dL_law_3405 : decode cL_law 3405 = .ok (.iaload, 1) := by decide +kernel
theorem dL_law_3406 : decode cL_law 3406 = .ok (.invokevirtual 383, 3) := by decide +kernel
theorem dL_law_3409 : decode cL_law 3409 = .ok (.istore 7, 2) := by decide +kernel
theorem dL_law_3411 : decode cL_law 3411 = .ok (.aload_n 2, 1) := by decide +kernel
theorem dL_law_3412 : decode cL_law 3412 = .ok (.invokevirtual 191, 3) := by decide +kernel
theorem dL_law_3415 : decode cL_law 3415 = .ok (.iload 6, 2) := by decide +kernel
theorem dL_law_3417 : decode cL_law 3417 = .ok (.if_icmp .eq 5, 3) := by decide +kernel
theorem dL_law_3420 : decode cL_law 3420 = .ok (.iconst 0, 1) := by decide +kernel
theorem dL_law_3421 : decode cL_law 3421 = .ok (.ireturn, 1) := by decide +kernel
theorem dL_law_3422 : decode cL_law 3422 = .ok (.iload 6, 2) := by decide +kernel
theorem dL_law_3424 : decode cL_law 3424 = .ok (.ifCond .ne 15, 3) := by decide +kernel
theorem dL_law_3427 : decode cL_law 3427 = .ok (.aload_n 3, 1) := by decide +kernel
theorem dL_law_3428 : decode cL_law 3428 = .ok (.iconst 0, 1) := by decide +kernel
theorem dL_law_3429 : decode cL_law 3429 = .ok (.laload, 1) := by decide +kernel
theorem dL_law_3430 : decode cL_law 3430 = .ok (.iload 7, 2) := by decide +kernel
theorem dL_law_3432 : decode cL_law 3432 = .ok (.i2l, 1) := by decide +kernel
theorem dL_law_3433 : decode cL_law 3433 = .ok (.lcmp, 1) := by decide +kernel
