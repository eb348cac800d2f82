/-! THE LAW, DECODED -/
theorem dL_law_3434 : decode cL_law 3434 = .ok (.ifCond .eq 5, 3) := by decide +kernel
theorem dL_law_3437 : decode cL_law 3437 = .ok (.iconst 0, 1) := by decide +kernel
theorem dL_law_3438 : decode cL_law 3438 = .ok (.ireturn, 1) := by decide +kernel
theorem dL_law_3439 : decode cL_law 3439 = .ok (.goto 172, 3) := by decide +kernel
theorem dL_law_3442 : decode cL_law 3442 = .ok (.aload_n 1, 1) := by decide +kernel
theorem dL_law_3443 : decode cL_law 3443 = .ok (.aload_n 3, 1) := by decide +kernel
theorem dL_law_3444 : decode cL_law 3444 = .ok (.invokestatic 384, 3) := by decide +kernel
theorem dL_law_3447 : decode cL_law 3447 = .ok (.istore 6, 2) := by decide +kernel
theorem dL_law_3449 : decode cL_law 3449 = .ok (.aload_n 2, 1) := by decide +kernel
theorem dL_law_3450 : decode cL_law 3450 = .ok (.invokevirtual 386, 3) := by decide +kernel
theorem dL_law_3453 : decode cL_law 3453 = .ok (.istore 7, 2) := by decide +kernel
theorem dL_law_3455 : decode cL_law 3455 = .ok (.aload_n 2, 1) := by decide +kernel
theorem dL_law_3456 : decode cL_law 3456 = .ok (.invokevirtual 191, 3) := by decide +kernel
theorem dL_law_3459 : decode cL_law 3459 = .ok (.iload 6, 2) := by decide +kernel
theorem dL_law_3461 : decode cL_law 3461 = .ok (.if_icmp .eq 5, 3) := by decide +kernel
theorem dL_law_3464 : decode cL_law 3464 = .ok (.iconst 0, 1) := by decide +kernel
theorem dL_law_3465 : decode cL_law 3465 = .ok (.ireturn, 1) := by decide +kernel
theorem dL_law_3466 : decode cL_law 3466 = .ok (.iload 6, 2) := by decide +kernel
theorem dL_law_3468 : decode cL_law 3468 = .ok (.ifCond .ne 15, 3) := by decide +kernel
theorem dL_law_3471 : decode cL_law 3471 = .ok (.aload_n 3, 1) := by decide +kernel
theorem dL_law_3472 : decode cL_law 3472 = .ok (.iconst 0, 1) := by decide +kernel
theorem dL_law_3473 : decode cL_law 3473 = .ok (.laload, 1) := by decide +kernel
theorem dL_law_3474 : decode cL_law 3474 = .ok (.iload 7, 2) := by decide +kernel
theorem dL_law_3476 : decode cL_law 3476 = .ok (.i2l, 1) := by decide +kernel
theorem dL_law_3477 : decode cL_law 3477 = .ok (.lcmp, 1) := by decide +kernel
theorem dL_law_3478 : decode cL_law 3478 = .ok (.ifCond .eq 5, 3) := by decide +kernel
theorem dL_law_3481 : decode cL_law 3481 = .ok (.iconst 0, 1) := by decide +kernel
theorem dL_law_3482 : decode cL_law 3482 = .ok (.ireturn, 1) := by decide +kernel
theorem dL_law_3483 : decode cL_law 3483 = .ok (.goto 128, 3) := by decide +kernel
theorem dL_law_3486 : decode cL_law 3486 = .ok (.aload_n 1, 1) := by decide +kernel
theorem dL_law_3487 : decode cL_law 3487 = .ok (.invokevirtual 387, 3) := by decide +kernel
theorem dL_law_3490 : decode cL_law 3490 = .ok (.aload_n 2, 1) := by decide +kernel
theorem dL_law_3491 : decode cL_law 3491 = .ok (.invokevirtual 390, 3) := by decide +kernel
theorem dL_law_3494 : decode cL_law 3494 = .ok (.if_icmp .eq 117, 3) := by decide +kernel
theorem dL_law_3497 : decode cL_law 3497 = .ok (.iconst 0, 1) := by decide +kernel
theorem dL_law_3498 : decode cL_law 3498 = .ok (.ireturn, 1) := by decide +kernel
theorem dL_law_3499 : decode cL_law 3499 = .ok (.aload_n 1, 1) := by decide +kernel
theorem dL_law_3500 : decode cL_law 3500 = .ok (.aload_n 0, 1) := by decide +kernel
theorem dL_law_3501 : decode cL_law 3501 = .ok (.iload 5, 2) := by decide +kernel
theorem dL_law_3503 : decode cL_law 3503 = .ok (.iconst 1, 1) := by decide +kernel
theorem dL_law_3504 : decode cL_law 3504 = .ok (.iadd, 1) := by decide +kernel
theorem dL_law_3505 : decode cL_law 3505 = .ok (.iaload, 1) := by decide +kernel
theorem dL_law_3506 : decode cL_law 3506 = .ok (.aload_n 3, 1) := by decide +kernel
theorem dL_law_3507 : decode cL_law 3507 = .ok (.invokestatic 391, 3) := by decide +kernel
theorem dL_law_3510 : decode cL_law 3510 = .ok (.istore 6, 2) := by decide +kernel
theorem dL_law_3512 : decode cL_law 3512 = .ok (.aload_n 2, 1) := by decide +kernel
theorem dL_law_3513 : decode cL_law 3513 = .ok (.aload_n 0, 1) := by decide +kernel
theorem dL_law_3514 : decode cL_law 3514 = .ok (.iload 5, 2) := by decide +kernel
theorem dL_law_3516 : decode cL_law 3516 = .ok (.iconst 1, 1) := by decide +kernel
theorem dL_law_3517 : decode cL_law 3517 = .ok (.iadd, 1) := by decide +kernel
theorem dL_law_3518 : decode cL_law 3518 = .ok (.iaload, 1) := by decide +kernel
theorem dL_law_3519 : decode cL_law 3519 = .ok (.invokevirtual 393, 3) := by decide +kernel
theorem dL_law_3522 : decode cL_law 3522 = .ok (.istore 7, 2) := by decide +kernel
theorem dL_law_3524 : decode cL_law 3524 = .ok (.aload_n 2, 1) := by decide +kernel
theorem dL_law_3525 : decode cL_law 3525 = .ok (.invokevirtual 191, 3) := by decide +kernel
theorem dL_law_3528 : decode cL_law 3528 = .ok (.iload 6, 2) := by decide +kernel
theorem dL_law_3530 : decode cL_law 3530 = .ok (.if_icmp .eq 5, 3) := by decide +kernel
theorem dL_law_3533 : decode cL_law 3533 = .ok (.iconst 0, 1) := by decide +kernel
theorem dL_law_3534 : decode cL_law 3534 = .ok (.ireturn, 1) := by decide +kernel
theorem dL_law_3535 : decode cL_law 3535 = .ok (.iload 6, 2) := by decide +kernel
theorem dL_law_3537 : decode cL_law 3537 = .ok (.ifCond .ne 15, 3) := by decide +kernel
theorem dL_law_3540 : decode cL_law 3540 = .ok (.aload_n 3, 1) := by decide +kernel
theorem dL_law_3541 : decode cL_law 3541 = .ok (.iconst 0, 1) := by decide +kernel
theorem dL_law_3542 : decode cL_law 3542 = .ok (.laload, 1) := by decide +kernel
theorem dL_law_3543 : decode cL_law 3543 = .ok (.iload 7, 2) := by decide +kernel
theorem dL_law_3545 : decode cL_law 3545 = .ok (.i2l, 1) := by decide +kernel
theorem dL_law_3546 : decode cL_law 3546 = .ok (.lcmp, 1) := by decide +kernel
theorem dL_law_3547 : decode cL_law 3547 = .ok (.ifCond .eq 5, 3) := by decide +kernel
theorem dL_law_3550 : decode cL_law 3550 = .ok (.iconst 0, 1) := by decide +kernel
theorem dL_law_3551 : decode cL_law 3551 = .ok (.ireturn, 1) := by decide +kernel
theorem dL_law_3552 : decode cL_law 3552 = .ok (.goto 59, 3) := by decide +kernel
theorem dL_law_3555 : decode cL_law 3555 = .ok (.aload_n 1, 1) := by decide +kernel
theorem dL_law_3556 : decode cL_law 3556 = .ok (.aload_n 0, 1) := by decide +kernel
theorem dL_law_3557 : decode cL_law 3557 = .ok (.iload 5, 2) := by decide +kernel
theorem dL_law_3559 : decode cL_law 3559 = .ok (.iconst 1, 1) := by decide +kernel
theorem dL_law_3560 : decode cL_law 3560 = .ok (.iadd, 1) := by decide +kernel
theorem dL_law_3561 : decode cL_law 3561 = .ok (.iaload, 1) := by decide +kernel
theorem dL_law_3562 : decode cL_law 3562 = .ok (.aload_n 3, 1) := by decide +kernel
theorem dL_law_3563 : decode cL_law 3563 = .ok (.invokestatic 394, 3) := by decide +kernel
theorem dL_law_3566 : decode cL_law 3566 = .ok (.istore 6, 2) := by decide +kernel
theorem dL_law_3568 : decode cL_law 3568 = .ok (.aload_n 2, 1) := by decide +kernel
theorem dL_law_3569 : decode cL_law 3569 = .ok (.aload_n 0, 1) := by decide +kernel
theorem dL_law_3570 : decode cL_law 3570 = .ok (.iload 5, 2) := by decide +kernel
theorem dL_law_3572 : decode cL_law 3572 = .ok (.iconst 1, 1) := by decide +kernel
theorem dL_law_3573 : decode cL_law 3573 = .ok (.iadd, 1) := by decide +kernel
theorem dL_law_3574 : decode cL_law 3574 = .ok (.iaload, 1) := by decide +kernel
theorem dL_law_3575 : decode cL_law 3575 = .ok (.invokevirtual 396, 3) := by decide +kernel
theorem dL_law_3578 : decode cL_law 3578 = .ok (.istore 7, 2) := by decide +kernel
theorem dL_law_3580 : decode cL_law 3580 = .ok (.aload_n 2, 1) := by decide +kernel
theorem dL_law_3581 : decode cL_law 3581 = .ok (.invokevirtual 191, 3) := by decide +kernel
theorem dL_law_3584 : decode cL_law 3584 = .ok (.iload 6, 2) := by decide +kernel
theorem dL_law_3586 : decode cL_law 3586 = .ok (.if_icmp .eq 5, 3) := by decide +kernel
theorem dL_law_3589 : decode cL_law 3589 = .ok (.iconst 0, 1) := by decide +kernel
theorem dL_law_3590 : decode cL_law 3590 = .ok (.ireturn, 1) := by decide +kernel
theorem dL_law_3591 : decode cL_law 3591 = .ok (.iload 6, 2) := by decide +kernel
theorem dL_law_3593 : decode cL_law 3593 = .ok (.ifCond .ne 15, 3) := by decide +kernel
theorem dL_law_3596 : decode cL_law 3596 = .ok (.aload_n 3, 1) := by decide +kernel
theorem dL_law_3597 : decode cL_law 3597 = .ok (.iconst 0, 1) := by decide +kernel
theorem dL_law_3598 : decode cL_law 3598 = .ok (.laload, 1) := by decide +kernel
theorem dL_law_3599 : decode cL_law 3599 = .ok (.iload 7, 2) := by decide +kernel
