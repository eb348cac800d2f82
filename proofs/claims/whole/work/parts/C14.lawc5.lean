/-! THE LAW'S CASES, 5 (by program) -/
section C14
variable {Γ : Gam} {Zf : List Frame → Array Value → State → State → Prop} {cells slots k xo mo b : Nat} {T : JT} {R S : JR} {I : JI} {L : JL} {D : JD} {i : Int32}
theorem lc_44 {a6 a7 : Option Value} (hw : Wd Γ k xo mo T R S I L) (hk : k ≤ 599) (hol : mo + 18 ≤ b) (hO : T b = some (.inr (.long, 1))) (hO2 : T (b + 1) = some (.inr (.double, 1))) (p1 : vp_in (i + 1) Γ.sc.2.1) (p2 : vp_in (i + 2) Γ.sc.2.1) (p3 : vp_in (i + 3) Γ.sc.2.1) (p4 : vp_in (i + 4) Γ.sc.2.1) (p5 : vp_in (i + 5) Γ.sc.2.1) (hc : cells + 1 ≤ 601024) (hs : slots + 6 ≤ 7293034) (kk : Kk Γ Zf k xo mo b cells slots i T R) : JJ Γ EL Zf room_1 cells slots 2420 (Vl Γ.sc.1 xo mo b i a6 a7) [] (T, R, S, I, L, D, none) := by
  obtain ⟨n9, t, v, G, hal, hx, hm⟩ := (show BSt Γ k xo mo b 100 100 Y_X8_timetable Y_X9_timetable [] [(0, 0), (1, 1)] T R S I L from st_timetable hw (by omega) hol) D
  have hn0 : t = 0 → n9 = 0 := (by decide : ∀ p ∈ ([(0, 0), (1, 1)] : List (Nat × Int32)), p.2 = 0 → p.1 = 0) (n9, t) hal
  have e1 := ec_le n9
  have e2 := es_le n9
  refine jj_aload_n (q := 2421) dL_law_2420 rfl rfl rfl ?_
  refine jj_aload_n (q := 2422) dL_law_2421 rfl rfl rfl ?_
  refine lS2 (q := 2425) (t := t) dL_law_2422 yk_L_timetable ms_L_timetable (wr_timetable (v := v) (G := G) hw.tx hO hal hx) (fun o M' h => h.1) rfl rfl rfl (by omega) (by omega) (fun M' h => ?_)
  obtain ⟨h1, S1, I1, L1, rfl, hG⟩ := h
  clear h1
  refine jj_istore (q := 2427) dL_law_2425 (by decide) rfl ?_
  refine jj_aload_n (q := 2428) dL_law_2427 rfl rfl rfl ?_
  refine lV0 (q := 2431) dL_law_2428 yk_X9_timetable ml_L_336 hw.hm.t0 (hm S1 I1 L1 _ D hG (fun c h => wLo_lt h)) (fun o M' h => by obtain ⟨S2, I2, w, h1, h2⟩ := h; exact ⟨w, h1.1⟩) rfl rfl rfl (by omega) (by omega) (fun r M' h => ?_)
  obtain ⟨S2, I2, w, ⟨h1, hv⟩, rfl, hw2, ht⟩ := h
  cases h1
  refine jj_istore (q := 2433) dL_law_2431 (by decide) rfl ?_
  refine jj_aload_n (q := 2434) dL_law_2433 rfl rfl rfl ?_
  refine lV0 (q := 2437) dL_law_2434 yk_X9_thrown ml_L_191 hw.hm.t0 (ex_thr hw2.hm) (fun o M' h => ⟨_, h.1⟩) rfl rfl rfl (by omega) (by omega) (fun r M' h => ?_)
  obtain ⟨h1, rfl⟩ := h
  cases h1
  refine jj_iload (q := 2439) dL_law_2437 rfl rfl ?_
  refine jj_icmp_eq (q := 2442) (tgt := 2444) dL_law_2439 rfl rfl (fun h2439 => ?_) (fun h2439 => absurd (ht) h2439)
  refine jj_iload (q := 2446) dL_law_2444 rfl rfl ?_
  refine jj_if_ne (q := 2449) (tgt := 2461) dL_law_2446 rfl rfl (fun h2446 => ?_) (fun h2446 => ?_)
  · refine jj_goto (tgt := 3611) dL_law_2461 rfl ?_
    exact kk S2 I2 _ _ _ _ _ _ (Nat.add_le_add_left (ec_le n9) cells) (Nat.add_le_add_left (es_le n9) slots) hw2
  · refine jj_aload_n (q := 2450) dL_law_2449 rfl rfl rfl ?_
    refine jj_iconst (v := 0) (q := 2451) dL_law_2450 rfl rfl ?_
    refine jj_lald (v := v.toInt64) (q := 2452) dL_law_2451 hO vp_01 (wLo_at (hn0 h2446)) rfl ?_
    refine jj_iload (q := 2454) dL_law_2452 rfl rfl ?_
    refine jj_i2l (q := 2455) dL_law_2454 rfl ?_
    refine jj_lcmp (q := 2456) dL_law_2455 rfl ?_
    refine jj_if_eq (q := 2459) (tgt := 2461) dL_law_2456 rfl rfl (fun h2456 => ?_) (fun h2456 => absurd (lcmp_self (congrArg Int32.toInt64 (hv (hn0 h2446)).symm)) h2456)
    refine jj_goto (tgt := 3611) dL_law_2461 rfl ?_
    exact kk S2 I2 _ _ _ _ _ _ (Nat.add_le_add_left (ec_le n9) cells) (Nat.add_le_add_left (es_le n9) slots) hw2
theorem lc_45 {a6 a7 : Option Value} (hw : Wd Γ k xo mo T R S I L) (hk : k ≤ 599) (hol : mo + 18 ≤ b) (hO : T b = some (.inr (.long, 1))) (hO2 : T (b + 1) = some (.inr (.double, 1))) (p1 : vp_in (i + 1) Γ.sc.2.1) (p2 : vp_in (i + 2) Γ.sc.2.1) (p3 : vp_in (i + 3) Γ.sc.2.1) (p4 : vp_in (i + 4) Γ.sc.2.1) (p5 : vp_in (i + 5) Γ.sc.2.1) (hc : cells + 1 ≤ 601024) (hs : slots + 6 ≤ 7293034) (kk : Kk Γ Zf k xo mo b cells slots i T R) : JJ Γ EL Zf room_1 cells slots 2464 (Vl Γ.sc.1 xo mo b i a6 a7) [] (T, R, S, I, L, D, none) := by
  obtain ⟨n9, t, v, G, hal, hx, hm⟩ := (show BSt Γ k xo mo b 100 100 Y_X8_timetableByte Y_X9_timetableByte [.int (Γ.sc.2.2 (i + 1).toNatClampNeg)] [(0, 0), (2, 1)] T R S I L from st_timetableByte hw (by omega) hol) D
  have hn0 : t = 0 → n9 = 0 := (by decide : ∀ p ∈ ([(0, 0), (2, 1)] : List (Nat × Int32)), p.2 = 0 → p.1 = 0) (n9, t) hal
  have e1 := ec_le n9
  have e2 := es_le n9
  refine jj_aload_n (q := 2465) dL_law_2464 rfl rfl rfl ?_
  refine jj_aload_n (q := 2466) dL_law_2465 rfl rfl rfl ?_
  refine jj_iload (q := 2468) dL_law_2466 rfl rfl ?_
  refine jj_iconst (v := 1) (q := 2469) dL_law_2468 rfl rfl ?_
  refine jj_iadd (q := 2470) dL_law_2469 rfl ?_
  refine jj_kiald (q := 2471) dL_law_2470 sc_E p1 rfl rfl ?_
  refine jj_aload_n (q := 2472) dL_law_2471 rfl rfl rfl ?_
  refine lS3 (q := 2475) (t := t) dL_law_2472 yk_L_timetableByte ms_L_timetableByte (wr_timetableByte (v := v) (G := G) hw.tx hO hal hx) (fun o M' h => h.1) rfl rfl rfl (by omega) (by omega) (fun M' h => ?_)
  obtain ⟨h1, S1, I1, L1, rfl, hG⟩ := h
  clear h1
  refine jj_istore (q := 2477) dL_law_2475 (by decide) rfl ?_
  refine jj_aload_n (q := 2478) dL_law_2477 rfl rfl rfl ?_
  refine jj_aload_n (q := 2479) dL_law_2478 rfl rfl rfl ?_
  refine jj_iload (q := 2481) dL_law_2479 rfl rfl ?_
  refine jj_iconst (v := 1) (q := 2482) dL_law_2481 rfl rfl ?_
  refine jj_iadd (q := 2483) dL_law_2482 rfl ?_
  refine jj_kiald (q := 2484) dL_law_2483 sc_E p1 rfl rfl ?_
  refine lV1 (q := 2487) dL_law_2484 yk_X9_timetableByte ml_L_339 hw.hm.t0 (hm S1 I1 L1 _ D hG (fun c h => wLo_lt h)) (fun o M' h => by obtain ⟨S2, I2, w, h1, h2⟩ := h; exact ⟨w, h1.1⟩) rfl rfl rfl (by omega) (by omega) (fun r M' h => ?_)
  obtain ⟨S2, I2, w, ⟨h1, hv⟩, rfl, hw2, ht⟩ := h
  cases h1
  refine jj_istore (q := 2489) dL_law_2487 (by decide) rfl ?_
  refine jj_aload_n (q := 2490) dL_law_2489 rfl rfl rfl ?_
  refine lV0 (q := 2493) dL_law_2490 yk_X9_thrown ml_L_191 hw.hm.t0 (ex_thr hw2.hm) (fun o M' h => ⟨_, h.1⟩) rfl rfl rfl (by omega) (by omega) (fun r M' h => ?_)
  obtain ⟨h1, rfl⟩ := h
  cases h1
  refine jj_iload (q := 2495) dL_law_2493 rfl rfl ?_
  refine jj_icmp_eq (q := 2498) (tgt := 2500) dL_law_2495 rfl rfl (fun h2495 => ?_) (fun h2495 => absurd (ht) h2495)
  refine jj_iload (q := 2502) dL_law_2500 rfl rfl ?_
  refine jj_if_ne (q := 2505) (tgt := 2517) dL_law_2502 rfl rfl (fun h2502 => ?_) (fun h2502 => ?_)
  · refine jj_goto (tgt := 3611) dL_law_2517 rfl ?_
    exact kk S2 I2 _ _ _ _ _ _ (Nat.add_le_add_left (ec_le n9) cells) (Nat.add_le_add_left (es_le n9) slots) hw2
  · refine jj_aload_n (q := 2506) dL_law_2505 rfl rfl rfl ?_
    refine jj_iconst (v := 0) (q := 2507) dL_law_2506 rfl rfl ?_
    refine jj_lald (v := v.toInt64) (q := 2508) dL_law_2507 hO vp_01 (wLo_at (hn0 h2502)) rfl ?_
    refine jj_iload (q := 2510) dL_law_2508 rfl rfl ?_
    refine jj_i2l (q := 2511) dL_law_2510 rfl ?_
    refine jj_lcmp (q := 2512) dL_law_2511 rfl ?_
    refine jj_if_eq (q := 2515) (tgt := 2517) dL_law_2512 rfl rfl (fun h2512 => ?_) (fun h2512 => absurd (lcmp_self (congrArg Int32.toInt64 (hv (hn0 h2502)).symm)) h2512)
    refine jj_goto (tgt := 3611) dL_law_2517 rfl ?_
    exact kk S2 I2 _ _ _ _ _ _ (Nat.add_le_add_left (ec_le n9) cells) (Nat.add_le_add_left (es_le n9) slots) hw2
theorem lc_46 {a6 a7 : Option Value} (hw : Wd Γ k xo mo T R S I L) (hk : k ≤ 599) (hol : mo + 18 ≤ b) (hO : T b = some (.inr (.long, 1))) (hO2 : T (b + 1) = some (.inr (.double, 1))) (p1 : vp_in (i + 1) Γ.sc.2.1) (p2 : vp_in (i + 2) Γ.sc.2.1) (p3 : vp_in (i + 3) Γ.sc.2.1) (p4 : vp_in (i + 4) Γ.sc.2.1) (p5 : vp_in (i + 5) Γ.sc.2.1) (hc : cells + 1 ≤ 601024) (hs : slots + 6 ≤ 7293034) (kk : Kk Γ Zf k xo mo b cells slots i T R) : JJ Γ EL Zf room_1 cells slots 2520 (Vl Γ.sc.1 xo mo b i a6 a7) [] (T, R, S, I, L, D, none) := by
  obtain ⟨n9, t, v, G, hal, hx, hm⟩ := (show BSt Γ k xo mo b 100 100 Y_X8_loadedIn Y_X9_loadedIn [.int (Γ.sc.2.2 (i + 1).toNatClampNeg)] [(0, 0), (1, 1), (3, 2)] T R S I L from st_loadedIn hw (by omega) hol) D
  have hn0 : t = 0 → n9 = 0 := (by decide : ∀ p ∈ ([(0, 0), (1, 1), (3, 2)] : List (Nat × Int32)), p.2 = 0 → p.1 = 0) (n9, t) hal
  have e1 := ec_le n9
  have e2 := es_le n9
  refine jj_aload_n (q := 2521) dL_law_2520 rfl rfl rfl ?_
  refine jj_aload_n (q := 2522) dL_law_2521 rfl rfl rfl ?_
  refine jj_iload (q := 2524) dL_law_2522 rfl rfl ?_
  refine jj_iconst (v := 1) (q := 2525) dL_law_2524 rfl rfl ?_
  refine jj_iadd (q := 2526) dL_law_2525 rfl ?_
  refine jj_kiald (q := 2527) dL_law_2526 sc_E p1 rfl rfl ?_
  refine jj_aload_n (q := 2528) dL_law_2527 rfl rfl rfl ?_
  refine lS3 (q := 2531) (t := t) dL_law_2528 yk_L_loadedIn ms_L_loadedIn (wr_loadedIn (v := v) (G := G) hw.tx hO hal hx) (fun o M' h => h.1) rfl rfl rfl (by omega) (by omega) (fun M' h => ?_)
  obtain ⟨h1, S1, I1, L1, rfl, hG⟩ := h
  clear h1
  refine jj_istore (q := 2533) dL_law_2531 (by decide) rfl ?_
  refine jj_aload_n (q := 2534) dL_law_2533 rfl rfl rfl ?_
  refine jj_aload_n (q := 2535) dL_law_2534 rfl rfl rfl ?_
  refine jj_iload (q := 2537) dL_law_2535 rfl rfl ?_
  refine jj_iconst (v := 1) (q := 2538) dL_law_2537 rfl rfl ?_
  refine jj_iadd (q := 2539) dL_law_2538 rfl ?_
  refine jj_kiald (q := 2540) dL_law_2539 sc_E p1 rfl rfl ?_
  refine lV1 (q := 2543) dL_law_2540 yk_X9_loadedIn ml_L_342 hw.hm.t0 (hm S1 I1 L1 _ D hG (fun c h => wLo_lt h)) (fun o M' h => by obtain ⟨S2, I2, w, h1, h2⟩ := h; exact ⟨w, h1.1⟩) rfl rfl rfl (by omega) (by omega) (fun r M' h => ?_)
  obtain ⟨S2, I2, w, ⟨h1, hv⟩, rfl, hw2, ht⟩ := h
  cases h1
  refine jj_istore (q := 2545) dL_law_2543 (by decide) rfl ?_
  refine jj_aload_n (q := 2546) dL_law_2545 rfl rfl rfl ?_
  refine lV0 (q := 2549) dL_law_2546 yk_X9_thrown ml_L_191 hw.hm.t0 (ex_thr hw2.hm) (fun o M' h => ⟨_, h.1⟩) rfl rfl rfl (by omega) (by omega) (fun r M' h => ?_)
  obtain ⟨h1, rfl⟩ := h
  cases h1
  refine jj_iload (q := 2551) dL_law_2549 rfl rfl ?_
  refine jj_icmp_eq (q := 2554) (tgt := 2556) dL_law_2551 rfl rfl (fun h2551 => ?_) (fun h2551 => absurd (ht) h2551)
  refine jj_iload (q := 2558) dL_law_2556 rfl rfl ?_
  refine jj_if_ne (q := 2561) (tgt := 2573) dL_law_2558 rfl rfl (fun h2558 => ?_) (fun h2558 => ?_)
  · refine jj_goto (tgt := 3611) dL_law_2573 rfl ?_
    exact kk S2 I2 _ _ _ _ _ _ (Nat.add_le_add_left (ec_le n9) cells) (Nat.add_le_add_left (es_le n9) slots) hw2
  · refine jj_aload_n (q := 2562) dL_law_2561 rfl rfl rfl ?_
    refine jj_iconst (v := 0) (q := 2563) dL_law_2562 rfl rfl ?_
    refine jj_lald (v := v.toInt64) (q := 2564) dL_law_2563 hO vp_01 (wLo_at (hn0 h2558)) rfl ?_
    refine jj_iload (q := 2566) dL_law_2564 rfl rfl ?_
    refine jj_i2l (q := 2567) dL_law_2566 rfl ?_
    refine jj_lcmp (q := 2568) dL_law_2567 rfl ?_
    refine jj_if_eq (q := 2571) (tgt := 2573) dL_law_2568 rfl rfl (fun h2568 => ?_) (fun h2568 => absurd (lcmp_self (congrArg Int32.toInt64 (hv (hn0 h2558)).symm)) h2568)
    refine jj_goto (tgt := 3611) dL_law_2573 rfl ?_
    exact kk S2 I2 _ _ _ _ _ _ (Nat.add_le_add_left (ec_le n9) cells) (Nat.add_le_add_left (es_le n9) slots) hw2
theorem lc_47 {a6 a7 : Option Value} (hw : Wd Γ k xo mo T R S I L) (hk : k ≤ 599) (hol : mo + 18 ≤ b) (hO : T b = some (.inr (.long, 1))) (hO2 : T (b + 1) = some (.inr (.double, 1))) (p1 : vp_in (i + 1) Γ.sc.2.1) (p2 : vp_in (i + 2) Γ.sc.2.1) (p3 : vp_in (i + 3) Γ.sc.2.1) (p4 : vp_in (i + 4) Γ.sc.2.1) (p5 : vp_in (i + 5) Γ.sc.2.1) (hc : cells + 1 ≤ 601024) (hs : slots + 6 ≤ 7293034) (kk : Kk Γ Zf k xo mo b cells slots i T R) : JJ Γ EL Zf room_1 cells slots 2576 (Vl Γ.sc.1 xo mo b i a6 a7) [] (T, R, S, I, L, D, none) := by
  obtain ⟨n9, t, v, G, hal, hx, hm⟩ := (show BSt Γ k xo mo b 100 100 Y_X8_shortIn Y_X9_shortIn [.int (Γ.sc.2.2 (i + 1).toNatClampNeg)] [(0, 0), (1, 1), (3, 2)] T R S I L from st_shortIn hw (by omega) hol) D
  have hn0 : t = 0 → n9 = 0 := (by decide : ∀ p ∈ ([(0, 0), (1, 1), (3, 2)] : List (Nat × Int32)), p.2 = 0 → p.1 = 0) (n9, t) hal
  have e1 := ec_le n9
  have e2 := es_le n9
  refine jj_aload_n (q := 2577) dL_law_2576 rfl rfl rfl ?_
  refine jj_aload_n (q := 2578) dL_law_2577 rfl rfl rfl ?_
  refine jj_iload (q := 2580) dL_law_2578 rfl rfl ?_
  refine jj_iconst (v := 1) (q := 2581) dL_law_2580 rfl rfl ?_
  refine jj_iadd (q := 2582) dL_law_2581 rfl ?_
  refine jj_kiald (q := 2583) dL_law_2582 sc_E p1 rfl rfl ?_
  refine jj_aload_n (q := 2584) dL_law_2583 rfl rfl rfl ?_
  refine lS3 (q := 2587) (t := t) dL_law_2584 yk_L_shortIn ms_L_shortIn (wr_shortIn (v := v) (G := G) hw.tx hO hal hx) (fun o M' h => h.1) rfl rfl rfl (by omega) (by omega) (fun M' h => ?_)
  obtain ⟨h1, S1, I1, L1, rfl, hG⟩ := h
  clear h1
  refine jj_istore (q := 2589) dL_law_2587 (by decide) rfl ?_
  refine jj_aload_n (q := 2590) dL_law_2589 rfl rfl rfl ?_
  refine jj_aload_n (q := 2591) dL_law_2590 rfl rfl rfl ?_
  refine jj_iload (q := 2593) dL_law_2591 rfl rfl ?_
  refine jj_iconst (v := 1) (q := 2594) dL_law_2593 rfl rfl ?_
  refine jj_iadd (q := 2595) dL_law_2594 rfl ?_
  refine jj_kiald (q := 2596) dL_law_2595 sc_E p1 rfl rfl ?_
  refine lV1 (q := 2599) dL_law_2596 yk_X9_shortIn ml_L_345 hw.hm.t0 (hm S1 I1 L1 _ D hG (fun c h => wLo_lt h)) (fun o M' h => by obtain ⟨S2, I2, w, h1, h2⟩ := h; exact ⟨w, h1.1⟩) rfl rfl rfl (by omega) (by omega) (fun r M' h => ?_)
  obtain ⟨S2, I2, w, ⟨h1, hv⟩, rfl, hw2, ht⟩ := h
  cases h1
  refine jj_istore (q := 2601) dL_law_2599 (by decide) rfl ?_
  refine jj_aload_n (q := 2602) dL_law_2601 rfl rfl rfl ?_
  refine lV0 (q := 2605) dL_law_2602 yk_X9_thrown ml_L_191 hw.hm.t0 (ex_thr hw2.hm) (fun o M' h => ⟨_, h.1⟩) rfl rfl rfl (by omega) (by omega) (fun r M' h => ?_)
  obtain ⟨h1, rfl⟩ := h
  cases h1
  refine jj_iload (q := 2607) dL_law_2605 rfl rfl ?_
  refine jj_icmp_eq (q := 2610) (tgt := 2612) dL_law_2607 rfl rfl (fun h2607 => ?_) (fun h2607 => absurd (ht) h2607)
  refine jj_iload (q := 2614) dL_law_2612 rfl rfl ?_
  refine jj_if_ne (q := 2617) (tgt := 2629) dL_law_2614 rfl rfl (fun h2614 => ?_) (fun h2614 => ?_)
  · refine jj_goto (tgt := 3611) dL_law_2629 rfl ?_
    exact kk S2 I2 _ _ _ _ _ _ (Nat.add_le_add_left (ec_le n9) cells) (Nat.add_le_add_left (es_le n9) slots) hw2
  · refine jj_aload_n (q := 2618) dL_law_2617 rfl rfl rfl ?_
    refine jj_iconst (v := 0) (q := 2619) dL_law_2618 rfl rfl ?_
    refine jj_lald (v := v.toInt64) (q := 2620) dL_law_2619 hO vp_01 (wLo_at (hn0 h2614)) rfl ?_
    refine jj_iload (q := 2622) dL_law_2620 rfl rfl ?_
    refine jj_i2l (q := 2623) dL_law_2622 rfl ?_
    refine jj_lcmp (q := 2624) dL_law_2623 rfl ?_
    refine jj_if_eq (q := 2627) (tgt := 2629) dL_law_2624 rfl rfl (fun h2624 => ?_) (fun h2624 => absurd (lcmp_self (congrArg Int32.toInt64 (hv (hn0 h2614)).symm)) h2624)
    refine jj_goto (tgt := 3611) dL_law_2629 rfl ?_
    exact kk S2 I2 _ _ _ _ _ _ (Nat.add_le_add_left (ec_le n9) cells) (Nat.add_le_add_left (es_le n9) slots) hw2
theorem lc_48 {a6 a7 : Option Value} (hw : Wd Γ k xo mo T R S I L) (hk : k ≤ 599) (hol : mo + 18 ≤ b) (hO : T b = some (.inr (.long, 1))) (hO2 : T (b + 1) = some (.inr (.double, 1))) (p1 : vp_in (i + 1) Γ.sc.2.1) (p2 : vp_in (i + 2) Γ.sc.2.1) (p3 : vp_in (i + 3) Γ.sc.2.1) (p4 : vp_in (i + 4) Γ.sc.2.1) (p5 : vp_in (i + 5) Γ.sc.2.1) (hc : cells + 1 ≤ 601024) (hs : slots + 6 ≤ 7293034) (kk : Kk Γ Zf k xo mo b cells slots i T R) : JJ Γ EL Zf room_1 cells slots 2632 (Vl Γ.sc.1 xo mo b i a6 a7) [] (T, R, S, I, L, D, none) := by
  obtain ⟨n9, t, v, G, hal, hx, hm⟩ := (show BSt Γ k xo mo b 100 100 Y_X8_timeToClear Y_X9_timeToClear [.int (Γ.sc.2.2 (i + 1).toNatClampNeg)] [(0, 0), (1, 1), (3, 2)] T R S I L from st_timeToClear hw (by omega) hol) D
  have hn0 : t = 0 → n9 = 0 := (by decide : ∀ p ∈ ([(0, 0), (1, 1), (3, 2)] : List (Nat × Int32)), p.2 = 0 → p.1 = 0) (n9, t) hal
  have e1 := ec_le n9
  have e2 := es_le n9
  refine jj_aload_n (q := 2633) dL_law_2632 rfl rfl rfl ?_
  refine jj_aload_n (q := 2634) dL_law_2633 rfl rfl rfl ?_
  refine jj_iload (q := 2636) dL_law_2634 rfl rfl ?_
  refine jj_iconst (v := 1) (q := 2637) dL_law_2636 rfl rfl ?_
  refine jj_iadd (q := 2638) dL_law_2637 rfl ?_
  refine jj_kiald (q := 2639) dL_law_2638 sc_E p1 rfl rfl ?_
  refine jj_aload_n (q := 2640) dL_law_2639 rfl rfl rfl ?_
  refine lS3 (q := 2643) (t := t) dL_law_2640 yk_L_timeToClear ms_L_timeToClear (wr_timeToClear (v := v) (G := G) hw.tx hO hal hx) (fun o M' h => h.1) rfl rfl rfl (by omega) (by omega) (fun M' h => ?_)
  obtain ⟨h1, S1, I1, L1, rfl, hG⟩ := h
  clear h1
  refine jj_istore (q := 2645) dL_law_2643 (by decide) rfl ?_
  refine jj_aload_n (q := 2646) dL_law_2645 rfl rfl rfl ?_
  refine jj_aload_n (q := 2647) dL_law_2646 rfl rfl rfl ?_
  refine jj_iload (q := 2649) dL_law_2647 rfl rfl ?_
  refine jj_iconst (v := 1) (q := 2650) dL_law_2649 rfl rfl ?_
  refine jj_iadd (q := 2651) dL_law_2650 rfl ?_
  refine jj_kiald (q := 2652) dL_law_2651 sc_E p1 rfl rfl ?_
  refine lV1 (q := 2655) dL_law_2652 yk_X9_timeToClear ml_L_348 hw.hm.t0 (hm S1 I1 L1 _ D hG (fun c h => wLo_lt h)) (fun o M' h => by obtain ⟨S2, I2, w, h1, h2⟩ := h; exact ⟨w, h1.1⟩) rfl rfl rfl (by omega) (by omega) (fun r M' h => ?_)
  obtain ⟨S2, I2, w, ⟨h1, hv⟩, rfl, hw2, ht⟩ := h
  cases h1
  refine jj_istore (q := 2657) dL_law_2655 (by decide) rfl ?_
  refine jj_aload_n (q := 2658) dL_law_2657 rfl rfl rfl ?_
  refine lV0 (q := 2661) dL_law_2658 yk_X9_thrown ml_L_191 hw.hm.t0 (ex_thr hw2.hm) (fun o M' h => ⟨_, h.1⟩) rfl rfl rfl (by omega) (by omega) (fun r M' h => ?_)
  obtain ⟨h1, rfl⟩ := h
  cases h1
  refine jj_iload (q := 2663) dL_law_2661 rfl rfl ?_
  refine jj_icmp_eq (q := 2666) (tgt := 2668) dL_law_2663 rfl rfl (fun h2663 => ?_) (fun h2663 => absurd (ht) h2663)
  refine jj_iload (q := 2670) dL_law_2668 rfl rfl ?_
  refine jj_if_ne (q := 2673) (tgt := 2685) dL_law_2670 rfl rfl (fun h2670 => ?_) (fun h2670 => ?_)
  · refine jj_goto (tgt := 3611) dL_law_2685 rfl ?_
    exact kk S2 I2 _ _ _ _ _ _ (Nat.add_le_add_left (ec_le n9) cells) (Nat.add_le_add_left (es_le n9) slots) hw2
  · refine jj_aload_n (q := 2674) dL_law_2673 rfl rfl rfl ?_
    refine jj_iconst (v := 0) (q := 2675) dL_law_2674 rfl rfl ?_
    refine jj_lald (v := v.toInt64) (q := 2676) dL_law_2675 hO vp_01 (wLo_at (hn0 h2670)) rfl ?_
    refine jj_iload (q := 2678) dL_law_2676 rfl rfl ?_
    refine jj_i2l (q := 2679) dL_law_2678 rfl ?_
    refine jj_lcmp (q := 2680) dL_law_2679 rfl ?_
    refine jj_if_eq (q := 2683) (tgt := 2685) dL_law_2680 rfl rfl (fun h2680 => ?_) (fun h2680 => absurd (lcmp_self (congrArg Int32.toInt64 (hv (hn0 h2670)).symm)) h2680)
    refine jj_goto (tgt := 3611) dL_law_2685 rfl ?_
    exact kk S2 I2 _ _ _ _ _ _ (Nat.add_le_add_left (ec_le n9) cells) (Nat.add_le_add_left (es_le n9) slots) hw2
theorem lc_49 {a6 a7 : Option Value} (hw : Wd Γ k xo mo T R S I L) (hk : k ≤ 599) (hol : mo + 18 ≤ b) (hO : T b = some (.inr (.long, 1))) (hO2 : T (b + 1) = some (.inr (.double, 1))) (p1 : vp_in (i + 1) Γ.sc.2.1) (p2 : vp_in (i + 2) Γ.sc.2.1) (p3 : vp_in (i + 3) Γ.sc.2.1) (p4 : vp_in (i + 4) Γ.sc.2.1) (p5 : vp_in (i + 5) Γ.sc.2.1) (hc : cells + 1 ≤ 601024) (hs : slots + 6 ≤ 7293034) (kk : Kk Γ Zf k xo mo b cells slots i T R) : JJ Γ EL Zf room_1 cells slots 2688 (Vl Γ.sc.1 xo mo b i a6 a7) [] (T, R, S, I, L, D, none) := by
  obtain ⟨n9, t, v, G, hal, hx, hm⟩ := (show BSt Γ k xo mo b 100 100 Y_X8_bestDelay Y_X9_bestDelay [.int (Γ.sc.2.2 (i + 1).toNatClampNeg), .int (Γ.sc.2.2 (i + 2).toNatClampNeg)] [(0, 0), (1, 1), (2, 2), (3, 3)] T R S I L from st_bestDelay hw (by omega) hol) D
  have hn0 : t = 0 → n9 = 0 := (by decide : ∀ p ∈ ([(0, 0), (1, 1), (2, 2), (3, 3)] : List (Nat × Int32)), p.2 = 0 → p.1 = 0) (n9, t) hal
  have e1 := ec_le n9
  have e2 := es_le n9
  refine jj_aload_n (q := 2689) dL_law_2688 rfl rfl rfl ?_
  refine jj_aload_n (q := 2690) dL_law_2689 rfl rfl rfl ?_
  refine jj_iload (q := 2692) dL_law_2690 rfl rfl ?_
  refine jj_iconst (v := 1) (q := 2693) dL_law_2692 rfl rfl ?_
  refine jj_iadd (q := 2694) dL_law_2693 rfl ?_
  refine jj_kiald (q := 2695) dL_law_2694 sc_E p1 rfl rfl ?_
  refine jj_aload_n (q := 2696) dL_law_2695 rfl rfl rfl ?_
  refine jj_iload (q := 2698) dL_law_2696 rfl rfl ?_
  refine jj_iconst (v := 2) (q := 2699) dL_law_2698 rfl rfl ?_
  refine jj_iadd (q := 2700) dL_law_2699 rfl ?_
  refine jj_kiald (q := 2701) dL_law_2700 sc_E p2 rfl rfl ?_
  refine jj_aload_n (q := 2702) dL_law_2701 rfl rfl rfl ?_
  refine lS4 (q := 2705) (t := t) dL_law_2702 yk_L_bestDelay ms_L_bestDelay (wr_bestDelay (v := v) (G := G) hw.tx hO hal hx) (fun o M' h => h.1) rfl rfl rfl (by omega) (by omega) (fun M' h => ?_)
  obtain ⟨h1, S1, I1, L1, rfl, hG⟩ := h
  clear h1
  refine jj_istore (q := 2707) dL_law_2705 (by decide) rfl ?_
  refine jj_aload_n (q := 2708) dL_law_2707 rfl rfl rfl ?_
  refine jj_aload_n (q := 2709) dL_law_2708 rfl rfl rfl ?_
  refine jj_iload (q := 2711) dL_law_2709 rfl rfl ?_
  refine jj_iconst (v := 1) (q := 2712) dL_law_2711 rfl rfl ?_
  refine jj_iadd (q := 2713) dL_law_2712 rfl ?_
  refine jj_kiald (q := 2714) dL_law_2713 sc_E p1 rfl rfl ?_
  refine jj_aload_n (q := 2715) dL_law_2714 rfl rfl rfl ?_
  refine jj_iload (q := 2717) dL_law_2715 rfl rfl ?_
  refine jj_iconst (v := 2) (q := 2718) dL_law_2717 rfl rfl ?_
  refine jj_iadd (q := 2719) dL_law_2718 rfl ?_
  refine jj_kiald (q := 2720) dL_law_2719 sc_E p2 rfl rfl ?_
  refine lV2 (q := 2723) dL_law_2720 yk_X9_bestDelay ml_L_351 hw.hm.t0 (hm S1 I1 L1 _ D hG (fun c h => wLo_lt h)) (fun o M' h => by obtain ⟨S2, I2, w, h1, h2⟩ := h; exact ⟨w, h1.1⟩) rfl rfl rfl (by omega) (by omega) (fun r M' h => ?_)
  obtain ⟨S2, I2, w, ⟨h1, hv⟩, rfl, hw2, ht⟩ := h
  cases h1
  refine jj_istore (q := 2725) dL_law_2723 (by decide) rfl ?_
  refine jj_aload_n (q := 2726) dL_law_2725 rfl rfl rfl ?_
  refine lV0 (q := 2729) dL_law_2726 yk_X9_thrown ml_L_191 hw.hm.t0 (ex_thr hw2.hm) (fun o M' h => ⟨_, h.1⟩) rfl rfl rfl (by omega) (by omega) (fun r M' h => ?_)
  obtain ⟨h1, rfl⟩ := h
  cases h1
  refine jj_iload (q := 2731) dL_law_2729 rfl rfl ?_
  refine jj_icmp_eq (q := 2734) (tgt := 2736) dL_law_2731 rfl rfl (fun h2731 => ?_) (fun h2731 => absurd (ht) h2731)
  refine jj_iload (q := 2738) dL_law_2736 rfl rfl ?_
  refine jj_if_ne (q := 2741) (tgt := 2753) dL_law_2738 rfl rfl (fun h2738 => ?_) (fun h2738 => ?_)
  · refine jj_goto (tgt := 3611) dL_law_2753 rfl ?_
    exact kk S2 I2 _ _ _ _ _ _ (Nat.add_le_add_left (ec_le n9) cells) (Nat.add_le_add_left (es_le n9) slots) hw2
  · refine jj_aload_n (q := 2742) dL_law_2741 rfl rfl rfl ?_
    refine jj_iconst (v := 0) (q := 2743) dL_law_2742 rfl rfl ?_
    refine jj_lald (v := v.toInt64) (q := 2744) dL_law_2743 hO vp_01 (wLo_at (hn0 h2738)) rfl ?_
    refine jj_iload (q := 2746) dL_law_2744 rfl rfl ?_
    refine jj_i2l (q := 2747) dL_law_2746 rfl ?_
    refine jj_lcmp (q := 2748) dL_law_2747 rfl ?_
    refine jj_if_eq (q := 2751) (tgt := 2753) dL_law_2748 rfl rfl (fun h2748 => ?_) (fun h2748 => absurd (lcmp_self (congrArg Int32.toInt64 (hv (hn0 h2738)).symm)) h2748)
    refine jj_goto (tgt := 3611) dL_law_2753 rfl ?_
    exact kk S2 I2 _ _ _ _ _ _ (Nat.add_le_add_left (ec_le n9) cells) (Nat.add_le_add_left (es_le n9) slots) hw2
theorem lc_50 {a6 a7 : Option Value} (hw : Wd Γ k xo mo T R S I L) (hk : k ≤ 599) (hol : mo + 18 ≤ b) (hO : T b = some (.inr (.long, 1))) (hO2 : T (b + 1) = some (.inr (.double, 1))) (p1 : vp_in (i + 1) Γ.sc.2.1) (p2 : vp_in (i + 2) Γ.sc.2.1) (p3 : vp_in (i + 3) Γ.sc.2.1) (p4 : vp_in (i + 4) Γ.sc.2.1) (p5 : vp_in (i + 5) Γ.sc.2.1) (hc : cells + 1 ≤ 601024) (hs : slots + 6 ≤ 7293034) (kk : Kk Γ Zf k xo mo b cells slots i T R) : JJ Γ EL Zf room_1 cells slots 2756 (Vl Γ.sc.1 xo mo b i a6 a7) [] (T, R, S, I, L, D, none) := by
  obtain ⟨n9, t, v, G, hal, hx, hm⟩ := (show BSt Γ k xo mo b 100 100 Y_X8_withoutLane Y_X9_withoutLane [.int (Γ.sc.2.2 (i + 1).toNatClampNeg), .int (Γ.sc.2.2 (i + 2).toNatClampNeg)] [(0, 0), (1, 1), (2, 2), (3, 3)] T R S I L from st_withoutLane hw (by omega) hol) D
  have hn0 : t = 0 → n9 = 0 := (by decide : ∀ p ∈ ([(0, 0), (1, 1), (2, 2), (3, 3)] : List (Nat × Int32)), p.2 = 0 → p.1 = 0) (n9, t) hal
  have e1 := ec_le n9
  have e2 := es_le n9
  refine jj_aload_n (q := 2757) dL_law_2756 rfl rfl rfl ?_
  refine jj_aload_n (q := 2758) dL_law_2757 rfl rfl rfl ?_
  refine jj_iload (q := 2760) dL_law_2758 rfl rfl ?_
  refine jj_iconst (v := 1) (q := 2761) dL_law_2760 rfl rfl ?_
  refine jj_iadd (q := 2762) dL_law_2761 rfl ?_
  refine jj_kiald (q := 2763) dL_law_2762 sc_E p1 rfl rfl ?_
  refine jj_aload_n (q := 2764) dL_law_2763 rfl rfl rfl ?_
  refine jj_iload (q := 2766) dL_law_2764 rfl rfl ?_
  refine jj_iconst (v := 2) (q := 2767) dL_law_2766 rfl rfl ?_
  refine jj_iadd (q := 2768) dL_law_2767 rfl ?_
  refine jj_kiald (q := 2769) dL_law_2768 sc_E p2 rfl rfl ?_
  refine jj_aload_n (q := 2770) dL_law_2769 rfl rfl rfl ?_
  refine lS4 (q := 2773) (t := t) dL_law_2770 yk_L_withoutLane ms_L_withoutLane (wr_withoutLane (v := v) (G := G) hw.tx hO hal hx) (fun o M' h => h.1) rfl rfl rfl (by omega) (by omega) (fun M' h => ?_)
  obtain ⟨h1, S1, I1, L1, rfl, hG⟩ := h
  clear h1
  refine jj_istore (q := 2775) dL_law_2773 (by decide) rfl ?_
  refine jj_aload_n (q := 2776) dL_law_2775 rfl rfl rfl ?_
  refine jj_aload_n (q := 2777) dL_law_2776 rfl rfl rfl ?_
  refine jj_iload (q := 2779) dL_law_2777 rfl rfl ?_
  refine jj_iconst (v := 1) (q := 2780) dL_law_2779 rfl rfl ?_
  refine jj_iadd (q := 2781) dL_law_2780 rfl ?_
  refine jj_kiald (q := 2782) dL_law_2781 sc_E p1 rfl rfl ?_
  refine jj_aload_n (q := 2783) dL_law_2782 rfl rfl rfl ?_
  refine jj_iload (q := 2785) dL_law_2783 rfl rfl ?_
  refine jj_iconst (v := 2) (q := 2786) dL_law_2785 rfl rfl ?_
  refine jj_iadd (q := 2787) dL_law_2786 rfl ?_
  refine jj_kiald (q := 2788) dL_law_2787 sc_E p2 rfl rfl ?_
  refine lV2 (q := 2791) dL_law_2788 yk_X9_withoutLane ml_L_354 hw.hm.t0 (hm S1 I1 L1 _ D hG (fun c h => wLo_lt h)) (fun o M' h => by obtain ⟨S2, I2, w, h1, h2⟩ := h; exact ⟨w, h1.1⟩) rfl rfl rfl (by omega) (by omega) (fun r M' h => ?_)
  obtain ⟨S2, I2, w, ⟨h1, hv⟩, rfl, hw2, ht⟩ := h
  cases h1
  refine jj_istore (q := 2793) dL_law_2791 (by decide) rfl ?_
  refine jj_aload_n (q := 2794) dL_law_2793 rfl rfl rfl ?_
  refine lV0 (q := 2797) dL_law_2794 yk_X9_thrown ml_L_191 hw.hm.t0 (ex_thr hw2.hm) (fun o M' h => ⟨_, h.1⟩) rfl rfl rfl (by omega) (by omega) (fun r M' h => ?_)
  obtain ⟨h1, rfl⟩ := h
  cases h1
  refine jj_iload (q := 2799) dL_law_2797 rfl rfl ?_
  refine jj_icmp_eq (q := 2802) (tgt := 2804) dL_law_2799 rfl rfl (fun h2799 => ?_) (fun h2799 => absurd (ht) h2799)
  refine jj_iload (q := 2806) dL_law_2804 rfl rfl ?_
  refine jj_if_ne (q := 2809) (tgt := 2821) dL_law_2806 rfl rfl (fun h2806 => ?_) (fun h2806 => ?_)
  · refine jj_goto (tgt := 3611) dL_law_2821 rfl ?_
    exact kk S2 I2 _ _ _ _ _ _ (Nat.add_le_add_left (ec_le n9) cells) (Nat.add_le_add_left (es_le n9) slots) hw2
  · refine jj_aload_n (q := 2810) dL_law_2809 rfl rfl rfl ?_
    refine jj_iconst (v := 0) (q := 2811) dL_law_2810 rfl rfl ?_
    refine jj_lald (v := v.toInt64) (q := 2812) dL_law_2811 hO vp_01 (wLo_at (hn0 h2806)) rfl ?_
    refine jj_iload (q := 2814) dL_law_2812 rfl rfl ?_
    refine jj_i2l (q := 2815) dL_law_2814 rfl ?_
    refine jj_lcmp (q := 2816) dL_law_2815 rfl ?_
    refine jj_if_eq (q := 2819) (tgt := 2821) dL_law_2816 rfl rfl (fun h2816 => ?_) (fun h2816 => absurd (lcmp_self (congrArg Int32.toInt64 (hv (hn0 h2806)).symm)) h2816)
    refine jj_goto (tgt := 3611) dL_law_2821 rfl ?_
    exact kk S2 I2 _ _ _ _ _ _ (Nat.add_le_add_left (ec_le n9) cells) (Nat.add_le_add_left (es_le n9) slots) hw2
theorem lc_51 {a6 a7 : Option Value} (hw : Wd Γ k xo mo T R S I L) (hk : k ≤ 599) (hol : mo + 18 ≤ b) (hO : T b = some (.inr (.long, 1))) (hO2 : T (b + 1) = some (.inr (.double, 1))) (p1 : vp_in (i + 1) Γ.sc.2.1) (p2 : vp_in (i + 2) Γ.sc.2.1) (p3 : vp_in (i + 3) Γ.sc.2.1) (p4 : vp_in (i + 4) Γ.sc.2.1) (p5 : vp_in (i + 5) Γ.sc.2.1) (hc : cells + 1 ≤ 601024) (hs : slots + 6 ≤ 7293034) (kk : Kk Γ Zf k xo mo b cells slots i T R) : JJ Γ EL Zf room_1 cells slots 2824 (Vl Γ.sc.1 xo mo b i a6 a7) [] (T, R, S, I, L, D, none) := by
  obtain ⟨n9, t, v, G, hal, hx, hm⟩ := (show BSt Γ k xo mo b 100 100 Y_X8_advance Y_X9_advance [.int (Γ.sc.2.2 (i + 1).toNatClampNeg)] [(0, 0), (1, 1), (3, 2)] T R S I L from st_advance hw (by omega) hol) D
  have hn0 : t = 0 → n9 = 0 := (by decide : ∀ p ∈ ([(0, 0), (1, 1), (3, 2)] : List (Nat × Int32)), p.2 = 0 → p.1 = 0) (n9, t) hal
  have e1 := ec_le n9
  have e2 := es_le n9
  refine jj_aload_n (q := 2825) dL_law_2824 rfl rfl rfl ?_
  refine jj_aload_n (q := 2826) dL_law_2825 rfl rfl rfl ?_
  refine jj_iload (q := 2828) dL_law_2826 rfl rfl ?_
  refine jj_iconst (v := 1) (q := 2829) dL_law_2828 rfl rfl ?_
  refine jj_iadd (q := 2830) dL_law_2829 rfl ?_
  refine jj_kiald (q := 2831) dL_law_2830 sc_E p1 rfl rfl ?_
  refine jj_aload_n (q := 2832) dL_law_2831 rfl rfl rfl ?_
  refine lS3 (q := 2835) (t := t) dL_law_2832 yk_L_advance ms_L_advance (wr_advance (v := v) (G := G) hw.tx hO hal hx) (fun o M' h => h.1) rfl rfl rfl (by omega) (by omega) (fun M' h => ?_)
  obtain ⟨h1, S1, I1, L1, rfl, hG⟩ := h
  clear h1
  refine jj_istore (q := 2837) dL_law_2835 (by decide) rfl ?_
  refine jj_aload_n (q := 2838) dL_law_2837 rfl rfl rfl ?_
  refine jj_aload_n (q := 2839) dL_law_2838 rfl rfl rfl ?_
  refine jj_iload (q := 2841) dL_law_2839 rfl rfl ?_
  refine jj_iconst (v := 1) (q := 2842) dL_law_2841 rfl rfl ?_
  refine jj_iadd (q := 2843) dL_law_2842 rfl ?_
  refine jj_kiald (q := 2844) dL_law_2843 sc_E p1 rfl rfl ?_
  refine lV1 (q := 2847) dL_law_2844 yk_X9_advance ml_L_357 hw.hm.t0 (hm S1 I1 L1 _ D hG (fun c h => wLo_lt h)) (fun o M' h => by obtain ⟨S2, I2, w, h1, h2⟩ := h; exact ⟨w, h1.1⟩) rfl rfl rfl (by omega) (by omega) (fun r M' h => ?_)
  obtain ⟨S2, I2, w, ⟨h1, hv⟩, rfl, hw2, ht⟩ := h
  cases h1
  refine jj_istore (q := 2849) dL_law_2847 (by decide) rfl ?_
  refine jj_aload_n (q := 2850) dL_law_2849 rfl rfl rfl ?_
  refine lV0 (q := 2853) dL_law_2850 yk_X9_thrown ml_L_191 hw.hm.t0 (ex_thr hw2.hm) (fun o M' h => ⟨_, h.1⟩) rfl rfl rfl (by omega) (by omega) (fun r M' h => ?_)
  obtain ⟨h1, rfl⟩ := h
  cases h1
  refine jj_iload (q := 2855) dL_law_2853 rfl rfl ?_
  refine jj_icmp_eq (q := 2858) (tgt := 2860) dL_law_2855 rfl rfl (fun h2855 => ?_) (fun h2855 => absurd (ht) h2855)
  refine jj_iload (q := 2862) dL_law_2860 rfl rfl ?_
  refine jj_if_ne (q := 2865) (tgt := 2877) dL_law_2862 rfl rfl (fun h2862 => ?_) (fun h2862 => ?_)
  · refine jj_goto (tgt := 3611) dL_law_2877 rfl ?_
    exact kk S2 I2 _ _ _ _ _ _ (Nat.add_le_add_left (ec_le n9) cells) (Nat.add_le_add_left (es_le n9) slots) hw2
  · refine jj_aload_n (q := 2866) dL_law_2865 rfl rfl rfl ?_
    refine jj_iconst (v := 0) (q := 2867) dL_law_2866 rfl rfl ?_
    refine jj_lald (v := v.toInt64) (q := 2868) dL_law_2867 hO vp_01 (wLo_at (hn0 h2862)) rfl ?_
    refine jj_iload (q := 2870) dL_law_2868 rfl rfl ?_
    refine jj_i2l (q := 2871) dL_law_2870 rfl ?_
    refine jj_lcmp (q := 2872) dL_law_2871 rfl ?_
    refine jj_if_eq (q := 2875) (tgt := 2877) dL_law_2872 rfl rfl (fun h2872 => ?_) (fun h2872 => absurd (lcmp_self (congrArg Int32.toInt64 (hv (hn0 h2862)).symm)) h2872)
    refine jj_goto (tgt := 3611) dL_law_2877 rfl ?_
    exact kk S2 I2 _ _ _ _ _ _ (Nat.add_le_add_left (ec_le n9) cells) (Nat.add_le_add_left (es_le n9) slots) hw2
theorem lc_52 {a6 a7 : Option Value} (hw : Wd Γ k xo mo T R S I L) (hk : k ≤ 599) (hol : mo + 18 ≤ b) (hO : T b = some (.inr (.long, 1))) (hO2 : T (b + 1) = some (.inr (.double, 1))) (p1 : vp_in (i + 1) Γ.sc.2.1) (p2 : vp_in (i + 2) Γ.sc.2.1) (p3 : vp_in (i + 3) Γ.sc.2.1) (p4 : vp_in (i + 4) Γ.sc.2.1) (p5 : vp_in (i + 5) Γ.sc.2.1) (hc : cells + 1 ≤ 601024) (hs : slots + 6 ≤ 7293034) (kk : Kk Γ Zf k xo mo b cells slots i T R) : JJ Γ EL Zf room_1 cells slots 2880 (Vl Γ.sc.1 xo mo b i a6 a7) [] (T, R, S, I, L, D, none) := by
  obtain ⟨n9, t, v, G, hal, hx, hm⟩ := (show BSt Γ k xo mo b 100 100 Y_X8_addBags Y_X9_addBags [.int (Γ.sc.2.2 (i + 1).toNatClampNeg), .int (Γ.sc.2.2 (i + 2).toNatClampNeg), .int (Γ.sc.2.2 (i + 3).toNatClampNeg)] [(0, 0), (1, 1), (2, 2), (3, 3)] T R S I L from st_addBags hw (by omega) hol) D
  have hn0 : t = 0 → n9 = 0 := (by decide : ∀ p ∈ ([(0, 0), (1, 1), (2, 2), (3, 3)] : List (Nat × Int32)), p.2 = 0 → p.1 = 0) (n9, t) hal
  have e1 := ec_le n9
  have e2 := es_le n9
  refine jj_aload_n (q := 2881) dL_law_2880 rfl rfl rfl ?_
  refine jj_aload_n (q := 2882) dL_law_2881 rfl rfl rfl ?_
  refine jj_iload (q := 2884) dL_law_2882 rfl rfl ?_
  refine jj_iconst (v := 1) (q := 2885) dL_law_2884 rfl rfl ?_
  refine jj_iadd (q := 2886) dL_law_2885 rfl ?_
  refine jj_kiald (q := 2887) dL_law_2886 sc_E p1 rfl rfl ?_
  refine jj_aload_n (q := 2888) dL_law_2887 rfl rfl rfl ?_
  refine jj_iload (q := 2890) dL_law_2888 rfl rfl ?_
  refine jj_iconst (v := 2) (q := 2891) dL_law_2890 rfl rfl ?_
  refine jj_iadd (q := 2892) dL_law_2891 rfl ?_
  refine jj_kiald (q := 2893) dL_law_2892 sc_E p2 rfl rfl ?_
  refine jj_aload_n (q := 2894) dL_law_2893 rfl rfl rfl ?_
  refine jj_iload (q := 2896) dL_law_2894 rfl rfl ?_
  refine jj_iconst (v := 3) (q := 2897) dL_law_2896 rfl rfl ?_
  refine jj_iadd (q := 2898) dL_law_2897 rfl ?_
  refine jj_kiald (q := 2899) dL_law_2898 sc_E p3 rfl rfl ?_
  refine jj_aload_n (q := 2900) dL_law_2899 rfl rfl rfl ?_
  refine lS5 (q := 2903) (t := t) dL_law_2900 yk_L_addBags ms_L_addBags (wr_addBags (v := v) (G := G) hw.tx hO hal hx) (fun o M' h => h.1) rfl rfl rfl (by omega) (by omega) (fun M' h => ?_)
  obtain ⟨h1, S1, I1, L1, rfl, hG⟩ := h
  clear h1
  refine jj_istore (q := 2905) dL_law_2903 (by decide) rfl ?_
  refine jj_aload_n (q := 2906) dL_law_2905 rfl rfl rfl ?_
  refine jj_aload_n (q := 2907) dL_law_2906 rfl rfl rfl ?_
  refine jj_iload (q := 2909) dL_law_2907 rfl rfl ?_
  refine jj_iconst (v := 1) (q := 2910) dL_law_2909 rfl rfl ?_
  refine jj_iadd (q := 2911) dL_law_2910 rfl ?_
  refine jj_kiald (q := 2912) dL_law_2911 sc_E p1 rfl rfl ?_
  refine jj_aload_n (q := 2913) dL_law_2912 rfl rfl rfl ?_
  refine jj_iload (q := 2915) dL_law_2913 rfl rfl ?_
  refine jj_iconst (v := 2) (q := 2916) dL_law_2915 rfl rfl ?_
  refine jj_iadd (q := 2917) dL_law_2916 rfl ?_
  refine jj_kiald (q := 2918) dL_law_2917 sc_E p2 rfl rfl ?_
  refine jj_aload_n (q := 2919) dL_law_2918 rfl rfl rfl ?_
  refine jj_iload (q := 2921) dL_law_2919 rfl rfl ?_
  refine jj_iconst (v := 3) (q := 2922) dL_law_2921 rfl rfl ?_
  refine jj_iadd (q := 2923) dL_law_2922 rfl ?_
  refine jj_kiald (q := 2924) dL_law_2923 sc_E p3 rfl rfl ?_
  refine lV3 (q := 2927) dL_law_2924 yk_X9_addBags ml_L_361 hw.hm.t0 (hm S1 I1 L1 _ D hG (fun c h => wLo_lt h)) (fun o M' h => by obtain ⟨S2, I2, w, h1, h2⟩ := h; exact ⟨w, h1.1⟩) rfl rfl rfl (by omega) (by omega) (fun r M' h => ?_)
  obtain ⟨S2, I2, w, ⟨h1, hv⟩, rfl, hw2, ht⟩ := h
  cases h1
  refine jj_istore (q := 2929) dL_law_2927 (by decide) rfl ?_
  refine jj_aload_n (q := 2930) dL_law_2929 rfl rfl rfl ?_
  refine lV0 (q := 2933) dL_law_2930 yk_X9_thrown ml_L_191 hw.hm.t0 (ex_thr hw2.hm) (fun o M' h => ⟨_, h.1⟩) rfl rfl rfl (by omega) (by omega) (fun r M' h => ?_)
  obtain ⟨h1, rfl⟩ := h
  cases h1
  refine jj_iload (q := 2935) dL_law_2933 rfl rfl ?_
  refine jj_icmp_eq (q := 2938) (tgt := 2940) dL_law_2935 rfl rfl (fun h2935 => ?_) (fun h2935 => absurd (ht) h2935)
  refine jj_iload (q := 2942) dL_law_2940 rfl rfl ?_
  refine jj_if_ne (q := 2945) (tgt := 2957) dL_law_2942 rfl rfl (fun h2942 => ?_) (fun h2942 => ?_)
  · refine jj_goto (tgt := 3611) dL_law_2957 rfl ?_
    exact kk S2 I2 _ _ _ _ _ _ (Nat.add_le_add_left (ec_le n9) cells) (Nat.add_le_add_left (es_le n9) slots) hw2
  · refine jj_aload_n (q := 2946) dL_law_2945 rfl rfl rfl ?_
    refine jj_iconst (v := 0) (q := 2947) dL_law_2946 rfl rfl ?_
    refine jj_lald (v := v.toInt64) (q := 2948) dL_law_2947 hO vp_01 (wLo_at (hn0 h2942)) rfl ?_
    refine jj_iload (q := 2950) dL_law_2948 rfl rfl ?_
    refine jj_i2l (q := 2951) dL_law_2950 rfl ?_
    refine jj_lcmp (q := 2952) dL_law_2951 rfl ?_
    refine jj_if_eq (q := 2955) (tgt := 2957) dL_law_2952 rfl rfl (fun h2952 => ?_) (fun h2952 => absurd (lcmp_self (congrArg Int32.toInt64 (hv (hn0 h2942)).symm)) h2952)
    refine jj_goto (tgt := 3611) dL_law_2957 rfl ?_
    exact kk S2 I2 _ _ _ _ _ _ (Nat.add_le_add_left (ec_le n9) cells) (Nat.add_le_add_left (es_le n9) slots) hw2
theorem lc_53 {a6 a7 : Option Value} (hw : Wd Γ k xo mo T R S I L) (hk : k ≤ 599) (hol : mo + 18 ≤ b) (hO : T b = some (.inr (.long, 1))) (hO2 : T (b + 1) = some (.inr (.double, 1))) (p1 : vp_in (i + 1) Γ.sc.2.1) (p2 : vp_in (i + 2) Γ.sc.2.1) (p3 : vp_in (i + 3) Γ.sc.2.1) (p4 : vp_in (i + 4) Γ.sc.2.1) (p5 : vp_in (i + 5) Γ.sc.2.1) (hc : cells + 1 ≤ 601024) (hs : slots + 6 ≤ 7293034) (kk : Kk Γ Zf k xo mo b cells slots i T R) : JJ Γ EL Zf room_1 cells slots 2960 (Vl Γ.sc.1 xo mo b i a6 a7) [] (T, R, S, I, L, D, none) := by
  obtain ⟨n9, t, v, G, hal, hx, hm⟩ := (show BSt Γ k xo mo b 100 100 Y_X8_delay Y_X9_delay [.int (Γ.sc.2.2 (i + 1).toNatClampNeg), .int (Γ.sc.2.2 (i + 2).toNatClampNeg)] [(0, 0), (1, 1), (2, 2), (3, 3)] T R S I L from st_delay hw (by omega) hol) D
  have hn0 : t = 0 → n9 = 0 := (by decide : ∀ p ∈ ([(0, 0), (1, 1), (2, 2), (3, 3)] : List (Nat × Int32)), p.2 = 0 → p.1 = 0) (n9, t) hal
  have e1 := ec_le n9
  have e2 := es_le n9
  refine jj_aload_n (q := 2961) dL_law_2960 rfl rfl rfl ?_
  refine jj_aload_n (q := 2962) dL_law_2961 rfl rfl rfl ?_
  refine jj_iload (q := 2964) dL_law_2962 rfl rfl ?_
  refine jj_iconst (v := 1) (q := 2965) dL_law_2964 rfl rfl ?_
  refine jj_iadd (q := 2966) dL_law_2965 rfl ?_
  refine jj_kiald (q := 2967) dL_law_2966 sc_E p1 rfl rfl ?_
  refine jj_aload_n (q := 2968) dL_law_2967 rfl rfl rfl ?_
  refine jj_iload (q := 2970) dL_law_2968 rfl rfl ?_
  refine jj_iconst (v := 2) (q := 2971) dL_law_2970 rfl rfl ?_
  refine jj_iadd (q := 2972) dL_law_2971 rfl ?_
  refine jj_kiald (q := 2973) dL_law_2972 sc_E p2 rfl rfl ?_
  refine jj_aload_n (q := 2974) dL_law_2973 rfl rfl rfl ?_
  refine lS4 (q := 2977) (t := t) dL_law_2974 yk_L_delay ms_L_delay (wr_delay (v := v) (G := G) hw.tx hO hal hx) (fun o M' h => h.1) rfl rfl rfl (by omega) (by omega) (fun M' h => ?_)
  obtain ⟨h1, S1, I1, L1, rfl, hG⟩ := h
  clear h1
  refine jj_istore (q := 2979) dL_law_2977 (by decide) rfl ?_
  refine jj_aload_n (q := 2980) dL_law_2979 rfl rfl rfl ?_
  refine jj_aload_n (q := 2981) dL_law_2980 rfl rfl rfl ?_
  refine jj_iload (q := 2983) dL_law_2981 rfl rfl ?_
  refine jj_iconst (v := 1) (q := 2984) dL_law_2983 rfl rfl ?_
  refine jj_iadd (q := 2985) dL_law_2984 rfl ?_
  refine jj_kiald (q := 2986) dL_law_2985 sc_E p1 rfl rfl ?_
  refine jj_aload_n (q := 2987) dL_law_2986 rfl rfl rfl ?_
  refine jj_iload (q := 2989) dL_law_2987 rfl rfl ?_
  refine jj_iconst (v := 2) (q := 2990) dL_law_2989 rfl rfl ?_
  refine jj_iadd (q := 2991) dL_law_2990 rfl ?_
  refine jj_kiald (q := 2992) dL_law_2991 sc_E p2 rfl rfl ?_
  refine lV2 (q := 2995) dL_law_2992 yk_X9_delay ml_L_364 hw.hm.t0 (hm S1 I1 L1 _ D hG (fun c h => wLo_lt h)) (fun o M' h => by obtain ⟨S2, I2, w, h1, h2⟩ := h; exact ⟨w, h1.1⟩) rfl rfl rfl (by omega) (by omega) (fun r M' h => ?_)
  obtain ⟨S2, I2, w, ⟨h1, hv⟩, rfl, hw2, ht⟩ := h
  cases h1
  refine jj_istore (q := 2997) dL_law_2995 (by decide) rfl ?_
  refine jj_aload_n (q := 2998) dL_law_2997 rfl rfl rfl ?_
  refine lV0 (q := 3001) dL_law_2998 yk_X9_thrown ml_L_191 hw.hm.t0 (ex_thr hw2.hm) (fun o M' h => ⟨_, h.1⟩) rfl rfl rfl (by omega) (by omega) (fun r M' h => ?_)
  obtain ⟨h1, rfl⟩ := h
  cases h1
  refine jj_iload (q := 3003) dL_law_3001 rfl rfl ?_
  refine jj_icmp_eq (q := 3006) (tgt := 3008) dL_law_3003 rfl rfl (fun h3003 => ?_) (fun h3003 => absurd (ht) h3003)
  refine jj_iload (q := 3010) dL_law_3008 rfl rfl ?_
  refine jj_if_ne (q := 3013) (tgt := 3025) dL_law_3010 rfl rfl (fun h3010 => ?_) (fun h3010 => ?_)
  · refine jj_goto (tgt := 3611) dL_law_3025 rfl ?_
    exact kk S2 I2 _ _ _ _ _ _ (Nat.add_le_add_left (ec_le n9) cells) (Nat.add_le_add_left (es_le n9) slots) hw2
  · refine jj_aload_n (q := 3014) dL_law_3013 rfl rfl rfl ?_
    refine jj_iconst (v := 0) (q := 3015) dL_law_3014 rfl rfl ?_
    refine jj_lald (v := v.toInt64) (q := 3016) dL_law_3015 hO vp_01 (wLo_at (hn0 h3010)) rfl ?_
    refine jj_iload (q := 3018) dL_law_3016 rfl rfl ?_
    refine jj_i2l (q := 3019) dL_law_3018 rfl ?_
    refine jj_lcmp (q := 3020) dL_law_3019 rfl ?_
    refine jj_if_eq (q := 3023) (tgt := 3025) dL_law_3020 rfl rfl (fun h3020 => ?_) (fun h3020 => absurd (lcmp_self (congrArg Int32.toInt64 (hv (hn0 h3010)).symm)) h3020)
    refine jj_goto (tgt := 3611) dL_law_3025 rfl ?_
    exact kk S2 I2 _ _ _ _ _ _ (Nat.add_le_add_left (ec_le n9) cells) (Nat.add_le_add_left (es_le n9) slots) hw2
theorem lc_54 {a6 a7 : Option Value} (hw : Wd Γ k xo mo T R S I L) (hk : k ≤ 599) (hol : mo + 18 ≤ b) (hO : T b = some (.inr (.long, 1))) (hO2 : T (b + 1) = some (.inr (.double, 1))) (p1 : vp_in (i + 1) Γ.sc.2.1) (p2 : vp_in (i + 2) Γ.sc.2.1) (p3 : vp_in (i + 3) Γ.sc.2.1) (p4 : vp_in (i + 4) Γ.sc.2.1) (p5 : vp_in (i + 5) Γ.sc.2.1) (hc : cells + 1 ≤ 601024) (hs : slots + 6 ≤ 7293034) (kk : Kk Γ Zf k xo mo b cells slots i T R) : JJ Γ EL Zf room_1 cells slots 3028 (Vl Γ.sc.1 xo mo b i a6 a7) [] (T, R, S, I, L, D, none) := by
  obtain ⟨n9, t, v, G, hal, hx, hm⟩ := (show BSt Γ k xo mo b 100 100 Y_X8_offload Y_X9_offload [.int (Γ.sc.2.2 (i + 1).toNatClampNeg)] [(0, 0), (1, 1), (2, 2), (3, 3)] T R S I L from st_offload hw (by omega) hol) D
  have hn0 : t = 0 → n9 = 0 := (by decide : ∀ p ∈ ([(0, 0), (1, 1), (2, 2), (3, 3)] : List (Nat × Int32)), p.2 = 0 → p.1 = 0) (n9, t) hal
  have e1 := ec_le n9
  have e2 := es_le n9
  refine jj_aload_n (q := 3029) dL_law_3028 rfl rfl rfl ?_
  refine jj_aload_n (q := 3030) dL_law_3029 rfl rfl rfl ?_
  refine jj_iload (q := 3032) dL_law_3030 rfl rfl ?_
  refine jj_iconst (v := 1) (q := 3033) dL_law_3032 rfl rfl ?_
  refine jj_iadd (q := 3034) dL_law_3033 rfl ?_
  refine jj_kiald (q := 3035) dL_law_3034 sc_E p1 rfl rfl ?_
  refine jj_aload_n (q := 3036) dL_law_3035 rfl rfl rfl ?_
  refine lS3 (q := 3039) (t := t) dL_law_3036 yk_L_offload ms_L_offload (wr_offload (v := v) (G := G) hw.tx hO hal hx) (fun o M' h => h.1) rfl rfl rfl (by omega) (by omega) (fun M' h => ?_)
  obtain ⟨h1, S1, I1, L1, rfl, hG⟩ := h
  clear h1
  refine jj_istore (q := 3041) dL_law_3039 (by decide) rfl ?_
  refine jj_aload_n (q := 3042) dL_law_3041 rfl rfl rfl ?_
  refine jj_aload_n (q := 3043) dL_law_3042 rfl rfl rfl ?_
  refine jj_iload (q := 3045) dL_law_3043 rfl rfl ?_
  refine jj_iconst (v := 1) (q := 3046) dL_law_3045 rfl rfl ?_
  refine jj_iadd (q := 3047) dL_law_3046 rfl ?_
  refine jj_kiald (q := 3048) dL_law_3047 sc_E p1 rfl rfl ?_
  refine lV1 (q := 3051) dL_law_3048 yk_X9_offload ml_L_367 hw.hm.t0 (hm S1 I1 L1 _ D hG (fun c h => wLo_lt h)) (fun o M' h => by obtain ⟨S2, I2, w, h1, h2⟩ := h; exact ⟨w, h1.1⟩) rfl rfl rfl (by omega) (by omega) (fun r M' h => ?_)
  obtain ⟨S2, I2, w, ⟨h1, hv⟩, rfl, hw2, ht⟩ := h
  cases h1
  refine jj_istore (q := 3053) dL_law_3051 (by decide) rfl ?_
  refine jj_aload_n (q := 3054) dL_law_3053 rfl rfl rfl ?_
  refine lV0 (q := 3057) dL_law_3054 yk_X9_thrown ml_L_191 hw.hm.t0 (ex_thr hw2.hm) (fun o M' h => ⟨_, h.1⟩) rfl rfl rfl (by omega) (by omega) (fun r M' h => ?_)
  obtain ⟨h1, rfl⟩ := h
  cases h1
  refine jj_iload (q := 3059) dL_law_3057 rfl rfl ?_
  refine jj_icmp_eq (q := 3062) (tgt := 3064) dL_law_3059 rfl rfl (fun h3059 => ?_) (fun h3059 => absurd (ht) h3059)
  refine jj_iload (q := 3066) dL_law_3064 rfl rfl ?_
  refine jj_if_ne (q := 3069) (tgt := 3081) dL_law_3066 rfl rfl (fun h3066 => ?_) (fun h3066 => ?_)
  · refine jj_goto (tgt := 3611) dL_law_3081 rfl ?_
    exact kk S2 I2 _ _ _ _ _ _ (Nat.add_le_add_left (ec_le n9) cells) (Nat.add_le_add_left (es_le n9) slots) hw2
  · refine jj_aload_n (q := 3070) dL_law_3069 rfl rfl rfl ?_
    refine jj_iconst (v := 0) (q := 3071) dL_law_3070 rfl rfl ?_
    refine jj_lald (v := v.toInt64) (q := 3072) dL_law_3071 hO vp_01 (wLo_at (hn0 h3066)) rfl ?_
    refine jj_iload (q := 3074) dL_law_3072 rfl rfl ?_
    refine jj_i2l (q := 3075) dL_law_3074 rfl ?_
    refine jj_lcmp (q := 3076) dL_law_3075 rfl ?_
    refine jj_if_eq (q := 3079) (tgt := 3081) dL_law_3076 rfl rfl (fun h3076 => ?_) (fun h3076 => absurd (lcmp_self (congrArg Int32.toInt64 (hv (hn0 h3066)).symm)) h3076)
    refine jj_goto (tgt := 3611) dL_law_3081 rfl ?_
    exact kk S2 I2 _ _ _ _ _ _ (Nat.add_le_add_left (ec_le n9) cells) (Nat.add_le_add_left (es_le n9) slots) hw2
end C14
