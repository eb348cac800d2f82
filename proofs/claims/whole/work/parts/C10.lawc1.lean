/-! THE LAW'S CASES, 1 (by program) -/
section C10
variable {Γ : Gam} {Zf : List Frame → Array Value → State → State → Prop} {cells slots k xo mo b : Nat} {T : JT} {R S : JR} {I : JI} {L : JL} {D : JD} {i : Int32}
theorem lc_0 {a6 a7 : Option Value} (hw : Wd Γ k xo mo T R S I L) (hk : k ≤ 599) (hol : mo + 18 ≤ b) (hO : T b = some (.inr (.long, 1))) (hO2 : T (b + 1) = some (.inr (.double, 1))) (p1 : vp_in (i + 1) Γ.sc.2.1) (p2 : vp_in (i + 2) Γ.sc.2.1) (p3 : vp_in (i + 3) Γ.sc.2.1) (p4 : vp_in (i + 4) Γ.sc.2.1) (p5 : vp_in (i + 5) Γ.sc.2.1) (hc : cells + 1 ≤ 601024) (hs : slots + 6 ≤ 7293034) (kk : Kk Γ Zf k xo mo b cells slots i T R) : JJ Γ EL Zf room_1 cells slots 316 (Vl Γ.sc.1 xo mo b i a6 a7) [] (T, R, S, I, L, D, none) := by
  obtain ⟨n9, t, v, G, hal, hx, hm⟩ := (show BSt Γ k xo mo b 100 100 Y_X8_append Y_X9_append [.int (Γ.sc.2.2 (i + 1).toNatClampNeg), .int (Γ.sc.2.2 (i + 2).toNatClampNeg), .int (Γ.sc.2.2 (i + 3).toNatClampNeg), .int (Γ.sc.2.2 (i + 4).toNatClampNeg), .int (Γ.sc.2.2 (i + 5).toNatClampNeg)] [(0, 0)] T R S I L from st_append hw (by omega) hol) D
  simp only [List.mem_cons, List.mem_nil_iff, Prod.mk.injEq, or_false] at hal
  obtain ⟨rfl, rfl⟩ := hal
  refine jj_aload_n (q := 317) dL_law_316 rfl rfl rfl ?_
  refine jj_aload_n (q := 318) dL_law_317 rfl rfl rfl ?_
  refine jj_iload (q := 320) dL_law_318 rfl rfl ?_
  refine jj_iconst (v := 1) (q := 321) dL_law_320 rfl rfl ?_
  refine jj_iadd (q := 322) dL_law_321 rfl ?_
  refine jj_kiald (q := 323) dL_law_322 sc_E p1 rfl rfl ?_
  refine jj_aload_n (q := 324) dL_law_323 rfl rfl rfl ?_
  refine jj_iload (q := 326) dL_law_324 rfl rfl ?_
  refine jj_iconst (v := 2) (q := 327) dL_law_326 rfl rfl ?_
  refine jj_iadd (q := 328) dL_law_327 rfl ?_
  refine jj_kiald (q := 329) dL_law_328 sc_E p2 rfl rfl ?_
  refine jj_aload_n (q := 330) dL_law_329 rfl rfl rfl ?_
  refine jj_iload (q := 332) dL_law_330 rfl rfl ?_
  refine jj_iconst (v := 3) (q := 333) dL_law_332 rfl rfl ?_
  refine jj_iadd (q := 334) dL_law_333 rfl ?_
  refine jj_kiald (q := 335) dL_law_334 sc_E p3 rfl rfl ?_
  refine jj_aload_n (q := 336) dL_law_335 rfl rfl rfl ?_
  refine jj_iload (q := 338) dL_law_336 rfl rfl ?_
  refine jj_iconst (v := 4) (q := 339) dL_law_338 rfl rfl ?_
  refine jj_iadd (q := 340) dL_law_339 rfl ?_
  refine jj_kiald (q := 341) dL_law_340 sc_E p4 rfl rfl ?_
  refine jj_aload_n (q := 342) dL_law_341 rfl rfl rfl ?_
  refine jj_iload (q := 344) dL_law_342 rfl rfl ?_
  refine jj_iconst (v := 5) (q := 345) dL_law_344 rfl rfl ?_
  refine jj_iadd (q := 346) dL_law_345 rfl ?_
  refine jj_kiald (q := 347) dL_law_346 sc_E p5 rfl rfl ?_
  refine lV5 (q := 350) dL_law_347 yk_X8_append ml_L_180 hw.tx hx (fun o M' h => ⟨v, h.1⟩) rfl rfl rfl (by omega) (by omega) (fun r M' h => ?_)
  obtain ⟨h1, S1, I1, L1, rfl, hG⟩ := h
  cases h1
  refine jj_aload_n (q := 351) dL_law_350 rfl rfl rfl ?_
  refine jj_aload_n (q := 352) dL_law_351 rfl rfl rfl ?_
  refine jj_iload (q := 354) dL_law_352 rfl rfl ?_
  refine jj_iconst (v := 1) (q := 355) dL_law_354 rfl rfl ?_
  refine jj_iadd (q := 356) dL_law_355 rfl ?_
  refine jj_kiald (q := 357) dL_law_356 sc_E p1 rfl rfl ?_
  refine jj_aload_n (q := 358) dL_law_357 rfl rfl rfl ?_
  refine jj_iload (q := 360) dL_law_358 rfl rfl ?_
  refine jj_iconst (v := 2) (q := 361) dL_law_360 rfl rfl ?_
  refine jj_iadd (q := 362) dL_law_361 rfl ?_
  refine jj_kiald (q := 363) dL_law_362 sc_E p2 rfl rfl ?_
  refine jj_aload_n (q := 364) dL_law_363 rfl rfl rfl ?_
  refine jj_iload (q := 366) dL_law_364 rfl rfl ?_
  refine jj_iconst (v := 3) (q := 367) dL_law_366 rfl rfl ?_
  refine jj_iadd (q := 368) dL_law_367 rfl ?_
  refine jj_kiald (q := 369) dL_law_368 sc_E p3 rfl rfl ?_
  refine jj_aload_n (q := 370) dL_law_369 rfl rfl rfl ?_
  refine jj_iload (q := 372) dL_law_370 rfl rfl ?_
  refine jj_iconst (v := 4) (q := 373) dL_law_372 rfl rfl ?_
  refine jj_iadd (q := 374) dL_law_373 rfl ?_
  refine jj_kiald (q := 375) dL_law_374 sc_E p4 rfl rfl ?_
  refine jj_aload_n (q := 376) dL_law_375 rfl rfl rfl ?_
  refine jj_iload (q := 378) dL_law_376 rfl rfl ?_
  refine jj_iconst (v := 5) (q := 379) dL_law_378 rfl rfl ?_
  refine jj_iadd (q := 380) dL_law_379 rfl ?_
  refine jj_kiald (q := 381) dL_law_380 sc_E p5 rfl rfl ?_
  refine lV5 (q := 384) dL_law_381 yk_X9_append ml_L_184 hw.hm.t0 (hm S1 I1 L1 L1 D hG (fun _ _ => rfl)) (fun o M' h => by obtain ⟨S2, I2, w, h1, h2⟩ := h; exact ⟨w, h1.1⟩) rfl rfl rfl (by omega) (by omega) (fun r M' h => ?_)
  obtain ⟨S2, I2, w, ⟨h1, hv⟩, rfl, hw2, ht⟩ := h
  cases h1
  refine jj_icmp_eq (q := 387) (tgt := 3611) dL_law_384 rfl rfl (fun h384 => ?_) (fun h384 => absurd ((hv rfl).symm) h384)
  exact kk S2 I2 _ _ _ _ _ _ (Nat.le_add_right _ _) (Nat.le_add_right _ _) hw2
theorem lc_1 {a6 a7 : Option Value} (hw : Wd Γ k xo mo T R S I L) (hk : k ≤ 599) (hol : mo + 18 ≤ b) (hO : T b = some (.inr (.long, 1))) (hO2 : T (b + 1) = some (.inr (.double, 1))) (p1 : vp_in (i + 1) Γ.sc.2.1) (p2 : vp_in (i + 2) Γ.sc.2.1) (p3 : vp_in (i + 3) Γ.sc.2.1) (p4 : vp_in (i + 4) Γ.sc.2.1) (p5 : vp_in (i + 5) Γ.sc.2.1) (hc : cells + 1 ≤ 601024) (hs : slots + 6 ≤ 7293034) (kk : Kk Γ Zf k xo mo b cells slots i T R) : JJ Γ EL Zf room_1 cells slots 389 (Vl Γ.sc.1 xo mo b i a6 a7) [] (T, R, S, I, L, D, none) := by
  obtain ⟨n9, t, v, G, hal, hx, hm⟩ := (show BSt Γ k xo mo b 100 100 Y_X8_load Y_X9_load [.int (Γ.sc.2.2 (i + 1).toNatClampNeg)] [(0, 0), (2, 1), (3, 2)] T R S I L from st_load hw (by omega) hol) D
  have hn0 : t = 0 → n9 = 0 := (by decide : ∀ p ∈ ([(0, 0), (2, 1), (3, 2)] : List (Nat × Int32)), p.2 = 0 → p.1 = 0) (n9, t) hal
  have e1 := ec_le n9
  have e2 := es_le n9
  refine jj_aload_n (q := 390) dL_law_389 rfl rfl rfl ?_
  refine jj_aload_n (q := 391) dL_law_390 rfl rfl rfl ?_
  refine jj_iload (q := 393) dL_law_391 rfl rfl ?_
  refine jj_iconst (v := 1) (q := 394) dL_law_393 rfl rfl ?_
  refine jj_iadd (q := 395) dL_law_394 rfl ?_
  refine jj_kiald (q := 396) dL_law_395 sc_E p1 rfl rfl ?_
  refine jj_aload_n (q := 397) dL_law_396 rfl rfl rfl ?_
  refine lS3 (q := 400) (t := t) dL_law_397 yk_L_load ms_L_load (wr_load (v := v) (G := G) hw.tx hO hal hx) (fun o M' h => h.1) rfl rfl rfl (by omega) (by omega) (fun M' h => ?_)
  obtain ⟨h1, S1, I1, L1, rfl, hG⟩ := h
  clear h1
  refine jj_istore (q := 402) dL_law_400 (by decide) rfl ?_
  refine jj_aload_n (q := 403) dL_law_402 rfl rfl rfl ?_
  refine jj_aload_n (q := 404) dL_law_403 rfl rfl rfl ?_
  refine jj_iload (q := 406) dL_law_404 rfl rfl ?_
  refine jj_iconst (v := 1) (q := 407) dL_law_406 rfl rfl ?_
  refine jj_iadd (q := 408) dL_law_407 rfl ?_
  refine jj_kiald (q := 409) dL_law_408 sc_E p1 rfl rfl ?_
  refine lV1 (q := 412) dL_law_409 yk_X9_load ml_L_190 hw.hm.t0 (hm S1 I1 L1 _ D hG (fun c h => wLo_lt h)) (fun o M' h => by obtain ⟨S2, I2, w, h1, h2⟩ := h; exact ⟨w, h1.1⟩) rfl rfl rfl (by omega) (by omega) (fun r M' h => ?_)
  obtain ⟨S2, I2, w, ⟨h1, hv⟩, rfl, hw2, ht⟩ := h
  cases h1
  refine jj_istore (q := 414) dL_law_412 (by decide) rfl ?_
  refine jj_aload_n (q := 415) dL_law_414 rfl rfl rfl ?_
  refine lV0 (q := 418) dL_law_415 yk_X9_thrown ml_L_191 hw.hm.t0 (ex_thr hw2.hm) (fun o M' h => ⟨_, h.1⟩) rfl rfl rfl (by omega) (by omega) (fun r M' h => ?_)
  obtain ⟨h1, rfl⟩ := h
  cases h1
  refine jj_iload (q := 420) dL_law_418 rfl rfl ?_
  refine jj_icmp_eq (q := 423) (tgt := 425) dL_law_420 rfl rfl (fun h420 => ?_) (fun h420 => absurd (ht) h420)
  refine jj_iload (q := 427) dL_law_425 rfl rfl ?_
  refine jj_if_ne (q := 430) (tgt := 442) dL_law_427 rfl rfl (fun h427 => ?_) (fun h427 => ?_)
  · refine jj_goto (tgt := 3611) dL_law_442 rfl ?_
    exact kk S2 I2 _ _ _ _ _ _ (Nat.add_le_add_left (ec_le n9) cells) (Nat.add_le_add_left (es_le n9) slots) hw2
  · refine jj_aload_n (q := 431) dL_law_430 rfl rfl rfl ?_
    refine jj_iconst (v := 0) (q := 432) dL_law_431 rfl rfl ?_
    refine jj_lald (v := v.toInt64) (q := 433) dL_law_432 hO vp_01 (wLo_at (hn0 h427)) rfl ?_
    refine jj_iload (q := 435) dL_law_433 rfl rfl ?_
    refine jj_i2l (q := 436) dL_law_435 rfl ?_
    refine jj_lcmp (q := 437) dL_law_436 rfl ?_
    refine jj_if_eq (q := 440) (tgt := 442) dL_law_437 rfl rfl (fun h437 => ?_) (fun h437 => absurd (lcmp_self (congrArg Int32.toInt64 (hv (hn0 h427)).symm)) h437)
    refine jj_goto (tgt := 3611) dL_law_442 rfl ?_
    exact kk S2 I2 _ _ _ _ _ _ (Nat.add_le_add_left (ec_le n9) cells) (Nat.add_le_add_left (es_le n9) slots) hw2
theorem lc_2 {a6 a7 : Option Value} (hw : Wd Γ k xo mo T R S I L) (hk : k ≤ 599) (hol : mo + 18 ≤ b) (hO : T b = some (.inr (.long, 1))) (hO2 : T (b + 1) = some (.inr (.double, 1))) (p1 : vp_in (i + 1) Γ.sc.2.1) (p2 : vp_in (i + 2) Γ.sc.2.1) (p3 : vp_in (i + 3) Γ.sc.2.1) (p4 : vp_in (i + 4) Γ.sc.2.1) (p5 : vp_in (i + 5) Γ.sc.2.1) (hc : cells + 1 ≤ 601024) (hs : slots + 6 ≤ 7293034) (kk : Kk Γ Zf k xo mo b cells slots i T R) : JJ Γ EL Zf room_1 cells slots 445 (Vl Γ.sc.1 xo mo b i a6 a7) [] (T, R, S, I, L, D, none) := by
  obtain ⟨n9, t, v, G, hal, hx, hm⟩ := (show BSt Γ k xo mo b 100 100 Y_X8_parseError Y_X9_parseError [] [(0, 0)] T R S I L from st_parseError hw (by omega) hol) D
  simp only [List.mem_cons, List.mem_nil_iff, Prod.mk.injEq, or_false] at hal
  obtain ⟨rfl, rfl⟩ := hal
  refine jj_aload_n (q := 446) dL_law_445 rfl rfl rfl ?_
  refine lV0 (q := 449) dL_law_446 yk_X8_parseError ml_L_194 hw.tx hx (fun o M' h => ⟨v, h.1⟩) rfl rfl rfl (by omega) (by omega) (fun r M' h => ?_)
  obtain ⟨h1, S1, I1, L1, rfl, hG⟩ := h
  cases h1
  refine jj_aload_n (q := 450) dL_law_449 rfl rfl rfl ?_
  refine lV0 (q := 453) dL_law_450 yk_X9_parseError ml_L_197 hw.hm.t0 (hm S1 I1 L1 L1 D hG (fun _ _ => rfl)) (fun o M' h => by obtain ⟨S2, I2, w, h1, h2⟩ := h; exact ⟨w, h1.1⟩) rfl rfl rfl (by omega) (by omega) (fun r M' h => ?_)
  obtain ⟨S2, I2, w, ⟨h1, hv⟩, rfl, hw2, ht⟩ := h
  cases h1
  refine jj_icmp_eq (q := 456) (tgt := 3611) dL_law_453 rfl rfl (fun h453 => ?_) (fun h453 => absurd ((hv rfl).symm) h453)
  exact kk S2 I2 _ _ _ _ _ _ (Nat.le_add_right _ _) (Nat.le_add_right _ _) hw2
theorem lc_3 {a6 a7 : Option Value} (hw : Wd Γ k xo mo T R S I L) (hk : k ≤ 599) (hol : mo + 18 ≤ b) (hO : T b = some (.inr (.long, 1))) (hO2 : T (b + 1) = some (.inr (.double, 1))) (p1 : vp_in (i + 1) Γ.sc.2.1) (p2 : vp_in (i + 2) Γ.sc.2.1) (p3 : vp_in (i + 3) Γ.sc.2.1) (p4 : vp_in (i + 4) Γ.sc.2.1) (p5 : vp_in (i + 5) Γ.sc.2.1) (hc : cells + 1 ≤ 601024) (hs : slots + 6 ≤ 7293034) (kk : Kk Γ Zf k xo mo b cells slots i T R) : JJ Γ EL Zf room_1 cells slots 458 (Vl Γ.sc.1 xo mo b i a6 a7) [] (T, R, S, I, L, D, none) := by
  obtain ⟨n9, t, v, G, hal, hx, hm⟩ := (show BSt Γ k xo mo b 100 100 Y_X8_errorPosition Y_X9_errorPosition [] [(0, 0)] T R S I L from st_errorPosition hw (by omega) hol) D
  simp only [List.mem_cons, List.mem_nil_iff, Prod.mk.injEq, or_false] at hal
  obtain ⟨rfl, rfl⟩ := hal
  refine jj_aload_n (q := 459) dL_law_458 rfl rfl rfl ?_
  refine lV0 (q := 462) dL_law_459 yk_X8_errorPosition ml_L_198 hw.tx hx (fun o M' h => ⟨v, h.1⟩) rfl rfl rfl (by omega) (by omega) (fun r M' h => ?_)
  obtain ⟨h1, S1, I1, L1, rfl, hG⟩ := h
  cases h1
  refine jj_aload_n (q := 463) dL_law_462 rfl rfl rfl ?_
  refine lV0 (q := 466) dL_law_463 yk_X9_errorPosition ml_L_201 hw.hm.t0 (hm S1 I1 L1 L1 D hG (fun _ _ => rfl)) (fun o M' h => by obtain ⟨S2, I2, w, h1, h2⟩ := h; exact ⟨w, h1.1⟩) rfl rfl rfl (by omega) (by omega) (fun r M' h => ?_)
  obtain ⟨S2, I2, w, ⟨h1, hv⟩, rfl, hw2, ht⟩ := h
  cases h1
  refine jj_icmp_eq (q := 469) (tgt := 3611) dL_law_466 rfl rfl (fun h466 => ?_) (fun h466 => absurd ((hv rfl).symm) h466)
  exact kk S2 I2 _ _ _ _ _ _ (Nat.le_add_right _ _) (Nat.le_add_right _ _) hw2
theorem lc_4 {a6 a7 : Option Value} (hw : Wd Γ k xo mo T R S I L) (hk : k ≤ 599) (hol : mo + 18 ≤ b) (hO : T b = some (.inr (.long, 1))) (hO2 : T (b + 1) = some (.inr (.double, 1))) (p1 : vp_in (i + 1) Γ.sc.2.1) (p2 : vp_in (i + 2) Γ.sc.2.1) (p3 : vp_in (i + 3) Γ.sc.2.1) (p4 : vp_in (i + 4) Γ.sc.2.1) (p5 : vp_in (i + 5) Γ.sc.2.1) (hc : cells + 1 ≤ 601024) (hs : slots + 6 ≤ 7293034) (kk : Kk Γ Zf k xo mo b cells slots i T R) : JJ Γ EL Zf room_1 cells slots 471 (Vl Γ.sc.1 xo mo b i a6 a7) [] (T, R, S, I, L, D, none) := by
  obtain ⟨n9, t, v, G, hal, hx, hm⟩ := (show BSt Γ k xo mo b 100 100 Y_X8_buffered Y_X9_buffered [] [(0, 0)] T R S I L from st_buffered hw (by omega) hol) D
  simp only [List.mem_cons, List.mem_nil_iff, Prod.mk.injEq, or_false] at hal
  obtain ⟨rfl, rfl⟩ := hal
  refine jj_aload_n (q := 472) dL_law_471 rfl rfl rfl ?_
  refine lV0 (q := 475) dL_law_472 yk_X8_buffered ml_L_202 hw.tx hx (fun o M' h => ⟨v, h.1⟩) rfl rfl rfl (by omega) (by omega) (fun r M' h => ?_)
  obtain ⟨h1, S1, I1, L1, rfl, hG⟩ := h
  cases h1
  refine jj_aload_n (q := 476) dL_law_475 rfl rfl rfl ?_
  refine lV0 (q := 479) dL_law_476 yk_X9_buffered ml_L_205 hw.hm.t0 (hm S1 I1 L1 L1 D hG (fun _ _ => rfl)) (fun o M' h => by obtain ⟨S2, I2, w, h1, h2⟩ := h; exact ⟨w, h1.1⟩) rfl rfl rfl (by omega) (by omega) (fun r M' h => ?_)
  obtain ⟨S2, I2, w, ⟨h1, hv⟩, rfl, hw2, ht⟩ := h
  cases h1
  refine jj_icmp_eq (q := 482) (tgt := 3611) dL_law_479 rfl rfl (fun h479 => ?_) (fun h479 => absurd ((hv rfl).symm) h479)
  exact kk S2 I2 _ _ _ _ _ _ (Nat.le_add_right _ _) (Nat.le_add_right _ _) hw2
theorem lc_5 {a6 a7 : Option Value} (hw : Wd Γ k xo mo T R S I L) (hk : k ≤ 599) (hol : mo + 18 ≤ b) (hO : T b = some (.inr (.long, 1))) (hO2 : T (b + 1) = some (.inr (.double, 1))) (p1 : vp_in (i + 1) Γ.sc.2.1) (p2 : vp_in (i + 2) Γ.sc.2.1) (p3 : vp_in (i + 3) Γ.sc.2.1) (p4 : vp_in (i + 4) Γ.sc.2.1) (p5 : vp_in (i + 5) Γ.sc.2.1) (hc : cells + 1 ≤ 601024) (hs : slots + 6 ≤ 7293034) (kk : Kk Γ Zf k xo mo b cells slots i T R) : JJ Γ EL Zf room_1 cells slots 484 (Vl Γ.sc.1 xo mo b i a6 a7) [] (T, R, S, I, L, D, none) := by
  obtain ⟨n9, t, v, G, hal, hx, hm⟩ := (show BSt Γ k xo mo b 100 100 Y_X8_time Y_X9_time [] [(0, 0)] T R S I L from st_time hw (by omega) hol) D
  simp only [List.mem_cons, List.mem_nil_iff, Prod.mk.injEq, or_false] at hal
  obtain ⟨rfl, rfl⟩ := hal
  refine jj_aload_n (q := 485) dL_law_484 rfl rfl rfl ?_
  refine lV0 (q := 488) dL_law_485 yk_X8_time ml_L_206 hw.tx hx (fun o M' h => ⟨v, h.1⟩) rfl rfl rfl (by omega) (by omega) (fun r M' h => ?_)
  obtain ⟨h1, S1, I1, L1, rfl, hG⟩ := h
  cases h1
  refine jj_aload_n (q := 489) dL_law_488 rfl rfl rfl ?_
  refine lV0 (q := 492) dL_law_489 yk_X9_time ml_L_209 hw.hm.t0 (hm S1 I1 L1 L1 D hG (fun _ _ => rfl)) (fun o M' h => by obtain ⟨S2, I2, w, h1, h2⟩ := h; exact ⟨w, h1.1⟩) rfl rfl rfl (by omega) (by omega) (fun r M' h => ?_)
  obtain ⟨S2, I2, w, ⟨h1, hv⟩, rfl, hw2, ht⟩ := h
  cases h1
  refine jj_icmp_eq (q := 495) (tgt := 3611) dL_law_492 rfl rfl (fun h492 => ?_) (fun h492 => absurd ((hv rfl).symm) h492)
  exact kk S2 I2 _ _ _ _ _ _ (Nat.le_add_right _ _) (Nat.le_add_right _ _) hw2
theorem lc_6 {a6 a7 : Option Value} (hw : Wd Γ k xo mo T R S I L) (hk : k ≤ 599) (hol : mo + 18 ≤ b) (hO : T b = some (.inr (.long, 1))) (hO2 : T (b + 1) = some (.inr (.double, 1))) (p1 : vp_in (i + 1) Γ.sc.2.1) (p2 : vp_in (i + 2) Γ.sc.2.1) (p3 : vp_in (i + 3) Γ.sc.2.1) (p4 : vp_in (i + 4) Γ.sc.2.1) (p5 : vp_in (i + 5) Γ.sc.2.1) (hc : cells + 1 ≤ 601024) (hs : slots + 6 ≤ 7293034) (kk : Kk Γ Zf k xo mo b cells slots i T R) : JJ Γ EL Zf room_1 cells slots 497 (Vl Γ.sc.1 xo mo b i a6 a7) [] (T, R, S, I, L, D, none) := by
  obtain ⟨n9, t, v, G, hal, hx, hm⟩ := (show BSt Γ k xo mo b 100 100 Y_X8_bags Y_X9_bags [] [(0, 0)] T R S I L from st_bags hw (by omega) hol) D
  simp only [List.mem_cons, List.mem_nil_iff, Prod.mk.injEq, or_false] at hal
  obtain ⟨rfl, rfl⟩ := hal
  refine jj_aload_n (q := 498) dL_law_497 rfl rfl rfl ?_
  refine lV0 (q := 501) dL_law_498 yk_X8_bags ml_L_210 hw.tx hx (fun o M' h => ⟨v, h.1⟩) rfl rfl rfl (by omega) (by omega) (fun r M' h => ?_)
  obtain ⟨h1, S1, I1, L1, rfl, hG⟩ := h
  cases h1
  refine jj_aload_n (q := 502) dL_law_501 rfl rfl rfl ?_
  refine lV0 (q := 505) dL_law_502 yk_X9_bags ml_L_213 hw.hm.t0 (hm S1 I1 L1 L1 D hG (fun _ _ => rfl)) (fun o M' h => by obtain ⟨S2, I2, w, h1, h2⟩ := h; exact ⟨w, h1.1⟩) rfl rfl rfl (by omega) (by omega) (fun r M' h => ?_)
  obtain ⟨S2, I2, w, ⟨h1, hv⟩, rfl, hw2, ht⟩ := h
  cases h1
  refine jj_icmp_eq (q := 508) (tgt := 3611) dL_law_505 rfl rfl (fun h505 => ?_) (fun h505 => absurd ((hv rfl).symm) h505)
  exact kk S2 I2 _ _ _ _ _ _ (Nat.le_add_right _ _) (Nat.le_add_right _ _) hw2
theorem lc_7 {a6 a7 : Option Value} (hw : Wd Γ k xo mo T R S I L) (hk : k ≤ 599) (hol : mo + 18 ≤ b) (hO : T b = some (.inr (.long, 1))) (hO2 : T (b + 1) = some (.inr (.double, 1))) (p1 : vp_in (i + 1) Γ.sc.2.1) (p2 : vp_in (i + 2) Γ.sc.2.1) (p3 : vp_in (i + 3) Γ.sc.2.1) (p4 : vp_in (i + 4) Γ.sc.2.1) (p5 : vp_in (i + 5) Γ.sc.2.1) (hc : cells + 1 ≤ 601024) (hs : slots + 6 ≤ 7293034) (kk : Kk Γ Zf k xo mo b cells slots i T R) : JJ Γ EL Zf room_1 cells slots 510 (Vl Γ.sc.1 xo mo b i a6 a7) [] (T, R, S, I, L, D, none) := by
  obtain ⟨n9, t, v, G, hal, hx, hm⟩ := (show BSt Γ k xo mo b 100 100 Y_X8_stateOf Y_X9_stateOf [.int (Γ.sc.2.2 (i + 1).toNatClampNeg)] [(0, 0), (1, 1), (2, 2)] T R S I L from st_stateOf hw (by omega) hol) D
  have hn0 : t = 0 → n9 = 0 := (by decide : ∀ p ∈ ([(0, 0), (1, 1), (2, 2)] : List (Nat × Int32)), p.2 = 0 → p.1 = 0) (n9, t) hal
  have e1 := ec_le n9
  have e2 := es_le n9
  refine jj_aload_n (q := 511) dL_law_510 rfl rfl rfl ?_
  refine jj_aload_n (q := 512) dL_law_511 rfl rfl rfl ?_
  refine jj_iload (q := 514) dL_law_512 rfl rfl ?_
  refine jj_iconst (v := 1) (q := 515) dL_law_514 rfl rfl ?_
  refine jj_iadd (q := 516) dL_law_515 rfl ?_
  refine jj_kiald (q := 517) dL_law_516 sc_E p1 rfl rfl ?_
  refine jj_aload_n (q := 518) dL_law_517 rfl rfl rfl ?_
  refine lS3 (q := 521) (t := t) dL_law_518 yk_L_stateOf ms_L_stateOf (wr_stateOf (v := v) (G := G) hw.tx hO hal hx) (fun o M' h => h.1) rfl rfl rfl (by omega) (by omega) (fun M' h => ?_)
  obtain ⟨h1, S1, I1, L1, rfl, hG⟩ := h
  clear h1
  refine jj_istore (q := 523) dL_law_521 (by decide) rfl ?_
  refine jj_aload_n (q := 524) dL_law_523 rfl rfl rfl ?_
  refine jj_aload_n (q := 525) dL_law_524 rfl rfl rfl ?_
  refine jj_iload (q := 527) dL_law_525 rfl rfl ?_
  refine jj_iconst (v := 1) (q := 528) dL_law_527 rfl rfl ?_
  refine jj_iadd (q := 529) dL_law_528 rfl ?_
  refine jj_kiald (q := 530) dL_law_529 sc_E p1 rfl rfl ?_
  refine lV1 (q := 533) dL_law_530 yk_X9_stateOf ml_L_216 hw.hm.t0 (hm S1 I1 L1 _ D hG (fun c h => wLo_lt h)) (fun o M' h => by obtain ⟨S2, I2, w, h1, h2⟩ := h; exact ⟨w, h1.1⟩) rfl rfl rfl (by omega) (by omega) (fun r M' h => ?_)
  obtain ⟨S2, I2, w, ⟨h1, hv⟩, rfl, hw2, ht⟩ := h
  cases h1
  refine jj_istore (q := 535) dL_law_533 (by decide) rfl ?_
  refine jj_aload_n (q := 536) dL_law_535 rfl rfl rfl ?_
  refine lV0 (q := 539) dL_law_536 yk_X9_thrown ml_L_191 hw.hm.t0 (ex_thr hw2.hm) (fun o M' h => ⟨_, h.1⟩) rfl rfl rfl (by omega) (by omega) (fun r M' h => ?_)
  obtain ⟨h1, rfl⟩ := h
  cases h1
  refine jj_iload (q := 541) dL_law_539 rfl rfl ?_
  refine jj_icmp_eq (q := 544) (tgt := 546) dL_law_541 rfl rfl (fun h541 => ?_) (fun h541 => absurd (ht) h541)
  refine jj_iload (q := 548) dL_law_546 rfl rfl ?_
  refine jj_if_ne (q := 551) (tgt := 563) dL_law_548 rfl rfl (fun h548 => ?_) (fun h548 => ?_)
  · refine jj_goto (tgt := 3611) dL_law_563 rfl ?_
    exact kk S2 I2 _ _ _ _ _ _ (Nat.add_le_add_left (ec_le n9) cells) (Nat.add_le_add_left (es_le n9) slots) hw2
  · refine jj_aload_n (q := 552) dL_law_551 rfl rfl rfl ?_
    refine jj_iconst (v := 0) (q := 553) dL_law_552 rfl rfl ?_
    refine jj_lald (v := v.toInt64) (q := 554) dL_law_553 hO vp_01 (wLo_at (hn0 h548)) rfl ?_
    refine jj_iload (q := 556) dL_law_554 rfl rfl ?_
    refine jj_i2l (q := 557) dL_law_556 rfl ?_
    refine jj_lcmp (q := 558) dL_law_557 rfl ?_
    refine jj_if_eq (q := 561) (tgt := 563) dL_law_558 rfl rfl (fun h558 => ?_) (fun h558 => absurd (lcmp_self (congrArg Int32.toInt64 (hv (hn0 h548)).symm)) h558)
    refine jj_goto (tgt := 3611) dL_law_563 rfl ?_
    exact kk S2 I2 _ _ _ _ _ _ (Nat.add_le_add_left (ec_le n9) cells) (Nat.add_le_add_left (es_le n9) slots) hw2
theorem lc_8 {a6 a7 : Option Value} (hw : Wd Γ k xo mo T R S I L) (hk : k ≤ 599) (hol : mo + 18 ≤ b) (hO : T b = some (.inr (.long, 1))) (hO2 : T (b + 1) = some (.inr (.double, 1))) (p1 : vp_in (i + 1) Γ.sc.2.1) (p2 : vp_in (i + 2) Γ.sc.2.1) (p3 : vp_in (i + 3) Γ.sc.2.1) (p4 : vp_in (i + 4) Γ.sc.2.1) (p5 : vp_in (i + 5) Γ.sc.2.1) (hc : cells + 1 ≤ 601024) (hs : slots + 6 ≤ 7293034) (kk : Kk Γ Zf k xo mo b cells slots i T R) : JJ Γ EL Zf room_1 cells slots 566 (Vl Γ.sc.1 xo mo b i a6 a7) [] (T, R, S, I, L, D, none) := by
  obtain ⟨n9, t, v, G, hal, hx, hm⟩ := (show BSt Γ k xo mo b 100 100 Y_X8_flightOf Y_X9_flightOf [.int (Γ.sc.2.2 (i + 1).toNatClampNeg)] [(0, 0), (1, 1), (2, 2)] T R S I L from st_flightOf hw (by omega) hol) D
  have hn0 : t = 0 → n9 = 0 := (by decide : ∀ p ∈ ([(0, 0), (1, 1), (2, 2)] : List (Nat × Int32)), p.2 = 0 → p.1 = 0) (n9, t) hal
  have e1 := ec_le n9
  have e2 := es_le n9
  refine jj_aload_n (q := 567) dL_law_566 rfl rfl rfl ?_
  refine jj_aload_n (q := 568) dL_law_567 rfl rfl rfl ?_
  refine jj_iload (q := 570) dL_law_568 rfl rfl ?_
  refine jj_iconst (v := 1) (q := 571) dL_law_570 rfl rfl ?_
  refine jj_iadd (q := 572) dL_law_571 rfl ?_
  refine jj_kiald (q := 573) dL_law_572 sc_E p1 rfl rfl ?_
  refine jj_aload_n (q := 574) dL_law_573 rfl rfl rfl ?_
  refine lS3 (q := 577) (t := t) dL_law_574 yk_L_flightOf ms_L_flightOf (wr_flightOf (v := v) (G := G) hw.tx hO hal hx) (fun o M' h => h.1) rfl rfl rfl (by omega) (by omega) (fun M' h => ?_)
  obtain ⟨h1, S1, I1, L1, rfl, hG⟩ := h
  clear h1
  refine jj_istore (q := 579) dL_law_577 (by decide) rfl ?_
  refine jj_aload_n (q := 580) dL_law_579 rfl rfl rfl ?_
  refine jj_aload_n (q := 581) dL_law_580 rfl rfl rfl ?_
  refine jj_iload (q := 583) dL_law_581 rfl rfl ?_
  refine jj_iconst (v := 1) (q := 584) dL_law_583 rfl rfl ?_
  refine jj_iadd (q := 585) dL_law_584 rfl ?_
  refine jj_kiald (q := 586) dL_law_585 sc_E p1 rfl rfl ?_
  refine lV1 (q := 589) dL_law_586 yk_X9_flightOf ml_L_219 hw.hm.t0 (hm S1 I1 L1 _ D hG (fun c h => wLo_lt h)) (fun o M' h => by obtain ⟨S2, I2, w, h1, h2⟩ := h; exact ⟨w, h1.1⟩) rfl rfl rfl (by omega) (by omega) (fun r M' h => ?_)
  obtain ⟨S2, I2, w, ⟨h1, hv⟩, rfl, hw2, ht⟩ := h
  cases h1
  refine jj_istore (q := 591) dL_law_589 (by decide) rfl ?_
  refine jj_aload_n (q := 592) dL_law_591 rfl rfl rfl ?_
  refine lV0 (q := 595) dL_law_592 yk_X9_thrown ml_L_191 hw.hm.t0 (ex_thr hw2.hm) (fun o M' h => ⟨_, h.1⟩) rfl rfl rfl (by omega) (by omega) (fun r M' h => ?_)
  obtain ⟨h1, rfl⟩ := h
  cases h1
  refine jj_iload (q := 597) dL_law_595 rfl rfl ?_
  refine jj_icmp_eq (q := 600) (tgt := 602) dL_law_597 rfl rfl (fun h597 => ?_) (fun h597 => absurd (ht) h597)
  refine jj_iload (q := 604) dL_law_602 rfl rfl ?_
  refine jj_if_ne (q := 607) (tgt := 619) dL_law_604 rfl rfl (fun h604 => ?_) (fun h604 => ?_)
  · refine jj_goto (tgt := 3611) dL_law_619 rfl ?_
    exact kk S2 I2 _ _ _ _ _ _ (Nat.add_le_add_left (ec_le n9) cells) (Nat.add_le_add_left (es_le n9) slots) hw2
  · refine jj_aload_n (q := 608) dL_law_607 rfl rfl rfl ?_
    refine jj_iconst (v := 0) (q := 609) dL_law_608 rfl rfl ?_
    refine jj_lald (v := v.toInt64) (q := 610) dL_law_609 hO vp_01 (wLo_at (hn0 h604)) rfl ?_
    refine jj_iload (q := 612) dL_law_610 rfl rfl ?_
    refine jj_i2l (q := 613) dL_law_612 rfl ?_
    refine jj_lcmp (q := 614) dL_law_613 rfl ?_
    refine jj_if_eq (q := 617) (tgt := 619) dL_law_614 rfl rfl (fun h614 => ?_) (fun h614 => absurd (lcmp_self (congrArg Int32.toInt64 (hv (hn0 h604)).symm)) h614)
    refine jj_goto (tgt := 3611) dL_law_619 rfl ?_
    exact kk S2 I2 _ _ _ _ _ _ (Nat.add_le_add_left (ec_le n9) cells) (Nat.add_le_add_left (es_le n9) slots) hw2
theorem lc_9 {a6 a7 : Option Value} (hw : Wd Γ k xo mo T R S I L) (hk : k ≤ 599) (hol : mo + 18 ≤ b) (hO : T b = some (.inr (.long, 1))) (hO2 : T (b + 1) = some (.inr (.double, 1))) (p1 : vp_in (i + 1) Γ.sc.2.1) (p2 : vp_in (i + 2) Γ.sc.2.1) (p3 : vp_in (i + 3) Γ.sc.2.1) (p4 : vp_in (i + 4) Γ.sc.2.1) (p5 : vp_in (i + 5) Γ.sc.2.1) (hc : cells + 1 ≤ 601024) (hs : slots + 6 ≤ 7293034) (kk : Kk Γ Zf k xo mo b cells slots i T R) : JJ Γ EL Zf room_1 cells slots 622 (Vl Γ.sc.1 xo mo b i a6 a7) [] (T, R, S, I, L, D, none) := by
  obtain ⟨n9, t, v, G, hal, hx, hm⟩ := (show BSt Γ k xo mo b 100 100 Y_X8_arrivalOf Y_X9_arrivalOf [.int (Γ.sc.2.2 (i + 1).toNatClampNeg)] [(0, 0), (1, 1), (2, 2)] T R S I L from st_arrivalOf hw (by omega) hol) D
  have hn0 : t = 0 → n9 = 0 := (by decide : ∀ p ∈ ([(0, 0), (1, 1), (2, 2)] : List (Nat × Int32)), p.2 = 0 → p.1 = 0) (n9, t) hal
  have e1 := ec_le n9
  have e2 := es_le n9
  refine jj_aload_n (q := 623) dL_law_622 rfl rfl rfl ?_
  refine jj_aload_n (q := 624) dL_law_623 rfl rfl rfl ?_
  refine jj_iload (q := 626) dL_law_624 rfl rfl ?_
  refine jj_iconst (v := 1) (q := 627) dL_law_626 rfl rfl ?_
  refine jj_iadd (q := 628) dL_law_627 rfl ?_
  refine jj_kiald (q := 629) dL_law_628 sc_E p1 rfl rfl ?_
  refine jj_aload_n (q := 630) dL_law_629 rfl rfl rfl ?_
  refine lS3 (q := 633) (t := t) dL_law_630 yk_L_arrivalOf ms_L_arrivalOf (wr_arrivalOf (v := v) (G := G) hw.tx hO hal hx) (fun o M' h => h.1) rfl rfl rfl (by omega) (by omega) (fun M' h => ?_)
  obtain ⟨h1, S1, I1, L1, rfl, hG⟩ := h
  clear h1
  refine jj_istore (q := 635) dL_law_633 (by decide) rfl ?_
  refine jj_aload_n (q := 636) dL_law_635 rfl rfl rfl ?_
  refine jj_aload_n (q := 637) dL_law_636 rfl rfl rfl ?_
  refine jj_iload (q := 639) dL_law_637 rfl rfl ?_
  refine jj_iconst (v := 1) (q := 640) dL_law_639 rfl rfl ?_
  refine jj_iadd (q := 641) dL_law_640 rfl ?_
  refine jj_kiald (q := 642) dL_law_641 sc_E p1 rfl rfl ?_
  refine lV1 (q := 645) dL_law_642 yk_X9_arrivalOf ml_L_222 hw.hm.t0 (hm S1 I1 L1 _ D hG (fun c h => wLo_lt h)) (fun o M' h => by obtain ⟨S2, I2, w, h1, h2⟩ := h; exact ⟨w, h1.1⟩) rfl rfl rfl (by omega) (by omega) (fun r M' h => ?_)
  obtain ⟨S2, I2, w, ⟨h1, hv⟩, rfl, hw2, ht⟩ := h
  cases h1
  refine jj_istore (q := 647) dL_law_645 (by decide) rfl ?_
  refine jj_aload_n (q := 648) dL_law_647 rfl rfl rfl ?_
  refine lV0 (q := 651) dL_law_648 yk_X9_thrown ml_L_191 hw.hm.t0 (ex_thr hw2.hm) (fun o M' h => ⟨_, h.1⟩) rfl rfl rfl (by omega) (by omega) (fun r M' h => ?_)
  obtain ⟨h1, rfl⟩ := h
  cases h1
  refine jj_iload (q := 653) dL_law_651 rfl rfl ?_
  refine jj_icmp_eq (q := 656) (tgt := 658) dL_law_653 rfl rfl (fun h653 => ?_) (fun h653 => absurd (ht) h653)
  refine jj_iload (q := 660) dL_law_658 rfl rfl ?_
  refine jj_if_ne (q := 663) (tgt := 675) dL_law_660 rfl rfl (fun h660 => ?_) (fun h660 => ?_)
  · refine jj_goto (tgt := 3611) dL_law_675 rfl ?_
    exact kk S2 I2 _ _ _ _ _ _ (Nat.add_le_add_left (ec_le n9) cells) (Nat.add_le_add_left (es_le n9) slots) hw2
  · refine jj_aload_n (q := 664) dL_law_663 rfl rfl rfl ?_
    refine jj_iconst (v := 0) (q := 665) dL_law_664 rfl rfl ?_
    refine jj_lald (v := v.toInt64) (q := 666) dL_law_665 hO vp_01 (wLo_at (hn0 h660)) rfl ?_
    refine jj_iload (q := 668) dL_law_666 rfl rfl ?_
    refine jj_i2l (q := 669) dL_law_668 rfl ?_
    refine jj_lcmp (q := 670) dL_law_669 rfl ?_
    refine jj_if_eq (q := 673) (tgt := 675) dL_law_670 rfl rfl (fun h670 => ?_) (fun h670 => absurd (lcmp_self (congrArg Int32.toInt64 (hv (hn0 h660)).symm)) h670)
    refine jj_goto (tgt := 3611) dL_law_675 rfl ?_
    exact kk S2 I2 _ _ _ _ _ _ (Nat.add_le_add_left (ec_le n9) cells) (Nat.add_le_add_left (es_le n9) slots) hw2
theorem lc_10 {a6 a7 : Option Value} (hw : Wd Γ k xo mo T R S I L) (hk : k ≤ 599) (hol : mo + 18 ≤ b) (hO : T b = some (.inr (.long, 1))) (hO2 : T (b + 1) = some (.inr (.double, 1))) (p1 : vp_in (i + 1) Γ.sc.2.1) (p2 : vp_in (i + 2) Γ.sc.2.1) (p3 : vp_in (i + 3) Γ.sc.2.1) (p4 : vp_in (i + 4) Γ.sc.2.1) (p5 : vp_in (i + 5) Γ.sc.2.1) (hc : cells + 1 ≤ 601024) (hs : slots + 6 ≤ 7293034) (kk : Kk Γ Zf k xo mo b cells slots i T R) : JJ Γ EL Zf room_1 cells slots 678 (Vl Γ.sc.1 xo mo b i a6 a7) [] (T, R, S, I, L, D, none) := by
  obtain ⟨n9, t, v, G, hal, hx, hm⟩ := (show BSt Γ k xo mo b 100 100 Y_X8_positionOf Y_X9_positionOf [.int (Γ.sc.2.2 (i + 1).toNatClampNeg)] [(0, 0), (1, 1), (2, 2)] T R S I L from st_positionOf hw (by omega) hol) D
  have hn0 : t = 0 → n9 = 0 := (by decide : ∀ p ∈ ([(0, 0), (1, 1), (2, 2)] : List (Nat × Int32)), p.2 = 0 → p.1 = 0) (n9, t) hal
  have e1 := ec_le n9
  have e2 := es_le n9
  refine jj_aload_n (q := 679) dL_law_678 rfl rfl rfl ?_
  refine jj_aload_n (q := 680) dL_law_679 rfl rfl rfl ?_
  refine jj_iload (q := 682) dL_law_680 rfl rfl ?_
  refine jj_iconst (v := 1) (q := 683) dL_law_682 rfl rfl ?_
  refine jj_iadd (q := 684) dL_law_683 rfl ?_
  refine jj_kiald (q := 685) dL_law_684 sc_E p1 rfl rfl ?_
  refine jj_aload_n (q := 686) dL_law_685 rfl rfl rfl ?_
  refine lS3 (q := 689) (t := t) dL_law_686 yk_L_positionOf ms_L_positionOf (wr_positionOf (v := v) (G := G) hw.tx hO hal hx) (fun o M' h => h.1) rfl rfl rfl (by omega) (by omega) (fun M' h => ?_)
  obtain ⟨h1, S1, I1, L1, rfl, hG⟩ := h
  clear h1
  refine jj_istore (q := 691) dL_law_689 (by decide) rfl ?_
  refine jj_aload_n (q := 692) dL_law_691 rfl rfl rfl ?_
  refine jj_aload_n (q := 693) dL_law_692 rfl rfl rfl ?_
  refine jj_iload (q := 695) dL_law_693 rfl rfl ?_
  refine jj_iconst (v := 1) (q := 696) dL_law_695 rfl rfl ?_
  refine jj_iadd (q := 697) dL_law_696 rfl ?_
  refine jj_kiald (q := 698) dL_law_697 sc_E p1 rfl rfl ?_
  refine lV1 (q := 701) dL_law_698 yk_X9_positionOf ml_L_225 hw.hm.t0 (hm S1 I1 L1 _ D hG (fun c h => wLo_lt h)) (fun o M' h => by obtain ⟨S2, I2, w, h1, h2⟩ := h; exact ⟨w, h1.1⟩) rfl rfl rfl (by omega) (by omega) (fun r M' h => ?_)
  obtain ⟨S2, I2, w, ⟨h1, hv⟩, rfl, hw2, ht⟩ := h
  cases h1
  refine jj_istore (q := 703) dL_law_701 (by decide) rfl ?_
  refine jj_aload_n (q := 704) dL_law_703 rfl rfl rfl ?_
  refine lV0 (q := 707) dL_law_704 yk_X9_thrown ml_L_191 hw.hm.t0 (ex_thr hw2.hm) (fun o M' h => ⟨_, h.1⟩) rfl rfl rfl (by omega) (by omega) (fun r M' h => ?_)
  obtain ⟨h1, rfl⟩ := h
  cases h1
  refine jj_iload (q := 709) dL_law_707 rfl rfl ?_
  refine jj_icmp_eq (q := 712) (tgt := 714) dL_law_709 rfl rfl (fun h709 => ?_) (fun h709 => absurd (ht) h709)
  refine jj_iload (q := 716) dL_law_714 rfl rfl ?_
  refine jj_if_ne (q := 719) (tgt := 731) dL_law_716 rfl rfl (fun h716 => ?_) (fun h716 => ?_)
  · refine jj_goto (tgt := 3611) dL_law_731 rfl ?_
    exact kk S2 I2 _ _ _ _ _ _ (Nat.add_le_add_left (ec_le n9) cells) (Nat.add_le_add_left (es_le n9) slots) hw2
  · refine jj_aload_n (q := 720) dL_law_719 rfl rfl rfl ?_
    refine jj_iconst (v := 0) (q := 721) dL_law_720 rfl rfl ?_
    refine jj_lald (v := v.toInt64) (q := 722) dL_law_721 hO vp_01 (wLo_at (hn0 h716)) rfl ?_
    refine jj_iload (q := 724) dL_law_722 rfl rfl ?_
    refine jj_i2l (q := 725) dL_law_724 rfl ?_
    refine jj_lcmp (q := 726) dL_law_725 rfl ?_
    refine jj_if_eq (q := 729) (tgt := 731) dL_law_726 rfl rfl (fun h726 => ?_) (fun h726 => absurd (lcmp_self (congrArg Int32.toInt64 (hv (hn0 h716)).symm)) h726)
    refine jj_goto (tgt := 3611) dL_law_731 rfl ?_
    exact kk S2 I2 _ _ _ _ _ _ (Nat.add_le_add_left (ec_le n9) cells) (Nat.add_le_add_left (es_le n9) slots) hw2
end C10
