/-! THE LAW'S CASES, 3 (by program) -/
section C12
variable {Γ : Gam} {Zf : List Frame → Array Value → State → State → Prop} {cells slots k xo mo b : Nat} {T : JT} {R S : JR} {I : JI} {L : JL} {D : JD} {i : Int32}
theorem lc_22 {a6 a7 : Option Value} (hw : Wd Γ k xo mo T R S I L) (hk : k ≤ 599) (hol : mo + 18 ≤ b) (hO : T b = some (.inr (.long, 1))) (hO2 : T (b + 1) = some (.inr (.double, 1))) (p1 : vp_in (i + 1) Γ.sc.2.1) (p2 : vp_in (i + 2) Γ.sc.2.1) (p3 : vp_in (i + 3) Γ.sc.2.1) (p4 : vp_in (i + 4) Γ.sc.2.1) (p5 : vp_in (i + 5) Γ.sc.2.1) (hc : cells + 1 ≤ 601024) (hs : slots + 6 ≤ 7293034) (kk : Kk Γ Zf k xo mo b cells slots i T R) : JJ Γ EL Zf room_1 cells slots 1333 (Vl Γ.sc.1 xo mo b i a6 a7) [] (T, R, S, I, L, D, none) := by
  obtain ⟨n9, t, v, G, hal, hx, hm⟩ := (show BSt Γ k xo mo b 100 100 Y_X8_machineAt Y_X9_machineAt [.int (Γ.sc.2.2 (i + 1).toNatClampNeg), .int (Γ.sc.2.2 (i + 2).toNatClampNeg)] [(0, 0), (1, 1), (2, 2)] T R S I L from st_machineAt hw (by omega) hol) D
  have hn0 : t = 0 → n9 = 0 := (by decide : ∀ p ∈ ([(0, 0), (1, 1), (2, 2)] : List (Nat × Int32)), p.2 = 0 → p.1 = 0) (n9, t) hal
  have e1 := ec_le n9
  have e2 := es_le n9
  refine jj_aload_n (q := 1334) dL_law_1333 rfl rfl rfl ?_
  refine jj_aload_n (q := 1335) dL_law_1334 rfl rfl rfl ?_
  refine jj_iload (q := 1337) dL_law_1335 rfl rfl ?_
  refine jj_iconst (v := 1) (q := 1338) dL_law_1337 rfl rfl ?_
  refine jj_iadd (q := 1339) dL_law_1338 rfl ?_
  refine jj_kiald (q := 1340) dL_law_1339 sc_E p1 rfl rfl ?_
  refine jj_aload_n (q := 1341) dL_law_1340 rfl rfl rfl ?_
  refine jj_iload (q := 1343) dL_law_1341 rfl rfl ?_
  refine jj_iconst (v := 2) (q := 1344) dL_law_1343 rfl rfl ?_
  refine jj_iadd (q := 1345) dL_law_1344 rfl ?_
  refine jj_kiald (q := 1346) dL_law_1345 sc_E p2 rfl rfl ?_
  refine jj_aload_n (q := 1347) dL_law_1346 rfl rfl rfl ?_
  refine lS4 (q := 1350) (t := t) dL_law_1347 yk_L_machineAt ms_L_machineAt (wr_machineAt (v := v) (G := G) hw.tx hO hal hx) (fun o M' h => h.1) rfl rfl rfl (by omega) (by omega) (fun M' h => ?_)
  obtain ⟨h1, S1, I1, L1, rfl, hG⟩ := h
  clear h1
  refine jj_istore (q := 1352) dL_law_1350 (by decide) rfl ?_
  refine jj_aload_n (q := 1353) dL_law_1352 rfl rfl rfl ?_
  refine jj_aload_n (q := 1354) dL_law_1353 rfl rfl rfl ?_
  refine jj_iload (q := 1356) dL_law_1354 rfl rfl ?_
  refine jj_iconst (v := 1) (q := 1357) dL_law_1356 rfl rfl ?_
  refine jj_iadd (q := 1358) dL_law_1357 rfl ?_
  refine jj_kiald (q := 1359) dL_law_1358 sc_E p1 rfl rfl ?_
  refine jj_aload_n (q := 1360) dL_law_1359 rfl rfl rfl ?_
  refine jj_iload (q := 1362) dL_law_1360 rfl rfl ?_
  refine jj_iconst (v := 2) (q := 1363) dL_law_1362 rfl rfl ?_
  refine jj_iadd (q := 1364) dL_law_1363 rfl ?_
  refine jj_kiald (q := 1365) dL_law_1364 sc_E p2 rfl rfl ?_
  refine lV2 (q := 1368) dL_law_1365 yk_X9_machineAt ml_L_263 hw.hm.t0 (hm S1 I1 L1 _ D hG (fun c h => wLo_lt h)) (fun o M' h => by obtain ⟨S2, I2, w, h1, h2⟩ := h; exact ⟨w, h1.1⟩) rfl rfl rfl (by omega) (by omega) (fun r M' h => ?_)
  obtain ⟨S2, I2, w, ⟨h1, hv⟩, rfl, hw2, ht⟩ := h
  cases h1
  refine jj_istore (q := 1370) dL_law_1368 (by decide) rfl ?_
  refine jj_aload_n (q := 1371) dL_law_1370 rfl rfl rfl ?_
  refine lV0 (q := 1374) dL_law_1371 yk_X9_thrown ml_L_191 hw.hm.t0 (ex_thr hw2.hm) (fun o M' h => ⟨_, h.1⟩) rfl rfl rfl (by omega) (by omega) (fun r M' h => ?_)
  obtain ⟨h1, rfl⟩ := h
  cases h1
  refine jj_iload (q := 1376) dL_law_1374 rfl rfl ?_
  refine jj_icmp_eq (q := 1379) (tgt := 1381) dL_law_1376 rfl rfl (fun h1376 => ?_) (fun h1376 => absurd (ht) h1376)
  refine jj_iload (q := 1383) dL_law_1381 rfl rfl ?_
  refine jj_if_ne (q := 1386) (tgt := 1398) dL_law_1383 rfl rfl (fun h1383 => ?_) (fun h1383 => ?_)
  · refine jj_goto (tgt := 3611) dL_law_1398 rfl ?_
    exact kk S2 I2 _ _ _ _ _ _ (Nat.add_le_add_left (ec_le n9) cells) (Nat.add_le_add_left (es_le n9) slots) hw2
  · refine jj_aload_n (q := 1387) dL_law_1386 rfl rfl rfl ?_
    refine jj_iconst (v := 0) (q := 1388) dL_law_1387 rfl rfl ?_
    refine jj_lald (v := v.toInt64) (q := 1389) dL_law_1388 hO vp_01 (wLo_at (hn0 h1383)) rfl ?_
    refine jj_iload (q := 1391) dL_law_1389 rfl rfl ?_
    refine jj_i2l (q := 1392) dL_law_1391 rfl ?_
    refine jj_lcmp (q := 1393) dL_law_1392 rfl ?_
    refine jj_if_eq (q := 1396) (tgt := 1398) dL_law_1393 rfl rfl (fun h1393 => ?_) (fun h1393 => absurd (lcmp_self (congrArg Int32.toInt64 (hv (hn0 h1383)).symm)) h1393)
    refine jj_goto (tgt := 3611) dL_law_1398 rfl ?_
    exact kk S2 I2 _ _ _ _ _ _ (Nat.add_le_add_left (ec_le n9) cells) (Nat.add_le_add_left (es_le n9) slots) hw2
theorem lc_23 {a6 a7 : Option Value} (hw : Wd Γ k xo mo T R S I L) (hk : k ≤ 599) (hol : mo + 18 ≤ b) (hO : T b = some (.inr (.long, 1))) (hO2 : T (b + 1) = some (.inr (.double, 1))) (p1 : vp_in (i + 1) Γ.sc.2.1) (p2 : vp_in (i + 2) Γ.sc.2.1) (p3 : vp_in (i + 3) Γ.sc.2.1) (p4 : vp_in (i + 4) Γ.sc.2.1) (p5 : vp_in (i + 5) Γ.sc.2.1) (hc : cells + 1 ≤ 601024) (hs : slots + 6 ≤ 7293034) (kk : Kk Γ Zf k xo mo b cells slots i T R) : JJ Γ EL Zf room_1 cells slots 1401 (Vl Γ.sc.1 xo mo b i a6 a7) [] (T, R, S, I, L, D, none) := by
  obtain ⟨n9, t, v, G, hal, hx, hm⟩ := (show BSt Γ k xo mo b 100 100 Y_X8_brokenUntil Y_X9_brokenUntil [.int (Γ.sc.2.2 (i + 1).toNatClampNeg), .int (Γ.sc.2.2 (i + 2).toNatClampNeg)] [(0, 0), (1, 1), (2, 2)] T R S I L from st_brokenUntil hw (by omega) hol) D
  have hn0 : t = 0 → n9 = 0 := (by decide : ∀ p ∈ ([(0, 0), (1, 1), (2, 2)] : List (Nat × Int32)), p.2 = 0 → p.1 = 0) (n9, t) hal
  have e1 := ec_le n9
  have e2 := es_le n9
  refine jj_aload_n (q := 1402) dL_law_1401 rfl rfl rfl ?_
  refine jj_aload_n (q := 1403) dL_law_1402 rfl rfl rfl ?_
  refine jj_iload (q := 1405) dL_law_1403 rfl rfl ?_
  refine jj_iconst (v := 1) (q := 1406) dL_law_1405 rfl rfl ?_
  refine jj_iadd (q := 1407) dL_law_1406 rfl ?_
  refine jj_kiald (q := 1408) dL_law_1407 sc_E p1 rfl rfl ?_
  refine jj_aload_n (q := 1409) dL_law_1408 rfl rfl rfl ?_
  refine jj_iload (q := 1411) dL_law_1409 rfl rfl ?_
  refine jj_iconst (v := 2) (q := 1412) dL_law_1411 rfl rfl ?_
  refine jj_iadd (q := 1413) dL_law_1412 rfl ?_
  refine jj_kiald (q := 1414) dL_law_1413 sc_E p2 rfl rfl ?_
  refine jj_aload_n (q := 1415) dL_law_1414 rfl rfl rfl ?_
  refine lS4 (q := 1418) (t := t) dL_law_1415 yk_L_brokenUntil ms_L_brokenUntil (wr_brokenUntil (v := v) (G := G) hw.tx hO hal hx) (fun o M' h => h.1) rfl rfl rfl (by omega) (by omega) (fun M' h => ?_)
  obtain ⟨h1, S1, I1, L1, rfl, hG⟩ := h
  clear h1
  refine jj_istore (q := 1420) dL_law_1418 (by decide) rfl ?_
  refine jj_aload_n (q := 1421) dL_law_1420 rfl rfl rfl ?_
  refine jj_aload_n (q := 1422) dL_law_1421 rfl rfl rfl ?_
  refine jj_iload (q := 1424) dL_law_1422 rfl rfl ?_
  refine jj_iconst (v := 1) (q := 1425) dL_law_1424 rfl rfl ?_
  refine jj_iadd (q := 1426) dL_law_1425 rfl ?_
  refine jj_kiald (q := 1427) dL_law_1426 sc_E p1 rfl rfl ?_
  refine jj_aload_n (q := 1428) dL_law_1427 rfl rfl rfl ?_
  refine jj_iload (q := 1430) dL_law_1428 rfl rfl ?_
  refine jj_iconst (v := 2) (q := 1431) dL_law_1430 rfl rfl ?_
  refine jj_iadd (q := 1432) dL_law_1431 rfl ?_
  refine jj_kiald (q := 1433) dL_law_1432 sc_E p2 rfl rfl ?_
  refine lV2 (q := 1436) dL_law_1433 yk_X9_brokenUntil ml_L_266 hw.hm.t0 (hm S1 I1 L1 _ D hG (fun c h => wLo_lt h)) (fun o M' h => by obtain ⟨S2, I2, w, h1, h2⟩ := h; exact ⟨w, h1.1⟩) rfl rfl rfl (by omega) (by omega) (fun r M' h => ?_)
  obtain ⟨S2, I2, w, ⟨h1, hv⟩, rfl, hw2, ht⟩ := h
  cases h1
  refine jj_istore (q := 1438) dL_law_1436 (by decide) rfl ?_
  refine jj_aload_n (q := 1439) dL_law_1438 rfl rfl rfl ?_
  refine lV0 (q := 1442) dL_law_1439 yk_X9_thrown ml_L_191 hw.hm.t0 (ex_thr hw2.hm) (fun o M' h => ⟨_, h.1⟩) rfl rfl rfl (by omega) (by omega) (fun r M' h => ?_)
  obtain ⟨h1, rfl⟩ := h
  cases h1
  refine jj_iload (q := 1444) dL_law_1442 rfl rfl ?_
  refine jj_icmp_eq (q := 1447) (tgt := 1449) dL_law_1444 rfl rfl (fun h1444 => ?_) (fun h1444 => absurd (ht) h1444)
  refine jj_iload (q := 1451) dL_law_1449 rfl rfl ?_
  refine jj_if_ne (q := 1454) (tgt := 1466) dL_law_1451 rfl rfl (fun h1451 => ?_) (fun h1451 => ?_)
  · refine jj_goto (tgt := 3611) dL_law_1466 rfl ?_
    exact kk S2 I2 _ _ _ _ _ _ (Nat.add_le_add_left (ec_le n9) cells) (Nat.add_le_add_left (es_le n9) slots) hw2
  · refine jj_aload_n (q := 1455) dL_law_1454 rfl rfl rfl ?_
    refine jj_iconst (v := 0) (q := 1456) dL_law_1455 rfl rfl ?_
    refine jj_lald (v := v.toInt64) (q := 1457) dL_law_1456 hO vp_01 (wLo_at (hn0 h1451)) rfl ?_
    refine jj_iload (q := 1459) dL_law_1457 rfl rfl ?_
    refine jj_i2l (q := 1460) dL_law_1459 rfl ?_
    refine jj_lcmp (q := 1461) dL_law_1460 rfl ?_
    refine jj_if_eq (q := 1464) (tgt := 1466) dL_law_1461 rfl rfl (fun h1461 => ?_) (fun h1461 => absurd (lcmp_self (congrArg Int32.toInt64 (hv (hn0 h1451)).symm)) h1461)
    refine jj_goto (tgt := 3611) dL_law_1466 rfl ?_
    exact kk S2 I2 _ _ _ _ _ _ (Nat.add_le_add_left (ec_le n9) cells) (Nat.add_le_add_left (es_le n9) slots) hw2
theorem lc_24 {a6 a7 : Option Value} (hw : Wd Γ k xo mo T R S I L) (hk : k ≤ 599) (hol : mo + 18 ≤ b) (hO : T b = some (.inr (.long, 1))) (hO2 : T (b + 1) = some (.inr (.double, 1))) (p1 : vp_in (i + 1) Γ.sc.2.1) (p2 : vp_in (i + 2) Γ.sc.2.1) (p3 : vp_in (i + 3) Γ.sc.2.1) (p4 : vp_in (i + 4) Γ.sc.2.1) (p5 : vp_in (i + 5) Γ.sc.2.1) (hc : cells + 1 ≤ 601024) (hs : slots + 6 ≤ 7293034) (kk : Kk Γ Zf k xo mo b cells slots i T R) : JJ Γ EL Zf room_1 cells slots 1469 (Vl Γ.sc.1 xo mo b i a6 a7) [] (T, R, S, I, L, D, none) := by
  obtain ⟨n9, t, v, G, hal, hx, hm⟩ := (show BSt Γ k xo mo b 100 100 Y_X8_stoppedUntil Y_X9_stoppedUntil [] [(0, 0)] T R S I L from st_stoppedUntil hw (by omega) hol) D
  simp only [List.mem_cons, List.mem_nil_iff, Prod.mk.injEq, or_false] at hal
  obtain ⟨rfl, rfl⟩ := hal
  refine jj_aload_n (q := 1470) dL_law_1469 rfl rfl rfl ?_
  refine lV0 (q := 1473) dL_law_1470 yk_X8_stoppedUntil ml_L_267 hw.tx hx (fun o M' h => ⟨v, h.1⟩) rfl rfl rfl (by omega) (by omega) (fun r M' h => ?_)
  obtain ⟨h1, S1, I1, L1, rfl, hG⟩ := h
  cases h1
  refine jj_aload_n (q := 1474) dL_law_1473 rfl rfl rfl ?_
  refine lV0 (q := 1477) dL_law_1474 yk_X9_stoppedUntil ml_L_270 hw.hm.t0 (hm S1 I1 L1 L1 D hG (fun _ _ => rfl)) (fun o M' h => by obtain ⟨S2, I2, w, h1, h2⟩ := h; exact ⟨w, h1.1⟩) rfl rfl rfl (by omega) (by omega) (fun r M' h => ?_)
  obtain ⟨S2, I2, w, ⟨h1, hv⟩, rfl, hw2, ht⟩ := h
  cases h1
  refine jj_icmp_eq (q := 1480) (tgt := 3611) dL_law_1477 rfl rfl (fun h1477 => ?_) (fun h1477 => absurd ((hv rfl).symm) h1477)
  exact kk S2 I2 _ _ _ _ _ _ (Nat.le_add_right _ _) (Nat.le_add_right _ _) hw2
theorem lc_25 {a6 a7 : Option Value} (hw : Wd Γ k xo mo T R S I L) (hk : k ≤ 599) (hol : mo + 18 ≤ b) (hO : T b = some (.inr (.long, 1))) (hO2 : T (b + 1) = some (.inr (.double, 1))) (p1 : vp_in (i + 1) Γ.sc.2.1) (p2 : vp_in (i + 2) Γ.sc.2.1) (p3 : vp_in (i + 3) Γ.sc.2.1) (p4 : vp_in (i + 4) Γ.sc.2.1) (p5 : vp_in (i + 5) Γ.sc.2.1) (hc : cells + 1 ≤ 601024) (hs : slots + 6 ≤ 7293034) (kk : Kk Γ Zf k xo mo b cells slots i T R) : JJ Γ EL Zf room_1 cells slots 1482 (Vl Γ.sc.1 xo mo b i a6 a7) [] (T, R, S, I, L, D, none) := by
  obtain ⟨n9, t, v, G, hal, hx, hm⟩ := (show BSt Γ k xo mo b 100 100 Y_X8_lanes Y_X9_lanes [] [(0, 0)] T R S I L from st_lanes hw (by omega) hol) D
  simp only [List.mem_cons, List.mem_nil_iff, Prod.mk.injEq, or_false] at hal
  obtain ⟨rfl, rfl⟩ := hal
  refine jj_aload_n (q := 1483) dL_law_1482 rfl rfl rfl ?_
  refine lV0 (q := 1486) dL_law_1483 yk_X8_lanes ml_L_271 hw.tx hx (fun o M' h => ⟨v, h.1⟩) rfl rfl rfl (by omega) (by omega) (fun r M' h => ?_)
  obtain ⟨h1, S1, I1, L1, rfl, hG⟩ := h
  cases h1
  refine jj_aload_n (q := 1487) dL_law_1486 rfl rfl rfl ?_
  refine lV0 (q := 1490) dL_law_1487 yk_X9_lanes ml_L_274 hw.hm.t0 (hm S1 I1 L1 L1 D hG (fun _ _ => rfl)) (fun o M' h => by obtain ⟨S2, I2, w, h1, h2⟩ := h; exact ⟨w, h1.1⟩) rfl rfl rfl (by omega) (by omega) (fun r M' h => ?_)
  obtain ⟨S2, I2, w, ⟨h1, hv⟩, rfl, hw2, ht⟩ := h
  cases h1
  refine jj_icmp_eq (q := 1493) (tgt := 3611) dL_law_1490 rfl rfl (fun h1490 => ?_) (fun h1490 => absurd ((hv rfl).symm) h1490)
  exact kk S2 I2 _ _ _ _ _ _ (Nat.le_add_right _ _) (Nat.le_add_right _ _) hw2
theorem lc_26 {a6 a7 : Option Value} (hw : Wd Γ k xo mo T R S I L) (hk : k ≤ 599) (hol : mo + 18 ≤ b) (hO : T b = some (.inr (.long, 1))) (hO2 : T (b + 1) = some (.inr (.double, 1))) (p1 : vp_in (i + 1) Γ.sc.2.1) (p2 : vp_in (i + 2) Γ.sc.2.1) (p3 : vp_in (i + 3) Γ.sc.2.1) (p4 : vp_in (i + 4) Γ.sc.2.1) (p5 : vp_in (i + 5) Γ.sc.2.1) (hc : cells + 1 ≤ 601024) (hs : slots + 6 ≤ 7293034) (kk : Kk Γ Zf k xo mo b cells slots i T R) : JJ Γ EL Zf room_1 cells slots 1495 (Vl Γ.sc.1 xo mo b i a6 a7) [] (T, R, S, I, L, D, none) := by
  obtain ⟨n9, t, v, G, hal, hx, hm⟩ := (show BSt Γ k xo mo b 100 100 Y_X8_laneSize Y_X9_laneSize [.int (Γ.sc.2.2 (i + 1).toNatClampNeg)] [(0, 0), (1, 1), (2, 2)] T R S I L from st_laneSize hw (by omega) hol) D
  have hn0 : t = 0 → n9 = 0 := (by decide : ∀ p ∈ ([(0, 0), (1, 1), (2, 2)] : List (Nat × Int32)), p.2 = 0 → p.1 = 0) (n9, t) hal
  have e1 := ec_le n9
  have e2 := es_le n9
  refine jj_aload_n (q := 1496) dL_law_1495 rfl rfl rfl ?_
  refine jj_aload_n (q := 1497) dL_law_1496 rfl rfl rfl ?_
  refine jj_iload (q := 1499) dL_law_1497 rfl rfl ?_
  refine jj_iconst (v := 1) (q := 1500) dL_law_1499 rfl rfl ?_
  refine jj_iadd (q := 1501) dL_law_1500 rfl ?_
  refine jj_kiald (q := 1502) dL_law_1501 sc_E p1 rfl rfl ?_
  refine jj_aload_n (q := 1503) dL_law_1502 rfl rfl rfl ?_
  refine lS3 (q := 1506) (t := t) dL_law_1503 yk_L_laneSize ms_L_laneSize (wr_laneSize (v := v) (G := G) hw.tx hO hal hx) (fun o M' h => h.1) rfl rfl rfl (by omega) (by omega) (fun M' h => ?_)
  obtain ⟨h1, S1, I1, L1, rfl, hG⟩ := h
  clear h1
  refine jj_istore (q := 1508) dL_law_1506 (by decide) rfl ?_
  refine jj_aload_n (q := 1509) dL_law_1508 rfl rfl rfl ?_
  refine jj_aload_n (q := 1510) dL_law_1509 rfl rfl rfl ?_
  refine jj_iload (q := 1512) dL_law_1510 rfl rfl ?_
  refine jj_iconst (v := 1) (q := 1513) dL_law_1512 rfl rfl ?_
  refine jj_iadd (q := 1514) dL_law_1513 rfl ?_
  refine jj_kiald (q := 1515) dL_law_1514 sc_E p1 rfl rfl ?_
  refine lV1 (q := 1518) dL_law_1515 yk_X9_laneSize ml_L_277 hw.hm.t0 (hm S1 I1 L1 _ D hG (fun c h => wLo_lt h)) (fun o M' h => by obtain ⟨S2, I2, w, h1, h2⟩ := h; exact ⟨w, h1.1⟩) rfl rfl rfl (by omega) (by omega) (fun r M' h => ?_)
  obtain ⟨S2, I2, w, ⟨h1, hv⟩, rfl, hw2, ht⟩ := h
  cases h1
  refine jj_istore (q := 1520) dL_law_1518 (by decide) rfl ?_
  refine jj_aload_n (q := 1521) dL_law_1520 rfl rfl rfl ?_
  refine lV0 (q := 1524) dL_law_1521 yk_X9_thrown ml_L_191 hw.hm.t0 (ex_thr hw2.hm) (fun o M' h => ⟨_, h.1⟩) rfl rfl rfl (by omega) (by omega) (fun r M' h => ?_)
  obtain ⟨h1, rfl⟩ := h
  cases h1
  refine jj_iload (q := 1526) dL_law_1524 rfl rfl ?_
  refine jj_icmp_eq (q := 1529) (tgt := 1531) dL_law_1526 rfl rfl (fun h1526 => ?_) (fun h1526 => absurd (ht) h1526)
  refine jj_iload (q := 1533) dL_law_1531 rfl rfl ?_
  refine jj_if_ne (q := 1536) (tgt := 1548) dL_law_1533 rfl rfl (fun h1533 => ?_) (fun h1533 => ?_)
  · refine jj_goto (tgt := 3611) dL_law_1548 rfl ?_
    exact kk S2 I2 _ _ _ _ _ _ (Nat.add_le_add_left (ec_le n9) cells) (Nat.add_le_add_left (es_le n9) slots) hw2
  · refine jj_aload_n (q := 1537) dL_law_1536 rfl rfl rfl ?_
    refine jj_iconst (v := 0) (q := 1538) dL_law_1537 rfl rfl ?_
    refine jj_lald (v := v.toInt64) (q := 1539) dL_law_1538 hO vp_01 (wLo_at (hn0 h1533)) rfl ?_
    refine jj_iload (q := 1541) dL_law_1539 rfl rfl ?_
    refine jj_i2l (q := 1542) dL_law_1541 rfl ?_
    refine jj_lcmp (q := 1543) dL_law_1542 rfl ?_
    refine jj_if_eq (q := 1546) (tgt := 1548) dL_law_1543 rfl rfl (fun h1543 => ?_) (fun h1543 => absurd (lcmp_self (congrArg Int32.toInt64 (hv (hn0 h1533)).symm)) h1543)
    refine jj_goto (tgt := 3611) dL_law_1548 rfl ?_
    exact kk S2 I2 _ _ _ _ _ _ (Nat.add_le_add_left (ec_le n9) cells) (Nat.add_le_add_left (es_le n9) slots) hw2
theorem lc_27 {a6 a7 : Option Value} (hw : Wd Γ k xo mo T R S I L) (hk : k ≤ 599) (hol : mo + 18 ≤ b) (hO : T b = some (.inr (.long, 1))) (hO2 : T (b + 1) = some (.inr (.double, 1))) (p1 : vp_in (i + 1) Γ.sc.2.1) (p2 : vp_in (i + 2) Γ.sc.2.1) (p3 : vp_in (i + 3) Γ.sc.2.1) (p4 : vp_in (i + 4) Γ.sc.2.1) (p5 : vp_in (i + 5) Γ.sc.2.1) (hc : cells + 1 ≤ 601024) (hs : slots + 6 ≤ 7293034) (kk : Kk Γ Zf k xo mo b cells slots i T R) : JJ Γ EL Zf room_1 cells slots 1551 (Vl Γ.sc.1 xo mo b i a6 a7) [] (T, R, S, I, L, D, none) := by
  obtain ⟨n9, t, v, G, hal, hx, hm⟩ := (show BSt Γ k xo mo b 100 100 Y_X8_laneAt Y_X9_laneAt [.int (Γ.sc.2.2 (i + 1).toNatClampNeg), .int (Γ.sc.2.2 (i + 2).toNatClampNeg)] [(0, 0), (1, 1), (2, 2)] T R S I L from st_laneAt hw (by omega) hol) D
  have hn0 : t = 0 → n9 = 0 := (by decide : ∀ p ∈ ([(0, 0), (1, 1), (2, 2)] : List (Nat × Int32)), p.2 = 0 → p.1 = 0) (n9, t) hal
  have e1 := ec_le n9
  have e2 := es_le n9
  refine jj_aload_n (q := 1552) dL_law_1551 rfl rfl rfl ?_
  refine jj_aload_n (q := 1553) dL_law_1552 rfl rfl rfl ?_
  refine jj_iload (q := 1555) dL_law_1553 rfl rfl ?_
  refine jj_iconst (v := 1) (q := 1556) dL_law_1555 rfl rfl ?_
  refine jj_iadd (q := 1557) dL_law_1556 rfl ?_
  refine jj_kiald (q := 1558) dL_law_1557 sc_E p1 rfl rfl ?_
  refine jj_aload_n (q := 1559) dL_law_1558 rfl rfl rfl ?_
  refine jj_iload (q := 1561) dL_law_1559 rfl rfl ?_
  refine jj_iconst (v := 2) (q := 1562) dL_law_1561 rfl rfl ?_
  refine jj_iadd (q := 1563) dL_law_1562 rfl ?_
  refine jj_kiald (q := 1564) dL_law_1563 sc_E p2 rfl rfl ?_
  refine jj_aload_n (q := 1565) dL_law_1564 rfl rfl rfl ?_
  refine lS4 (q := 1568) (t := t) dL_law_1565 yk_L_laneAt ms_L_laneAt (wr_laneAt (v := v) (G := G) hw.tx hO hal hx) (fun o M' h => h.1) rfl rfl rfl (by omega) (by omega) (fun M' h => ?_)
  obtain ⟨h1, S1, I1, L1, rfl, hG⟩ := h
  clear h1
  refine jj_istore (q := 1570) dL_law_1568 (by decide) rfl ?_
  refine jj_aload_n (q := 1571) dL_law_1570 rfl rfl rfl ?_
  refine jj_aload_n (q := 1572) dL_law_1571 rfl rfl rfl ?_
  refine jj_iload (q := 1574) dL_law_1572 rfl rfl ?_
  refine jj_iconst (v := 1) (q := 1575) dL_law_1574 rfl rfl ?_
  refine jj_iadd (q := 1576) dL_law_1575 rfl ?_
  refine jj_kiald (q := 1577) dL_law_1576 sc_E p1 rfl rfl ?_
  refine jj_aload_n (q := 1578) dL_law_1577 rfl rfl rfl ?_
  refine jj_iload (q := 1580) dL_law_1578 rfl rfl ?_
  refine jj_iconst (v := 2) (q := 1581) dL_law_1580 rfl rfl ?_
  refine jj_iadd (q := 1582) dL_law_1581 rfl ?_
  refine jj_kiald (q := 1583) dL_law_1582 sc_E p2 rfl rfl ?_
  refine lV2 (q := 1586) dL_law_1583 yk_X9_laneAt ml_L_280 hw.hm.t0 (hm S1 I1 L1 _ D hG (fun c h => wLo_lt h)) (fun o M' h => by obtain ⟨S2, I2, w, h1, h2⟩ := h; exact ⟨w, h1.1⟩) rfl rfl rfl (by omega) (by omega) (fun r M' h => ?_)
  obtain ⟨S2, I2, w, ⟨h1, hv⟩, rfl, hw2, ht⟩ := h
  cases h1
  refine jj_istore (q := 1588) dL_law_1586 (by decide) rfl ?_
  refine jj_aload_n (q := 1589) dL_law_1588 rfl rfl rfl ?_
  refine lV0 (q := 1592) dL_law_1589 yk_X9_thrown ml_L_191 hw.hm.t0 (ex_thr hw2.hm) (fun o M' h => ⟨_, h.1⟩) rfl rfl rfl (by omega) (by omega) (fun r M' h => ?_)
  obtain ⟨h1, rfl⟩ := h
  cases h1
  refine jj_iload (q := 1594) dL_law_1592 rfl rfl ?_
  refine jj_icmp_eq (q := 1597) (tgt := 1599) dL_law_1594 rfl rfl (fun h1594 => ?_) (fun h1594 => absurd (ht) h1594)
  refine jj_iload (q := 1601) dL_law_1599 rfl rfl ?_
  refine jj_if_ne (q := 1604) (tgt := 1616) dL_law_1601 rfl rfl (fun h1601 => ?_) (fun h1601 => ?_)
  · refine jj_goto (tgt := 3611) dL_law_1616 rfl ?_
    exact kk S2 I2 _ _ _ _ _ _ (Nat.add_le_add_left (ec_le n9) cells) (Nat.add_le_add_left (es_le n9) slots) hw2
  · refine jj_aload_n (q := 1605) dL_law_1604 rfl rfl rfl ?_
    refine jj_iconst (v := 0) (q := 1606) dL_law_1605 rfl rfl ?_
    refine jj_lald (v := v.toInt64) (q := 1607) dL_law_1606 hO vp_01 (wLo_at (hn0 h1601)) rfl ?_
    refine jj_iload (q := 1609) dL_law_1607 rfl rfl ?_
    refine jj_i2l (q := 1610) dL_law_1609 rfl ?_
    refine jj_lcmp (q := 1611) dL_law_1610 rfl ?_
    refine jj_if_eq (q := 1614) (tgt := 1616) dL_law_1611 rfl rfl (fun h1611 => ?_) (fun h1611 => absurd (lcmp_self (congrArg Int32.toInt64 (hv (hn0 h1601)).symm)) h1611)
    refine jj_goto (tgt := 3611) dL_law_1616 rfl ?_
    exact kk S2 I2 _ _ _ _ _ _ (Nat.add_le_add_left (ec_le n9) cells) (Nat.add_le_add_left (es_le n9) slots) hw2
theorem lc_28 {a6 a7 : Option Value} (hw : Wd Γ k xo mo T R S I L) (hk : k ≤ 599) (hol : mo + 18 ≤ b) (hO : T b = some (.inr (.long, 1))) (hO2 : T (b + 1) = some (.inr (.double, 1))) (p1 : vp_in (i + 1) Γ.sc.2.1) (p2 : vp_in (i + 2) Γ.sc.2.1) (p3 : vp_in (i + 3) Γ.sc.2.1) (p4 : vp_in (i + 4) Γ.sc.2.1) (p5 : vp_in (i + 5) Γ.sc.2.1) (hc : cells + 1 ≤ 601024) (hs : slots + 6 ≤ 7293034) (kk : Kk Γ Zf k xo mo b cells slots i T R) : JJ Γ EL Zf room_1 cells slots 1619 (Vl Γ.sc.1 xo mo b i a6 a7) [] (T, R, S, I, L, D, none) := by
  obtain ⟨n9, t, v, G, hal, hx, hm⟩ := (show BSt Γ k xo mo b 100 100 Y_X8_keeps Y_X9_keeps [] [(0, 0)] T R S I L from st_keeps hw (by omega) hol) D
  simp only [List.mem_cons, List.mem_nil_iff, Prod.mk.injEq, or_false] at hal
  obtain ⟨rfl, rfl⟩ := hal
  refine jj_aload_n (q := 1620) dL_law_1619 rfl rfl rfl ?_
  refine lV0 (q := 1623) dL_law_1620 yk_X8_keeps ml_L_281 hw.tx hx (fun o M' h => ⟨v, h.1⟩) rfl rfl rfl (by omega) (by omega) (fun r M' h => ?_)
  obtain ⟨h1, S1, I1, L1, rfl, hG⟩ := h
  cases h1
  refine jj_aload_n (q := 1624) dL_law_1623 rfl rfl rfl ?_
  refine lV0 (q := 1627) dL_law_1624 yk_X9_keeps ml_L_284 hw.hm.t0 (hm S1 I1 L1 L1 D hG (fun _ _ => rfl)) (fun o M' h => by obtain ⟨S2, I2, w, h1, h2⟩ := h; exact ⟨w, h1.1⟩) rfl rfl rfl (by omega) (by omega) (fun r M' h => ?_)
  obtain ⟨S2, I2, w, ⟨h1, hv⟩, rfl, hw2, ht⟩ := h
  cases h1
  refine jj_icmp_eq (q := 1630) (tgt := 3611) dL_law_1627 rfl rfl (fun h1627 => ?_) (fun h1627 => absurd ((hv rfl).symm) h1627)
  exact kk S2 I2 _ _ _ _ _ _ (Nat.le_add_right _ _) (Nat.le_add_right _ _) hw2
theorem lc_29 {a6 a7 : Option Value} (hw : Wd Γ k xo mo T R S I L) (hk : k ≤ 599) (hol : mo + 18 ≤ b) (hO : T b = some (.inr (.long, 1))) (hO2 : T (b + 1) = some (.inr (.double, 1))) (p1 : vp_in (i + 1) Γ.sc.2.1) (p2 : vp_in (i + 2) Γ.sc.2.1) (p3 : vp_in (i + 3) Γ.sc.2.1) (p4 : vp_in (i + 4) Γ.sc.2.1) (p5 : vp_in (i + 5) Γ.sc.2.1) (hc : cells + 1 ≤ 601024) (hs : slots + 6 ≤ 7293034) (kk : Kk Γ Zf k xo mo b cells slots i T R) : JJ Γ EL Zf room_1 cells slots 1632 (Vl Γ.sc.1 xo mo b i a6 a7) [] (T, R, S, I, L, D, none) := by
  obtain ⟨n9, t, v, G, hal, hx, hm⟩ := (show BSt Γ k xo mo b 100 100 Y_X8_flights Y_X9_flights [] [(0, 0)] T R S I L from st_flights hw (by omega) hol) D
  simp only [List.mem_cons, List.mem_nil_iff, Prod.mk.injEq, or_false] at hal
  obtain ⟨rfl, rfl⟩ := hal
  refine jj_aload_n (q := 1633) dL_law_1632 rfl rfl rfl ?_
  refine lV0 (q := 1636) dL_law_1633 yk_X8_flights ml_L_285 hw.tx hx (fun o M' h => ⟨v, h.1⟩) rfl rfl rfl (by omega) (by omega) (fun r M' h => ?_)
  obtain ⟨h1, S1, I1, L1, rfl, hG⟩ := h
  cases h1
  refine jj_aload_n (q := 1637) dL_law_1636 rfl rfl rfl ?_
  refine lV0 (q := 1640) dL_law_1637 yk_X9_flights ml_L_288 hw.hm.t0 (hm S1 I1 L1 L1 D hG (fun _ _ => rfl)) (fun o M' h => by obtain ⟨S2, I2, w, h1, h2⟩ := h; exact ⟨w, h1.1⟩) rfl rfl rfl (by omega) (by omega) (fun r M' h => ?_)
  obtain ⟨S2, I2, w, ⟨h1, hv⟩, rfl, hw2, ht⟩ := h
  cases h1
  refine jj_icmp_eq (q := 1643) (tgt := 3611) dL_law_1640 rfl rfl (fun h1640 => ?_) (fun h1640 => absurd ((hv rfl).symm) h1640)
  exact kk S2 I2 _ _ _ _ _ _ (Nat.le_add_right _ _) (Nat.le_add_right _ _) hw2
theorem lc_30 {a6 a7 : Option Value} (hw : Wd Γ k xo mo T R S I L) (hk : k ≤ 599) (hol : mo + 18 ≤ b) (hO : T b = some (.inr (.long, 1))) (hO2 : T (b + 1) = some (.inr (.double, 1))) (p1 : vp_in (i + 1) Γ.sc.2.1) (p2 : vp_in (i + 2) Γ.sc.2.1) (p3 : vp_in (i + 3) Γ.sc.2.1) (p4 : vp_in (i + 4) Γ.sc.2.1) (p5 : vp_in (i + 5) Γ.sc.2.1) (hc : cells + 1 ≤ 601024) (hs : slots + 6 ≤ 7293034) (kk : Kk Γ Zf k xo mo b cells slots i T R) : JJ Γ EL Zf room_1 cells slots 1645 (Vl Γ.sc.1 xo mo b i a6 a7) [] (T, R, S, I, L, D, none) := by
  obtain ⟨n9, t, v, G, hal, hx, hm⟩ := (show BSt Γ k xo mo b 100 100 Y_X8_flightState Y_X9_flightState [.int (Γ.sc.2.2 (i + 1).toNatClampNeg)] [(0, 0), (1, 1), (2, 2)] T R S I L from st_flightState hw (by omega) hol) D
  have hn0 : t = 0 → n9 = 0 := (by decide : ∀ p ∈ ([(0, 0), (1, 1), (2, 2)] : List (Nat × Int32)), p.2 = 0 → p.1 = 0) (n9, t) hal
  have e1 := ec_le n9
  have e2 := es_le n9
  refine jj_aload_n (q := 1646) dL_law_1645 rfl rfl rfl ?_
  refine jj_aload_n (q := 1647) dL_law_1646 rfl rfl rfl ?_
  refine jj_iload (q := 1649) dL_law_1647 rfl rfl ?_
  refine jj_iconst (v := 1) (q := 1650) dL_law_1649 rfl rfl ?_
  refine jj_iadd (q := 1651) dL_law_1650 rfl ?_
  refine jj_kiald (q := 1652) dL_law_1651 sc_E p1 rfl rfl ?_
  refine jj_aload_n (q := 1653) dL_law_1652 rfl rfl rfl ?_
  refine lS3 (q := 1656) (t := t) dL_law_1653 yk_L_flightState ms_L_flightState (wr_flightState (v := v) (G := G) hw.tx hO hal hx) (fun o M' h => h.1) rfl rfl rfl (by omega) (by omega) (fun M' h => ?_)
  obtain ⟨h1, S1, I1, L1, rfl, hG⟩ := h
  clear h1
  refine jj_istore (q := 1658) dL_law_1656 (by decide) rfl ?_
  refine jj_aload_n (q := 1659) dL_law_1658 rfl rfl rfl ?_
  refine jj_aload_n (q := 1660) dL_law_1659 rfl rfl rfl ?_
  refine jj_iload (q := 1662) dL_law_1660 rfl rfl ?_
  refine jj_iconst (v := 1) (q := 1663) dL_law_1662 rfl rfl ?_
  refine jj_iadd (q := 1664) dL_law_1663 rfl ?_
  refine jj_kiald (q := 1665) dL_law_1664 sc_E p1 rfl rfl ?_
  refine lV1 (q := 1668) dL_law_1665 yk_X9_flightState ml_L_291 hw.hm.t0 (hm S1 I1 L1 _ D hG (fun c h => wLo_lt h)) (fun o M' h => by obtain ⟨S2, I2, w, h1, h2⟩ := h; exact ⟨w, h1.1⟩) rfl rfl rfl (by omega) (by omega) (fun r M' h => ?_)
  obtain ⟨S2, I2, w, ⟨h1, hv⟩, rfl, hw2, ht⟩ := h
  cases h1
  refine jj_istore (q := 1670) dL_law_1668 (by decide) rfl ?_
  refine jj_aload_n (q := 1671) dL_law_1670 rfl rfl rfl ?_
  refine lV0 (q := 1674) dL_law_1671 yk_X9_thrown ml_L_191 hw.hm.t0 (ex_thr hw2.hm) (fun o M' h => ⟨_, h.1⟩) rfl rfl rfl (by omega) (by omega) (fun r M' h => ?_)
  obtain ⟨h1, rfl⟩ := h
  cases h1
  refine jj_iload (q := 1676) dL_law_1674 rfl rfl ?_
  refine jj_icmp_eq (q := 1679) (tgt := 1681) dL_law_1676 rfl rfl (fun h1676 => ?_) (fun h1676 => absurd (ht) h1676)
  refine jj_iload (q := 1683) dL_law_1681 rfl rfl ?_
  refine jj_if_ne (q := 1686) (tgt := 1698) dL_law_1683 rfl rfl (fun h1683 => ?_) (fun h1683 => ?_)
  · refine jj_goto (tgt := 3611) dL_law_1698 rfl ?_
    exact kk S2 I2 _ _ _ _ _ _ (Nat.add_le_add_left (ec_le n9) cells) (Nat.add_le_add_left (es_le n9) slots) hw2
  · refine jj_aload_n (q := 1687) dL_law_1686 rfl rfl rfl ?_
    refine jj_iconst (v := 0) (q := 1688) dL_law_1687 rfl rfl ?_
    refine jj_lald (v := v.toInt64) (q := 1689) dL_law_1688 hO vp_01 (wLo_at (hn0 h1683)) rfl ?_
    refine jj_iload (q := 1691) dL_law_1689 rfl rfl ?_
    refine jj_i2l (q := 1692) dL_law_1691 rfl ?_
    refine jj_lcmp (q := 1693) dL_law_1692 rfl ?_
    refine jj_if_eq (q := 1696) (tgt := 1698) dL_law_1693 rfl rfl (fun h1693 => ?_) (fun h1693 => absurd (lcmp_self (congrArg Int32.toInt64 (hv (hn0 h1683)).symm)) h1693)
    refine jj_goto (tgt := 3611) dL_law_1698 rfl ?_
    exact kk S2 I2 _ _ _ _ _ _ (Nat.add_le_add_left (ec_le n9) cells) (Nat.add_le_add_left (es_le n9) slots) hw2
theorem lc_31 {a6 a7 : Option Value} (hw : Wd Γ k xo mo T R S I L) (hk : k ≤ 599) (hol : mo + 18 ≤ b) (hO : T b = some (.inr (.long, 1))) (hO2 : T (b + 1) = some (.inr (.double, 1))) (p1 : vp_in (i + 1) Γ.sc.2.1) (p2 : vp_in (i + 2) Γ.sc.2.1) (p3 : vp_in (i + 3) Γ.sc.2.1) (p4 : vp_in (i + 4) Γ.sc.2.1) (p5 : vp_in (i + 5) Γ.sc.2.1) (hc : cells + 1 ≤ 601024) (hs : slots + 6 ≤ 7293034) (kk : Kk Γ Zf k xo mo b cells slots i T R) : JJ Γ EL Zf room_1 cells slots 1701 (Vl Γ.sc.1 xo mo b i a6 a7) [] (T, R, S, I, L, D, none) := by
  obtain ⟨n9, t, v, G, hal, hx, hm⟩ := (show BSt Γ k xo mo b 100 100 Y_X8_openOf Y_X9_openOf [.int (Γ.sc.2.2 (i + 1).toNatClampNeg)] [(0, 0), (1, 1), (2, 2)] T R S I L from st_openOf hw (by omega) hol) D
  have hn0 : t = 0 → n9 = 0 := (by decide : ∀ p ∈ ([(0, 0), (1, 1), (2, 2)] : List (Nat × Int32)), p.2 = 0 → p.1 = 0) (n9, t) hal
  have e1 := ec_le n9
  have e2 := es_le n9
  refine jj_aload_n (q := 1702) dL_law_1701 rfl rfl rfl ?_
  refine jj_aload_n (q := 1703) dL_law_1702 rfl rfl rfl ?_
  refine jj_iload (q := 1705) dL_law_1703 rfl rfl ?_
  refine jj_iconst (v := 1) (q := 1706) dL_law_1705 rfl rfl ?_
  refine jj_iadd (q := 1707) dL_law_1706 rfl ?_
  refine jj_kiald (q := 1708) dL_law_1707 sc_E p1 rfl rfl ?_
  refine jj_aload_n (q := 1709) dL_law_1708 rfl rfl rfl ?_
  refine lS3 (q := 1712) (t := t) dL_law_1709 yk_L_openOf ms_L_openOf (wr_openOf (v := v) (G := G) hw.tx hO hal hx) (fun o M' h => h.1) rfl rfl rfl (by omega) (by omega) (fun M' h => ?_)
  obtain ⟨h1, S1, I1, L1, rfl, hG⟩ := h
  clear h1
  refine jj_istore (q := 1714) dL_law_1712 (by decide) rfl ?_
  refine jj_aload_n (q := 1715) dL_law_1714 rfl rfl rfl ?_
  refine jj_aload_n (q := 1716) dL_law_1715 rfl rfl rfl ?_
  refine jj_iload (q := 1718) dL_law_1716 rfl rfl ?_
  refine jj_iconst (v := 1) (q := 1719) dL_law_1718 rfl rfl ?_
  refine jj_iadd (q := 1720) dL_law_1719 rfl ?_
  refine jj_kiald (q := 1721) dL_law_1720 sc_E p1 rfl rfl ?_
  refine lV1 (q := 1724) dL_law_1721 yk_X9_openOf ml_L_294 hw.hm.t0 (hm S1 I1 L1 _ D hG (fun c h => wLo_lt h)) (fun o M' h => by obtain ⟨S2, I2, w, h1, h2⟩ := h; exact ⟨w, h1.1⟩) rfl rfl rfl (by omega) (by omega) (fun r M' h => ?_)
  obtain ⟨S2, I2, w, ⟨h1, hv⟩, rfl, hw2, ht⟩ := h
  cases h1
  refine jj_istore (q := 1726) dL_law_1724 (by decide) rfl ?_
  refine jj_aload_n (q := 1727) dL_law_1726 rfl rfl rfl ?_
  refine lV0 (q := 1730) dL_law_1727 yk_X9_thrown ml_L_191 hw.hm.t0 (ex_thr hw2.hm) (fun o M' h => ⟨_, h.1⟩) rfl rfl rfl (by omega) (by omega) (fun r M' h => ?_)
  obtain ⟨h1, rfl⟩ := h
  cases h1
  refine jj_iload (q := 1732) dL_law_1730 rfl rfl ?_
  refine jj_icmp_eq (q := 1735) (tgt := 1737) dL_law_1732 rfl rfl (fun h1732 => ?_) (fun h1732 => absurd (ht) h1732)
  refine jj_iload (q := 1739) dL_law_1737 rfl rfl ?_
  refine jj_if_ne (q := 1742) (tgt := 1754) dL_law_1739 rfl rfl (fun h1739 => ?_) (fun h1739 => ?_)
  · refine jj_goto (tgt := 3611) dL_law_1754 rfl ?_
    exact kk S2 I2 _ _ _ _ _ _ (Nat.add_le_add_left (ec_le n9) cells) (Nat.add_le_add_left (es_le n9) slots) hw2
  · refine jj_aload_n (q := 1743) dL_law_1742 rfl rfl rfl ?_
    refine jj_iconst (v := 0) (q := 1744) dL_law_1743 rfl rfl ?_
    refine jj_lald (v := v.toInt64) (q := 1745) dL_law_1744 hO vp_01 (wLo_at (hn0 h1739)) rfl ?_
    refine jj_iload (q := 1747) dL_law_1745 rfl rfl ?_
    refine jj_i2l (q := 1748) dL_law_1747 rfl ?_
    refine jj_lcmp (q := 1749) dL_law_1748 rfl ?_
    refine jj_if_eq (q := 1752) (tgt := 1754) dL_law_1749 rfl rfl (fun h1749 => ?_) (fun h1749 => absurd (lcmp_self (congrArg Int32.toInt64 (hv (hn0 h1739)).symm)) h1749)
    refine jj_goto (tgt := 3611) dL_law_1754 rfl ?_
    exact kk S2 I2 _ _ _ _ _ _ (Nat.add_le_add_left (ec_le n9) cells) (Nat.add_le_add_left (es_le n9) slots) hw2
theorem lc_32 {a6 a7 : Option Value} (hw : Wd Γ k xo mo T R S I L) (hk : k ≤ 599) (hol : mo + 18 ≤ b) (hO : T b = some (.inr (.long, 1))) (hO2 : T (b + 1) = some (.inr (.double, 1))) (p1 : vp_in (i + 1) Γ.sc.2.1) (p2 : vp_in (i + 2) Γ.sc.2.1) (p3 : vp_in (i + 3) Γ.sc.2.1) (p4 : vp_in (i + 4) Γ.sc.2.1) (p5 : vp_in (i + 5) Γ.sc.2.1) (hc : cells + 1 ≤ 601024) (hs : slots + 6 ≤ 7293034) (kk : Kk Γ Zf k xo mo b cells slots i T R) : JJ Γ EL Zf room_1 cells slots 1757 (Vl Γ.sc.1 xo mo b i a6 a7) [] (T, R, S, I, L, D, none) := by
  obtain ⟨n9, t, v, G, hal, hx, hm⟩ := (show BSt Γ k xo mo b 100 100 Y_X8_closeOf Y_X9_closeOf [.int (Γ.sc.2.2 (i + 1).toNatClampNeg)] [(0, 0), (1, 1), (2, 2)] T R S I L from st_closeOf hw (by omega) hol) D
  have hn0 : t = 0 → n9 = 0 := (by decide : ∀ p ∈ ([(0, 0), (1, 1), (2, 2)] : List (Nat × Int32)), p.2 = 0 → p.1 = 0) (n9, t) hal
  have e1 := ec_le n9
  have e2 := es_le n9
  refine jj_aload_n (q := 1758) dL_law_1757 rfl rfl rfl ?_
  refine jj_aload_n (q := 1759) dL_law_1758 rfl rfl rfl ?_
  refine jj_iload (q := 1761) dL_law_1759 rfl rfl ?_
  refine jj_iconst (v := 1) (q := 1762) dL_law_1761 rfl rfl ?_
  refine jj_iadd (q := 1763) dL_law_1762 rfl ?_
  refine jj_kiald (q := 1764) dL_law_1763 sc_E p1 rfl rfl ?_
  refine jj_aload_n (q := 1765) dL_law_1764 rfl rfl rfl ?_
  refine lS3 (q := 1768) (t := t) dL_law_1765 yk_L_closeOf ms_L_closeOf (wr_closeOf (v := v) (G := G) hw.tx hO hal hx) (fun o M' h => h.1) rfl rfl rfl (by omega) (by omega) (fun M' h => ?_)
  obtain ⟨h1, S1, I1, L1, rfl, hG⟩ := h
  clear h1
  refine jj_istore (q := 1770) dL_law_1768 (by decide) rfl ?_
  refine jj_aload_n (q := 1771) dL_law_1770 rfl rfl rfl ?_
  refine jj_aload_n (q := 1772) dL_law_1771 rfl rfl rfl ?_
  refine jj_iload (q := 1774) dL_law_1772 rfl rfl ?_
  refine jj_iconst (v := 1) (q := 1775) dL_law_1774 rfl rfl ?_
  refine jj_iadd (q := 1776) dL_law_1775 rfl ?_
  refine jj_kiald (q := 1777) dL_law_1776 sc_E p1 rfl rfl ?_
  refine lV1 (q := 1780) dL_law_1777 yk_X9_closeOf ml_L_297 hw.hm.t0 (hm S1 I1 L1 _ D hG (fun c h => wLo_lt h)) (fun o M' h => by obtain ⟨S2, I2, w, h1, h2⟩ := h; exact ⟨w, h1.1⟩) rfl rfl rfl (by omega) (by omega) (fun r M' h => ?_)
  obtain ⟨S2, I2, w, ⟨h1, hv⟩, rfl, hw2, ht⟩ := h
  cases h1
  refine jj_istore (q := 1782) dL_law_1780 (by decide) rfl ?_
  refine jj_aload_n (q := 1783) dL_law_1782 rfl rfl rfl ?_
  refine lV0 (q := 1786) dL_law_1783 yk_X9_thrown ml_L_191 hw.hm.t0 (ex_thr hw2.hm) (fun o M' h => ⟨_, h.1⟩) rfl rfl rfl (by omega) (by omega) (fun r M' h => ?_)
  obtain ⟨h1, rfl⟩ := h
  cases h1
  refine jj_iload (q := 1788) dL_law_1786 rfl rfl ?_
  refine jj_icmp_eq (q := 1791) (tgt := 1793) dL_law_1788 rfl rfl (fun h1788 => ?_) (fun h1788 => absurd (ht) h1788)
  refine jj_iload (q := 1795) dL_law_1793 rfl rfl ?_
  refine jj_if_ne (q := 1798) (tgt := 1810) dL_law_1795 rfl rfl (fun h1795 => ?_) (fun h1795 => ?_)
  · refine jj_goto (tgt := 3611) dL_law_1810 rfl ?_
    exact kk S2 I2 _ _ _ _ _ _ (Nat.add_le_add_left (ec_le n9) cells) (Nat.add_le_add_left (es_le n9) slots) hw2
  · refine jj_aload_n (q := 1799) dL_law_1798 rfl rfl rfl ?_
    refine jj_iconst (v := 0) (q := 1800) dL_law_1799 rfl rfl ?_
    refine jj_lald (v := v.toInt64) (q := 1801) dL_law_1800 hO vp_01 (wLo_at (hn0 h1795)) rfl ?_
    refine jj_iload (q := 1803) dL_law_1801 rfl rfl ?_
    refine jj_i2l (q := 1804) dL_law_1803 rfl ?_
    refine jj_lcmp (q := 1805) dL_law_1804 rfl ?_
    refine jj_if_eq (q := 1808) (tgt := 1810) dL_law_1805 rfl rfl (fun h1805 => ?_) (fun h1805 => absurd (lcmp_self (congrArg Int32.toInt64 (hv (hn0 h1795)).symm)) h1805)
    refine jj_goto (tgt := 3611) dL_law_1810 rfl ?_
    exact kk S2 I2 _ _ _ _ _ _ (Nat.add_le_add_left (ec_le n9) cells) (Nat.add_le_add_left (es_le n9) slots) hw2
end C12
