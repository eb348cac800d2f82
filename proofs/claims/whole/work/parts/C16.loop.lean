/-! THE SWITCH AND THE LOOP -/
theorem and63 (a : Int32) : ∃ j, j < 64 ∧ a &&& 63 = nI j := by
  refine ⟨(a.toBitVec &&& 63#32).toNat, ?_, ?_⟩
  · rw [BitVec.toNat_and]
    exact Nat.lt_succ_of_le Nat.and_le_right
  · refine Int32.toBitVec_inj.mp ?_
    rw [nI_bv]
    simp
theorem lw_more {N k : Nat} (hN : N ≤ 3072) (hk : 6 * k ≤ N) (h : ¬ nI N - 6 < nI (6 * k)) : 6 * k + 6 ≤ N := by
  by_cases h6 : 6 ≤ N
  · have e : nI N - 6 = nI (N - 6) := by
      have h1 : nI (N - 6) + nI 6 = nI N := by rw [nI_add, show N - 6 + 6 = N by omega]
      rw [← h1, show nI 6 = 6 from rfl]
      simp
    rw [e, nI_lt_iff (by omega) (by omega)] at h
    omega
  · have hk0 : k = 0 := by omega
    subst hk0
    have : N = 0 ∨ N = 1 ∨ N = 2 ∨ N = 3 ∨ N = 4 ∨ N = 5 := by omega
    exfalso
    rcases this with rfl | rfl | rfl | rfl | rfl | rfl <;> exact h (by decide)
theorem lw_in {N j c : Nat} (h : j + c < N) (hN : N ≤ 3072) : vp_in (nI j + nI c) N := by
  rw [nI_add]
  intro h1
  rcases h1 with h1 | h1
  · exact nI_ltz (by omega) h1
  · rw [nI_clamp (by omega)] at h1
    omega
section C16
variable {Γ : Gam} {Zf : List Frame → Array Value → State → State → Prop} {cells slots k xo mo b : Nat} {T : JT} {R S : JR} {I : JI} {L : JL} {D : JD} {i : Int32}
set_option maxRecDepth 4000 in
theorem lc_sw {j : Nat} (hj : j < 64) {a6 a7 : Option Value} (hw : Wd Γ k xo mo T R S I L) (hk : k ≤ 599) (hol : mo + 18 ≤ b) (hO : T b = some (.inr (.long, 1))) (hO2 : T (b + 1) = some (.inr (.double, 1))) (p1 : vp_in (i + 1) Γ.sc.2.1) (p2 : vp_in (i + 2) Γ.sc.2.1) (p3 : vp_in (i + 3) Γ.sc.2.1) (p4 : vp_in (i + 4) Γ.sc.2.1) (p5 : vp_in (i + 5) Γ.sc.2.1) (hc : cells + 1 ≤ 601024) (hs : slots + 6 ≤ 7293034) (kk : Kk Γ Zf k xo mo b cells slots i T R) : JJ Γ EL Zf room_1 cells slots 45 (Vl Γ.sc.1 xo mo b i a6 a7) [.int (nI j)] (T, R, S, I, L, D, none) := by
  match j, hj with
  | 0, _ => exact jj_tableIn (off := 271) (tgt := 316) dL_law_45 (by decide) (by decide) (by decide +kernel) rfl (lc_0 hw hk hol hO hO2 p1 p2 p3 p4 p5 hc hs kk)
  | 1, _ => exact jj_tableIn (off := 344) (tgt := 389) dL_law_45 (by decide) (by decide) (by decide +kernel) rfl (lc_1 hw hk hol hO hO2 p1 p2 p3 p4 p5 hc hs kk)
  | 2, _ => exact jj_tableIn (off := 400) (tgt := 445) dL_law_45 (by decide) (by decide) (by decide +kernel) rfl (lc_2 hw hk hol hO hO2 p1 p2 p3 p4 p5 hc hs kk)
  | 3, _ => exact jj_tableIn (off := 413) (tgt := 458) dL_law_45 (by decide) (by decide) (by decide +kernel) rfl (lc_3 hw hk hol hO hO2 p1 p2 p3 p4 p5 hc hs kk)
  | 4, _ => exact jj_tableIn (off := 426) (tgt := 471) dL_law_45 (by decide) (by decide) (by decide +kernel) rfl (lc_4 hw hk hol hO hO2 p1 p2 p3 p4 p5 hc hs kk)
  | 5, _ => exact jj_tableIn (off := 439) (tgt := 484) dL_law_45 (by decide) (by decide) (by decide +kernel) rfl (lc_5 hw hk hol hO hO2 p1 p2 p3 p4 p5 hc hs kk)
  | 6, _ => exact jj_tableIn (off := 452) (tgt := 497) dL_law_45 (by decide) (by decide) (by decide +kernel) rfl (lc_6 hw hk hol hO hO2 p1 p2 p3 p4 p5 hc hs kk)
  | 7, _ => exact jj_tableIn (off := 465) (tgt := 510) dL_law_45 (by decide) (by decide) (by decide +kernel) rfl (lc_7 hw hk hol hO hO2 p1 p2 p3 p4 p5 hc hs kk)
  | 8, _ => exact jj_tableIn (off := 521) (tgt := 566) dL_law_45 (by decide) (by decide) (by decide +kernel) rfl (lc_8 hw hk hol hO hO2 p1 p2 p3 p4 p5 hc hs kk)
  | 9, _ => exact jj_tableIn (off := 577) (tgt := 622) dL_law_45 (by decide) (by decide) (by decide +kernel) rfl (lc_9 hw hk hol hO hO2 p1 p2 p3 p4 p5 hc hs kk)
  | 10, _ => exact jj_tableIn (off := 633) (tgt := 678) dL_law_45 (by decide) (by decide) (by decide +kernel) rfl (lc_10 hw hk hol hO hO2 p1 p2 p3 p4 p5 hc hs kk)
  | 11, _ => exact jj_tableIn (off := 689) (tgt := 734) dL_law_45 (by decide) (by decide) (by decide +kernel) rfl (lc_11 hw hk hol hO hO2 p1 p2 p3 p4 p5 hc hs kk)
  | 12, _ => exact jj_tableIn (off := 745) (tgt := 790) dL_law_45 (by decide) (by decide) (by decide +kernel) rfl (lc_12 hw hk hol hO hO2 p1 p2 p3 p4 p5 hc hs kk)
  | 13, _ => exact jj_tableIn (off := 801) (tgt := 846) dL_law_45 (by decide) (by decide) (by decide +kernel) rfl (lc_13 hw hk hol hO hO2 p1 p2 p3 p4 p5 hc hs kk)
  | 14, _ => exact jj_tableIn (off := 857) (tgt := 902) dL_law_45 (by decide) (by decide) (by decide +kernel) rfl (lc_14 hw hk hol hO hO2 p1 p2 p3 p4 p5 hc hs kk)
  | 15, _ => exact jj_tableIn (off := 913) (tgt := 958) dL_law_45 (by decide) (by decide) (by decide +kernel) rfl (lc_15 hw hk hol hO hO2 p1 p2 p3 p4 p5 hc hs kk)
  | 16, _ => exact jj_tableIn (off := 969) (tgt := 1014) dL_law_45 (by decide) (by decide) (by decide +kernel) rfl (lc_16 hw hk hol hO hO2 p1 p2 p3 p4 p5 hc hs kk)
  | 17, _ => exact jj_tableIn (off := 1032) (tgt := 1077) dL_law_45 (by decide) (by decide) (by decide +kernel) rfl (lc_17 hw hk hol hO hO2 p1 p2 p3 p4 p5 hc hs kk)
  | 18, _ => exact jj_tableIn (off := 1095) (tgt := 1140) dL_law_45 (by decide) (by decide) (by decide +kernel) rfl (lc_18 hw hk hol hO hO2 p1 p2 p3 p4 p5 hc hs kk)
  | 19, _ => exact jj_tableIn (off := 1151) (tgt := 1196) dL_law_45 (by decide) (by decide) (by decide +kernel) rfl (lc_19 hw hk hol hO hO2 p1 p2 p3 p4 p5 hc hs kk)
  | 20, _ => exact jj_tableIn (off := 1164) (tgt := 1209) dL_law_45 (by decide) (by decide) (by decide +kernel) rfl (lc_20 hw hk hol hO hO2 p1 p2 p3 p4 p5 hc hs kk)
  | 21, _ => exact jj_tableIn (off := 1220) (tgt := 1265) dL_law_45 (by decide) (by decide) (by decide +kernel) rfl (lc_21 hw hk hol hO hO2 p1 p2 p3 p4 p5 hc hs kk)
  | 22, _ => exact jj_tableIn (off := 1288) (tgt := 1333) dL_law_45 (by decide) (by decide) (by decide +kernel) rfl (lc_22 hw hk hol hO hO2 p1 p2 p3 p4 p5 hc hs kk)
  | 23, _ => exact jj_tableIn (off := 1356) (tgt := 1401) dL_law_45 (by decide) (by decide) (by decide +kernel) rfl (lc_23 hw hk hol hO hO2 p1 p2 p3 p4 p5 hc hs kk)
  | 24, _ => exact jj_tableIn (off := 1424) (tgt := 1469) dL_law_45 (by decide) (by decide) (by decide +kernel) rfl (lc_24 hw hk hol hO hO2 p1 p2 p3 p4 p5 hc hs kk)
  | 25, _ => exact jj_tableIn (off := 1437) (tgt := 1482) dL_law_45 (by decide) (by decide) (by decide +kernel) rfl (lc_25 hw hk hol hO hO2 p1 p2 p3 p4 p5 hc hs kk)
  | 26, _ => exact jj_tableIn (off := 1450) (tgt := 1495) dL_law_45 (by decide) (by decide) (by decide +kernel) rfl (lc_26 hw hk hol hO hO2 p1 p2 p3 p4 p5 hc hs kk)
  | 27, _ => exact jj_tableIn (off := 1506) (tgt := 1551) dL_law_45 (by decide) (by decide) (by decide +kernel) rfl (lc_27 hw hk hol hO hO2 p1 p2 p3 p4 p5 hc hs kk)
  | 28, _ => exact jj_tableIn (off := 1574) (tgt := 1619) dL_law_45 (by decide) (by decide) (by decide +kernel) rfl (lc_28 hw hk hol hO hO2 p1 p2 p3 p4 p5 hc hs kk)
  | 29, _ => exact jj_tableIn (off := 1587) (tgt := 1632) dL_law_45 (by decide) (by decide) (by decide +kernel) rfl (lc_29 hw hk hol hO hO2 p1 p2 p3 p4 p5 hc hs kk)
  | 30, _ => exact jj_tableIn (off := 1600) (tgt := 1645) dL_law_45 (by decide) (by decide) (by decide +kernel) rfl (lc_30 hw hk hol hO hO2 p1 p2 p3 p4 p5 hc hs kk)
  | 31, _ => exact jj_tableIn (off := 1656) (tgt := 1701) dL_law_45 (by decide) (by decide) (by decide +kernel) rfl (lc_31 hw hk hol hO hO2 p1 p2 p3 p4 p5 hc hs kk)
  | 32, _ => exact jj_tableIn (off := 1712) (tgt := 1757) dL_law_45 (by decide) (by decide) (by decide +kernel) rfl (lc_32 hw hk hol hO hO2 p1 p2 p3 p4 p5 hc hs kk)
  | 33, _ => exact jj_tableIn (off := 1768) (tgt := 1813) dL_law_45 (by decide) (by decide) (by decide +kernel) rfl (lc_33 hw hk hol hO hO2 p1 p2 p3 p4 p5 hc hs kk)
  | 34, _ => exact jj_tableIn (off := 1836) (tgt := 1881) dL_law_45 (by decide) (by decide) (by decide +kernel) rfl (lc_34 hw hk hol hO hO2 p1 p2 p3 p4 p5 hc hs kk)
  | 35, _ => exact jj_tableIn (off := 1892) (tgt := 1937) dL_law_45 (by decide) (by decide) (by decide +kernel) rfl (lc_35 hw hk hol hO hO2 p1 p2 p3 p4 p5 hc hs kk)
  | 36, _ => exact jj_tableIn (off := 1970) (tgt := 2015) dL_law_45 (by decide) (by decide) (by decide +kernel) rfl (lc_36 hw hk hol hO hO2 p1 p2 p3 p4 p5 hc hs kk)
  | 37, _ => exact jj_tableIn (off := 2038) (tgt := 2083) dL_law_45 (by decide) (by decide) (by decide +kernel) rfl (lc_37 hw hk hol hO hO2 p1 p2 p3 p4 p5 hc hs kk)
  | 38, _ => exact jj_tableIn (off := 2094) (tgt := 2139) dL_law_45 (by decide) (by decide) (by decide +kernel) rfl (lc_38 hw hk hol hO hO2 p1 p2 p3 p4 p5 hc hs kk)
  | 39, _ => exact jj_tableIn (off := 2107) (tgt := 2152) dL_law_45 (by decide) (by decide) (by decide +kernel) rfl (lc_39 hw hk hol hO hO2 p1 p2 p3 p4 p5 hc hs kk)
  | 40, _ => exact jj_tableIn (off := 2175) (tgt := 2220) dL_law_45 (by decide) (by decide) (by decide +kernel) rfl (lc_40 hw hk hol hO hO2 p1 p2 p3 p4 p5 hc hs kk)
  | 41, _ => exact jj_tableIn (off := 2219) (tgt := 2264) dL_law_45 (by decide) (by decide) (by decide +kernel) rfl (lc_41 hw hk hol hO hO2 p1 p2 p3 p4 p5 hc hs kk)
  | 42, _ => exact jj_tableIn (off := 2275) (tgt := 2320) dL_law_45 (by decide) (by decide) (by decide +kernel) rfl (lc_42 hw hk hol hO hO2 p1 p2 p3 p4 p5 hc hs kk)
  | 43, _ => exact jj_tableIn (off := 2319) (tgt := 2364) dL_law_45 (by decide) (by decide) (by decide +kernel) rfl (lc_43 hw hk hol hO hO2 p1 p2 p3 p4 p5 hc hs kk)
  | 44, _ => exact jj_tableIn (off := 2375) (tgt := 2420) dL_law_45 (by decide) (by decide) (by decide +kernel) rfl (lc_44 hw hk hol hO hO2 p1 p2 p3 p4 p5 hc hs kk)
  | 45, _ => exact jj_tableIn (off := 2419) (tgt := 2464) dL_law_45 (by decide) (by decide) (by decide +kernel) rfl (lc_45 hw hk hol hO hO2 p1 p2 p3 p4 p5 hc hs kk)
  | 46, _ => exact jj_tableIn (off := 2475) (tgt := 2520) dL_law_45 (by decide) (by decide) (by decide +kernel) rfl (lc_46 hw hk hol hO hO2 p1 p2 p3 p4 p5 hc hs kk)
  | 47, _ => exact jj_tableIn (off := 2531) (tgt := 2576) dL_law_45 (by decide) (by decide) (by decide +kernel) rfl (lc_47 hw hk hol hO hO2 p1 p2 p3 p4 p5 hc hs kk)
  | 48, _ => exact jj_tableIn (off := 2587) (tgt := 2632) dL_law_45 (by decide) (by decide) (by decide +kernel) rfl (lc_48 hw hk hol hO hO2 p1 p2 p3 p4 p5 hc hs kk)
  | 49, _ => exact jj_tableIn (off := 2643) (tgt := 2688) dL_law_45 (by decide) (by decide) (by decide +kernel) rfl (lc_49 hw hk hol hO hO2 p1 p2 p3 p4 p5 hc hs kk)
  | 50, _ => exact jj_tableIn (off := 2711) (tgt := 2756) dL_law_45 (by decide) (by decide) (by decide +kernel) rfl (lc_50 hw hk hol hO hO2 p1 p2 p3 p4 p5 hc hs kk)
  | 51, _ => exact jj_tableIn (off := 2779) (tgt := 2824) dL_law_45 (by decide) (by decide) (by decide +kernel) rfl (lc_51 hw hk hol hO hO2 p1 p2 p3 p4 p5 hc hs kk)
  | 52, _ => exact jj_tableIn (off := 2835) (tgt := 2880) dL_law_45 (by decide) (by decide) (by decide +kernel) rfl (lc_52 hw hk hol hO hO2 p1 p2 p3 p4 p5 hc hs kk)
  | 53, _ => exact jj_tableIn (off := 2915) (tgt := 2960) dL_law_45 (by decide) (by decide) (by decide +kernel) rfl (lc_53 hw hk hol hO hO2 p1 p2 p3 p4 p5 hc hs kk)
  | 54, _ => exact jj_tableIn (off := 2983) (tgt := 3028) dL_law_45 (by decide) (by decide) (by decide +kernel) rfl (lc_54 hw hk hol hO hO2 p1 p2 p3 p4 p5 hc hs kk)
  | 55, _ => exact jj_tableIn (off := 3039) (tgt := 3084) dL_law_45 (by decide) (by decide) (by decide +kernel) rfl (lc_55 hw hk hol hO hO2 p1 p2 p3 p4 p5 hc hs kk)
  | 56, _ => exact jj_tableIn (off := 3130) (tgt := 3175) dL_law_45 (by decide) (by decide) (by decide +kernel) rfl (lc_56 hw hk hol hO hO2 p1 p2 p3 p4 p5 hc hs kk)
  | 57, _ => exact jj_tableIn (off := 3186) (tgt := 3231) dL_law_45 (by decide) (by decide) (by decide +kernel) rfl (lc_57 hw hk hol hO hO2 p1 p2 p3 p4 p5 hc hs kk)
  | 58, _ => exact jj_tableIn (off := 3273) (tgt := 3318) dL_law_45 (by decide) (by decide) (by decide +kernel) rfl (lc_58 hw hk hol hO hO2 p1 p2 p3 p4 p5 hc hs kk)
  | 59, _ => exact jj_tableIn (off := 3329) (tgt := 3374) dL_law_45 (by decide) (by decide) (by decide +kernel) rfl (lc_59 hw hk hol hO hO2 p1 p2 p3 p4 p5 hc hs kk)
  | 60, _ => exact jj_tableIn (off := 3397) (tgt := 3442) dL_law_45 (by decide) (by decide) (by decide +kernel) rfl (lc_60 hw hk hol hO hO2 p1 p2 p3 p4 p5 hc hs kk)
  | 61, _ => exact jj_tableIn (off := 3441) (tgt := 3486) dL_law_45 (by decide) (by decide) (by decide +kernel) rfl (lc_61 hw hk hol hO hO2 p1 p2 p3 p4 p5 hc hs kk)
  | 62, _ => exact jj_tableIn (off := 3454) (tgt := 3499) dL_law_45 (by decide) (by decide) (by decide +kernel) rfl (lc_62 hw hk hol hO hO2 p1 p2 p3 p4 p5 hc hs kk)
  | 63, _ => exact jj_tableIn (off := 3510) (tgt := 3555) dL_law_45 (by decide) (by decide) (by decide +kernel) rfl (lc_63 hw hk hol hO hO2 p1 p2 p3 p4 p5 hc hs kk)
  | j + 64, h => exact absurd h (by omega)
/-- the loop, from its head -/
theorem lw_lp {N : Nat} (hN : Γ.sc.2.1 = N) (hN2 : N ≤ 3072) (hol : mo + 18 ≤ b) (hO : T b = some (.inr (.long, 1))) (hO2 : T (b + 1) = some (.inr (.double, 1))) (hend : ∀ c2 s2 vl M, c2 ≤ 601024 → s2 ≤ 7293034 → JJ Γ EL Zf room_1 c2 s2 3617 vl [] M) : ∀ (r k : Nat) (cells slots : Nat) (S : JR) (I : JI) (L : JL) (D : JD) (a6 a7 : Option Value), N ≤ 6 * k + r → 6 * k ≤ N → cells ≤ 300 + k → slots ≤ 50000 + 6 * k → Wd Γ k xo mo T R S I L → JJ Γ EL Zf room_1 cells slots 28 (Vl Γ.sc.1 xo mo b (nI (6 * k)) a6 a7) [] (T, R, S, I, L, D, none) := by
  intro r
  induction r with
  | zero =>
    intro k cells slots S I L D a6 a7 h1 h2 h3 h4 hw
    refine jj_iload (q := 30) dL_law_28 rfl rfl ?_
    refine jj_aload_n (q := 31) dL_law_30 rfl rfl rfl ?_
    refine jj_klen (q := 32) dL_law_31 sc_E rfl rfl ?_
    refine jj_bipush (v := 6) (q := 34) dL_law_32 rfl rfl ?_
    refine jj_isub (q := 35) dL_law_34 rfl ?_
    refine jj_icmp_gt (q := 38) (tgt := 3617) dL_law_35 rfl rfl (fun _ => ?_) (fun h35 => ?_)
    · exact hend _ _ _ _ (by omega) (by omega)
    · have := lw_more (N := N) (k := k) hN2 h2 (by rw [← hN]; exact h35)
      omega
  | succ r ih =>
    intro k cells slots S I L D a6 a7 h1 h2 h3 h4 hw
    refine jj_iload (q := 30) dL_law_28 rfl rfl ?_
    refine jj_aload_n (q := 31) dL_law_30 rfl rfl rfl ?_
    refine jj_klen (q := 32) dL_law_31 sc_E rfl rfl ?_
    refine jj_bipush (v := 6) (q := 34) dL_law_32 rfl rfl ?_
    refine jj_isub (q := 35) dL_law_34 rfl ?_
    refine jj_icmp_gt (q := 38) (tgt := 3617) dL_law_35 rfl rfl (fun _ => ?_) (fun h35 => ?_)
    · exact hend _ _ _ _ (by omega) (by omega)
    · have h6 := lw_more (N := N) (k := k) hN2 h2 (by rw [← hN]; exact h35)
      have hp : ∀ c, c < 6 → vp_in (nI (6 * k) + nI c) Γ.sc.2.1 := fun c hc => by rw [hN]; exact lw_in (by omega) hN2
      have hp0 : vp_in (nI (6 * k)) Γ.sc.2.1 := by
        have := hp 0 (by omega)
        rw [nI_add] at this
        exact this
      refine jj_aload_n (q := 39) dL_law_38 rfl rfl rfl ?_
      refine jj_iload (q := 41) dL_law_39 rfl rfl ?_
      refine jj_kiald (q := 42) dL_law_41 sc_E hp0 rfl rfl ?_
      refine jj_bipush (v := 63) (q := 44) dL_law_42 rfl rfl ?_
      refine jj_iand (q := 45) dL_law_44 rfl ?_
      obtain ⟨j, hj, e⟩ := and63 (Γ.sc.2.2 (nI (6 * k)).toNatClampNeg)
      rw [e]
      refine lc_sw hj hw (by omega) hol hO hO2 (hp 1 (by omega)) (hp 2 (by omega)) (hp 3 (by omega)) (hp 4 (by omega)) (hp 5 (by omega)) (by omega) (by omega) ?_
      intro S2 I2 L2 D2 a62 a72 c2 s2 hc2 hs2 hw2
      refine jj_iinc (v := nI (6 * (k + 1))) (q := 3614) dL_law_3611 rfl (nI_incn (6 * k) 6 rfl) (by decide) rfl ?_
      refine jj_goto (tgt := 28) dL_law_3614 rfl ?_
      exact ih (k + 1) c2 s2 S2 I2 L2 D2 a62 a72 (by omega) (by omega) (by omega) (by omega) hw2
end C16
