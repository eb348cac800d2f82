/-! CONSTRUCTORS: plan, state, history, the component's object -/
theorem hSt.cg {T T' : JT} {R R' : JR} {a : Nat} (h : hSt T R a) (hT : ∀ k, k < 19 → T' (a + k) = T (a + k)) (hR : ∀ k, k < 19 → R' (a + k) = R (a + k)) : hSt T' R' a :=
  ⟨fun k q hk => (hT k (List.getElem?_eq_some_iff.mp hk).1).trans (h.1 k q hk), fun q hq => by
    rw [hR q.1 (by revert q; decide)]
    exact h.2 q hq⟩
theorem hPl.cg {T T' : JT} {R R' : JR} {a : Nat} (h : hPl T R a) (hT : ∀ k, k < 16 → T' (a + k) = T (a + k)) (hR : ∀ k, k < 16 → R' (a + k) = R (a + k)) : hPl T' R' a :=
  ⟨fun k q hk => (hT k (List.getElem?_eq_some_iff.mp hk).1).trans (h.1 k q hk), fun q hq => by
    rw [hR q.1 (by revert q; decide)]
    exact h.2 q hq⟩
theorem hPa.cg {T T' : JT} {R R' : JR} {a : Nat} (h : hPa T R a) (hT : ∀ k, k < 2 → T' (a + k) = T (a + k)) (hR : ∀ k, k < 2 → R' (a + k) = R (a + k)) : hPa T' R' a :=
  ⟨fun k q hk => (hT k (List.getElem?_eq_some_iff.mp hk).1).trans (h.1 k q hk), fun q hq => by
    rw [hR q.1 (by revert q; decide)]
    exact h.2 q hq⟩
theorem hTx.cg {T T' : JT} {R R' : JR} {a n : Nat} (h : hTx T R a n) (hT : ∀ k, k < 2 → T' (a + k) = T (a + k)) (hR : ∀ k, k < 2 → R' (a + k) = R (a + k)) : hTx T' R' a n :=
  ⟨(hT 0 (by omega)).trans h.1, (congrFun (hR 0 (by omega)) 1).trans h.2.1, (hT 1 (by omega)).trans h.2.2⟩
theorem hHi.cg {T T' : JT} {R R' : JR} {a : Nat} (h : hHi T R a) (hT : ∀ k, k < 116 → T' (a + k) = T (a + k)) (hR : ∀ k, k < 116 → R' (a + k) = R (a + k)) : hHi T' R' a :=
  ⟨⟨(hT 0 (by omega)).trans h.1.1, (congrFun (hR 0 (by omega)) 2).trans h.1.2.1, (hT 1 (by omega)).trans h.1.2.2⟩, fun i hi => ⟨(congrFun (hR 1 (by omega)) i).trans (h.2 i hi).1, (h.2 i hi).2.cg (fun k hk => by have := hT (2 + 19 * i + k) (by omega); rw [show a + (2 + 19 * i + k) = a + 2 + 19 * i + k by omega] at this; exact this) (fun k hk => by have := hR (2 + 19 * i + k) (by omega); rw [show a + (2 + 19 * i + k) = a + 2 + 19 * i + k by omega] at this; exact this)⟩⟩
section C0
variable {Γ : Gam} {d : Nat} {T : JT} {R S : JR} {I : JI} {L : JL} {D : JD} {a : Nat}
theorem ex_pl_init (hT : T a = some (.inl 3)) (hF : Fre R S I L D a) : Ex Γ (d + 2) Y_X3_init [.ref a] (T, R, S, I, L, D, some (a + 1)) 15 1255 (rG (mkQ (fun T' R' => hPl T' R' a) T R S I L D a 16)) := by
  have hF1 := hF.up (Nat.le_succ a)
  refine Ex.of (by decide) (by simp [Value.category]) (Nat.le_of_ble_eq_true rfl) rfl ?_
  refine jj_aload_n (q := 1) dX3_init_0 rfl rfl rfl ?_
  refine jj_objInit (q := 4) dX3_init_1 ko_X3_3 ko_i ko_c (by show 1 ≤ d + 2; omega) (by show 20 ≤ 40 * (d + 2); omega) rfl rfl ?_
  refine jj_aload_n (q := 5) dX3_init_4 rfl rfl rfl ?_
  refine jj_iconst (v := 0) (q := 6) dX3_init_5 rfl rfl ?_
  refine jj_putIv (q := 9) dX3_init_6 fl_X3_9 (by first | (simp [u1, hT]; done) | (rw [hT1 a (by omega)]; simp [u1, hT]; done)) hF.i0 rfl rfl rfl rfl rfl ?_
  refine jj_aload_n (q := 10) dX3_init_9 rfl rfl rfl ?_
  refine jj_iconst (v := 0) (q := 11) dX3_init_10 rfl rfl ?_
  refine jj_putIv (q := 14) dX3_init_11 fl_X3_15 (by first | (simp [u1, hT]; done) | (rw [hT1 a (by omega)]; simp [u1, hT]; done)) hF.i0 rfl rfl rfl rfl rfl ?_
  refine jj_aload_n (q := 15) dX3_init_14 rfl rfl rfl ?_
  refine jj_iconst (v := 0) (q := 16) dX3_init_15 rfl rfl ?_
  refine jj_putIv (q := 19) dX3_init_16 fl_X3_18 (by first | (simp [u1, hT]; done) | (rw [hT1 a (by omega)]; simp [u1, hT]; done)) hF.i0 rfl rfl rfl rfl rfl ?_
  refine jj_aload_n (q := 20) dX3_init_19 rfl rfl rfl ?_
  refine jj_iconst (v := 3) (q := 21) dX3_init_20 rfl rfl ?_
  refine jj_newI (n := 3) (N := 3) (z0 := a + 1) (z1 := a + 2) (q := 23) dX3_init_21 (by refine Fre.up ?_ (show a + 1 ≤ _ by omega); (repeat (first | refine Fre.uR ?_ (by omega) | refine Fre.uS ?_ (by omega) | refine Fre.uI ?_ (by omega))); exact hF1) ka_int (by decide) rfl rfl ⟨Nat.le_of_ble_eq_true rfl, Nat.le_of_ble_eq_true rfl⟩ rfl rfl ?_
  refine jj_putFR (q := 26) dX3_init_23 fl_X3_21 rfl (by first | (simp [u1, hT]; done) | (rw [hT1 a (by omega)]; simp [u1, hT]; done)) rfl rfl rfl rfl rfl rfl rfl ?_
  refine jj_aload_n (q := 27) dX3_init_26 rfl rfl rfl ?_
  refine jj_iconst (v := 3) (q := 28) dX3_init_27 rfl rfl ?_
  refine jj_newI (n := 3) (N := 3) (z0 := a + 2) (z1 := a + 3) (q := 30) dX3_init_28 (by refine Fre.up ?_ (show a + 1 ≤ _ by omega); (repeat (first | refine Fre.uR ?_ (by omega) | refine Fre.uS ?_ (by omega) | refine Fre.uI ?_ (by omega))); exact hF1) ka_int (by decide) rfl rfl ⟨Nat.le_of_ble_eq_true rfl, Nat.le_of_ble_eq_true rfl⟩ rfl rfl ?_
  refine jj_putFR (q := 33) dX3_init_30 fl_X3_25 rfl (by first | (simp [u1, hT]; done) | (rw [hT1 a (by omega)]; simp [u1, hT]; done)) rfl rfl rfl rfl rfl rfl rfl ?_
  refine jj_aload_n (q := 34) dX3_init_33 rfl rfl rfl ?_
  refine jj_iconst (v := 3) (q := 35) dX3_init_34 rfl rfl ?_
  refine jj_newI (n := 3) (N := 3) (z0 := a + 3) (z1 := a + 4) (q := 37) dX3_init_35 (by refine Fre.up ?_ (show a + 1 ≤ _ by omega); (repeat (first | refine Fre.uR ?_ (by omega) | refine Fre.uS ?_ (by omega) | refine Fre.uI ?_ (by omega))); exact hF1) ka_int (by decide) rfl rfl ⟨Nat.le_of_ble_eq_true rfl, Nat.le_of_ble_eq_true rfl⟩ rfl rfl ?_
  refine jj_putFR (q := 40) dX3_init_37 fl_X3_28 rfl (by first | (simp [u1, hT]; done) | (rw [hT1 a (by omega)]; simp [u1, hT]; done)) rfl rfl rfl rfl rfl rfl rfl ?_
  refine jj_aload_n (q := 41) dX3_init_40 rfl rfl rfl ?_
  refine jj_iconst (v := 0) (q := 42) dX3_init_41 rfl rfl ?_
  refine jj_putIv (q := 45) dX3_init_42 fl_X3_31 (by first | (simp [u1, hT]; done) | (rw [hT1 a (by omega)]; simp [u1, hT]; done)) hF.i0 rfl rfl rfl rfl rfl ?_
  refine jj_aload_n (q := 46) dX3_init_45 rfl rfl rfl ?_
  refine jj_bipush (v := 8) (q := 48) dX3_init_46 rfl rfl ?_
  refine jj_newI (n := 8) (N := 8) (z0 := a + 4) (z1 := a + 5) (q := 50) dX3_init_48 (by refine Fre.up ?_ (show a + 1 ≤ _ by omega); (repeat (first | refine Fre.uR ?_ (by omega) | refine Fre.uS ?_ (by omega) | refine Fre.uI ?_ (by omega))); exact hF1) ka_int (by decide) rfl rfl ⟨Nat.le_of_ble_eq_true rfl, Nat.le_of_ble_eq_true rfl⟩ rfl rfl ?_
  refine jj_putFR (q := 53) dX3_init_50 fl_X3_34 rfl (by first | (simp [u1, hT]; done) | (rw [hT1 a (by omega)]; simp [u1, hT]; done)) rfl rfl rfl rfl rfl rfl rfl ?_
  refine jj_aload_n (q := 54) dX3_init_53 rfl rfl rfl ?_
  refine jj_iconst (v := 0) (q := 55) dX3_init_54 rfl rfl ?_
  refine jj_putIv (q := 58) dX3_init_55 fl_X3_37 (by first | (simp [u1, hT]; done) | (rw [hT1 a (by omega)]; simp [u1, hT]; done)) hF.i0 rfl rfl rfl rfl rfl ?_
  refine jj_aload_n (q := 59) dX3_init_58 rfl rfl rfl ?_
  refine jj_iconst (v := 4) (q := 60) dX3_init_59 rfl rfl ?_
  refine jj_newI (n := 4) (N := 4) (z0 := a + 5) (z1 := a + 6) (q := 62) dX3_init_60 (by refine Fre.up ?_ (show a + 1 ≤ _ by omega); (repeat (first | refine Fre.uR ?_ (by omega) | refine Fre.uS ?_ (by omega) | refine Fre.uI ?_ (by omega))); exact hF1) ka_int (by decide) rfl rfl ⟨Nat.le_of_ble_eq_true rfl, Nat.le_of_ble_eq_true rfl⟩ rfl rfl ?_
  refine jj_putFR (q := 65) dX3_init_62 fl_X3_40 rfl (by first | (simp [u1, hT]; done) | (rw [hT1 a (by omega)]; simp [u1, hT]; done)) rfl rfl rfl rfl rfl rfl rfl ?_
  refine jj_aload_n (q := 66) dX3_init_65 rfl rfl rfl ?_
  refine jj_iconst (v := 4) (q := 67) dX3_init_66 rfl rfl ?_
  refine jj_newI (n := 4) (N := 4) (z0 := a + 6) (z1 := a + 7) (q := 69) dX3_init_67 (by refine Fre.up ?_ (show a + 1 ≤ _ by omega); (repeat (first | refine Fre.uR ?_ (by omega) | refine Fre.uS ?_ (by omega) | refine Fre.uI ?_ (by omega))); exact hF1) ka_int (by decide) rfl rfl ⟨Nat.le_of_ble_eq_true rfl, Nat.le_of_ble_eq_true rfl⟩ rfl rfl ?_
  refine jj_putFR (q := 72) dX3_init_69 fl_X3_43 rfl (by first | (simp [u1, hT]; done) | (rw [hT1 a (by omega)]; simp [u1, hT]; done)) rfl rfl rfl rfl rfl rfl rfl ?_
  refine jj_aload_n (q := 73) dX3_init_72 rfl rfl rfl ?_
  refine jj_iconst (v := 0) (q := 74) dX3_init_73 rfl rfl ?_
  refine jj_putIv (q := 77) dX3_init_74 fl_X3_46 (by first | (simp [u1, hT]; done) | (rw [hT1 a (by omega)]; simp [u1, hT]; done)) hF.i0 rfl rfl rfl rfl rfl ?_
  refine jj_aload_n (q := 78) dX3_init_77 rfl rfl rfl ?_
  refine jj_iconst (v := 4) (q := 79) dX3_init_78 rfl rfl ?_
  refine jj_newI (n := 4) (N := 4) (z0 := a + 7) (z1 := a + 8) (q := 81) dX3_init_79 (by refine Fre.up ?_ (show a + 1 ≤ _ by omega); (repeat (first | refine Fre.uR ?_ (by omega) | refine Fre.uS ?_ (by omega) | refine Fre.uI ?_ (by omega))); exact hF1) ka_int (by decide) rfl rfl ⟨Nat.le_of_ble_eq_true rfl, Nat.le_of_ble_eq_true rfl⟩ rfl rfl ?_
  refine jj_putFR (q := 84) dX3_init_81 fl_X3_49 rfl (by first | (simp [u1, hT]; done) | (rw [hT1 a (by omega)]; simp [u1, hT]; done)) rfl rfl rfl rfl rfl rfl rfl ?_
  refine jj_aload_n (q := 85) dX3_init_84 rfl rfl rfl ?_
  refine jj_iconst (v := 4) (q := 86) dX3_init_85 rfl rfl ?_
  refine jj_newI (n := 4) (N := 4) (z0 := a + 8) (z1 := a + 9) (q := 88) dX3_init_86 (by refine Fre.up ?_ (show a + 1 ≤ _ by omega); (repeat (first | refine Fre.uR ?_ (by omega) | refine Fre.uS ?_ (by omega) | refine Fre.uI ?_ (by omega))); exact hF1) ka_int (by decide) rfl rfl ⟨Nat.le_of_ble_eq_true rfl, Nat.le_of_ble_eq_true rfl⟩ rfl rfl ?_
  refine jj_putFR (q := 91) dX3_init_88 fl_X3_52 rfl (by first | (simp [u1, hT]; done) | (rw [hT1 a (by omega)]; simp [u1, hT]; done)) rfl rfl rfl rfl rfl rfl rfl ?_
  refine jj_aload_n (q := 92) dX3_init_91 rfl rfl rfl ?_
  refine jj_iconst (v := 4) (q := 93) dX3_init_92 rfl rfl ?_
  refine jj_newI (n := 4) (N := 4) (z0 := a + 9) (z1 := a + 10) (q := 95) dX3_init_93 (by refine Fre.up ?_ (show a + 1 ≤ _ by omega); (repeat (first | refine Fre.uR ?_ (by omega) | refine Fre.uS ?_ (by omega) | refine Fre.uI ?_ (by omega))); exact hF1) ka_int (by decide) rfl rfl ⟨Nat.le_of_ble_eq_true rfl, Nat.le_of_ble_eq_true rfl⟩ rfl rfl ?_
  refine jj_putFR (q := 98) dX3_init_95 fl_X3_55 rfl (by first | (simp [u1, hT]; done) | (rw [hT1 a (by omega)]; simp [u1, hT]; done)) rfl rfl rfl rfl rfl rfl rfl ?_
  refine jj_aload_n (q := 99) dX3_init_98 rfl rfl rfl ?_
  refine jj_iconst (v := 4) (q := 100) dX3_init_99 rfl rfl ?_
  refine jj_newI (n := 4) (N := 4) (z0 := a + 10) (z1 := a + 11) (q := 102) dX3_init_100 (by refine Fre.up ?_ (show a + 1 ≤ _ by omega); (repeat (first | refine Fre.uR ?_ (by omega) | refine Fre.uS ?_ (by omega) | refine Fre.uI ?_ (by omega))); exact hF1) ka_int (by decide) rfl rfl ⟨Nat.le_of_ble_eq_true rfl, Nat.le_of_ble_eq_true rfl⟩ rfl rfl ?_
  refine jj_putFR (q := 105) dX3_init_102 fl_X3_58 rfl (by first | (simp [u1, hT]; done) | (rw [hT1 a (by omega)]; simp [u1, hT]; done)) rfl rfl rfl rfl rfl rfl rfl ?_
  refine jj_aload_n (q := 106) dX3_init_105 rfl rfl rfl ?_
  refine jj_new (ci := 5) (z0 := a + 11) (z1 := a + 12) (q := 109) dX3_init_106 (by decide) kq_X3_61 ki_5 kn_5 (by refine Fre.up ?_ (show a + 1 ≤ _ by omega); (repeat (first | refine Fre.uR ?_ (by omega) | refine Fre.uS ?_ (by omega) | refine Fre.uI ?_ (by omega))); exact hF1) ⟨Nat.le_of_ble_eq_true rfl, Nat.le_of_ble_eq_true rfl⟩ rfl rfl ?_
  refine jj_dup (q := 110) dX3_init_109 rfl rfl ?_
  refine jj_mM0 (q := 113) dX3_init_110 yk_X5_init mm_X3_63 (ex_ts_init (d := d) (a := a + 11) (by simp [u1]) (by refine Fre.up ?_ (show a + 1 ≤ _ by omega); (repeat (first | refine Fre.uR ?_ (by omega) | refine Fre.uS ?_ (by omega) | refine Fre.uI ?_ (by omega))); exact hF1)) rfl rfl rfl ⟨Nat.le_of_ble_eq_true rfl, Nat.le_of_ble_eq_true rfl⟩ (fun M110 g110 => ?_)
  obtain ⟨T1, R1, rfl, hB, hT1, hR1⟩ := g110
  refine jj_putFR (q := 116) dX3_init_113 fl_X3_64 rfl (by first | (simp [u1, hT]; done) | (rw [hT1 a (by omega)]; simp [u1, hT]; done)) rfl rfl rfl rfl rfl rfl rfl ?_
  refine jj_vret dX3_init_116 rfl (Nat.le_of_ble_eq_true rfl) (Nat.le_of_ble_eq_true rfl) ?_
  obtain ⟨b0, ⟨b1, b2, b3, b4⟩, c2, c3, c4, c5⟩ := hB
  refine ⟨rfl, _, _, rfl, ?_, fun b hb => ?_, fun b hb => ?_⟩
  · have ht : ∀ b, b < a + 11 → T1 b = _ := fun b hb => hT1 b (by omega)
    have hr : ∀ b, b < a + 11 → R1 b = _ := fun b hb => hR1 b (by omega)
    refine mk_hPl ?_ ?_ ?_ ?_ ?_ ?_ ?_ ?_ ?_ ?_ ?_ b0 b1 b2 b3 b4 ?_ ?_ ?_ ?_ ?_ ?_ ?_ ?_ ?_ ?_ ?_ ?_ ?_ ?_ ?_
    all_goals first | (rw [ht _ (by omega)]; simp [u1, hT]; done) | (rw [u2_ne (by omega)]; assumption) | (rw [u2_eq]; simp; done) | (rw [u2_eq]; simp [hr a (by omega), u2])
  · rw [hT1 b (by omega)]
    repeat (rw [u1_ne (by omega)])
  · rw [u2_ne (by omega), hR1 b (by omega)]
    repeat (rw [u2_ne (by omega)])
theorem ex_st_init (hT : T a = some (.inl 4)) (hF : Fre R S I L D a) : Ex Γ (d + 2) Y_X4_init [.ref a] (T, R, S, I, L, D, some (a + 1)) 18 1102 (rG (mkQ (fun T' R' => hSt T' R' a) T R S I L D a 19)) := by
  have hF1 := hF.up (Nat.le_succ a)
  refine Ex.of (by decide) (by simp [Value.category]) (Nat.le_of_ble_eq_true rfl) rfl ?_
  refine jj_aload_n (q := 1) dX4_init_0 rfl rfl rfl ?_
  refine jj_objInit (q := 4) dX4_init_1 ko_X4_3 ko_i ko_c (by show 1 ≤ d + 2; omega) (by show 20 ≤ 40 * (d + 2); omega) rfl rfl ?_
  refine jj_aload_n (q := 5) dX4_init_4 rfl rfl rfl ?_
  refine jj_iconst (v := 0) (q := 6) dX4_init_5 rfl rfl ?_
  refine jj_putIv (q := 9) dX4_init_6 fl_X4_9 (by first | (simp [u1, hT]; done) | (simp [u1, hTa]; done)) hF.i0 rfl rfl rfl rfl rfl ?_
  refine jj_aload_n (q := 10) dX4_init_9 rfl rfl rfl ?_
  refine jj_lconst (v := 0) (q := 11) dX4_init_10 rfl rfl ?_
  refine jj_putLv (q := 14) dX4_init_11 fl_X4_15 (by first | (simp [u1, hT]; done) | (simp [u1, hTa]; done)) hF.l0 rfl rfl rfl ?_
  refine jj_aload_n (q := 15) dX4_init_14 rfl rfl rfl ?_
  refine jj_iconst (v := 0) (q := 16) dX4_init_15 rfl rfl ?_
  refine jj_putIv (q := 19) dX4_init_16 fl_X4_19 (by first | (simp [u1, hT]; done) | (simp [u1, hTa]; done)) hF.i0 rfl rfl rfl rfl rfl ?_
  refine jj_aload_n (q := 20) dX4_init_19 rfl rfl rfl ?_
  refine jj_iconst (v := 0) (q := 21) dX4_init_20 rfl rfl ?_
  refine jj_putIv (q := 24) dX4_init_21 fl_X4_22 (by first | (simp [u1, hT]; done) | (simp [u1, hTa]; done)) hF.i0 rfl rfl rfl rfl rfl ?_
  refine jj_aload_n (q := 25) dX4_init_24 rfl rfl rfl ?_
  refine jj_new (ci := 0) (z0 := a + 1) (z1 := a + 2) (q := 28) dX4_init_25 (by decide) kq_X4_25 ki_0 kn_0 (by refine Fre.up ?_ (show a + 1 ≤ _ by omega); (repeat (first | refine Fre.uR ?_ (by omega))); exact hF1) ⟨Nat.le_of_ble_eq_true rfl, Nat.le_of_ble_eq_true rfl⟩ rfl rfl ?_
  refine jj_dup (q := 29) dX4_init_28 rfl rfl ?_
  refine jj_mM0 (q := 32) dX4_init_29 yk_X0_init mm_X4_27 (ex_ba_init (d := d) (a := a + 1) (by simp [u1]) (by refine Fre.up ?_ (show a + 1 ≤ _ by omega); (repeat (first | refine Fre.uR ?_ (by omega))); exact hF1)) rfl rfl rfl ⟨Nat.le_of_ble_eq_true rfl, Nat.le_of_ble_eq_true rfl⟩ (fun M29 g29 => ?_)
  obtain ⟨T1, R1, rfl, hB, hT1, hR1⟩ := g29
  have hTa : T1 a = some (.inl 4) := (hT1 a (by omega)).trans (by simp [u1, hT])
  have hF2 : Fre R1 S I L D (a + 9) := ⟨fun b hb => (hR1 b (by omega)).trans (hF.1 b (by omega)), (hF.up (by omega)).2⟩
  refine jj_putFR (q := 35) dX4_init_32 fl_X4_28 rfl (by first | (simp [u1, hT]; done) | (simp [u1, hTa]; done)) rfl rfl rfl rfl rfl rfl rfl ?_
  refine jj_aload_n (q := 36) dX4_init_35 rfl rfl rfl ?_
  refine jj_bipush (v := 8) (q := 38) dX4_init_36 rfl rfl ?_
  refine jj_newI (n := 8) (N := 8) (z0 := a + 9) (z1 := a + 10) (q := 40) dX4_init_38 (by refine Fre.up ?_ (show a + 9 ≤ _ by omega); (repeat (first | refine Fre.uR ?_ (by omega))); exact hF2) ka_int (by decide) rfl rfl ⟨Nat.le_of_ble_eq_true rfl, Nat.le_of_ble_eq_true rfl⟩ rfl rfl ?_
  refine jj_putFR (q := 43) dX4_init_40 fl_X4_32 rfl (by first | (simp [u1, hT]; done) | (simp [u1, hTa]; done)) rfl rfl rfl rfl rfl rfl rfl ?_
  refine jj_aload_n (q := 44) dX4_init_43 rfl rfl rfl ?_
  refine jj_bipush (v := 8) (q := 46) dX4_init_44 rfl rfl ?_
  refine jj_newI (n := 8) (N := 8) (z0 := a + 10) (z1 := a + 11) (q := 48) dX4_init_46 (by refine Fre.up ?_ (show a + 9 ≤ _ by omega); (repeat (first | refine Fre.uR ?_ (by omega))); exact hF2) ka_int (by decide) rfl rfl ⟨Nat.le_of_ble_eq_true rfl, Nat.le_of_ble_eq_true rfl⟩ rfl rfl ?_
  refine jj_putFR (q := 51) dX4_init_48 fl_X4_36 rfl (by first | (simp [u1, hT]; done) | (simp [u1, hTa]; done)) rfl rfl rfl rfl rfl rfl rfl ?_
  refine jj_aload_n (q := 52) dX4_init_51 rfl rfl rfl ?_
  refine jj_iconst (v := 4) (q := 53) dX4_init_52 rfl rfl ?_
  refine jj_newI (n := 4) (N := 4) (z0 := a + 11) (z1 := a + 12) (q := 55) dX4_init_53 (by refine Fre.up ?_ (show a + 9 ≤ _ by omega); (repeat (first | refine Fre.uR ?_ (by omega))); exact hF2) ka_int (by decide) rfl rfl ⟨Nat.le_of_ble_eq_true rfl, Nat.le_of_ble_eq_true rfl⟩ rfl rfl ?_
  refine jj_putFR (q := 58) dX4_init_55 fl_X4_39 rfl (by first | (simp [u1, hT]; done) | (simp [u1, hTa]; done)) rfl rfl rfl rfl rfl rfl rfl ?_
  refine jj_aload_n (q := 59) dX4_init_58 rfl rfl rfl ?_
  refine jj_iconst (v := 4) (q := 60) dX4_init_59 rfl rfl ?_
  refine jj_newI (n := 4) (N := 4) (z0 := a + 12) (z1 := a + 13) (q := 62) dX4_init_60 (by refine Fre.up ?_ (show a + 9 ≤ _ by omega); (repeat (first | refine Fre.uR ?_ (by omega))); exact hF2) ka_int (by decide) rfl rfl ⟨Nat.le_of_ble_eq_true rfl, Nat.le_of_ble_eq_true rfl⟩ rfl rfl ?_
  refine jj_putFR (q := 65) dX4_init_62 fl_X4_42 rfl (by first | (simp [u1, hT]; done) | (simp [u1, hTa]; done)) rfl rfl rfl rfl rfl rfl rfl ?_
  refine jj_aload_n (q := 66) dX4_init_65 rfl rfl rfl ?_
  refine jj_bipush (v := 80) (q := 68) dX4_init_66 rfl rfl ?_
  refine jj_newI (n := 80) (N := 80) (z0 := a + 13) (z1 := a + 14) (q := 70) dX4_init_68 (by refine Fre.up ?_ (show a + 9 ≤ _ by omega); (repeat (first | refine Fre.uR ?_ (by omega))); exact hF2) ka_int (by decide) rfl rfl ⟨Nat.le_of_ble_eq_true rfl, Nat.le_of_ble_eq_true rfl⟩ rfl rfl ?_
  refine jj_putFR (q := 73) dX4_init_70 fl_X4_45 rfl (by first | (simp [u1, hT]; done) | (simp [u1, hTa]; done)) rfl rfl rfl rfl rfl rfl rfl ?_
  refine jj_aload_n (q := 74) dX4_init_73 rfl rfl rfl ?_
  refine jj_bipush (v := 40) (q := 76) dX4_init_74 rfl rfl ?_
  refine jj_newI (n := 40) (N := 40) (z0 := a + 14) (z1 := a + 15) (q := 78) dX4_init_76 (by refine Fre.up ?_ (show a + 9 ≤ _ by omega); (repeat (first | refine Fre.uR ?_ (by omega))); exact hF2) ka_int (by decide) rfl rfl ⟨Nat.le_of_ble_eq_true rfl, Nat.le_of_ble_eq_true rfl⟩ rfl rfl ?_
  refine jj_putFR (q := 81) dX4_init_78 fl_X4_48 rfl (by first | (simp [u1, hT]; done) | (simp [u1, hTa]; done)) rfl rfl rfl rfl rfl rfl rfl ?_
  refine jj_aload_n (q := 82) dX4_init_81 rfl rfl rfl ?_
  refine jj_bipush (v := 12) (q := 84) dX4_init_82 rfl rfl ?_
  refine jj_newI (n := 12) (N := 12) (z0 := a + 15) (z1 := a + 16) (q := 86) dX4_init_84 (by refine Fre.up ?_ (show a + 9 ≤ _ by omega); (repeat (first | refine Fre.uR ?_ (by omega))); exact hF2) ka_int (by decide) rfl rfl ⟨Nat.le_of_ble_eq_true rfl, Nat.le_of_ble_eq_true rfl⟩ rfl rfl ?_
  refine jj_putFR (q := 89) dX4_init_86 fl_X4_51 rfl (by first | (simp [u1, hT]; done) | (simp [u1, hTa]; done)) rfl rfl rfl rfl rfl rfl rfl ?_
  refine jj_aload_n (q := 90) dX4_init_89 rfl rfl rfl ?_
  refine jj_bipush (v := 12) (q := 92) dX4_init_90 rfl rfl ?_
  refine jj_newI (n := 12) (N := 12) (z0 := a + 16) (z1 := a + 17) (q := 94) dX4_init_92 (by refine Fre.up ?_ (show a + 9 ≤ _ by omega); (repeat (first | refine Fre.uR ?_ (by omega))); exact hF2) ka_int (by decide) rfl rfl ⟨Nat.le_of_ble_eq_true rfl, Nat.le_of_ble_eq_true rfl⟩ rfl rfl ?_
  refine jj_putFR (q := 97) dX4_init_94 fl_X4_54 rfl (by first | (simp [u1, hT]; done) | (simp [u1, hTa]; done)) rfl rfl rfl rfl rfl rfl rfl ?_
  refine jj_aload_n (q := 98) dX4_init_97 rfl rfl rfl ?_
  refine jj_bipush (v := 12) (q := 100) dX4_init_98 rfl rfl ?_
  refine jj_newI (n := 12) (N := 12) (z0 := a + 17) (z1 := a + 18) (q := 102) dX4_init_100 (by refine Fre.up ?_ (show a + 9 ≤ _ by omega); (repeat (first | refine Fre.uR ?_ (by omega))); exact hF2) ka_int (by decide) rfl rfl ⟨Nat.le_of_ble_eq_true rfl, Nat.le_of_ble_eq_true rfl⟩ rfl rfl ?_
  refine jj_putFR (q := 105) dX4_init_102 fl_X4_57 rfl (by first | (simp [u1, hT]; done) | (simp [u1, hTa]; done)) rfl rfl rfl rfl rfl rfl rfl ?_
  refine jj_aload_n (q := 106) dX4_init_105 rfl rfl rfl ?_
  refine jj_iconst (v := 0) (q := 107) dX4_init_106 rfl rfl ?_
  refine jj_putIv (q := 110) dX4_init_107 fl_X4_60 (by first | (simp [u1, hT]; done) | (simp [u1, hTa]; done)) hF.i0 rfl rfl rfl rfl rfl ?_
  refine jj_aload_n (q := 111) dX4_init_110 rfl rfl rfl ?_
  refine jj_sipush (v := 300) (q := 114) dX4_init_111 rfl rfl ?_
  refine jj_newI (n := 300) (N := 300) (z0 := a + 18) (z1 := a + 19) (q := 116) dX4_init_114 (by refine Fre.up ?_ (show a + 9 ≤ _ by omega); (repeat (first | refine Fre.uR ?_ (by omega))); exact hF2) ka_int (by decide) rfl rfl ⟨Nat.le_of_ble_eq_true rfl, Nat.le_of_ble_eq_true rfl⟩ rfl rfl ?_
  refine jj_putFR (q := 119) dX4_init_116 fl_X4_63 rfl (by first | (simp [u1, hT]; done) | (simp [u1, hTa]; done)) rfl rfl rfl rfl rfl rfl rfl ?_
  refine jj_vret dX4_init_119 rfl (Nat.le_of_ble_eq_true rfl) (Nat.le_of_ble_eq_true rfl) ?_
  obtain ⟨b0, ⟨b1, b2, b3, b4, b5, b6, b7⟩, c1, c2, c3, c4, c5, c6, c7⟩ := hB
  refine ⟨rfl, _, _, rfl, ?_, fun b hb => ?_, fun b hb => ?_⟩
  · refine mk_hSt ?_ ?_ ?_ ?_ ?_ ?_ ?_ ?_ ?_ ?_ ?_ ?_ ?_ ?_ ?_ ?_ ?_ ?_ ?_ ?_ ?_ ?_ ?_ ?_ ?_ ?_ ?_ ?_ ?_ ?_ ?_ ?_ ?_ ?_ ?_ ?_ ?_
    all_goals first | (simp [u1, hTa]; done) | (simp [u2]; done) | ((repeat (rw [u1_ne (by omega)])); assumption) | ((repeat (rw [u2_ne (by omega)])); assumption)
  · repeat (rw [u1_ne (by omega)])
    rw [hT1 b (by omega), u1_ne (by omega)]
  · repeat (rw [u2_ne (by omega)])
    rw [hR1 b (by omega)]
def hHq (T0 T : JT) (R0 R : JR) (h i : Nat) : Prop := (T h = some (.inl 1) ∧ R h 2 = some (h + 1) ∧ T (h + 1) = some (.inr (.object RX4, 6))) ∧ (∀ j, j < i → R (h + 1) j = some (h + 2 + 19 * j) ∧ hSt T R (h + 2 + 19 * j)) ∧ (∀ b, b < h ∨ h + 2 + 19 * i ≤ b → T b = T0 b) ∧ ∀ b, b < h ∨ h + 2 + 19 * i ≤ b → R b = R0 b
set_option maxRecDepth 20000 in
theorem lp_hist {T0 : JT} {R0 : JR} (hF : Fre R0 S I L D a) : ∀ (k i : Nat) (T : JT) (R : JR) (cells slots : Nat), i + k = 6 → cells + 19 * k ≤ 115 → slots + 1118 * k ≤ 6714 → hHq T0 T R0 R a i → JJ Γ (jj_E Y_X1_init) (jj_Z Γ (rG (mkQ (fun T' R' => hHi T' R' a) T0 R0 S I L D a 116)) 115 6714) (jj_rm (d + 3) 115 6714) cells slots 25 [some (.ref a), some (.int (nI i))] [] (T, R, S, I, L, D, some (a + 2 + 19 * i)) := by
  intro k
  induction k with
  | zero =>
    intro i T R cells slots hi hc hs hq
    have e : i = 6 := by omega
    subst e
    obtain ⟨⟨q1, q2, q3⟩, q4, q5, q6⟩ := hq
    refine jj_iload_n (q := 26) dX1_init_25 rfl rfl rfl ?_
    refine jj_aload_n (q := 27) dX1_init_26 rfl rfl rfl ?_
    refine jj_getR (q := 30) dX1_init_27 fl_X1_20 q1 q2 rfl rfl rfl ?_
    refine jj_alen (q := 31) dX1_init_30 q3 (by decide) rfl rfl ?_
    refine jj_icmp_ge (q := 34) (tgt := 53) dX1_init_31 rfl rfl (fun h31 => ?_) (fun h31 => absurd (nI_le (a := 6) (b := 6) (Nat.le_refl _) (by omega)) h31)
    refine jj_vret dX1_init_53 rfl (by omega) (by omega) ?_
    exact ⟨rfl, T, R, rfl, ⟨⟨q1, q2, q3⟩, q4⟩, q5, q6⟩
  | succ k ih =>
    intro i T R cells slots hi hc hs hq
    obtain ⟨⟨q1, q2, q3⟩, q4, q5, q6⟩ := hq
    refine jj_iload_n (q := 26) dX1_init_25 rfl rfl rfl ?_
    refine jj_aload_n (q := 27) dX1_init_26 rfl rfl rfl ?_
    refine jj_getR (q := 30) dX1_init_27 fl_X1_20 q1 q2 rfl rfl rfl ?_
    refine jj_alen (q := 31) dX1_init_30 q3 (by decide) rfl rfl ?_
    refine jj_icmp_ge (q := 34) (tgt := 53) dX1_init_31 rfl rfl (fun h31 => absurd h31 (nI_ge (a := i) (b := 6) (by omega) (by omega))) (fun h31 => ?_)
    refine jj_aload_n (q := 35) dX1_init_34 rfl rfl rfl ?_
    refine jj_getR (q := 38) dX1_init_35 fl_X1_20 q1 q2 rfl rfl rfl ?_
    refine jj_iload_n (q := 39) dX1_init_38 rfl rfl rfl ?_
    have hFr : Fre R S I L D (a + 2 + 19 * i) := ⟨fun b hb => (q6 b (by omega)).trans (hF.1 b (by omega)), (hF.up (by omega)).2⟩
    have k0 : kN 4 = 16 := rfl
    have k1 : cells + 1 ≤ 115 := by omega
    have k2 : slots + kN 4 ≤ 6714 := by omega
    have k3 : cells + 1 + 18 ≤ 115 := by omega
    have k4 : slots + kN 4 + 1102 ≤ 6714 := by omega
    refine jj_new (ci := 4) (z0 := a + 2 + 19 * i) (z1 := a + 2 + 19 * i + 1) (q := 42) dX1_init_39 (by decide) kq_X1_18 ki_4 kn_4 hFr ⟨k1, k2⟩ rfl rfl ?_
    refine jj_dup (q := 43) dX1_init_42 rfl rfl ?_
    refine jj_mM0 (q := 46) dX1_init_43 yk_X4_init mm_X1_24 (ex_st_init (d := d) (a := a + 2 + 19 * i) (by simp [u1]) hFr) rfl rfl rfl ⟨k3, k4⟩ (fun M9 g9 => ?_)
    obtain ⟨T1, R1, rfl, hB, hT1, hR1⟩ := g9
    have e3 : T1 (a + 1) = some (.inr (.object RX4, 6)) := by rw [hT1 _ (by omega), u1_ne (by omega)]; exact q3
    refine jj_aastO (ci := 4) (q := 47) dX1_init_46 e3 (by decide) (by decide) (nI_in (by omega) (by omega)) hB.t0 rfl ?_
    rw [nI_clamp (show i < 2 ^ 31 by omega)]
    refine jj_iinc (v := nI (i + 1)) (q := 50) dX1_init_47 rfl (nI_incn i 1 rfl) (by decide) rfl ?_
    refine jj_goto (tgt := 25) dX1_init_50 rfl ?_
    have h9 := ih (i + 1) T1 (u2 R1 (a + 1) i (some (a + 2 + 19 * i))) (cells + 1 + 18) (slots + kN 4 + 1102) (by omega) (by omega) (by omega) ⟨⟨by rw [hT1 _ (by omega), u1_ne (by omega)]; exact q1, by rw [u2_ne (by omega), hR1 _ (by omega)]; exact q2, e3⟩, fun j hj => ?_, fun b hb => by rw [hT1 _ (by omega), u1_ne (by omega)]; exact q5 b (by omega), fun b hb => by rw [u2_ne (by omega), hR1 _ (by omega)]; exact q6 b (by omega)⟩
    · rw [show a + 2 + 19 * (i + 1) = a + 2 + 19 * i + 19 by omega] at h9
      exact h9
    · by_cases e : j = i
      · subst e
        exact ⟨by simp [u2], hB.cg (fun k hk => rfl) (fun k hk => u2_ne (by omega))⟩
      · have h8 := q4 j (by omega)
        refine ⟨by rw [u2_ap, if_pos rfl, if_neg e, hR1 _ (by omega)]; exact h8.1, h8.2.cg (fun k hk => by rw [hT1 _ (by omega), u1_ne (by omega)]) (fun k hk => by rw [u2_ne (by omega), hR1 _ (by omega)])⟩
theorem ex_hi_init (hT : T a = some (.inl 1)) (hF : Fre R S I L D a) : Ex Γ (d + 3) Y_X1_init [.ref a] (T, R, S, I, L, D, some (a + 1)) 115 6714 (rG (mkQ (fun T' R' => hHi T' R' a) T R S I L D a 116)) := by
  have hF1 := hF.up (Nat.le_succ a)
  refine Ex.of (by decide) (by simp [Value.category]) (Nat.le_of_ble_eq_true rfl) rfl ?_
  refine jj_aload_n (q := 1) dX1_init_0 rfl rfl rfl ?_
  refine jj_objInit (q := 4) dX1_init_1 ko_X1_3 ko_i ko_c (by show 1 ≤ d + 3; omega) (by show 20 ≤ 40 * (d + 3); omega) rfl rfl ?_
  refine jj_aload_n (q := 5) dX1_init_4 rfl rfl rfl ?_
  refine jj_iconst (v := 0) (q := 6) dX1_init_5 rfl rfl ?_
  refine jj_putIv (q := 9) dX1_init_6 fl_X1_9 (by simp [u1, hT]) hF.i0 rfl rfl rfl rfl rfl ?_
  refine jj_aload_n (q := 10) dX1_init_9 rfl rfl rfl ?_
  refine jj_iconst (v := 0) (q := 11) dX1_init_10 rfl rfl ?_
  refine jj_putIv (q := 14) dX1_init_11 fl_X1_15 (by simp [u1, hT]) hF.i0 rfl rfl rfl rfl rfl ?_
  refine jj_aload_n (q := 15) dX1_init_14 rfl rfl rfl ?_
  refine jj_bipush (v := 6) (q := 17) dX1_init_15 rfl rfl ?_
  refine jj_newQ (C9 := RX4) (n := 6) (N := 6) (z0 := a + 1) (z1 := a + 2) (q := 20) dX1_init_17 (by refine Fre.up ?_ (show a + 1 ≤ _ by omega); (repeat (first | refine Fre.uR ?_ (by omega) | refine Fre.uS ?_ (by omega) | refine Fre.uI ?_ (by omega))); exact hF1) (by decide) kq_X1_18 (by decide) rfl rfl ⟨Nat.le_of_ble_eq_true rfl, Nat.le_of_ble_eq_true rfl⟩ rfl rfl ?_
  refine jj_putFR (q := 23) dX1_init_20 fl_X1_20 rfl (by simp [u1, hT]) rfl rfl rfl rfl rfl rfl rfl ?_
  refine jj_iconst (v := 0) (q := 24) dX1_init_23 rfl rfl ?_
  refine jj_istore_n (q := 25) dX1_init_24 rfl (by decide) rfl ?_
  exact lp_hist hF 6 0 _ _ _ _ (by omega) (by omega) (by omega) ⟨⟨by simp [u1, hT], by simp [u2], by simp [u1]⟩, fun j hj => absurd hj (by omega), fun b hb => u1_ne (by omega), fun b hb => u2_ne (by omega)⟩
end C0
