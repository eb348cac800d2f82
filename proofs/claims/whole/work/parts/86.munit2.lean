/-! TESTS of the model: unit, all of it -/
section M86
variable {Γ : Gam} {T : JT} {R S : JR} {I : JI} {L : JL} {D : JD} {z : Option Nat} {mo E : Nat} {b : Nat → Nat}
theorem cO_lt (b : Nat → Nat) (E : Nat) (r : Res Unit) : cO b E r < 3 := by
  unfold cO
  repeat' split
  all_goals omega
theorem pCmp_ge {b : Nat → Nat} {E w p : Nat} {x : Tst × Nat} (hp : p ≤ E) (h : pCmp b E w p = .inr x) : tN b E p ≤ x.2 := by
  have h1 := tN_bd (b := b) hp
  have h2 := tN_bd (b := b) h1.2.1
  have h3 := tN_bd (b := b) h2.2.1
  unfold pCmp at h
  cases hr : pRel b E (tN b E p) with
  | inl e => rw [hr] at h; cases h
  | inr y =>
    rw [hr] at h
    dsimp only [Res.bd] at h
    have hy : y.2 = tN b E (tN b E p) := by
      unfold pRel at hr
      repeat' split at hr
      all_goals cases hr
      all_goals rfl
    cases hn : pNum b E 0 10000 y.2 with
    | inl e => rw [hn] at h; cases h
    | inr u =>
      rw [hn] at h
      cases h
      have := (pNum_o hn).2.1
      show tN b E p ≤ u.2
      rw [this, hy]
      dsimp only
      omega
theorem un_tail {A2 : JI} {Gb : JV} {d f bq k2 dq s : Nat} {v1 : Int32} {Pq : Nat → JI → JV → Prop} (hm : hMo T S mo) (hbq : bq ≤ 1) (h26 : Gb 26 = nI k2) (hk : k2 < 700) (h25 : Gb 25 = nI bq) (h27 : Gb 27 = nI (dq + 1)) (hfin : Pq (nIx bq k2) (nodA A2 (nIx bq k2) 2 (nI s) 0) (w1 (w1 Gb 26 (nI (k2 + 1))) 27 (nI dq))) : JJ Γ (jj_E Y_X9_unit) (jj_Z Γ (rPi Pq (fun A' G' => (T, R, S, blk 18 I mo (st A' 0 G'), L, D, z))) 0 0) (jj_rm (d + 3 * (f + 1) + 8) 0 0) 0 0 82 [some (.ref mo), some (.int v1), none] [.int (nI s), .int 2, .ref mo] (T, R, S, blk 18 I mo (st A2 0 Gb), L, D, z) := by
  refine jj_iconst (v := 0) (q := 83) dX9_unit_82 rfl rfl ?_
  refine jj_cV3i (q := 86) dX9_unit_83 yk_X9_node ml_X9_185 hm.t0 (exM_node hm h25 hbq h26 hk) rfl rfl rfl ⟨Nat.zero_le _, Nat.zero_le _⟩ ?_
  refine jj_istore_n (q := 87) dX9_unit_86 rfl (by decide) rfl ?_
  refine jj_goto (tgt := 108) dX9_unit_87 rfl ?_
  refine jj_aload_n (q := 109) dX9_unit_108 rfl rfl rfl ?_
  refine jj_dup (q := 110) dX9_unit_109 rfl rfl ?_
  refine jj_getIw (v := nI (dq + 1)) (q := 113) dX9_unit_110 fl_X9_197 hm.t0 (by rw [g_rd, w1_ne (by omega)]; exact h27) rfl rfl ?_
  refine jj_iconst (v := 1) (q := 114) dX9_unit_113 rfl rfl ?_
  refine jj_isubN (q := 115) (e := dq) (a := dq + 1) (b := 1) dX9_unit_114 rfl rfl (by omega) rfl ?_
  refine jj_putIv (q := 118) dX9_unit_115 fl_X9_197 hm.t0 g_wr rfl rfl rfl rfl rfl ?_
  refine jj_iload_n (q := 119) dX9_unit_118 rfl rfl rfl ?_
  refine jj_iret dX9_unit_119 rfl (Nat.zero_le _) (Nat.zero_le _) ?_
  exact ⟨_, _, _, hfin, rfl, rfl⟩
theorem un_tail2 {A2 : JI} {Gb : JV} {d f dq s : Nat} {v1 : Int32} {Pq : Nat → JI → JV → Prop} (hm : hMo T S mo) (h27 : Gb 27 = nI (dq + 1)) (hfin : Pq s A2 (w1 Gb 27 (nI dq))) : JJ Γ (jj_E Y_X9_unit) (jj_Z Γ (rPi Pq (fun A' G' => (T, R, S, blk 18 I mo (st A' 0 G'), L, D, z))) 0 0) (jj_rm (d + 3 * (f + 1) + 8) 0 0) 0 0 107 [some (.ref mo), some (.int v1), none] [.int (nI s)] (T, R, S, blk 18 I mo (st A2 0 Gb), L, D, z) := by
  refine jj_istore_n (q := 108) dX9_unit_107 rfl (by decide) rfl ?_
  refine jj_aload_n (q := 109) dX9_unit_108 rfl rfl rfl ?_
  refine jj_dup (q := 110) dX9_unit_109 rfl rfl ?_
  refine jj_getIw (v := nI (dq + 1)) (q := 113) dX9_unit_110 fl_X9_197 hm.t0 (by rw [g_rd]; exact h27) rfl rfl ?_
  refine jj_iconst (v := 1) (q := 114) dX9_unit_113 rfl rfl ?_
  refine jj_isubN (q := 115) (e := dq) (a := dq + 1) (b := 1) dX9_unit_114 rfl rfl (by omega) rfl ?_
  refine jj_putIv (q := 118) dX9_unit_115 fl_X9_197 hm.t0 g_wr rfl rfl rfl rfl rfl ?_
  refine jj_iload_n (q := 119) dX9_unit_118 rfl rfl rfl ?_
  refine jj_iret dX9_unit_119 rfl (Nat.zero_le _) (Nat.zero_le _) ?_
  exact ⟨_, _, _, hfin, rfl, rfl⟩
theorem exM_unit0 (hm : hMo T S mo) (hE : E ≤ 1200) (hv : hVs Γ R mo) : cUn Γ T R S I L D z mo b E 0 := by
  intro d bq k p slk dq A G hb hs h25 hbq h26 hkp h27 hdq
  by_cases hn : noT b E p = true
  · rw [show pU b E 0 p = .inl (1, tS b E p) from if_pos hn]
    exact un_no (d := d) (f := 0) hm hE hv hb hs h25 hbq h26 hkp h27 (by omega) hn
  · rw [show pU b E 0 p = .inl (6, tS b E p) from if_neg hn]
    exact un_deep (d := d) hm hE hv hb hs h26 hkp (by rw [h27, show dq = 10 by omega]) hn
theorem exM_unitS (hm : hMo T S mo) (hE : E ≤ 1200) (hv : hVs Γ R mo) {f : Nat} (hf : f < 10) (hU : cUn Γ T R S I L D z mo b E f) : cUn Γ T R S I L D z mo b E (f + 1) := by
  intro d bq k p slk dq A G hb hs h25 hbq h26 hkp h27 hdq
  by_cases hn : noT b E p = true
  · rw [show pU b E (f + 1) p = .inl (1, tS b E p) from if_pos hn]
    exact un_no (d := d) (f := f + 1) hm hE hv hb hs h25 hbq h26 hkp h27 (by omega) hn
  · have hT := exM_test hm hE (by omega) hU
    have hpE : p ≤ E := hs.2.1
    have hnb := tN_bd (b := b) hpE
    have hsd : mSt b E (.inr ((), p)) (w1 G 27 (nI (dq + 1))) := hs.w (by omega)
    have hd25 : w1 G 27 (nI (dq + 1)) 25 = nI bq := (w1_ne (by omega)).trans h25
    have hd26 : w1 G 27 (nI (dq + 1)) 26 = nI k := (w1_ne (by omega)).trans h26
    have e2 : nIx bq k = (1 - bq) * 700 + k := rfl
    have e3 : nIx bq 700 = (1 - bq) * 700 + 700 := rfl
    refine Ex.of (by decide) (by simp [Value.category]) (Nat.le_of_ble_eq_true rfl) rfl ?_
    refine un_head (f := f + 1) hm hv hb hs hn ?_
    by_cases hw : isW b E p wd_not = true
    · have hwn := isW_n hpE hw
      have hl3 : wd_not.length = 3 := rfl
      have ep : pU b E (f + 1) p = (pU b E f (tN b E p)).bd (fun t q => .inr (notT t, q)) := (if_neg hn).trans (if_pos hw)
      have eG : gTk b E wd_not (.inr ((), p)) (w1 G 27 (nI (dq + 1))) = gN b E (.inr ((), p)) (w1 G 27 (nI (dq + 1))) := if_pos hw
      have hsn : mSt b E (.inr ((), tN b E p)) (gN b E (.inr ((), p)) (w1 G 27 (nI (dq + 1)))) := hsd.n
      have hUn := hU (d + 2) bq k (tN b E p) (slk + 2) (dq + 1) A _ hb hsn ((gN_o (by omega)).trans hd25) hbq ((gN_o (by omega)).trans hd26) (by omega) ((gN_o (by omega)).trans w1_eq) (by omega)
      rw [show d + 2 + 3 * f + 8 = d + 3 * (f + 1) + 7 by omega] at hUn
      rw [ep]
      refine jj_aload_n (q := 34) dX9_unit_33 rfl rfl rfl ?_
      refine jj_getIw (v := nI dq) (q := 37) dX9_unit_34 fl_X9_197 hm.t0 (by rw [g_rd]; exact h27) rfl rfl ?_
      refine jj_bipush (v := 9) (q := 39) dX9_unit_37 rfl rfl ?_
      refine jj_icmp_le (q := 42) (tgt := 48) dX9_unit_39 rfl rfl (fun h39 => ?_) (fun h39 => absurd (nI_le (a := dq) (b := 9) (by omega) (by omega)) h39)
      refine jj_aload_n (q := 49) dX9_unit_48 rfl rfl rfl ?_
      refine jj_getIw (v := nI 0) (q := 52) dX9_unit_49 fl_X9_92 hm.t0 (by rw [g_rd]; exact hs.2.2.2.1) rfl rfl ?_
      refine jj_if_le (q := 55) (tgt := 57) dX9_unit_52 rfl rfl (fun h52 => ?_) (fun h52 => absurd (by decide) h52)
      refine jj_aload_n (q := 58) dX9_unit_57 rfl rfl rfl ?_
      refine jj_dup (q := 59) dX9_unit_58 rfl rfl ?_
      refine jj_getIw (v := nI dq) (q := 62) dX9_unit_59 fl_X9_197 hm.t0 (by rw [g_rd]; exact h27) rfl rfl ?_
      refine jj_iconst (v := 1) (q := 63) dX9_unit_62 rfl rfl ?_
      refine jj_iaddN (q := 64) (a := dq) (b := 1) dX9_unit_63 rfl rfl rfl ?_
      refine jj_putIv (q := 67) dX9_unit_64 fl_X9_197 hm.t0 g_wr rfl rfl rfl rfl rfl ?_
      refine jj_aload_n (q := 68) dX9_unit_67 rfl rfl rfl ?_
      refine jj_ldcS (q := 70) dX9_unit_68 ks_X9_192 rfl ?_
      refine jj_cV1i (q := 73) dX9_unit_70 yk_X9_takes ml_X9_137 hm.t0 (exM_takes hm hb hsd ks_X9_192 wl_not (by decide) (by decide)) rfl rfl rfl ⟨Nat.zero_le _, Nat.zero_le _⟩ ?_
      refine jj_if_eq (q := 76) (tgt := 90) dX9_unit_73 rfl rfl (fun h73 => by exfalso; exact absurd ((if_pos hw).symm.trans h73) (by decide)) (fun h73 => ?_)
      rw [eG]
      refine jj_aload_n (q := 77) dX9_unit_76 rfl rfl rfl ?_
      refine jj_iconst (v := 2) (q := 78) dX9_unit_77 rfl rfl ?_
      refine jj_aload_n (q := 79) dX9_unit_78 rfl rfl rfl ?_
      refine jj_pV0i (q := 82) dX9_unit_79 yk_X9_unit ml_X9_178 hm.t0 hUn rfl rfl rfl ⟨Nat.zero_le _, Nat.zero_le _⟩ (fun s A2 Gb hu2 => ?_)
      obtain ⟨k2, g1, g2, g3, g4, hg5, g6⟩ := hu2
      have e1 : nIx bq k2 = (1 - bq) * 700 + k2 := rfl
      have e4 : nIx bq (k2 + 1) = (1 - bq) * 700 + (k2 + 1) := rfl
      have hgt : gTs G (w1 (w1 Gb 26 (nI (k2 + 1))) 27 (nI dq)) (k2 + 1) := gTs.dep ((gTs.gn hd26).t (g3.t gTs.k)) h27
      have hat : aTs A (nodA A2 (nIx bq k2) 2 (nI s) 0) (nIx bq k) (nIx bq 700) := g4.t (aTs.nd (lo := nIx bq k) (by omega) (by omega)) (Nat.le_refl _)
      have hfin : uP b E bq k p slk (2 * (f + 1)) (f + 1) ((pU b E f (tN b E p)).bd (fun t q => .inr (notT t, q))) A G (nIx bq k2) (nodA A2 (nIx bq k2) 2 (nI s) 0) (w1 (w1 Gb 26 (nI (k2 + 1))) 27 (nI dq)) := by
        cases hr : pU b E f (tN b E p) with
        | inl e =>
          rw [hr] at hg5
          exact ⟨k2 + 1, by omega, by omega, hgt, hat, (mSt.w (r := .inl e) hg5 (by omega)).w (by omega), fun x hx => by cases hx⟩
        | inr y =>
          rw [hr] at hg5
          obtain ⟨g7, g8, g9, g10, g11⟩ := g6 y hr
          have hyE : y.2 ≤ E := hg5.2.1
          refine ⟨k2 + 1, by omega, by omega, hgt, hat, (mSt.w (r := .inr ((), y.2)) hg5 (by omega)).w (by omega), fun x hx => ?_⟩
          cases hx
          refine ⟨by dsimp only; omega, by dsimp only; omega, by omega, by omega, fun X c => ?_⟩
          have hn1 := nodA_11 (A := A2) (i := nIx bq k2) (x := 2) (y := nI s) (w := 0)
          refine vN_not ⟨by omega, by omega⟩ hn1.1 hn1.2.1 g10 (vN_rg f _ _ _ (fun j hj hj2 => ?_) (fun j hj hj2 => ?_) (g11 X c))
          · unfold nodA u2; repeat' split
            all_goals first | exact ⟨rfl, rfl, rfl⟩ | omega
          · unfold nodA u2; repeat' split
            all_goals first | rfl | omega
      exact un_tail hm hbq g3.1 (by omega) ((g3.2 25 (by omega) (by omega)).trans ((gN_o (by omega)).trans hd25)) ((g3.2 27 (by omega) (by omega)).trans ((gN_o (by omega)).trans w1_eq)) hfin
    · have eG : gTk b E wd_not (.inr ((), p)) (w1 G 27 (nI (dq + 1))) = w1 G 27 (nI (dq + 1)) := if_neg hw
      by_cases h5 : wV b E p = 5
      · have ep : pU b E (f + 1) p = pInn b E (pU b E f) p := (if_neg hn).trans ((if_neg hw).trans (if_pos h5))
        have hIn := exM_inner (d := d) (f := f) (slk := slk) hm hT hb hsd hd25 hbq hd26 hkp w1_eq (by omega)
        rw [show d + 3 * f + 10 = d + 3 * (f + 1) + 7 by omega] at hIn
        rw [ep, h5]
        refine jj_aload_n (q := 34) dX9_unit_33 rfl rfl rfl ?_
        refine jj_getIw (v := nI dq) (q := 37) dX9_unit_34 fl_X9_197 hm.t0 (by rw [g_rd]; exact h27) rfl rfl ?_
        refine jj_bipush (v := 9) (q := 39) dX9_unit_37 rfl rfl ?_
        refine jj_icmp_le (q := 42) (tgt := 48) dX9_unit_39 rfl rfl (fun h39 => ?_) (fun h39 => absurd (nI_le (a := dq) (b := 9) (by omega) (by omega)) h39)
        refine jj_aload_n (q := 49) dX9_unit_48 rfl rfl rfl ?_
        refine jj_getIw (v := nI 0) (q := 52) dX9_unit_49 fl_X9_92 hm.t0 (by rw [g_rd]; exact hs.2.2.2.1) rfl rfl ?_
        refine jj_if_le (q := 55) (tgt := 57) dX9_unit_52 rfl rfl (fun h52 => ?_) (fun h52 => absurd (by decide) h52)
        refine jj_aload_n (q := 58) dX9_unit_57 rfl rfl rfl ?_
        refine jj_dup (q := 59) dX9_unit_58 rfl rfl ?_
        refine jj_getIw (v := nI dq) (q := 62) dX9_unit_59 fl_X9_197 hm.t0 (by rw [g_rd]; exact h27) rfl rfl ?_
        refine jj_iconst (v := 1) (q := 63) dX9_unit_62 rfl rfl ?_
        refine jj_iaddN (q := 64) (a := dq) (b := 1) dX9_unit_63 rfl rfl rfl ?_
        refine jj_putIv (q := 67) dX9_unit_64 fl_X9_197 hm.t0 g_wr rfl rfl rfl rfl rfl ?_
        refine jj_aload_n (q := 68) dX9_unit_67 rfl rfl rfl ?_
        refine jj_ldcS (q := 70) dX9_unit_68 ks_X9_192 rfl ?_
        refine jj_cV1i (q := 73) dX9_unit_70 yk_X9_takes ml_X9_137 hm.t0 (exM_takes hm hb hsd ks_X9_192 wl_not (by decide) (by decide)) rfl rfl rfl ⟨Nat.zero_le _, Nat.zero_le _⟩ ?_
        refine jj_if_eq (q := 76) (tgt := 90) dX9_unit_73 rfl rfl (fun h73 => ?_) (fun h73 => absurd (if_neg hw) h73)
        rw [eG]
        refine jj_iload_n (q := 91) dX9_unit_90 rfl rfl rfl ?_
        refine jj_iconst (v := -1) (q := 92) dX9_unit_91 rfl rfl ?_
        refine jj_icmp_ne (q := 95) (tgt := 102) dX9_unit_92 rfl rfl (fun h92 => by exfalso; exact h92 rfl) (fun h92 => ?_)
        refine jj_aload_n (q := 96) dX9_unit_95 rfl rfl rfl ?_
        refine jj_pV0i (q := 99) dX9_unit_96 yk_X9_inner ml_X9_200 hm.t0 hIn rfl rfl rfl ⟨Nat.zero_le _, Nat.zero_le _⟩ (fun s A2 Gb hu2 => ?_)
        refine jj_goto (tgt := 107) dX9_unit_99 rfl ?_
        obtain ⟨k2, g1, g2, g3, g4, hg5, g6⟩ := hu2
        refine un_tail2 hm ((g3.2 27 (by omega) (by omega)).trans w1_eq) ⟨k2, g1, by omega, g3.dep h27, g4, hg5.w (by omega), g6⟩
      · have hwv := wV_w (b := b) hpE h5
        have ep : pU b E (f + 1) p = pCmp b E (wV b E p) p := (if_neg hn).trans ((if_neg hw).trans (if_neg h5))
        have e5 : vI (wV b E p) = nI (wV b E p) := if_neg h5
        have hpc := pCmp_r (b := b) (E := E) (w := wV b E p) (p := p)
        have hs4 := hsd.c2.c4
        rw [← hpc.1] at hs4
        have hne : ¬ nI (wV b E p) = -1 := fun w => nI_ltz (k := wV b E p) (by omega) (by rw [w]; decide)
        have e4 : nIx bq (k + 1) = (1 - bq) * 700 + (k + 1) := rfl
        rw [ep, e5]
        refine jj_aload_n (q := 34) dX9_unit_33 rfl rfl rfl ?_
        refine jj_getIw (v := nI dq) (q := 37) dX9_unit_34 fl_X9_197 hm.t0 (by rw [g_rd]; exact h27) rfl rfl ?_
        refine jj_bipush (v := 9) (q := 39) dX9_unit_37 rfl rfl ?_
        refine jj_icmp_le (q := 42) (tgt := 48) dX9_unit_39 rfl rfl (fun h39 => ?_) (fun h39 => absurd (nI_le (a := dq) (b := 9) (by omega) (by omega)) h39)
        refine jj_aload_n (q := 49) dX9_unit_48 rfl rfl rfl ?_
        refine jj_getIw (v := nI 0) (q := 52) dX9_unit_49 fl_X9_92 hm.t0 (by rw [g_rd]; exact hs.2.2.2.1) rfl rfl ?_
        refine jj_if_le (q := 55) (tgt := 57) dX9_unit_52 rfl rfl (fun h52 => ?_) (fun h52 => absurd (by decide) h52)
        refine jj_aload_n (q := 58) dX9_unit_57 rfl rfl rfl ?_
        refine jj_dup (q := 59) dX9_unit_58 rfl rfl ?_
        refine jj_getIw (v := nI dq) (q := 62) dX9_unit_59 fl_X9_197 hm.t0 (by rw [g_rd]; exact h27) rfl rfl ?_
        refine jj_iconst (v := 1) (q := 63) dX9_unit_62 rfl rfl ?_
        refine jj_iaddN (q := 64) (a := dq) (b := 1) dX9_unit_63 rfl rfl rfl ?_
        refine jj_putIv (q := 67) dX9_unit_64 fl_X9_197 hm.t0 g_wr rfl rfl rfl rfl rfl ?_
        refine jj_aload_n (q := 68) dX9_unit_67 rfl rfl rfl ?_
        refine jj_ldcS (q := 70) dX9_unit_68 ks_X9_192 rfl ?_
        refine jj_cV1i (q := 73) dX9_unit_70 yk_X9_takes ml_X9_137 hm.t0 (exM_takes hm hb hsd ks_X9_192 wl_not (by decide) (by decide)) rfl rfl rfl ⟨Nat.zero_le _, Nat.zero_le _⟩ ?_
        refine jj_if_eq (q := 76) (tgt := 90) dX9_unit_73 rfl rfl (fun h73 => ?_) (fun h73 => absurd (if_neg hw) h73)
        rw [eG]
        refine jj_iload_n (q := 91) dX9_unit_90 rfl rfl rfl ?_
        refine jj_iconst (v := -1) (q := 92) dX9_unit_91 rfl rfl ?_
        refine jj_icmp_ne (q := 95) (tgt := 102) dX9_unit_92 rfl rfl (fun h92 => ?_) (fun h92 => by exfalso; exact hne h92)
        refine jj_aload_n (q := 103) dX9_unit_102 rfl rfl rfl ?_
        refine jj_iload_n (q := 104) dX9_unit_103 rfl rfl rfl ?_
        refine jj_cV1i (q := 107) dX9_unit_104 yk_X9_comparison ml_X9_203 hm.t0 (exM_cmp (d := d + 3 * (f + 1) + 4) hm hb hsd hd25 hbq hd26 (by omega)) rfl rfl rfl ⟨Nat.zero_le _, Nat.zero_le _⟩ ?_
        refine un_tail2 (s := nIx bq k) hm ((w1_ne (by omega)).trans ((cG4_o (by omega)).trans ((cG2_o (by omega)).trans w1_eq))) ⟨k + 1, by omega, by omega, ?_, aTs.nd (Nat.le_refl _) (by omega), (hs4.w (by omega)).w (by omega), fun x hx => ?_⟩
        · exact gTs.dep (G := G) ⟨w1_eq, fun j hj hnj => (w1_ne hnj).trans ((cG4_o (by omega)).trans (cG2_o (by omega)))⟩ h27
        · have hx1 := hpc.2 x hx
          have hge := pCmp_ge hpE hx
          have hn1 := nodA_11 (A := A) (i := nIx bq k) (x := nI (3 + cO b E (.inr ((), p)))) (y := nI (wV b E p)) (w := nI (cVl b E (cR2 b E (.inr ((), p)))))
          refine ⟨by omega, by omega, Nat.le_refl _, by omega, fun X c => ?_⟩
          rw [hx1]
          exact vN_leaf ⟨Nat.le_refl _, by omega⟩ (cO_lt b E _) hwv.1 hn1.1 hn1.2.1 hn1.2.2
theorem exM_unit (hm : hMo T S mo) (hE : E ≤ 1200) (hv : hVs Γ R mo) : ∀ f, f ≤ 10 → cUn Γ T R S I L D z mo b E f
  | 0, _ => exM_unit0 hm hE hv
  | f + 1, h => exM_unitS hm hE hv (by omega) (exM_unit hm hE hv f (by omega))
end M86
