/-! UNITS of the component: all depths -/
theorem wV_tk {b : Nat → Nat} {E p : Nat} (h : wV b E p ≠ 5) : ¬ isW b E p wd_not = true ∧ ∀ c, ¬ isS b E p c = true := by
  have hw : ∃ l, isW b E p l = true ∧ l ≠ wd_not := by
    unfold wV at h
    by_cases h0 : isW b E p wd_wait = true
    · exact ⟨_, h0, by decide⟩
    · rw [if_neg h0] at h
      by_cases h1 : isW b E p wd_laps = true
      · exact ⟨_, h1, by decide⟩
      · rw [if_neg h1] at h
        by_cases h2 : isW b E p wd_level = true
        · exact ⟨_, h2, by decide⟩
        · rw [if_neg h2] at h
          by_cases h3 : isW b E p wd_load = true
          · exact ⟨_, h3, by decide⟩
          · rw [if_neg h3] at h
            by_cases h4 : isW b E p wd_time = true
            · exact ⟨_, h4, by decide⟩
            · rw [if_neg h4] at h
              exact absurd rfl h
  obtain ⟨l, h1, h2⟩ := hw
  have a := (of_decide_eq_true h1).1
  exact ⟨fun w => h2 (isW_2 h1 w), fun c w => by have := (of_decide_eq_true w).1; omega⟩
theorem isW_S {b : Nat → Nat} {E p c : Nat} {l : List Nat} (h : isW b E p l = true) : ¬ isS b E p c = true := fun w => by
  have := (of_decide_eq_true w).1
  have := (of_decide_eq_true h).1
  omega
theorem pSg_o {b : Nat → Nat} {E p c : Nat} {x : Unit × Nat} (h : pSg b E c p = .inr x) : x.2 = tN b E p := by
  unfold pSg at h
  split at h
  · cases h; rfl
  · cases h
theorem pRel_o {b : Nat → Nat} {E p : Nat} {x : Nat × Nat} (h : pRel b E p = .inr x) : x.2 = tN b E p := by
  unfold pRel at h
  split at h
  · cases h; rfl
  · split at h
    · cases h; rfl
    · split at h
      · cases h; rfl
      · cases h
section A7
variable {Γ : Gam} {d : Nat} {T : JT} {R S : JR} {I C P K : JI} {L : JL} {D : JD} {tk dr : Int64} {pa pl sa E p : Nat} {F : JV} {b : Nat → Nat}
theorem ct_unit0 (hp : hPa T R pa) (hb : pB_ C b E) (hd : hDj pa pl sa) (hpl : hPl T R pl) : kUn Γ T R S I L D C pa pl sa b E 0 := by
  intro d p k F P K tk dr hs hcp hk hkp
  generalize hR : pU b E 0 p = RES
  refine Ex.of (by decide) (by simp [Value.category]) (Nat.le_of_ble_eq_true rfl) rfl ?_
  refine cun_head (f := 0) hp hb hs hcp hd hpl hR (fun hn => ?_)
  rw [show pU b E 0 p = .inl (6, tS b E p) from if_neg hn] at hR
  subst hR
  refine jj_iload_n (q := 34) dX2_readUnit_33 rfl rfl rfl ?_
  refine jj_bipush (v := 9) (q := 36) dX2_readUnit_34 rfl rfl ?_
  refine jj_icmp_le (q := 39) (tgt := 45) dX2_readUnit_36 rfl rfl (fun h36 => absurd h36 (by decide)) (fun h36 => ?_)
  refine jj_aload_n (q := 40) dX2_readUnit_39 rfl rfl rfl ?_
  refine jj_bipush (v := 6) (q := 42) dX2_readUnit_40 rfl rfl ?_
  refine jj_xV1 (q := 45) dX2_readUnit_42 yk_X2_fail ml_X2_72 hp.t0 (ct_fail (d := d + 2) hp hb hs hcp (c := 6)) rfl rfl rfl ⟨Nat.le_refl _, Nat.le_refl _⟩ rfl (Nat.le_refl _) (Nat.le_refl _) ?_
  exact rC_x hs hcp
theorem ct_unitS (hp : hPa T R pa) (hb : pB_ C b E) (hd : hDj pa pl sa) (hpl : hPl T R pl) {f : Nat} (hf : f < 10) (hU : kUn Γ T R S I L D C pa pl sa b E f) : kUn Γ T R S I L D C pa pl sa b E (f + 1) := by
  have hTe := ct_test hp hb hd hpl (by omega) hU
  have h12 := hb.1
  intro d p k F P K tk dr hs hcp hk hkp
  generalize hR : pU b E (f + 1) p = RES
  refine Ex.of (by decide) (by simp [Value.category]) (Nat.le_of_ble_eq_true rfl) rfl ?_
  refine cun_head (f := f + 1) hp hb hs hcp hd hpl hR (fun hn => ?_)
  have hnx := hs.st
  have hnb := tN_bd (b := b) hs.2.1
  have h9 : nI (10 - (f + 1)) ≤ 9 := nI_le (a := 10 - (f + 1)) (b := 9) (by omega) (by omega)
  have ed : 10 - f = 10 - (f + 1) + 1 := by omega
  rw [show pU b E (f + 1) p = _ from if_neg hn] at hR
  by_cases n1 : isW b E p wd_not = true
  · rw [if_pos n1] at hR
    have hw := isW_n hs.2.1 n1
    have hl3 : wd_not.length = 3 := rfl
    have hU1 := hU (d + 1) (tN b E p) k _ P K tk dr hnx hcp hk (by omega)
    rw [show d + 1 + 2 * f + 9 = d + 2 * (f + 1) + 8 by omega, ed] at hU1
    refine jj_iload_n (q := 34) dX2_readUnit_33 rfl rfl rfl ?_
    refine jj_bipush (v := 9) (q := 36) dX2_readUnit_34 rfl rfl ?_
    refine jj_icmp_le (q := 39) (tgt := 45) dX2_readUnit_36 rfl rfl (fun h36 => ?_) (fun h36 => absurd (h9) h36)
    refine jj_aload_n (q := 46) dX2_readUnit_45 rfl rfl rfl ?_
    refine jj_ldcS (q := 48) dX2_readUnit_46 ks_X2_237 rfl ?_
    refine jj_cV1i (q := 51) dX2_readUnit_48 yk_X2_isWord ml_X2_131 hp.t0 (ex_isWord hp hb hs.2.1 hs.1 ks_X2_237 wl_not (by decide) (by decide)) rfl rfl rfl ⟨Nat.zero_le _, Nat.zero_le _⟩ ?_
    refine jj_if_eq (q := 54) (tgt := 76) dX2_readUnit_51 rfl rfl (fun h51 => by exfalso; exact absurd ((if_pos n1).symm.trans h51) (by decide)) (fun h51 => ?_)
    refine jj_aload_n (q := 55) dX2_readUnit_54 rfl rfl rfl ?_
    refine jj_cV0v (q := 58) dX2_readUnit_55 yk_X2_step ml_X2_58 hp.t0 (ct_step (d := d + 2 * (f + 1) + 4) hp hb hs) rfl rfl rfl ⟨Nat.zero_le _, Nat.zero_le _⟩ ?_
    refine jj_aload_n (q := 59) dX2_readUnit_58 rfl rfl rfl ?_
    refine jj_aload_n (q := 60) dX2_readUnit_59 rfl rfl rfl ?_
    refine jj_iload_n (q := 61) dX2_readUnit_60 rfl rfl rfl ?_
    refine jj_iconst (v := 1) (q := 62) dX2_readUnit_61 rfl rfl ?_
    refine jj_iaddN (q := 63) (a := 10 - (f + 1)) (b := 1) dX2_readUnit_62 rfl rfl rfl ?_
    refine jj_tV2v (q := 66) dX2_readUnit_63 yk_X2_readUnit ml_X2_223 hp.t0 hU1 rfl rfl rfl rfl ((fun e h => by rw [← hR, h]; rfl)) (fun x63 pp63 F63 P63 K63 t63 r63 h63 R63 => ?_)
    obtain ⟨⟨s63, rfl, rfl, rfl⟩, k2, b1, b2, b3, b4, b5, b6⟩ := R63
    have hE63 := s63.2.1
    rw [h63, Res.bd_r] at hR
    dsimp only at hR
    subst hR
    refine jj_aload_n (q := 67) dX2_readUnit_66 rfl rfl rfl ?_
    refine jj_bipush (v := 15) (q := 69) dX2_readUnit_67 rfl rfl ?_
    refine jj_iconst (v := 0) (q := 70) dX2_readUnit_69 rfl rfl ?_
    refine jj_cV2v (q := 73) dX2_readUnit_70 yk_X5_addPart ml_X2_230 hpl.t11 (ct_addPart (d := d + 2 * (f + 1) + 7) hd hpl b1 (by omega)) rfl rfl rfl ⟨Nat.zero_le _, Nat.zero_le _⟩ ?_
    refine jj_goto (tgt := 134) dX2_readUnit_73 rfl ?_
    refine jj_vret dX2_readUnit_134 rfl (Nat.zero_le _) (Nat.zero_le _) ?_
    refine ⟨rfl, _, _, _, _, _, ⟨⟨s63, rfl, rfl, rfl⟩, k2 + 1, adP_11, by omega, by omega, fun c j h1 h2 h3 => ?_, fun j hj => ?_, ?_⟩, rfl⟩
    · rw [adP_o h1 h2 h3]; exact b4 c j h1 h2 h3
    · rw [adP_13, adP_14, if_neg (by omega), if_neg (by omega)]; exact b5 j hj
    · refine ((b6.ad (Nat.le_refl _)).not ?_).up (by omega)
      rw [adP_13, if_pos rfl]
  · rw [if_neg n1] at hR
    by_cases hw : wV b E p = 5
    · rw [if_pos hw] at hR
      have n2 : isS b E p 40 = true := by
        cases h8 : isS b E p 40 with
        | true => rfl
        | false =>
          have h7 : isW b E p wd_not = false := by simpa using n1
          refine absurd ?_ hn
          unfold noT
          rw [h7, h8, hw]
          rfl
      have hU1 := hTe d (tN b E p) k _ P K tk dr hnx hcp hk (by omega)
      rw [show d + 2 * f + 10 = d + 2 * (f + 1) + 8 by omega, ed] at hU1
      refine jj_iload_n (q := 34) dX2_readUnit_33 rfl rfl rfl ?_
      refine jj_bipush (v := 9) (q := 36) dX2_readUnit_34 rfl rfl ?_
      refine jj_icmp_le (q := 39) (tgt := 45) dX2_readUnit_36 rfl rfl (fun h36 => ?_) (fun h36 => absurd (h9) h36)
      refine jj_aload_n (q := 46) dX2_readUnit_45 rfl rfl rfl ?_
      refine jj_ldcS (q := 48) dX2_readUnit_46 ks_X2_237 rfl ?_
      refine jj_cV1i (q := 51) dX2_readUnit_48 yk_X2_isWord ml_X2_131 hp.t0 (ex_isWord hp hb hs.2.1 hs.1 ks_X2_237 wl_not (by decide) (by decide)) rfl rfl rfl ⟨Nat.zero_le _, Nat.zero_le _⟩ ?_
      refine jj_if_eq (q := 54) (tgt := 76) dX2_readUnit_51 rfl rfl (fun h51 => ?_) (fun h51 => absurd (if_neg n1) h51)
      refine jj_aload_n (q := 77) dX2_readUnit_76 rfl rfl rfl ?_
      refine jj_bipush (v := 40) (q := 79) dX2_readUnit_77 rfl rfl ?_
      refine jj_cV1i (q := 82) dX2_readUnit_79 yk_X2_isSign ml_X2_65 hp.t0 (ex_isSign hp hb hs.2.1 hs.1 (c := 40) (by decide)) rfl rfl rfl ⟨Nat.zero_le _, Nat.zero_le _⟩ ?_
      refine jj_if_eq (q := 85) (tgt := 106) dX2_readUnit_82 rfl rfl (fun h82 => by exfalso; exact absurd ((if_pos n2).symm.trans h82) (by decide)) (fun h82 => ?_)
      refine jj_aload_n (q := 86) dX2_readUnit_85 rfl rfl rfl ?_
      refine jj_cV0v (q := 89) dX2_readUnit_86 yk_X2_step ml_X2_58 hp.t0 (ct_step (d := d + 2 * (f + 1) + 4) hp hb hs) rfl rfl rfl ⟨Nat.zero_le _, Nat.zero_le _⟩ ?_
      refine jj_aload_n (q := 90) dX2_readUnit_89 rfl rfl rfl ?_
      refine jj_aload_n (q := 91) dX2_readUnit_90 rfl rfl rfl ?_
      refine jj_iload_n (q := 92) dX2_readUnit_91 rfl rfl rfl ?_
      refine jj_iconst (v := 1) (q := 93) dX2_readUnit_92 rfl rfl ?_
      refine jj_iaddN (q := 94) (a := 10 - (f + 1)) (b := 1) dX2_readUnit_93 rfl rfl rfl ?_
      refine jj_tV2v (q := 97) dX2_readUnit_94 yk_X2_readTest ml_X2_175 hp.t0 hU1 rfl rfl rfl rfl ((fun e h => by rw [← hR, h]; rfl)) (fun x94 pp94 F94 P94 K94 t94 r94 h94 R94 => ?_)
      have Rq0 := R94
      obtain ⟨⟨s94, rfl, rfl, rfl⟩, k2, b1, b2, b3, b4, b5, b6⟩ := R94
      have hE94 := s94.2.1
      have hc94 := Rq0.p6 hcp
      rw [h94, Res.bd_r] at hR
      dsimp only at hR
      refine jj_aload_n (q := 98) dX2_readUnit_97 rfl rfl rfl ?_
      refine jj_bipush (v := 41) (q := 100) dX2_readUnit_98 rfl rfl ?_
      refine jj_tV1v (q := 103) dX2_readUnit_100 yk_X2_takeSign ml_X2_239 hp.t0 (ct_sign (d := d + 2 * (f + 1) + 1) hp hb s94 hc94 (c := 41) (by decide)) rfl rfl rfl rfl ((fun e h => by rw [← hR, h]; rfl)) (fun x100 pp100 F100 P100 K100 t100 r100 h100 R100 => ?_)
      obtain ⟨s100, rfl, rfl, rfl, rfl⟩ := R100
      have o100 := pSg_o h100
      have n100 := tN_bd (b := b) hE94
      dsimp only at o100
      rw [h100, Res.bd_r] at hR
      dsimp only at hR
      subst hR
      refine jj_goto (tgt := 134) dX2_readUnit_103 rfl ?_
      refine jj_vret dX2_readUnit_134 rfl (Nat.zero_le _) (Nat.zero_le _) ?_
      exact ⟨rfl, _, _, _, _, _, ⟨⟨s100, rfl, rfl, rfl⟩, k2, b1, b2, by omega, b4, b5, b6⟩, rfl⟩
    · rw [if_neg hw] at hR
      unfold pCmp at hR
      have hv3 : (if wV b E p = 5 then -1 else nI (wV b E p)) = nI (wV b E p) := if_neg hw
      rw [hv3]
      have hw5 := wV_w hs.2.1 hw
      have hwt := wV_tk hw
      have hkd : ∀ o, o < 3 → nI (wV b E p) * 3 + nI o = nI (wV b E p * 3 + o) := fun o ho => (kd_o hw5.1 ho).1
      refine jj_iload_n (q := 34) dX2_readUnit_33 rfl rfl rfl ?_
      refine jj_bipush (v := 9) (q := 36) dX2_readUnit_34 rfl rfl ?_
      refine jj_icmp_le (q := 39) (tgt := 45) dX2_readUnit_36 rfl rfl (fun h36 => ?_) (fun h36 => absurd (h9) h36)
      refine jj_aload_n (q := 46) dX2_readUnit_45 rfl rfl rfl ?_
      refine jj_ldcS (q := 48) dX2_readUnit_46 ks_X2_237 rfl ?_
      refine jj_cV1i (q := 51) dX2_readUnit_48 yk_X2_isWord ml_X2_131 hp.t0 (ex_isWord hp hb hs.2.1 hs.1 ks_X2_237 wl_not (by decide) (by decide)) rfl rfl rfl ⟨Nat.zero_le _, Nat.zero_le _⟩ ?_
      refine jj_if_eq (q := 54) (tgt := 76) dX2_readUnit_51 rfl rfl (fun h51 => ?_) (fun h51 => absurd (if_neg n1) h51)
      refine jj_aload_n (q := 77) dX2_readUnit_76 rfl rfl rfl ?_
      refine jj_bipush (v := 40) (q := 79) dX2_readUnit_77 rfl rfl ?_
      refine jj_cV1i (q := 82) dX2_readUnit_79 yk_X2_isSign ml_X2_65 hp.t0 (ex_isSign hp hb hs.2.1 hs.1 (c := 40) (by decide)) rfl rfl rfl ⟨Nat.zero_le _, Nat.zero_le _⟩ ?_
      refine jj_if_eq (q := 85) (tgt := 106) dX2_readUnit_82 rfl rfl (fun h82 => ?_) (fun h82 => absurd (if_neg (hwt.2 40)) h82)
      refine jj_aload_n (q := 107) dX2_readUnit_106 rfl rfl rfl ?_
      refine jj_cV0v (q := 110) dX2_readUnit_107 yk_X2_step ml_X2_58 hp.t0 (ct_step (d := d + 2 * (f + 1) + 4) hp hb hs) rfl rfl rfl ⟨Nat.zero_le _, Nat.zero_le _⟩ ?_
      refine jj_aload_n (q := 111) dX2_readUnit_110 rfl rfl rfl ?_
      refine jj_tV0i (q := 114) dX2_readUnit_111 yk_X2_takeRelation ml_X2_242 hp.t0 (ct_rel (d := d + 2 * (f + 1) + 1) hp hb hnx hcp hd hpl) rfl rfl rfl rfl ((fun e h => by rw [← hR, h]; rfl)) (fun x111 pp111 F111 P111 K111 t111 r111 h111 R111 => ?_)
      obtain ⟨⟨s111, rfl, rfl, rfl, rfl⟩, o3⟩ := R111
      have hE111 := s111.2.1
      have o111 := pRel_o h111
      have n111 := tN_bd (b := b) hnb.2.1
      dsimp only at o111
      rw [h111, Res.bd_r] at hR
      dsimp only at hR
      refine jj_istore (q := 116) dX2_readUnit_114 (by decide) rfl ?_
      refine jj_aload_n (q := 117) dX2_readUnit_116 rfl rfl rfl ?_
      refine jj_iload_n (q := 118) dX2_readUnit_117 rfl rfl rfl ?_
      refine jj_iconst (v := 3) (q := 119) dX2_readUnit_118 rfl rfl ?_
      refine jj_imulN (q := 120) (a := wV b E p) (b := 3) dX2_readUnit_119 rfl rfl rfl ?_
      refine jj_iload (q := 122) dX2_readUnit_120 rfl rfl ?_
      refine jj_iaddN (q := 123) (a := (wV b E p) * 3) (b := x111) dX2_readUnit_122 rfl rfl rfl ?_
      refine jj_aload_n (q := 124) dX2_readUnit_123 rfl rfl rfl ?_
      refine jj_iconst (v := 0) (q := 125) dX2_readUnit_124 rfl rfl ?_
      refine jj_sipush (v := 9999) (q := 128) dX2_readUnit_125 rfl rfl ?_
      refine jj_tV2i (q := 131) dX2_readUnit_128 yk_X2_takeNumber ml_X2_91 hp.t0 (ct_num (d := d + 2 * (f + 1) + 1) hp hb s111 hcp (lo := 0) (hx := 10000) rfl (by omega) (by omega)) rfl rfl rfl rfl ((fun e h => by rw [← hR, h]; rfl)) (fun x128 pp128 F128 P128 K128 t128 r128 h128 R128 => ?_)
      obtain ⟨s128, rfl, rfl, rfl, rfl⟩ := R128
      have hE128 := s128.2.1
      have o128 : pp128 = tN b E pp111 := congrArg Prod.snd (pNum_o h128).2.1
      have n128 := tN_bd (b := b) hE111
      rw [h128, Res.bd_r] at hR
      dsimp only at hR
      subst hR
      refine jj_cV2v (q := 134) dX2_readUnit_131 yk_X5_addPart ml_X2_230 hpl.t11 (ct_addPart (d := d + 2 * (f + 1) + 7) hd hpl hk (by omega)) rfl rfl rfl ⟨Nat.zero_le _, Nat.zero_le _⟩ ?_
      refine jj_vret dX2_readUnit_134 rfl (Nat.zero_le _) (Nat.zero_le _) ?_
      refine ⟨rfl, _, _, _, _, _, ⟨⟨s128, rfl, rfl, rfl⟩, k + 1, adP_11, by omega, by omega, fun c j h1 h2 h3 => adP_o h1 h2 h3, fun j hj => ?_, ?_⟩, rfl⟩
      · rw [adP_13, adP_14, if_neg (by omega), if_neg (by omega)]; exact ⟨rfl, rfl⟩
      · refine (cdR.leaf hw5.1 o3 ?_ ?_).up (by omega)
        · rw [adP_13, if_pos rfl]
        · rw [adP_14, if_pos rfl]
theorem ct_units (hp : hPa T R pa) (hb : pB_ C b E) (hd : hDj pa pl sa) (hpl : hPl T R pl) : ∀ f, f ≤ 10 → kUn Γ T R S I L D C pa pl sa b E f
  | 0, _ => ct_unit0 hp hb hd hpl
  | f + 1, h => ct_unitS hp hb hd hpl (by omega) (ct_units hp hb hd hpl f (by omega))
theorem ct_top (hp : hPa T R pa) (hb : pB_ C b E) (hs : cSt b E p F) (hcp : cP6 P) (hd : hDj pa pl sa) (hpl : hPl T R pl) {k : Nat} (hk : P 11 1 = nI k) (hkp : 2 * k ≤ p) : Ex Γ (d + 30) Y_X2_readTest [.ref pa, .ref (pl + 11), .int 0] (cM T R S I L D C pa pl sa F P K tk dr) (ec (eN (pT b E (pU b E 10) p))) (es (eN (pT b E (pU b E 10) p))) (rC (cM T R S I L D C pa pl sa) (pT b E (pU b E 10) p) (fun _ => none) (tRl b E p k 11 P K tk dr)) := ct_test hp hb hd hpl (f := 10) (by omega) (ct_units hp hb hd hpl 10 (by omega)) d p k F P K tk dr hs hcp hk hkp
end A7
