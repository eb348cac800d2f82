/-! PARSE of the component -/
def cEnd (s : PSt) (_ : Nat) (F : JV) (P K : JI) (_ dr : Int64) : Prop := (F 0 = 0 ∧ F 1 = -1 ∧ F 2 = 0) ∧ cP6 P ∧ ∃ kf kl kc kk c sz m, ∃ K0 : JI, 1 ≤ kf ∧ yN s.1 kf kl kc kk sz ∧ yX s.2.1 kf c ∧ pPl s.1 P kf kl kc ∧ pTe P s.2.2 kk m ∧ m ≤ 600 ∧ pSt0 s.2.1 K0 dr kf c ∧ K = adA c K0
section B4
variable {Γ : Gam} {d : Nat} {T : JT} {R S : JR} {I C P K : JI} {L : JL} {D : JD} {tk dr : Int64} {pa pl sa E p : Nat} {F : JV} {b : Nat → Nat} {N X : JV} {H : Nat → Tst}
theorem ct_admit (hd : hDj pa pl sa) (hsa : hSt T R sa) {c : Nat} (hc : K 1 0 = nI c) (hck : c ≤ 100) : Ex Γ (d + 3) Y_X7_admitArrivals [.ref sa] (cM T R S I L D C pa pl sa F P K tk dr) 0 0 (rV (cM T R S I L D C pa pl sa F P (adA c K) tk dr)) := by
  have h := ex_admitArrivals (Γ := Γ) (d := d) (T := T) (R := R) (S := S) (I := blk 2 (blk 16 I pl P) pa (st C 0 F)) (K := K) (L := cL L pa sa tk dr) (D := D) (z := none) hsa hc hck
  rw [← c_S hd, ← c_S hd] at h
  exact h
theorem ct_sclear (hd : hDj pa pl sa) (hsa : hSt T R sa) : Ex Γ (d + 2) Y_X4_clear [.ref sa] (cM T R S I L D C pa pl sa F P K tk dr) 0 0 (rV (cM T R S I L D C pa pl sa F P (kClr K) tk dr)) := by
  have h := ex_sclear (Γ := Γ) (d := d) (T := T) (R := R) (S := S) (I := blk 2 (blk 16 I pl P) pa (st C 0 F)) (K := K) (L := cL L pa sa tk dr) (D := D) (z := none) hsa
  rw [← c_S hd, ← c_S hd] at h
  exact h
theorem ct_plclear (hd : hDj pa pl sa) (hpl : hPl T R pl) : Ex Γ d Y_X3_clear [.ref pl] (cM T R S I L D C pa pl sa F P K tk dr) 0 0 (rV (cM T R S I L D C pa pl sa F (plC P) K tk dr)) := by
  refine Ex.of (by decide) (by simp [Value.category]) (Nat.le_of_ble_eq_true rfl) rfl ?_
  refine jj_aload_n (q := 1) dX3_clear_0 rfl rfl rfl ?_
  refine jj_iconst (v := 0) (q := 2) dX3_clear_1 rfl rfl ?_
  refine jj_putIv (q := 5) dX3_clear_2 fl_X3_31 hpl.t0 (c_pw0 hd) rfl rfl rfl rfl rfl ?_
  refine jj_aload_n (q := 6) dX3_clear_5 rfl rfl rfl ?_
  refine jj_iconst (v := 0) (q := 7) dX3_clear_6 rfl rfl ?_
  refine jj_putIv (q := 10) dX3_clear_7 fl_X3_37 hpl.t0 (c_pw0 hd) rfl rfl rfl rfl rfl ?_
  refine jj_aload_n (q := 11) dX3_clear_10 rfl rfl rfl ?_
  refine jj_iconst (v := 0) (q := 12) dX3_clear_11 rfl rfl ?_
  refine jj_putIv (q := 15) dX3_clear_12 fl_X3_46 hpl.t0 (c_pw0 hd) rfl rfl rfl rfl rfl ?_
  refine jj_aload_n (q := 16) dX3_clear_15 rfl rfl rfl ?_
  refine jj_getR (q := 19) dX3_clear_16 fl_X3_64 hpl.t0 hpl.r0_16 rfl rfl rfl ?_
  refine jj_iconst (v := 0) (q := 20) dX3_clear_19 rfl rfl ?_
  refine jj_putIv (q := 23) dX3_clear_20 fl_X3_68 hpl.t11 (c_pw hd (by decide)) rfl rfl rfl rfl rfl ?_
  refine jj_aload_n (q := 24) dX3_clear_23 rfl rfl rfl ?_
  refine jj_getR (q := 27) dX3_clear_24 fl_X3_64 hpl.t0 hpl.r0_16 rfl rfl rfl ?_
  refine jj_iconst (v := 0) (q := 28) dX3_clear_27 rfl rfl ?_
  refine jj_putIv (q := 31) dX3_clear_28 fl_X3_71 hpl.t11 (c_pw hd (by decide)) rfl rfl rfl rfl rfl ?_
  refine jj_vret dX3_clear_31 rfl (Nat.zero_le _) (Nat.zero_le _) ?_
  exact ⟨rfl, rfl⟩
theorem cp_end (hp : hPa T R pa) (hb : pB_ C b E) (hd : hDj pa pl sa) (hpl : hPl T R pl) (hsa : hSt T R sa) {s : PSt} {q : Nat} {RES : Res PSt} {vn : Int32} {v4 : Option Value} (hR : pEn b E s q = RES) (hr : cRl b E s q F P K tk dr) : JJ Γ (jj_E Y_X2_parse) (jj_Z Γ (rC (cM T R S I L D C pa pl sa) RES (fun _ => none) cEnd) (ec (eN RES)) (es (eN RES))) (jj_rm (d + 32) (ec (eN RES)) (es (eN RES))) 0 0 87 [some (.ref pa), some (.int vn), some (.ref pl), some (.ref sa), v4] [] (cM T R S I L D C pa pl sa F P K tk dr) := by
  obtain ⟨hs, hcp, kf, kl, kc, kk, c, sz, m, y1, y2, r1, r2, hm, r3, r4⟩ := hr
  have hy1 := y1.1
  have h12 := hb.1
  have hqE := hs.2.1
  have hk4 := tK_le b E q
  unfold pEn at hR
  by_cases hk : tK b E q = 0
  · rw [if_pos hk] at hR
    by_cases hz : s.1 12 = 0
    · have e : kf = 0 := nI_inj' (by omega) (by omega) (y1.1.1.symm.trans hz)
      rw [if_pos hz] at hR
      subst hR
      refine jj_aload_n (q := 88) dX2_parse_87 rfl rfl rfl ?_
      refine jj_getIw (v := nI (tK b E q)) (q := 91) dX2_parse_88 fl_X2_31 hp.t0 ((congrFun c_f _).trans hs.1.2.2.1) rfl rfl ?_
      refine jj_if_eq (q := 94) (tgt := 99) dX2_parse_91 rfl rfl (fun h91 => ?_) (fun h91 => by exfalso; exact h91 (by rw [hk]; rfl))
      refine jj_aload_n (q := 100) dX2_parse_99 rfl rfl rfl ?_
      refine jj_getIw (v := nI kf) (q := 103) dX2_parse_100 fl_X2_76 hpl.t0 ((congrFun (c_p0 hd) _).trans r1.2.2.1.1) rfl rfl ?_
      refine jj_if_ne (q := 106) (tgt := 111) dX2_parse_103 rfl rfl (fun h103 => by exfalso; exact h103 (by rw [e]; rfl)) (fun h103 => ?_)
      refine jj_aload_n (q := 107) dX2_parse_106 rfl rfl rfl ?_
      refine jj_iconst (v := 5) (q := 108) dX2_parse_107 rfl rfl ?_
      refine jj_xV1 (q := 111) dX2_parse_108 yk_X2_fail ml_X2_72 hp.t0 (ct_fail (d := d + 25) hp hb hs hcp (c := 5)) rfl rfl rfl ⟨Nat.le_refl _, Nat.le_refl _⟩ rfl (Nat.le_refl _) (Nat.le_refl _) ?_
      exact rC_x hs hcp
    · have e : kf ≠ 0 := fun w => hz (by rw [y1.1.1, w]; rfl)
      rw [if_neg hz] at hR
      subst hR
      refine jj_aload_n (q := 88) dX2_parse_87 rfl rfl rfl ?_
      refine jj_getIw (v := nI (tK b E q)) (q := 91) dX2_parse_88 fl_X2_31 hp.t0 ((congrFun c_f _).trans hs.1.2.2.1) rfl rfl ?_
      refine jj_if_eq (q := 94) (tgt := 99) dX2_parse_91 rfl rfl (fun h91 => ?_) (fun h91 => by exfalso; exact h91 (by rw [hk]; rfl))
      refine jj_aload_n (q := 100) dX2_parse_99 rfl rfl rfl ?_
      refine jj_getIw (v := nI kf) (q := 103) dX2_parse_100 fl_X2_76 hpl.t0 ((congrFun (c_p0 hd) _).trans r1.2.2.1.1) rfl rfl ?_
      refine jj_if_ne (q := 106) (tgt := 111) dX2_parse_103 rfl rfl (fun h103 => ?_) (fun h103 => by exfalso; exact e (nI_inj' (by omega) (by omega) h103))
      refine jj_aload_n (q := 112) dX2_parse_111 rfl rfl rfl ?_
      refine jj_cS1v (q := 115) dX2_parse_112 yk_X7_admitArrivals ml_X2_79 (ct_admit (d := d + 28) hd hsa r3.1.2.2.2.2.1 y2.1.2.1) rfl rfl rfl ⟨Nat.zero_le _, Nat.zero_le _⟩ ?_
      refine jj_vret dX2_parse_115 rfl (Nat.zero_le _) (Nat.zero_le _) ?_
      refine ⟨rfl, _, _, _, _, _, ?_, rfl⟩
      exact ⟨⟨hs.2.2.1, hs.2.2.2.1, hs.2.2.2.2⟩, hcp, kf, kl, kc, kk, c, sz, m, K, by omega, y1, y2, r1, r2, by omega, r3, rfl⟩
  · rw [if_neg hk] at hR
    subst hR
    refine jj_aload_n (q := 88) dX2_parse_87 rfl rfl rfl ?_
    refine jj_getIw (v := nI (tK b E q)) (q := 91) dX2_parse_88 fl_X2_31 hp.t0 ((congrFun c_f _).trans hs.1.2.2.1) rfl rfl ?_
    refine jj_if_eq (q := 94) (tgt := 99) dX2_parse_91 rfl rfl (fun h91 => by exfalso; exact hk (nI_inj' (by omega) (by omega) h91)) (fun h91 => ?_)
    refine jj_aload_n (q := 95) dX2_parse_94 rfl rfl rfl ?_
    refine jj_iconst (v := 1) (q := 96) dX2_parse_95 rfl rfl ?_
    refine jj_xV1 (q := 99) dX2_parse_96 yk_X2_fail ml_X2_72 hp.t0 (ct_fail (d := d + 25) hp hb hs hcp (c := 1)) rfl rfl rfl ⟨Nat.le_refl _, Nat.le_refl _⟩ rfl (Nat.le_refl _) (Nat.le_refl _) ?_
    exact rC_x hs hcp
theorem lp_cp (hp : hPa T R pa) (hb : pB_ C b E) (hd : hDj pa pl sa) (hpl : hPl T R pl) (hsa : hSt T R sa) {RES : Res PSt} {vn : Int32} : ∀ (n i : Nat) (s : PSt) (q : Nat) (F : JV) (P K : JI) (tk dr : Int64), i + n = 1200 → cRl b E s q F P K tk dr → (pLs b E n s q).bd (fun s q => pEn b E s q) = RES → JJ Γ (jj_E Y_X2_parse) (jj_Z Γ (rC (cM T R S I L D C pa pl sa) RES (fun _ => none) cEnd) (ec (eN RES)) (es (eN RES))) (jj_rm (d + 32) (ec (eN RES)) (es (eN RES))) 0 0 54 [some (.ref pa), some (.int vn), some (.ref pl), some (.ref sa), some (.int (nI i))] [] (cM T R S I L D C pa pl sa F P K tk dr) := by
  intro n
  induction n with
  | zero =>
    intro i s q F P K tk dr hi hr hR
    have e : i = 1200 := by omega
    subst e
    refine jj_iload (q := 56) dX2_parse_54 rfl rfl ?_
    refine jj_sipush (v := 1200) (q := 59) dX2_parse_56 rfl rfl ?_
    refine jj_icmp_ge (q := 62) (tgt := 87) dX2_parse_59 rfl rfl (fun h59 => ?_) (fun h59 => absurd (nI_le (a := 1200) (b := 1200) (Nat.le_refl _) (by omega)) h59)
    exact cp_end hp hb hd hpl hsa hR hr
  | succ n ih =>
    intro i s q F P K tk dr hi hr hR
    have hr0 := hr
    obtain ⟨hs, hcp, kf, kl, kc, kk, c, sz, m, y1, y2, r1, r2, hm, r3, r4⟩ := hr
    have hnb := tN_bd (b := b) hs.2.1
    have lt12 : ¬ (1200 : Int32) ≤ nI i := nI_ge (a := i) (b := 1200) (by omega) (by omega)
    by_cases hi9 : isS b E q 59 = true
    · rw [show pLs b E (n + 1) s q = (pLin b E s.1 s.2.1 s.2.2 (tN b E q)).bd (fun s2 q => pLs b E n s2 q) from if_pos hi9, lnC_eq y1.1.1 y1.1.2.1 y1.1.2.2.1 y1.1.2.2.2.1 y1.1.2.2.2.2.1 y1.1.2.2.2.2.2.1 y1.1.2.2.2.2.2.2.1 y1.1.2.2.2.2.2.2.2 y2.1.1 y2.1.2.1 y1.2.1.1 y1.2.1.2.2.1] at hR
      refine jj_iload (q := 56) dX2_parse_54 rfl rfl ?_
      refine jj_sipush (v := 1200) (q := 59) dX2_parse_56 rfl rfl ?_
      refine jj_icmp_ge (q := 62) (tgt := 87) dX2_parse_59 rfl rfl (fun h59 => absurd h59 (lt12)) (fun h59 => ?_)
      refine jj_aload_n (q := 63) dX2_parse_62 rfl rfl rfl ?_
      refine jj_bipush (v := 59) (q := 65) dX2_parse_63 rfl rfl ?_
      refine jj_cV1i (q := 68) dX2_parse_65 yk_X2_isSign ml_X2_65 hp.t0 (ex_isSign hp hb hs.2.1 hs.1 (c := 59) (by decide)) rfl rfl rfl ⟨Nat.zero_le _, Nat.zero_le _⟩ ?_
      refine jj_if_eq (q := 71) (tgt := 87) dX2_parse_68 rfl rfl (fun h68 => by exfalso; exact absurd ((if_pos hi9).symm.trans h68) (by decide)) (fun h68 => ?_)
      refine jj_aload_n (q := 72) dX2_parse_71 rfl rfl rfl ?_
      refine jj_cV0v (q := 75) dX2_parse_72 yk_X2_step ml_X2_58 hp.t0 (ct_step (d := d + 27) hp hb hs) rfl rfl rfl ⟨Nat.zero_le _, Nat.zero_le _⟩ ?_
      refine jj_aload_n (q := 76) dX2_parse_75 rfl rfl rfl ?_
      refine jj_aload_n (q := 77) dX2_parse_76 rfl rfl rfl ?_
      refine jj_aload_n (q := 78) dX2_parse_77 rfl rfl rfl ?_
      refine jj_tV2v (q := 81) dX2_parse_78 yk_X2_readLine ml_X2_69 hp.t0 (ct_line (d := d) hp hb hs.st hcp hd hpl hsa y1 y2 r1 r2 (by omega) r3 r4) rfl rfl rfl rfl ((fun e h => by rw [← hR, h]; rfl)) (fun x78 pp78 F78 P78 K78 t78 r78 h78 R78 => ?_)
      rw [h78, Res.bd_r] at hR
      dsimp only at hR
      refine jj_iinc (v := nI (i + 1)) (q := 84) dX2_parse_81 rfl (nI_incn i 1 rfl) (by decide) rfl ?_
      refine jj_goto (tgt := 54) dX2_parse_84 rfl ?_
      exact ih (i + 1) _ _ _ _ _ _ _ (by omega) R78 hR
    · rw [show pLs b E (n + 1) s q = .inr (s, q) from if_neg hi9] at hR
      refine jj_iload (q := 56) dX2_parse_54 rfl rfl ?_
      refine jj_sipush (v := 1200) (q := 59) dX2_parse_56 rfl rfl ?_
      refine jj_icmp_ge (q := 62) (tgt := 87) dX2_parse_59 rfl rfl (fun h59 => absurd h59 (lt12)) (fun h59 => ?_)
      refine jj_aload_n (q := 63) dX2_parse_62 rfl rfl rfl ?_
      refine jj_bipush (v := 59) (q := 65) dX2_parse_63 rfl rfl ?_
      refine jj_cV1i (q := 68) dX2_parse_65 yk_X2_isSign ml_X2_65 hp.t0 (ex_isSign hp hb hs.2.1 hs.1 (c := 59) (by decide)) rfl rfl rfl ⟨Nat.zero_le _, Nat.zero_le _⟩ ?_
      refine jj_if_eq (q := 71) (tgt := 87) dX2_parse_68 rfl rfl (fun h68 => ?_) (fun h68 => absurd (if_neg hi9) h68)
      exact cp_end hp hb hd hpl hsa hR hr0
theorem ct_parse (hp : hPa T R pa) (hb : pB_ C b E) (hd : hDj pa pl sa) (hpl : hPl T R pl) (hsa : hSt T R sa) (hF : F 2 = 0) (hcp : cP6 P) : Ex Γ (d + 32) Y_X2_parse [.ref pa, .int (nI E), .ref pl, .ref sa] (cM T R S I L D C pa pl sa F P K tk dr) (ec (eN (pTxt b E (rgX N 0 51 0) (clX0 X) H))) (es (eN (pTxt b E (rgX N 0 51 0) (clX0 X) H))) (rC (cM T R S I L D C pa pl sa) (pTxt b E (rgX N 0 51 0) (clX0 X) H) (fun _ => none) cEnd) := by
  have h12 := hb.1
  have hmin : (if Int32.ofNat 1200 < nI E then Int32.ofNat 1200 else nI E) = nI E := if_neg (nI_nlt (a := 1200) (b := E) (by omega) (by omega))
  generalize hR : pTxt b E (rgX N 0 51 0) (clX0 X) H = RES
  rw [pTxt_eq] at hR
  have hs : cSt b E 0 (cNx b E 0 (w1 (w1 (w1 (w1 F 0 0) 1 (-1)) 4 (nI E)) 5 0)) := ⟨cAt_nx rfl, Nat.zero_le _, rfl, rfl, hF⟩
  refine Ex.of (by decide) (by simp [Value.category]) (Nat.le_of_ble_eq_true rfl) rfl ?_
  refine jj_aload_n (q := 1) dX2_parse_0 rfl rfl rfl ?_
  refine jj_iconst (v := 0) (q := 2) dX2_parse_1 rfl rfl ?_
  refine jj_putIv (q := 5) dX2_parse_2 fl_X2_9 hp.t0 p2_wr rfl rfl rfl rfl rfl ?_
  refine jj_aload_n (q := 6) dX2_parse_5 rfl rfl rfl ?_
  refine jj_iconst (v := -1) (q := 7) dX2_parse_6 rfl rfl ?_
  refine jj_putIv (q := 10) dX2_parse_7 fl_X2_15 hp.t0 p2_wr rfl rfl rfl rfl rfl ?_
  refine jj_aload_n (q := 11) dX2_parse_10 rfl rfl rfl ?_
  refine jj_iload_n (q := 12) dX2_parse_11 rfl rfl rfl ?_
  refine jj_aload_n (q := 13) dX2_parse_12 rfl rfl rfl ?_
  refine jj_getR (q := 16) dX2_parse_13 fl_X2_21 hp.t0 hp.r0_3 rfl rfl rfl ?_
  refine jj_alen (q := 17) dX2_parse_16 hp.t1 (by decide) rfl rfl ?_
  refine jj_mmin (q := 20) dX2_parse_17 km_X2_44 rfl rfl ⟨Nat.zero_le _, Nat.zero_le _⟩ ?_
  rw [hmin]
  refine jj_putIv (q := 23) dX2_parse_20 fl_X2_25 hp.t0 p2_wr rfl rfl rfl rfl rfl ?_
  refine jj_aload_n (q := 24) dX2_parse_23 rfl rfl rfl ?_
  refine jj_iconst (v := 0) (q := 25) dX2_parse_24 rfl rfl ?_
  refine jj_putIv (q := 28) dX2_parse_25 fl_X2_28 hp.t0 p2_wr rfl rfl rfl rfl rfl ?_
  refine jj_aload_n (q := 29) dX2_parse_28 rfl rfl rfl ?_
  refine jj_lconst (v := 0) (q := 30) dX2_parse_29 rfl rfl ?_
  refine jj_putLv (q := 33) dX2_parse_30 fl_X2_40 hp.t0 cL_w rfl rfl rfl ?_
  refine jj_aload_n (q := 34) dX2_parse_33 rfl rfl rfl ?_
  refine jj_cV0v (q := 37) dX2_parse_34 yk_X3_clear ml_X2_50 hpl.t0 (ct_plclear hd hpl) rfl rfl rfl ⟨Nat.zero_le _, Nat.zero_le _⟩ ?_
  refine jj_aload_n (q := 38) dX2_parse_37 rfl rfl rfl ?_
  refine jj_cV0v (q := 41) dX2_parse_38 yk_X4_clear ml_X2_55 hsa.t0 (ct_sclear (d := d + 29) hd hsa) rfl rfl rfl ⟨Nat.zero_le _, Nat.zero_le _⟩ ?_
  refine jj_aload_n (q := 42) dX2_parse_41 rfl rfl rfl ?_
  refine jj_cV0v (q := 45) dX2_parse_42 yk_X2_step ml_X2_58 hp.t0 (ex_step (d := d + 27) hp hb (p := 0) (E := E) rfl (Nat.zero_le _) rfl) rfl rfl rfl ⟨Nat.zero_le _, Nat.zero_le _⟩ ?_
  refine jj_aload_n (q := 46) dX2_parse_45 rfl rfl rfl ?_
  refine jj_aload_n (q := 47) dX2_parse_46 rfl rfl rfl ?_
  refine jj_aload_n (q := 48) dX2_parse_47 rfl rfl rfl ?_
  refine jj_tV2v (q := 51) dX2_parse_48 yk_X2_readHeader ml_X2_61 hp.t0 (ct_head (d := d + 22) (X := X) (N := N) (H := H) hp hb hs (by exact hcp.cg (fun _ => rfl)) hd hpl hsa) rfl rfl rfl rfl ((fun e h => by rw [← hR, h]; rfl)) (fun x48 pp48 F48 P48 K48 t48 r48 h48 R48 => ?_)
  rw [h48, Res.bd_r] at hR
  dsimp only at hR
  refine jj_iconst (v := 0) (q := 52) dX2_parse_51 rfl rfl ?_
  refine jj_istore (q := 54) dX2_parse_52 (by decide) rfl ?_
  exact lp_cp hp hb hd hpl hsa 1200 0 _ _ _ _ _ _ _ (by omega) R48 hR
end B4
