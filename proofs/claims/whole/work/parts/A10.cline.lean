/-! LINES of the component -/
theorem pNum_g {b : Nat → Nat} {E lo hx p x q : Nat} (hp : p ≤ E) (h : pNum b E lo hx p = .inr (x, q)) : p ≤ q ∧ lo ≤ x ∧ x < hx := by
  have o := pNum_o h
  have n := tN_bd (b := b) hp
  have e : q = tN b E p := congrArg Prod.snd o.2.1
  refine ⟨by omega, o.2.2⟩
theorem pPos_g {b : Nat → Nat} {E hx p x q : Nat} {t : Nat → Bool} (hp : p ≤ E) (h : pPos b E t hx p = .inr (x, q)) : p ≤ q ∧ x < hx := by
  have := pNum_g hp (pPos_o h).1
  exact ⟨this.1, this.2.2⟩
section B0
variable {Γ : Gam} {d : Nat} {T : JT} {R S : JR} {I C P K : JI} {L : JL} {D : JD} {tk dr : Int64} {pa pl sa E p : Nat} {F : JV} {b : Nat → Nat} {N X : JV} {H : Nat → Tst} {kf kl kc kk c sz m : Nat}
theorem ct_flight (hp : hPa T R pa) (hb : pB_ C b E) (hs : cSt b E p F) (hcp : cP6 P) (hd : hDj pa pl sa) (hpl : hPl T R pl) (hsa : hSt T R sa) (y1 : yN N kf kl kc kk sz) (y2 : yX X kf c) (r1 : pPl N P kf kl kc) (r2 : pTe P H kk m) (hm : 2 * m ≤ p) (r3 : pSt0 X K dr kf c) (r4 : pTk N kf kl sz tk) (hf : kf < 8) : Ex Γ (d + 9) Y_X2_readFlight [.ref pa, .ref pl, .ref sa] (cM T R S I L D C pa pl sa F P K tk dr) (ec (eN ((pPos b E (fun v => tkn N kf kl (nI v)) sz p).bd (fun v1 q1 => (pNum b E 0 1000 q1).bd (fun v2 q2 => (pNum b E (v2 + 1) 2000 q2).bd (fun v3 q3 => .inr ((w1 (w1 N (15 + kf) (nI v1)) 12 (nI (kf + 1)), w1 (w1 X (5 + kf) (nI v2)) (13 + kf) (nI v3), H), q3)))) : Res PSt))) (es (eN ((pPos b E (fun v => tkn N kf kl (nI v)) sz p).bd (fun v1 q1 => (pNum b E 0 1000 q1).bd (fun v2 q2 => (pNum b E (v2 + 1) 2000 q2).bd (fun v3 q3 => .inr ((w1 (w1 N (15 + kf) (nI v1)) 12 (nI (kf + 1)), w1 (w1 X (5 + kf) (nI v2)) (13 + kf) (nI v3), H), q3)))) : Res PSt))) (rC (cM T R S I L D C pa pl sa) ((pPos b E (fun v => tkn N kf kl (nI v)) sz p).bd (fun v1 q1 => (pNum b E 0 1000 q1).bd (fun v2 q2 => (pNum b E (v2 + 1) 2000 q2).bd (fun v3 q3 => .inr ((w1 (w1 N (15 + kf) (nI v1)) 12 (nI (kf + 1)), w1 (w1 X (5 + kf) (nI v2)) (13 + kf) (nI v3), H), q3)))) : Res PSt) (fun _ => none) (cRl b E)) := by
  have hz4 := y1.2.1
  generalize hR : ((pPos b E (fun v => tkn N kf kl (nI v)) sz p).bd (fun v1 q1 => (pNum b E 0 1000 q1).bd (fun v2 q2 => (pNum b E (v2 + 1) 2000 q2).bd (fun v3 q3 => .inr ((w1 (w1 N (15 + kf) (nI v1)) 12 (nI (kf + 1)), w1 (w1 X (5 + kf) (nI v2)) (13 + kf) (nI v3), H), q3)))) : Res PSt) = RES
  refine Ex.of (by decide) (by simp [Value.category]) (Nat.le_of_ble_eq_true rfl) rfl ?_
  refine jj_aload_n (q := 1) dX2_readFlight_0 rfl rfl rfl ?_
  refine jj_aload_n (q := 2) dX2_readFlight_1 rfl rfl rfl ?_
  refine jj_tV1i (q := 5) dX2_readFlight_2 yk_X2_takePosition ml_X2_97 hp.t0 (ct_pos (d := d) hp hb hs hcp hd hpl (hx := sz) (r1.1.1.trans y1.2.1.1) (by have := y1.2.1; omega) (t := fun v => tkn N kf kl (nI v)) r4) rfl rfl rfl rfl ((fun e h => by rw [← hR, h]; rfl)) (fun x2 pp2 F2 P2 K2 t2 r2 h2 R2 => ?_)
  have g2 := pPos_g hs.2.1 h2
  obtain ⟨s2, rfl, rfl, rfl, rfl, _, _⟩ := R2
  rw [h2, Res.bd_r] at hR
  dsimp only at hR
  refine jj_istore_n (q := 6) dX2_readFlight_5 rfl (by decide) rfl ?_
  refine jj_aload_n (q := 7) dX2_readFlight_6 rfl rfl rfl ?_
  refine jj_iconst (v := 0) (q := 8) dX2_readFlight_7 rfl rfl ?_
  refine jj_sipush (v := 999) (q := 11) dX2_readFlight_8 rfl rfl ?_
  refine jj_tV2i (q := 14) dX2_readFlight_11 yk_X2_takeNumber ml_X2_91 hp.t0 (ct_num (d := d + 1) hp hb s2 hcp (lo := 0) (hx := 1000) rfl (by omega) (by omega)) rfl rfl rfl rfl ((fun e h => by rw [← hR, h]; rfl)) (fun x11 pp11 F11 P11 K11 t11 r11 h11 R11 => ?_)
  have g11 := pNum_g s2.2.1 h11
  obtain ⟨s11, rfl, rfl, rfl, rfl⟩ := R11
  rw [h11, Res.bd_r] at hR
  dsimp only at hR
  refine jj_istore (q := 16) dX2_readFlight_14 (by decide) rfl ?_
  refine jj_aload_n (q := 17) dX2_readFlight_16 rfl rfl rfl ?_
  refine jj_iload (q := 19) dX2_readFlight_17 rfl rfl ?_
  refine jj_iconst (v := 1) (q := 20) dX2_readFlight_19 rfl rfl ?_
  refine jj_iaddN (q := 21) (a := x11) (b := 1) dX2_readFlight_20 rfl rfl rfl ?_
  refine jj_sipush (v := 1999) (q := 24) dX2_readFlight_21 rfl rfl ?_
  refine jj_tV2i (q := 27) dX2_readFlight_24 yk_X2_takeNumber ml_X2_91 hp.t0 (ct_num (d := d + 1) hp hb s11 hcp (lo := (x11 + 1)) (hx := 2000) rfl (by omega) (by omega)) rfl rfl rfl rfl ((fun e h => by rw [← hR, h]; rfl)) (fun x24 pp24 F24 P24 K24 t24 r24 h24 R24 => ?_)
  have g24 := pNum_g s11.2.1 h24
  obtain ⟨s24, rfl, rfl, rfl, rfl⟩ := R24
  rw [h24, Res.bd_r] at hR
  dsimp only at hR
  subst hR
  refine jj_istore (q := 29) dX2_readFlight_27 (by decide) rfl ?_
  refine jj_aload_n (q := 30) dX2_readFlight_29 rfl rfl rfl ?_
  refine jj_getR (q := 33) dX2_readFlight_30 fl_X2_182 hpl.t0 hpl.r0_7 rfl rfl rfl ?_
  refine jj_aload_n (q := 34) dX2_readFlight_33 rfl rfl rfl ?_
  refine jj_getIw (v := nI kf) (q := 37) dX2_readFlight_34 fl_X2_76 hpl.t0 ((congrFun (c_p0 hd) _).trans r1.2.2.1.1) rfl rfl ?_
  refine jj_iload_n (q := 38) dX2_readFlight_37 rfl rfl rfl ?_
  refine jj_cN3v (q := 41) dX2_readFlight_38 yk_X8_put ml_X2_185 (ex_putv hpl.t4 ((c_pp hd (by decide)).trans (by rw [putI_nI hf (by omega)])) rfl) rfl rfl rfl ⟨Nat.zero_le _, Nat.zero_le _⟩ ?_
  refine jj_aload_n (q := 42) dX2_readFlight_41 rfl rfl rfl ?_
  refine jj_getR (q := 45) dX2_readFlight_42 fl_X2_189 hsa.t0 hsa.r0_5 rfl rfl rfl ?_
  refine jj_aload_n (q := 46) dX2_readFlight_45 rfl rfl rfl ?_
  refine jj_getIw (v := nI kf) (q := 49) dX2_readFlight_46 fl_X2_76 hpl.t0 ((congrFun (c_p0 hd) _).trans r1.2.2.1.1) rfl rfl ?_
  refine jj_iload (q := 51) dX2_readFlight_49 rfl rfl ?_
  refine jj_cN3v (q := 54) dX2_readFlight_51 yk_X8_put ml_X2_185 (ex_putv hsa.t9 ((c_sp hd (by decide)).trans (by rw [putI_nI hf (by omega)])) rfl) rfl rfl rfl ⟨Nat.zero_le _, Nat.zero_le _⟩ ?_
  refine jj_aload_n (q := 55) dX2_readFlight_54 rfl rfl rfl ?_
  refine jj_getR (q := 58) dX2_readFlight_55 fl_X2_192 hsa.t0 hsa.r0_6 rfl rfl rfl ?_
  refine jj_aload_n (q := 59) dX2_readFlight_58 rfl rfl rfl ?_
  refine jj_getIw (v := nI kf) (q := 62) dX2_readFlight_59 fl_X2_76 hpl.t0 ((congrFun (c_p0 hd) _).trans r1.2.2.1.1) rfl rfl ?_
  refine jj_iload (q := 64) dX2_readFlight_62 rfl rfl ?_
  refine jj_cN3v (q := 67) dX2_readFlight_64 yk_X8_put ml_X2_185 (ex_putv hsa.t10 ((c_sp hd (by decide)).trans (by rw [putI_nI hf (by omega)])) rfl) rfl rfl rfl ⟨Nat.zero_le _, Nat.zero_le _⟩ ?_
  refine jj_aload_n (q := 68) dX2_readFlight_67 rfl rfl rfl ?_
  refine jj_dup (q := 69) dX2_readFlight_68 rfl rfl ?_
  refine jj_getIw (v := nI kf) (q := 72) dX2_readFlight_69 fl_X2_76 hpl.t0 ((congrFun (c_p0 hd) _).trans r1.2.2.1.1) rfl rfl ?_
  refine jj_iconst (v := 1) (q := 73) dX2_readFlight_72 rfl rfl ?_
  refine jj_iaddN (q := 74) (a := kf) (b := 1) dX2_readFlight_73 rfl rfl rfl ?_
  refine jj_putIv (q := 77) dX2_readFlight_74 fl_X2_76 hpl.t0 (c_pw0 hd) rfl rfl rfl rfl rfl ?_
  refine jj_vret dX2_readFlight_77 rfl (Nat.zero_le _) (Nat.zero_le _) ?_
  refine ⟨rfl, _, _, _, _, _, ?_, rfl⟩
  exact ⟨s24, hcp.cg (fun _ => rfl), kf + 1, kl, kc, kk, c, sz, m, y1.fl hf g2.2, y2.fl hf g11.2.2 g24.2.2, r1.fl hf, r2.cg (fun _ => rfl) (fun _ => rfl) (fun _ => rfl) (fun _ => rfl), by omega, r3.fl hf y2.1.2.1, r4.fl hf y1.1.2.2.2.1 (by omega) g2.2⟩
theorem ct_lane (hp : hPa T R pa) (hb : pB_ C b E) (hs : cSt b E p F) (hcp : cP6 P) (hd : hDj pa pl sa) (hpl : hPl T R pl) (hsa : hSt T R sa) (y1 : yN N kf kl kc kk sz) (y2 : yX X kf c) (r1 : pPl N P kf kl kc) (r2 : pTe P H kk m) (hm : 2 * m ≤ p) (r3 : pSt0 X K dr kf c) (r4 : pTk N kf kl sz tk) (hl : kl < 4) : Ex Γ (d + 9) Y_X2_readLane [.ref pa, .ref pl] (cM T R S I L D C pa pl sa F P K tk dr) (ec (eN ((pPos b E (fun v => tkn N kf kl (nI v)) sz p).bd (fun v1 q1 => (pNum b E 1 21 q1).bd (fun v2 q2 => .inr ((w1 (w1 (w1 N (23 + kl) (nI v1)) (27 + kl) (nI v2)) 13 (nI (kl + 1)), X, H), q2))) : Res PSt))) (es (eN ((pPos b E (fun v => tkn N kf kl (nI v)) sz p).bd (fun v1 q1 => (pNum b E 1 21 q1).bd (fun v2 q2 => .inr ((w1 (w1 (w1 N (23 + kl) (nI v1)) (27 + kl) (nI v2)) 13 (nI (kl + 1)), X, H), q2))) : Res PSt))) (rC (cM T R S I L D C pa pl sa) ((pPos b E (fun v => tkn N kf kl (nI v)) sz p).bd (fun v1 q1 => (pNum b E 1 21 q1).bd (fun v2 q2 => .inr ((w1 (w1 (w1 N (23 + kl) (nI v1)) (27 + kl) (nI v2)) 13 (nI (kl + 1)), X, H), q2))) : Res PSt) (fun _ => none) (cRl b E)) := by
  have hz4 := y1.2.1
  generalize hR : ((pPos b E (fun v => tkn N kf kl (nI v)) sz p).bd (fun v1 q1 => (pNum b E 1 21 q1).bd (fun v2 q2 => .inr ((w1 (w1 (w1 N (23 + kl) (nI v1)) (27 + kl) (nI v2)) 13 (nI (kl + 1)), X, H), q2))) : Res PSt) = RES
  refine Ex.of (by decide) (by simp [Value.category]) (Nat.le_of_ble_eq_true rfl) rfl ?_
  refine jj_aload_n (q := 1) dX2_readLane_0 rfl rfl rfl ?_
  refine jj_aload_n (q := 2) dX2_readLane_1 rfl rfl rfl ?_
  refine jj_tV1i (q := 5) dX2_readLane_2 yk_X2_takePosition ml_X2_97 hp.t0 (ct_pos (d := d) hp hb hs hcp hd hpl (hx := sz) (r1.1.1.trans y1.2.1.1) (by have := y1.2.1; omega) (t := fun v => tkn N kf kl (nI v)) r4) rfl rfl rfl rfl ((fun e h => by rw [← hR, h]; rfl)) (fun x2 pp2 F2 P2 K2 t2 r2 h2 R2 => ?_)
  have g2 := pPos_g hs.2.1 h2
  obtain ⟨s2, rfl, rfl, rfl, rfl, _, _⟩ := R2
  rw [h2, Res.bd_r] at hR
  dsimp only at hR
  refine jj_istore_n (q := 6) dX2_readLane_5 rfl (by decide) rfl ?_
  refine jj_aload_n (q := 7) dX2_readLane_6 rfl rfl rfl ?_
  refine jj_iconst (v := 1) (q := 8) dX2_readLane_7 rfl rfl ?_
  refine jj_bipush (v := 20) (q := 10) dX2_readLane_8 rfl rfl ?_
  refine jj_tV2i (q := 13) dX2_readLane_10 yk_X2_takeNumber ml_X2_91 hp.t0 (ct_num (d := d + 1) hp hb s2 hcp (lo := 1) (hx := 21) rfl (by omega) (by omega)) rfl rfl rfl rfl ((fun e h => by rw [← hR, h]; rfl)) (fun x10 pp10 F10 P10 K10 t10 r10 h10 R10 => ?_)
  have g10 := pNum_g s2.2.1 h10
  obtain ⟨s10, rfl, rfl, rfl, rfl⟩ := R10
  rw [h10, Res.bd_r] at hR
  dsimp only at hR
  subst hR
  refine jj_istore_n (q := 14) dX2_readLane_13 rfl (by decide) rfl ?_
  refine jj_aload_n (q := 15) dX2_readLane_14 rfl rfl rfl ?_
  refine jj_getR (q := 18) dX2_readLane_15 fl_X2_195 hpl.t0 hpl.r0_9 rfl rfl rfl ?_
  refine jj_aload_n (q := 19) dX2_readLane_18 rfl rfl rfl ?_
  refine jj_getIw (v := nI kl) (q := 22) dX2_readLane_19 fl_X2_144 hpl.t0 ((congrFun (c_p0 hd) _).trans r1.2.2.1.2.1) rfl rfl ?_
  refine jj_iload_n (q := 23) dX2_readLane_22 rfl rfl rfl ?_
  refine jj_cN3v (q := 26) dX2_readLane_23 yk_X8_put ml_X2_185 (ex_putv hpl.t5 ((c_pp hd (by decide)).trans (by rw [putI_nI hl (by omega)])) rfl) rfl rfl rfl ⟨Nat.zero_le _, Nat.zero_le _⟩ ?_
  refine jj_aload_n (q := 27) dX2_readLane_26 rfl rfl rfl ?_
  refine jj_getR (q := 30) dX2_readLane_27 fl_X2_198 hpl.t0 hpl.r0_10 rfl rfl rfl ?_
  refine jj_aload_n (q := 31) dX2_readLane_30 rfl rfl rfl ?_
  refine jj_getIw (v := nI kl) (q := 34) dX2_readLane_31 fl_X2_144 hpl.t0 ((congrFun (c_p0 hd) _).trans r1.2.2.1.2.1) rfl rfl ?_
  refine jj_iload_n (q := 35) dX2_readLane_34 rfl rfl rfl ?_
  refine jj_cN3v (q := 38) dX2_readLane_35 yk_X8_put ml_X2_185 (ex_putv hpl.t6 ((c_pp hd (by decide)).trans (by rw [putI_nI hl (by omega)])) rfl) rfl rfl rfl ⟨Nat.zero_le _, Nat.zero_le _⟩ ?_
  refine jj_aload_n (q := 39) dX2_readLane_38 rfl rfl rfl ?_
  refine jj_dup (q := 40) dX2_readLane_39 rfl rfl ?_
  refine jj_getIw (v := nI kl) (q := 43) dX2_readLane_40 fl_X2_144 hpl.t0 ((congrFun (c_p0 hd) _).trans r1.2.2.1.2.1) rfl rfl ?_
  refine jj_iconst (v := 1) (q := 44) dX2_readLane_43 rfl rfl ?_
  refine jj_iaddN (q := 45) (a := kl) (b := 1) dX2_readLane_44 rfl rfl rfl ?_
  refine jj_putIv (q := 48) dX2_readLane_45 fl_X2_144 hpl.t0 (c_pw0 hd) rfl rfl rfl rfl rfl ?_
  refine jj_vret dX2_readLane_48 rfl (Nat.zero_le _) (Nat.zero_le _) ?_
  refine ⟨rfl, _, _, _, _, _, ⟨s10, fun l h4 => ?_, kf, kl + 1, kc, kk, c, sz, m, y1.la hl g2.2 g10.2.2, y2, r1.la hl y1.1.2.1, r2.cg (fun _ => rfl) (fun _ => rfl) (fun _ => rfl) (fun _ => rfl), by omega, r3, r4.la hl y1.1.2.1 (by omega) g2.2⟩, rfl⟩
  by_cases h9 : l = kl
  · exact ⟨x10, by omega, by simp [u2, h9]⟩
  · obtain ⟨n9, h1, h2⟩ := hcp l h4
    exact ⟨n9, h1, by simpa [u2, h9] using h2⟩
theorem ct_shift (hp : hPa T R pa) (hb : pB_ C b E) (hs : cSt b E p F) (hcp : cP6 P) (hd : hDj pa pl sa) (hpl : hPl T R pl) (hsa : hSt T R sa) (y1 : yN N kf kl kc kk sz) (y2 : yX X kf c) (r1 : pPl N P kf kl kc) (r2 : pTe P H kk m) (hm : 2 * m ≤ p) (r3 : pSt0 X K dr kf c) (r4 : pTk N kf kl sz tk) (hc : kc < 4) : Ex Γ (d + 9) Y_X2_readShift [.ref pa, .ref pl] (cM T R S I L D C pa pl sa F P K tk dr) (ec (eN ((pNum b E 1 4 p).bd (fun v1 q1 => (pNum b E 0 4 q1).bd (fun v2 q2 => (pNum b E 0 1000 q2).bd (fun v3 q3 => (pNum b E v3 2000 q3).bd (fun v4 q4 => .inr ((w1 (w1 (w1 (w1 (w1 N (35 + 4 * kc) (nI v1 - 1)) (35 + 4 * kc + 1) (nI v2)) (35 + 4 * kc + 2) (nI v3)) (35 + 4 * kc + 3) (nI v4)) 34 (nI (kc + 1)), X, H), q4))))) : Res PSt))) (es (eN ((pNum b E 1 4 p).bd (fun v1 q1 => (pNum b E 0 4 q1).bd (fun v2 q2 => (pNum b E 0 1000 q2).bd (fun v3 q3 => (pNum b E v3 2000 q3).bd (fun v4 q4 => .inr ((w1 (w1 (w1 (w1 (w1 N (35 + 4 * kc) (nI v1 - 1)) (35 + 4 * kc + 1) (nI v2)) (35 + 4 * kc + 2) (nI v3)) (35 + 4 * kc + 3) (nI v4)) 34 (nI (kc + 1)), X, H), q4))))) : Res PSt))) (rC (cM T R S I L D C pa pl sa) ((pNum b E 1 4 p).bd (fun v1 q1 => (pNum b E 0 4 q1).bd (fun v2 q2 => (pNum b E 0 1000 q2).bd (fun v3 q3 => (pNum b E v3 2000 q3).bd (fun v4 q4 => .inr ((w1 (w1 (w1 (w1 (w1 N (35 + 4 * kc) (nI v1 - 1)) (35 + 4 * kc + 1) (nI v2)) (35 + 4 * kc + 2) (nI v3)) (35 + 4 * kc + 3) (nI v4)) 34 (nI (kc + 1)), X, H), q4))))) : Res PSt) (fun _ => none) (cRl b E)) := by
  have hz4 := y1.2.1
  generalize hR : ((pNum b E 1 4 p).bd (fun v1 q1 => (pNum b E 0 4 q1).bd (fun v2 q2 => (pNum b E 0 1000 q2).bd (fun v3 q3 => (pNum b E v3 2000 q3).bd (fun v4 q4 => .inr ((w1 (w1 (w1 (w1 (w1 N (35 + 4 * kc) (nI v1 - 1)) (35 + 4 * kc + 1) (nI v2)) (35 + 4 * kc + 2) (nI v3)) (35 + 4 * kc + 3) (nI v4)) 34 (nI (kc + 1)), X, H), q4))))) : Res PSt) = RES
  refine Ex.of (by decide) (by simp [Value.category]) (Nat.le_of_ble_eq_true rfl) rfl ?_
  refine jj_aload_n (q := 1) dX2_readShift_0 rfl rfl rfl ?_
  refine jj_iconst (v := 1) (q := 2) dX2_readShift_1 rfl rfl ?_
  refine jj_iconst (v := 3) (q := 3) dX2_readShift_2 rfl rfl ?_
  refine jj_tV2i (q := 6) dX2_readShift_3 yk_X2_takeNumber ml_X2_91 hp.t0 (ct_num (d := d + 1) hp hb hs hcp (lo := 1) (hx := 4) rfl (by omega) (by omega)) rfl rfl rfl rfl ((fun e h => by rw [← hR, h]; rfl)) (fun x3 pp3 F3 P3 K3 t3 r3 h3 R3 => ?_)
  have g3 := pNum_g hs.2.1 h3
  obtain ⟨s3, rfl, rfl, rfl, rfl⟩ := R3
  rw [h3, Res.bd_r] at hR
  dsimp only at hR
  refine jj_istore_n (q := 7) dX2_readShift_6 rfl (by decide) rfl ?_
  refine jj_aload_n (q := 8) dX2_readShift_7 rfl rfl rfl ?_
  refine jj_iconst (v := 0) (q := 9) dX2_readShift_8 rfl rfl ?_
  refine jj_iconst (v := 3) (q := 10) dX2_readShift_9 rfl rfl ?_
  refine jj_tV2i (q := 13) dX2_readShift_10 yk_X2_takeNumber ml_X2_91 hp.t0 (ct_num (d := d + 1) hp hb s3 hcp (lo := 0) (hx := 4) rfl (by omega) (by omega)) rfl rfl rfl rfl ((fun e h => by rw [← hR, h]; rfl)) (fun x10 pp10 F10 P10 K10 t10 r10 h10 R10 => ?_)
  have g10 := pNum_g s3.2.1 h10
  obtain ⟨s10, rfl, rfl, rfl, rfl⟩ := R10
  rw [h10, Res.bd_r] at hR
  dsimp only at hR
  refine jj_istore_n (q := 14) dX2_readShift_13 rfl (by decide) rfl ?_
  refine jj_aload_n (q := 15) dX2_readShift_14 rfl rfl rfl ?_
  refine jj_iconst (v := 0) (q := 16) dX2_readShift_15 rfl rfl ?_
  refine jj_sipush (v := 999) (q := 19) dX2_readShift_16 rfl rfl ?_
  refine jj_tV2i (q := 22) dX2_readShift_19 yk_X2_takeNumber ml_X2_91 hp.t0 (ct_num (d := d + 1) hp hb s10 hcp (lo := 0) (hx := 1000) rfl (by omega) (by omega)) rfl rfl rfl rfl ((fun e h => by rw [← hR, h]; rfl)) (fun x19 pp19 F19 P19 K19 t19 r19 h19 R19 => ?_)
  have g19 := pNum_g s10.2.1 h19
  obtain ⟨s19, rfl, rfl, rfl, rfl⟩ := R19
  rw [h19, Res.bd_r] at hR
  dsimp only at hR
  refine jj_istore (q := 24) dX2_readShift_22 (by decide) rfl ?_
  refine jj_aload_n (q := 25) dX2_readShift_24 rfl rfl rfl ?_
  refine jj_iload (q := 27) dX2_readShift_25 rfl rfl ?_
  refine jj_sipush (v := 1999) (q := 30) dX2_readShift_27 rfl rfl ?_
  refine jj_tV2i (q := 33) dX2_readShift_30 yk_X2_takeNumber ml_X2_91 hp.t0 (ct_num (d := d + 1) hp hb s19 hcp (lo := x19) (hx := 2000) rfl (by omega) (by omega)) rfl rfl rfl rfl ((fun e h => by rw [← hR, h]; rfl)) (fun x30 pp30 F30 P30 K30 t30 r30 h30 R30 => ?_)
  have g30 := pNum_g s19.2.1 h30
  obtain ⟨s30, rfl, rfl, rfl, rfl⟩ := R30
  rw [h30, Res.bd_r] at hR
  dsimp only at hR
  subst hR
  refine jj_istore (q := 35) dX2_readShift_33 (by decide) rfl ?_
  refine jj_aload_n (q := 36) dX2_readShift_35 rfl rfl rfl ?_
  refine jj_getR (q := 39) dX2_readShift_36 fl_X2_211 hpl.t0 hpl.r0_12 rfl rfl rfl ?_
  refine jj_aload_n (q := 40) dX2_readShift_39 rfl rfl rfl ?_
  refine jj_getIw (v := nI kc) (q := 43) dX2_readShift_40 fl_X2_158 hpl.t0 ((congrFun (c_p0 hd) _).trans r1.2.2.1.2.2) rfl rfl ?_
  refine jj_iload_n (q := 44) dX2_readShift_43 rfl rfl rfl ?_
  refine jj_cN3v (q := 47) dX2_readShift_44 yk_X8_put ml_X2_185 (ex_putv hpl.t7 ((c_pp hd (by decide)).trans (by rw [putI_nI hc (by omega)])) rfl) rfl rfl rfl ⟨Nat.zero_le _, Nat.zero_le _⟩ ?_
  refine jj_aload_n (q := 48) dX2_readShift_47 rfl rfl rfl ?_
  refine jj_getR (q := 51) dX2_readShift_48 fl_X2_214 hpl.t0 hpl.r0_13 rfl rfl rfl ?_
  refine jj_aload_n (q := 52) dX2_readShift_51 rfl rfl rfl ?_
  refine jj_getIw (v := nI kc) (q := 55) dX2_readShift_52 fl_X2_158 hpl.t0 ((congrFun (c_p0 hd) _).trans r1.2.2.1.2.2) rfl rfl ?_
  refine jj_iload_n (q := 56) dX2_readShift_55 rfl rfl rfl ?_
  refine jj_cN3v (q := 59) dX2_readShift_56 yk_X8_put ml_X2_185 (ex_putv hpl.t8 ((c_pp hd (by decide)).trans (by rw [putI_nI hc (by omega)])) rfl) rfl rfl rfl ⟨Nat.zero_le _, Nat.zero_le _⟩ ?_
  refine jj_aload_n (q := 60) dX2_readShift_59 rfl rfl rfl ?_
  refine jj_getR (q := 63) dX2_readShift_60 fl_X2_217 hpl.t0 hpl.r0_14 rfl rfl rfl ?_
  refine jj_aload_n (q := 64) dX2_readShift_63 rfl rfl rfl ?_
  refine jj_getIw (v := nI kc) (q := 67) dX2_readShift_64 fl_X2_158 hpl.t0 ((congrFun (c_p0 hd) _).trans r1.2.2.1.2.2) rfl rfl ?_
  refine jj_iload (q := 69) dX2_readShift_67 rfl rfl ?_
  refine jj_cN3v (q := 72) dX2_readShift_69 yk_X8_put ml_X2_185 (ex_putv hpl.t9 ((c_pp hd (by decide)).trans (by rw [putI_nI hc (by omega)])) rfl) rfl rfl rfl ⟨Nat.zero_le _, Nat.zero_le _⟩ ?_
  refine jj_aload_n (q := 73) dX2_readShift_72 rfl rfl rfl ?_
  refine jj_getR (q := 76) dX2_readShift_73 fl_X2_220 hpl.t0 hpl.r0_15 rfl rfl rfl ?_
  refine jj_aload_n (q := 77) dX2_readShift_76 rfl rfl rfl ?_
  refine jj_getIw (v := nI kc) (q := 80) dX2_readShift_77 fl_X2_158 hpl.t0 ((congrFun (c_p0 hd) _).trans r1.2.2.1.2.2) rfl rfl ?_
  refine jj_iload (q := 82) dX2_readShift_80 rfl rfl ?_
  refine jj_cN3v (q := 85) dX2_readShift_82 yk_X8_put ml_X2_185 (ex_putv hpl.t10 ((c_pp hd (by decide)).trans (by rw [putI_nI hc (by omega)])) rfl) rfl rfl rfl ⟨Nat.zero_le _, Nat.zero_le _⟩ ?_
  refine jj_aload_n (q := 86) dX2_readShift_85 rfl rfl rfl ?_
  refine jj_dup (q := 87) dX2_readShift_86 rfl rfl ?_
  refine jj_getIw (v := nI kc) (q := 90) dX2_readShift_87 fl_X2_158 hpl.t0 ((congrFun (c_p0 hd) _).trans r1.2.2.1.2.2) rfl rfl ?_
  refine jj_iconst (v := 1) (q := 91) dX2_readShift_90 rfl rfl ?_
  refine jj_iaddN (q := 92) (a := kc) (b := 1) dX2_readShift_91 rfl rfl rfl ?_
  refine jj_putIv (q := 95) dX2_readShift_92 fl_X2_158 hpl.t0 (c_pw0 hd) rfl rfl rfl rfl rfl ?_
  refine jj_vret dX2_readShift_95 rfl (Nat.zero_le _) (Nat.zero_le _) ?_
  refine ⟨rfl, _, _, _, _, _, ?_, rfl⟩
  exact ⟨s30, hcp.cg (fun _ => rfl), kf, kl, kc + 1, kk, c, sz, m, y1.sh hc, y2, r1.sh hc y1.1.2.1 y1.1.2.2.2.1, r2.cg (fun _ => rfl) (fun _ => rfl) (fun _ => rfl) (fun _ => rfl), by omega, r3, r4.cg (fun j hj => sh_e j (by omega)) y1.1.2.1 y1.1.2.2.2.1⟩
theorem ct_addGroup (hd : hDj pa pl sa) (hsa : hSt T R sa) {t f : Int32} {k : Nat} (hc : K 1 0 = nI c) (hck : c + k ≤ 100) : Ex Γ (d + 1) Y_X0_addGroup [.ref (sa + 1), .int t, .int (nI k), .int f] (cM T R S I L D C pa pl sa F P K tk dr) 0 0 (rV (cM T R S I L D C pa pl sa F P (kAds t f k c K) tk dr)) := by
  have h := ex_addGroup (Γ := Γ) (d := d) (T := T) (R := R) (S := S) (I := blk 2 (blk 16 I pl P) pa (st C 0 F)) (K := K) (L := cL L pa sa tk dr) (D := D) (z := none) (t := t) (f := f) (k := k) hsa hc hck
  rw [← c_S hd, ← c_S hd] at h
  exact h
theorem ct_bags (hp : hPa T R pa) (hb : pB_ C b E) (hs : cSt b E p F) (hcp : cP6 P) (hd : hDj pa pl sa) (hpl : hPl T R pl) (hsa : hSt T R sa) (y1 : yN N kf kl kc kk sz) (y2 : yX X kf c) (r1 : pPl N P kf kl kc) (r2 : pTe P H kk m) (hm : 2 * m ≤ p) (r3 : pSt0 X K dr kf c) (r4 : pTk N kf kl sz tk)  : Ex Γ (d + 9) Y_X2_readBags [.ref pa, .ref pl, .ref sa] (cM T R S I L D C pa pl sa F P K tk dr) (ec (eN ((pNum b E 0 1000 p).bd (fun v1 q1 => (pNum b E 1 (101 - c) q1).bd (fun v2 q2 => (pNum b E 0 kf q2).bd (fun v3 q3 => .inr ((N, mAd (nI v1) (nI v3) v2 c X, H), q3)))) : Res PSt))) (es (eN ((pNum b E 0 1000 p).bd (fun v1 q1 => (pNum b E 1 (101 - c) q1).bd (fun v2 q2 => (pNum b E 0 kf q2).bd (fun v3 q3 => .inr ((N, mAd (nI v1) (nI v3) v2 c X, H), q3)))) : Res PSt))) (rC (cM T R S I L D C pa pl sa) ((pNum b E 0 1000 p).bd (fun v1 q1 => (pNum b E 1 (101 - c) q1).bd (fun v2 q2 => (pNum b E 0 kf q2).bd (fun v3 q3 => .inr ((N, mAd (nI v1) (nI v3) v2 c X, H), q3)))) : Res PSt) (fun _ => none) (cRl b E)) := by
  have hz4 := y1.2.1
  generalize hR : ((pNum b E 0 1000 p).bd (fun v1 q1 => (pNum b E 1 (101 - c) q1).bd (fun v2 q2 => (pNum b E 0 kf q2).bd (fun v3 q3 => .inr ((N, mAd (nI v1) (nI v3) v2 c X, H), q3)))) : Res PSt) = RES
  have hcc := y2.1.2.1
  have hh : nI (100 - c) = nI (101 - c) - 1 := by
    rw [show 101 - c = 100 - c + 1 by omega, nI_succ]
    simp
  refine Ex.of (by decide) (by simp [Value.category]) (Nat.le_of_ble_eq_true rfl) rfl ?_
  refine jj_aload_n (q := 1) dX2_readBags_0 rfl rfl rfl ?_
  refine jj_iconst (v := 0) (q := 2) dX2_readBags_1 rfl rfl ?_
  refine jj_sipush (v := 999) (q := 5) dX2_readBags_2 rfl rfl ?_
  refine jj_tV2i (q := 8) dX2_readBags_5 yk_X2_takeNumber ml_X2_91 hp.t0 (ct_num (d := d + 1) hp hb hs hcp (lo := 0) (hx := 1000) rfl (by omega) (by omega)) rfl rfl rfl rfl ((fun e h => by rw [← hR, h]; rfl)) (fun x5 pp5 F5 P5 K5 t5 r5 h5 R5 => ?_)
  have g5 := pNum_g hs.2.1 h5
  obtain ⟨s5, rfl, rfl, rfl, rfl⟩ := R5
  rw [h5, Res.bd_r] at hR
  dsimp only at hR
  refine jj_istore_n (q := 9) dX2_readBags_8 rfl (by decide) rfl ?_
  refine jj_aload_n (q := 10) dX2_readBags_9 rfl rfl rfl ?_
  refine jj_iconst (v := 1) (q := 11) dX2_readBags_10 rfl rfl ?_
  refine jj_bipush (v := 100) (q := 13) dX2_readBags_11 rfl rfl ?_
  refine jj_aload_n (q := 14) dX2_readBags_13 rfl rfl rfl ?_
  refine jj_getR (q := 17) dX2_readBags_14 fl_X2_201 hsa.t0 hsa.r0_4 rfl rfl rfl ?_
  refine jj_getIw (v := nI c) (q := 20) dX2_readBags_17 fl_X2_204 hsa.t1 (by rw [c_s hd (by decide)]; exact r3.1.2.2.2.2.1) rfl rfl ?_
  refine jj_isubN (q := 21) (e := 100 - c) (a := 100) (b := c) dX2_readBags_20 rfl rfl (by omega) rfl ?_
  refine jj_tV2i (q := 24) dX2_readBags_21 yk_X2_takeNumber ml_X2_91 hp.t0 (ct_num (d := d + 1) hp hb s5 hcp (lo := 1) (hx := (101 - c)) hh (by omega) (by omega)) rfl rfl rfl rfl ((fun e h => by rw [← hR, h]; rfl)) (fun x21 pp21 F21 P21 K21 t21 r21 h21 R21 => ?_)
  have g21 := pNum_g s5.2.1 h21
  obtain ⟨s21, rfl, rfl, rfl, rfl⟩ := R21
  rw [h21, Res.bd_r] at hR
  dsimp only at hR
  refine jj_istore (q := 26) dX2_readBags_24 (by decide) rfl ?_
  refine jj_aload_n (q := 27) dX2_readBags_26 rfl rfl rfl ?_
  refine jj_iconst (v := 0) (q := 28) dX2_readBags_27 rfl rfl ?_
  refine jj_aload_n (q := 29) dX2_readBags_28 rfl rfl rfl ?_
  refine jj_getIw (v := nI kf) (q := 32) dX2_readBags_29 fl_X2_76 hpl.t0 (by rw [c_p0 hd]; exact r1.2.2.1.1) rfl rfl ?_
  refine jj_iconst (v := 1) (q := 33) dX2_readBags_32 rfl rfl ?_
  refine jj_isub (q := 34) dX2_readBags_33 rfl ?_
  refine jj_tV2i (q := 37) dX2_readBags_34 yk_X2_takeNumber ml_X2_91 hp.t0 (ct_num (d := d + 1) hp hb s21 hcp (lo := 0) (hx := kf) rfl (by omega) (by have := y1.1; omega)) rfl rfl rfl rfl ((fun e h => by rw [← hR, h]; rfl)) (fun x34 pp34 F34 P34 K34 t34 r34 h34 R34 => ?_)
  have g34 := pNum_g s21.2.1 h34
  obtain ⟨s34, rfl, rfl, rfl, rfl⟩ := R34
  rw [h34, Res.bd_r] at hR
  dsimp only at hR
  subst hR
  refine jj_istore (q := 39) dX2_readBags_37 (by decide) rfl ?_
  refine jj_aload_n (q := 40) dX2_readBags_39 rfl rfl rfl ?_
  refine jj_getR (q := 43) dX2_readBags_40 fl_X2_201 hsa.t0 hsa.r0_4 rfl rfl rfl ?_
  refine jj_iload_n (q := 44) dX2_readBags_43 rfl rfl rfl ?_
  refine jj_iload (q := 46) dX2_readBags_44 rfl rfl ?_
  refine jj_iload (q := 48) dX2_readBags_46 rfl rfl ?_
  refine jj_cV3v (q := 51) dX2_readBags_48 yk_X0_addGroup ml_X2_207 hsa.t1 (ct_addGroup (d := d + 7) hd hsa (t := nI x5) (f := nI x34) (k := x21) r3.1.2.2.2.2.1 (by omega)) rfl rfl rfl ⟨Nat.zero_le _, Nat.zero_le _⟩ ?_
  refine jj_vret dX2_readBags_51 rfl (Nat.zero_le _) (Nat.zero_le _) ?_
  have hbs := bs_all (dr := dr) y1.1.2.1 g5.2.2 g34.2.2 x21 c X _ (by omega) y2 r3
  refine ⟨rfl, _, _, _, _, _, ?_, rfl⟩
  exact ⟨s34, hcp, kf, kl, kc, kk, c + x21, sz, m, y1, hbs.1, r1, r2, by omega, hbs.2, r4⟩
end B0
