/-! KEPT BAGS, LOADED SHARES -/
theorem mHB_1 {H : Nat → JV → Nat → Bool} {Q X : JV} {b : Nat} (h : ¬ mHB H Q X b = 0) : 1 = mHB H Q X b := by
  unfold mHB srch at h ⊢
  split at h
  · rename_i g; rw [if_pos g]
  · exact absurd rfl h
/-- a share as a float -/
def shF (l a : Nat) : UInt32 := if nI a = 0 then FP.fconst0 else FP.fdiv (FP.i2f (nI l)) (FP.i2f (nI a))
theorem shF_ok {l a : Nat} (hl : l ≤ 100) (ha : a ≤ 100) (h : ¬ nI a = 0) : vf_n32 (FP.fdiv (FP.i2f (nI l)) (FP.i2f (nI a))) := by
  have h0 : a ≠ 0 := fun e => h (by rw [e]; rfl)
  have := (fd_ok (a - 1) (by omega) l (by omega)).1
  rw [show a - 1 + 1 = a by omega] at this
  exact this
theorem shF_d {l a : Nat} (hl : l ≤ 100) (ha : a ≤ 100) : vf_n64 (FP.f2d (shF l a)) := by
  unfold shF
  by_cases h : nI a = 0
  · rw [if_pos h]; unfold vf_n64; decide +kernel
  · rw [if_neg h]
    have h0 : a ≠ 0 := fun e => h (by rw [e]; rfl)
    have := (fd_ok (a - 1) (by omega) l (by omega)).2
    rw [show a - 1 + 1 = a by omega] at this
    exact this
section M66
variable {Γ : Gam} {d : Nat} {T : JT} {R S : JR} {I A : JI} {L : JL} {D : JD} {z : Option Nat} {mo u : Nat} {X Y Q V : JV} {H : Nat → JV → Nat → Bool}
theorem ex_misKept_no (hm : hMo T S mo) {b : Int32} (hok : mOk A (inI b 0 (X 2 - 1)) = 0) : Ex Γ (d + 26) Y_X9_isKept [.ref mo, .int b] (T, R, S, blk 18 I mo (st A 4 X), L, D, z) 0 0 (rI 0 (T, R, S, blk 18 I mo (st (tA A (tI A (inI b 0 (X 2 - 1)))) 4 X), L, D, z)) := by
  refine Ex.of (by decide) (by simp [Value.category]) (Nat.le_of_ble_eq_true rfl) rfl ?_
  refine jj_aload_n (q := 1) dX9_isKept_0 rfl rfl rfl ?_
  refine jj_aload_n (q := 2) dX9_isKept_1 rfl rfl rfl ?_
  refine jj_iload_n (q := 3) dX9_isKept_2 rfl rfl rfl ?_
  refine jj_cV1i (q := 6) dX9_isKept_3 yk_X9_isBag ml_X9_350 hm.t0 (ex_isBag hm) rfl rfl rfl ⟨Nat.zero_le _, Nat.zero_le _⟩ ?_
  refine jj_cV1i (q := 9) dX9_isKept_6 yk_X9_mayAsk ml_X9_353 hm.t0 (ex_mayAsk hm) rfl rfl rfl ⟨Nat.zero_le _, Nat.zero_le _⟩ ?_
  refine jj_if_eq (q := 12) (tgt := 28) dX9_isKept_9 rfl rfl (fun h9 => ?_) (fun h9 => absurd (hok) h9)
  refine jj_iconst (v := 0) (q := 29) dX9_isKept_28 rfl rfl ?_
  refine jj_zret dX9_isKept_29 rfl (by first | rfl | assumption) (Nat.zero_le _) (Nat.zero_le _) ?_
  exact ⟨rfl, rfl⟩
theorem ex_misKept_ok (hm : hMo T S mo) {n : Nat} (hb : n < 100) (hQ : mQ Q) (hA : A 2 = Q) (hn : hN A H Q) (hX : mI X) (hok : ¬ mOk A (inI (nI n) 0 (X 2 - 1)) = 0) : Ex Γ (d + 26) Y_X9_isKept [.ref mo, .int (nI n)] (T, R, S, blk 18 I mo (st A 4 X), L, D, z) 0 0 (rIV (mHB H Q X n) (fun V => (T, R, S, blk 18 I mo (st (av (tA A (tI A (inI (nI n) 0 (X 2 - 1)))) V) 4 X), L, D, z))) := by
  have e := ex_mHB (Γ := Γ) (d := d) (T := T) (R := R) (S := S) (I := I) (A := tA A (tI A (inI (nI n) 0 (X 2 - 1)))) (L := L) (D := D) (z := z) (u := 4) (X := X) (V := fun _ => (tA A (tI A (inI (nI n) 0 (X 2 - 1)))) 0 28) hm u44 hQ (show (tA A (tI A (inI (nI n) 0 (X 2 - 1)))) 2 = Q from hA) (hn.cg rfl rfl rfl rfl) hX hb
  rw [av_self] at e
  refine Ex.of (by decide) (by simp [Value.category]) (Nat.le_of_ble_eq_true rfl) rfl ?_
  refine jj_aload_n (q := 1) dX9_isKept_0 rfl rfl rfl ?_
  refine jj_aload_n (q := 2) dX9_isKept_1 rfl rfl rfl ?_
  refine jj_iload_n (q := 3) dX9_isKept_2 rfl rfl rfl ?_
  refine jj_cV1i (q := 6) dX9_isKept_3 yk_X9_isBag ml_X9_350 hm.t0 (ex_isBag hm) rfl rfl rfl ⟨Nat.zero_le _, Nat.zero_le _⟩ ?_
  refine jj_cV1i (q := 9) dX9_isKept_6 yk_X9_mayAsk ml_X9_353 hm.t0 (ex_mayAsk hm) rfl rfl rfl ⟨Nat.zero_le _, Nat.zero_le _⟩ ?_
  refine jj_if_eq (q := 12) (tgt := 28) dX9_isKept_9 rfl rfl (fun h9 => absurd h9 (hok)) (fun h9 => ?_)
  refine jj_aload_n (q := 13) dX9_isKept_12 rfl rfl rfl ?_
  refine jj_aload_n (q := 14) dX9_isKept_13 rfl rfl rfl ?_
  refine jj_getS (q := 17) dX9_isKept_14 fl_X9_23 hm.t0 hm.r0_12 rfl rfl rfl ?_
  refine jj_iload_n (q := 18) dX9_isKept_17 rfl rfl rfl ?_
  refine jj_eV2i (q := 21) dX9_isKept_18 yk_X9_isHeldBack ml_X9_304 hm.t0 e rfl rfl rfl ⟨Nat.zero_le _, Nat.zero_le _⟩ (fun V => ?_)
  refine jj_if_eq (q := 24) (tgt := 28) dX9_isKept_21 rfl rfl (fun h21 => ?_) (fun h21 => ?_)
  · refine jj_iconst (v := 0) (q := 29) dX9_isKept_28 rfl rfl ?_
    refine jj_zret dX9_isKept_29 rfl (by first | rfl | assumption) (Nat.zero_le _) (Nat.zero_le _) ?_
    exact ⟨V, by rw [h21], rfl⟩
  · refine jj_iconst (v := 1) (q := 25) dX9_isKept_24 rfl rfl ?_
    refine jj_goto (tgt := 29) dX9_isKept_25 rfl ?_
    refine jj_zret dX9_isKept_29 rfl (by first | rfl | assumption) (Nat.zero_le _) (Nat.zero_le _) ?_
    exact ⟨V, by rw [← mHB_1 h21], rfl⟩
theorem ex_mloadedShare_no (hm : hMo T S mo) {b : Int32} (hok : mOk A (inI b 0 (A 2 12 - 1)) = 0) : Ex Γ (d + 3) Y_X9_loadedShare [.ref mo, .int b] (T, R, S, blk 18 I mo (st A 4 X), L, D, z) 0 0 (rF FP.fconst0 (T, R, S, blk 18 I mo (st (tA A (tI A (inI b 0 (A 2 12 - 1)))) 4 X), L, D, z)) := by
  refine Ex.of (by decide) (by simp [Value.category]) (Nat.le_of_ble_eq_true rfl) rfl ?_
  refine jj_aload_n (q := 1) dX9_loadedShare_0 rfl rfl rfl ?_
  refine jj_aload_n (q := 2) dX9_loadedShare_1 rfl rfl rfl ?_
  refine jj_iload_n (q := 3) dX9_loadedShare_2 rfl rfl rfl ?_
  refine jj_cV1i (q := 6) dX9_loadedShare_3 yk_X9_isFlight ml_X9_373 hm.t0 (ex_isFlight hm) rfl rfl rfl ⟨Nat.zero_le _, Nat.zero_le _⟩ ?_
  refine jj_cV1i (q := 9) dX9_loadedShare_6 yk_X9_mayAsk ml_X9_353 hm.t0 (ex_mayAsk hm) rfl rfl rfl ⟨Nat.zero_le _, Nat.zero_le _⟩ ?_
  refine jj_if_ne (q := 12) (tgt := 14) dX9_loadedShare_9 rfl rfl (fun h9 => by exfalso; exact h9 hok) (fun h9 => ?_)
  refine jj_fconst0 (q := 13) dX9_loadedShare_12 rfl ?_
  refine jj_fret dX9_loadedShare_13 rfl (Nat.zero_le _) (Nat.zero_le _) ?_
  exact ⟨rfl, rfl⟩
theorem ex_mloadedShare_ok (hm : hMo T S mo) {c : Nat} (hX : mI X) (hc : mC X = c) {b : Int32} (hok : ¬ mOk A (inI b 0 (A 2 12 - 1)) = 0) : Ex Γ (d + 3) Y_X9_loadedShare [.ref mo, .int b] (T, R, S, blk 18 I mo (st A 4 X), L, D, z) 0 0 (rF (shF (fb_ct (pB X b 10 10) c) (fb_ct (pB X b 0 13) c)) (T, R, S, blk 18 I mo (st (tA A (tI A (inI b 0 (A 2 12 - 1)))) 4 X), L, D, z)) := by
  have hc1 : c ≤ 100 := by have := hX.c.2; omega
  have h1 := fb_ct_le (pB X b 10 10) c
  have h2 := fb_ct_le (pB X b 0 13) c
  refine Ex.of (by decide) (by simp [Value.category]) (Nat.le_of_ble_eq_true rfl) rfl ?_
  refine jj_aload_n (q := 1) dX9_loadedShare_0 rfl rfl rfl ?_
  refine jj_aload_n (q := 2) dX9_loadedShare_1 rfl rfl rfl ?_
  refine jj_iload_n (q := 3) dX9_loadedShare_2 rfl rfl rfl ?_
  refine jj_cV1i (q := 6) dX9_loadedShare_3 yk_X9_isFlight ml_X9_373 hm.t0 (ex_isFlight hm) rfl rfl rfl ⟨Nat.zero_le _, Nat.zero_le _⟩ ?_
  refine jj_cV1i (q := 9) dX9_loadedShare_6 yk_X9_mayAsk ml_X9_353 hm.t0 (ex_mayAsk hm) rfl rfl rfl ⟨Nat.zero_le _, Nat.zero_le _⟩ ?_
  refine jj_if_ne (q := 12) (tgt := 14) dX9_loadedShare_9 rfl rfl (fun h9 => ?_) (fun h9 => by exfalso; exact hok h9)
  refine jj_aload_n (q := 15) dX9_loadedShare_14 rfl rfl rfl ?_
  refine jj_iload_n (q := 16) dX9_loadedShare_15 rfl rfl rfl ?_
  refine jj_iconst (v := 0) (q := 17) dX9_loadedShare_16 rfl rfl ?_
  refine jj_bipush (v := 13) (q := 19) dX9_loadedShare_17 rfl rfl ?_
  refine jj_cV3i (q := 22) dX9_loadedShare_19 yk_X9_bagsOf ml_X9_376 hm.t0 (ex_bagsOf hm hX hc) rfl rfl rfl ⟨Nat.zero_le _, Nat.zero_le _⟩ ?_
  refine jj_istore_n (q := 23) dX9_loadedShare_22 rfl (by decide) rfl ?_
  refine jj_iload_n (q := 24) dX9_loadedShare_23 rfl rfl rfl ?_
  refine jj_if_ne (q := 27) (tgt := 31) dX9_loadedShare_24 rfl rfl (fun h24 => ?_) (fun h24 => ?_)
  · refine jj_aload_n (q := 32) dX9_loadedShare_31 rfl rfl rfl ?_
    refine jj_iload_n (q := 33) dX9_loadedShare_32 rfl rfl rfl ?_
    refine jj_bipush (v := 10) (q := 35) dX9_loadedShare_33 rfl rfl ?_
    refine jj_bipush (v := 10) (q := 37) dX9_loadedShare_35 rfl rfl ?_
    refine jj_cV3i (q := 40) dX9_loadedShare_37 yk_X9_bagsOf ml_X9_376 hm.t0 (ex_bagsOf hm hX hc) rfl rfl rfl ⟨Nat.zero_le _, Nat.zero_le _⟩ ?_
    refine jj_i2f (q := 41) dX9_loadedShare_40 rfl ?_
    refine jj_iload_n (q := 42) dX9_loadedShare_41 rfl rfl rfl ?_
    refine jj_i2f (q := 43) dX9_loadedShare_42 rfl ?_
    refine jj_fdiv (q := 44) dX9_loadedShare_43 (shF_ok (by omega) (by omega) h24) rfl ?_
    refine jj_fret dX9_loadedShare_44 rfl (Nat.zero_le _) (Nat.zero_le _) ?_
    exact ⟨by unfold shF; first | rw [if_pos h24] | rw [if_neg h24], rfl⟩
  · refine jj_fconst0 (q := 28) dX9_loadedShare_27 rfl ?_
    refine jj_goto (tgt := 44) dX9_loadedShare_28 rfl ?_
    refine jj_fret dX9_loadedShare_44 rfl (Nat.zero_le _) (Nat.zero_le _) ?_
    exact ⟨by unfold shF; first | rw [if_pos h24] | rw [if_neg h24], rfl⟩
end M66
section M66c
variable {Γ : Gam} {d : Nat} {T : JT} {R S : JR} {I K P : JI} {L : JL} {D : JD} {z : Option Nat} {xo a p c : Nat} {O : Nat → Int32}
theorem cA_f {r v : UInt32} {M0 M1 : JM} (h : r = v) : cA 0 (some (.float v)) M0 M1 (.inl (some (.float r))) M1 := by subst h; exact ⟨_, rfl, rfl, rfl⟩
theorem ex_loadedShare (hx : cX T R S I xo a p O P) (hc : K 1 0 = nI c) (hc1 : c ≤ 100) {f : Int32} : Ex Γ (d + 8) Y_X8_loadedShare [.ref xo, .int f] (T, R, S, blk 19 I a K, L, D, none) (ec (orE (orE (eAir O) (orE (eIdx f (P 0 6)) 0)) (0))) (es (orE (orE (eAir O) (orE (eIdx f (P 0 6)) 0)) (0))) (cA (orE (orE (eAir O) (orE (eIdx f (P 0 6)) 0)) (0)) (some (.float (shF (fb_ct (pOf K f 10 10) c) (fb_ct (pOf K f 0 13) c)))) (T, R, S, blk 19 I a K, L, D, none) (T, R, S, blk 19 I a K, L, D, none)) := by
  have h1 := fb_ct_le (pOf K f 10 10) c
  have h2 := fb_ct_le (pOf K f 0 13) c
  refine Ex.of (by decide) (by simp [Value.category]) (Nat.le_of_ble_eq_true rfl) rfl ?_
  refine jj_aload_n (q := 1) dX8_loadedShare_0 rfl rfl rfl ?_
  refine jj_iload_n (q := 2) dX8_loadedShare_1 rfl rfl rfl ?_
  refine jj_nV1 (q := 5) dX8_loadedShare_2 yk_X8_needFlight ml_X8_229 hx.t (ex_needFlight hx) rfl rfl rfl rfl (fun g2 => ?_)
  refine jj_aload_n (q := 6) dX8_loadedShare_5 rfl rfl rfl ?_
  refine jj_getS (q := 9) dX8_loadedShare_6 fl_X8_33 hx.t hx.sn rfl rfl rfl ?_
  refine jj_getR (q := 12) dX8_loadedShare_9 fl_X8_95 hx.hs.t0 hx.hs.r0_4 rfl rfl rfl ?_
  refine jj_iload_n (q := 13) dX8_loadedShare_12 rfl rfl rfl ?_
  refine jj_iconst (v := 0) (q := 14) dX8_loadedShare_13 rfl rfl ?_
  refine jj_bipush (v := 13) (q := 16) dX8_loadedShare_14 rfl rfl ?_
  refine jj_cV3i (q := 19) dX8_loadedShare_16 yk_X0_ofFlight ml_X8_238 hx.hs.t1 (ex_ofFlight hx.hs hc hc1) rfl rfl rfl ⟨Nat.zero_le _, Nat.zero_le _⟩ ?_
  refine jj_istore_n (q := 20) dX8_loadedShare_19 rfl (by decide) rfl ?_
  refine jj_iload_n (q := 21) dX8_loadedShare_20 rfl rfl rfl ?_
  refine jj_if_ne (q := 24) (tgt := 28) dX8_loadedShare_21 rfl rfl (fun h21 => ?_) (fun h21 => ?_)
  · refine jj_aload_n (q := 29) dX8_loadedShare_28 rfl rfl rfl ?_
    refine jj_iload_n (q := 30) dX8_loadedShare_29 rfl rfl rfl ?_
    refine jj_cV1i (q := 33) dX8_loadedShare_30 yk_X8_loadedOf ml_X8_245 hx.t (ex_loadedOf hx hc hc1) rfl rfl rfl ⟨Nat.zero_le _, Nat.zero_le _⟩ ?_
    refine jj_i2f (q := 34) dX8_loadedShare_33 rfl ?_
    refine jj_iload_n (q := 35) dX8_loadedShare_34 rfl rfl rfl ?_
    refine jj_i2f (q := 36) dX8_loadedShare_35 rfl ?_
    refine jj_fdiv (q := 37) dX8_loadedShare_36 (shF_ok (by omega) (by omega) h21) rfl ?_
    refine jj_fret dX8_loadedShare_37 rfl (Nat.zero_le _) (Nat.zero_le _) ?_
    exact cA_f (by unfold shF; first | rw [if_pos h21] | rw [if_neg h21])
  · refine jj_fconst0 (q := 25) dX8_loadedShare_24 rfl ?_
    refine jj_goto (tgt := 37) dX8_loadedShare_25 rfl ?_
    refine jj_fret dX8_loadedShare_37 rfl (Nat.zero_le _) (Nat.zero_le _) ?_
    exact cA_f (by unfold shF; first | rw [if_pos h21] | rw [if_neg h21])
end M66c
