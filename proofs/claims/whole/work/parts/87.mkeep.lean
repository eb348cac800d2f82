/-! the KEEP line of the model -/
theorem qA_self {A : JI} {N X : JV} (h3 : A 3 = N) (h5 : A 5 = X) : qA A N X = A := by
  funext k
  by_cases e5 : k = 5
  · subst e5; simp [st, h5]
  · by_cases e3 : k = 3
    · subst e3; simp [st, h3]
    · simp [st, e3, e5]
def kpR (b : Nat → Nat) (E kk : Nat) (r : Res Unit) : Res Tst := (rBg b E 3 kk r).bd (fun _ q => pT b E (pU b E 10) q)
def kpP (b : Nat → Nat) (E bq k kk p : Nat) (res : Res Tst) (B : JI) (N : JV) (G : JV) (n : Nat) (A' : JI) (G' : JV) : Prop := ∃ k', k ≤ k' ∧ k' ≤ 621 ∧ G' 26 = nI k' ∧ (∀ j, (j < 3 ∨ 9 < j) → j ≠ 26 → j ≠ 27 → G' j = G j) ∧ mSt b E (rU res) G' ∧ (∀ c, c ≠ 3 → c < 11 ∨ 14 < c → A' c = B c) ∧ (∀ c j, c ≠ 3 → j < nIx bq k ∨ nIx bq 700 ≤ j → A' c j = B c j) ∧ ∀ x, res = .inr x → p ≤ x.2 ∧ 2 * k' ≤ x.2 ∧ nIx bq k ≤ n ∧ n < nIx bq k' ∧ A' 3 = w1 (w1 N (31 + kk) (nI n)) 14 (nI (kk + 1)) ∧ ∀ X c, vN A' X c 11 (nIx bq k) n (x.1 (mAs X c))
section M87
variable {Γ : Gam} {d : Nat} {T : JT} {R S : JR} {I A : JI} {L : JL} {D : JD} {z : Option Nat} {mo E : Nat} {G N X : JV} {b : Nat → Nat} {r : Res Unit}
theorem exM_unitX (hm : hMo T S mo) (hv : hVs Γ R mo) (hb : mB_ A b E) {e : Nat × Nat} (hs : mSt b E (.inl e) G) : Ex Γ (d + 6) Y_X9_unit [.ref mo] (T, R, S, blk 18 I mo (st A 0 G), L, D, z) 0 0 (rI 0 (T, R, S, blk 18 I mo (st A 0 G), L, D, z)) := by
  have hgt := ne0 hs.2.2.2
  refine Ex.of (by decide) (by simp [Value.category]) (Nat.le_of_ble_eq_true rfl) rfl ?_
  refine jj_aload_n (q := 1) dX9_unit_0 rfl rfl rfl ?_
  refine jj_cV0i (q := 4) dX9_unit_1 yk_X9_valueHere ml_X9_189 hm.t0 (exM_value hm hb hs hv) rfl rfl rfl ⟨Nat.zero_le _, Nat.zero_le _⟩ ?_
  refine jj_istore_n (q := 5) dX9_unit_4 rfl (by decide) rfl ?_
  refine jj_iload_n (q := 6) dX9_unit_5 rfl rfl rfl ?_
  refine jj_iconst (v := -1) (q := 7) dX9_unit_6 rfl rfl ?_
  refine jj_icmp_ne (q := 10) (tgt := 33) dX9_unit_7 rfl rfl (fun h7 => by exfalso; exact h7 rfl) (fun h7 => ?_)
  refine jj_aload_n (q := 11) dX9_unit_10 rfl rfl rfl ?_
  refine jj_ldcS (q := 13) dX9_unit_11 ks_X9_192 rfl ?_
  refine jj_cV1i (q := 16) dX9_unit_13 yk_X9_isWord ml_X9_130 hm.t0 (exM_word hm hb hs ks_X9_192 wl_not (by decide) (by decide)) rfl rfl rfl ⟨Nat.zero_le _, Nat.zero_le _⟩ ?_
  refine jj_if_ne (q := 19) (tgt := 33) dX9_unit_16 rfl rfl (fun h16 => by exfalso; exact h16 rfl) (fun h16 => ?_)
  refine jj_aload_n (q := 20) dX9_unit_19 rfl rfl rfl ?_
  refine jj_bipush (v := 40) (q := 22) dX9_unit_20 rfl rfl ?_
  refine jj_cV1i (q := 25) dX9_unit_22 yk_X9_isSignHere ml_X9_194 hm.t0 (exM_sign (c := 40) hm hb hs (by decide)) rfl rfl rfl ⟨Nat.zero_le _, Nat.zero_le _⟩ ?_
  refine jj_if_ne (q := 28) (tgt := 33) dX9_unit_25 rfl rfl (fun h25 => by exfalso; exact h25 rfl) (fun h25 => ?_)
  refine jj_aload_n (q := 29) dX9_unit_28 rfl rfl rfl ?_
  refine jj_iconst (v := 1) (q := 30) dX9_unit_29 rfl rfl ?_
  refine jj_cV1v (q := 33) dX9_unit_30 yk_X9_faults ml_X9_140 hm.t0 (exM_faults (c := 1) hm hb hs) rfl rfl rfl ⟨Nat.zero_le _, Nat.zero_le _⟩ ?_
  refine jj_aload_n (q := 34) dX9_unit_33 rfl rfl rfl ?_
  refine jj_getIv (q := 37) dX9_unit_34 fl_X9_197 hm.t0 g_rd rfl rfl ?_
  refine jj_bipush (v := 9) (q := 39) dX9_unit_37 rfl rfl ?_
  refine jj_icmp_le (q := 42) (tgt := 48) dX9_unit_39 rfl rfl (fun h39 => ?_) (fun h39 => ?_)
  · refine jj_aload_n (q := 49) dX9_unit_48 rfl rfl rfl ?_
    refine jj_getIw (v := nI e.1) (q := 52) dX9_unit_49 fl_X9_92 hm.t0 (by rw [g_rd]; exact hs.2.1) rfl rfl ?_
    refine jj_if_le (q := 55) (tgt := 57) dX9_unit_52 rfl rfl (fun h52 => absurd h52 (Int32.not_le.mpr hgt)) (fun h52 => ?_)
    refine jj_iconst (v := 0) (q := 56) dX9_unit_55 rfl rfl ?_
    refine jj_iret dX9_unit_56 rfl (Nat.zero_le _) (Nat.zero_le _) ?_
    exact ⟨rfl, rfl⟩
  · refine jj_aload_n (q := 43) dX9_unit_42 rfl rfl rfl ?_
    refine jj_bipush (v := 6) (q := 45) dX9_unit_43 rfl rfl ?_
    refine jj_cV1v (q := 48) dX9_unit_45 yk_X9_faults ml_X9_140 hm.t0 (exM_faults (c := 6) hm hb hs) rfl rfl rfl ⟨Nat.zero_le _, Nat.zero_le _⟩ ?_
    refine jj_aload_n (q := 49) dX9_unit_48 rfl rfl rfl ?_
    refine jj_getIw (v := nI e.1) (q := 52) dX9_unit_49 fl_X9_92 hm.t0 (by rw [g_rd]; exact hs.2.1) rfl rfl ?_
    refine jj_if_le (q := 55) (tgt := 57) dX9_unit_52 rfl rfl (fun h52 => absurd h52 (Int32.not_le.mpr hgt)) (fun h52 => ?_)
    refine jj_iconst (v := 0) (q := 56) dX9_unit_55 rfl rfl ?_
    refine jj_iret dX9_unit_56 rfl (Nat.zero_le _) (Nat.zero_le _) ?_
    exact ⟨rfl, rfl⟩
theorem exM_testX (hm : hMo T S mo) (hv : hVs Γ R mo) (hb : mB_ A b E) {e : Nat × Nat} (hs : mSt b E (.inl e) G) : Ex Γ (d + 7) Y_X9_test [.ref mo] (T, R, S, blk 18 I mo (st A 0 G), L, D, z) 0 0 (rI 0 (T, R, S, blk 18 I mo (st A 0 G), L, D, z)) := by
  refine Ex.of (by decide) (by simp [Value.category]) (Nat.le_of_ble_eq_true rfl) rfl ?_
  refine jj_aload_n (q := 1) dX9_test_0 rfl rfl rfl ?_
  refine jj_cV0i (q := 4) dX9_test_1 yk_X9_unit ml_X9_178 hm.t0 (exM_unitX hm hv hb hs) rfl rfl rfl ⟨Nat.zero_le _, Nat.zero_le _⟩ ?_
  refine jj_istore_n (q := 5) dX9_test_4 rfl (by decide) rfl ?_
  refine jj_aload_n (q := 6) dX9_test_5 rfl rfl rfl ?_
  refine jj_ldcS (q := 8) dX9_test_6 ks_X9_181 rfl ?_
  refine jj_cV1i (q := 11) dX9_test_8 yk_X9_isWord ml_X9_130 hm.t0 (exM_word hm hb hs ks_X9_181 wl_and (by decide) (by decide)) rfl rfl rfl ⟨Nat.zero_le _, Nat.zero_le _⟩ ?_
  refine jj_if_ne (q := 14) (tgt := 23) dX9_test_11 rfl rfl (fun h11 => by exfalso; exact h11 rfl) (fun h11 => ?_)
  refine jj_aload_n (q := 15) dX9_test_14 rfl rfl rfl ?_
  refine jj_ldcS (q := 17) dX9_test_15 ks_X9_183 rfl ?_
  refine jj_cV1i (q := 20) dX9_test_17 yk_X9_isWord ml_X9_130 hm.t0 (exM_word hm hb hs ks_X9_183 wl_or (by decide) (by decide)) rfl rfl rfl ⟨Nat.zero_le _, Nat.zero_le _⟩ ?_
  refine jj_if_eq (q := 23) (tgt := 70) dX9_test_20 rfl rfl (fun h20 => ?_) (fun h20 => absurd (rfl) h20)
  refine jj_iload_n (q := 71) dX9_test_70 rfl rfl rfl ?_
  refine jj_iret dX9_test_71 rfl (Nat.zero_le _) (Nat.zero_le _) ?_
  exact ⟨rfl, rfl⟩
theorem exM_keep (hm : hMo T S mo) (hE : E ≤ 1200) (hv : hVs Γ R mo) (hb : mB_ A b E) {bq k kk p : Nat} (hs : mSt b E (.inr ((), p)) G) (h25 : G 25 = nI bq) (hbq : bq ≤ 1) (h26 : G 26 = nI k) (hkp : 2 * k ≤ p) (h14 : N 14 = nI kk) (hk3 : kk ≤ 3) : Ex Γ (d + 40) Y_X9_readKeep [.ref mo] (T, R, S, blk 18 I mo (st (qA A N X) 0 G), L, D, z) 0 0 (rPv (kpP b E bq k kk p (kpR b E kk (.inr ((), p))) (qA A N X) N G) (fun A' G' => (T, R, S, blk 18 I mo (st A' 0 G'), L, D, z))) := by
  have hpE : p ≤ E := hs.2.1
  have hnb := tN_bd (b := b) hpE
  have hsb := hs.bg (most := 3) (n := kk)
  have hsd : mSt b E (rBg b E 3 kk (.inr ((), p))) (w1 (gBg b E 3 kk (.inr ((), p)) G) 27 0) := hsb.w (by omega)
  have go : ∀ j, j < 3 ∨ 9 < j → gBg b E 3 kk (.inr ((), p)) G j = G j := fun j hj => by
    unfold gBg
    rw [gN_o (by omega)]
    split
    · exact gF_o (by omega)
    · rfl
  have hd25 : (w1 (gBg b E 3 kk (.inr ((), p)) G) 27 0) 25 = nI bq := (w1_ne (by omega)).trans ((go 25 (by omega)).trans h25)
  have hd26 : (w1 (gBg b E 3 kk (.inr ((), p)) G) 27 0) 26 = nI k := (w1_ne (by omega)).trans ((go 26 (by omega)).trans h26)
  have dgo : ∀ j, (j < 3 ∨ 9 < j) → j ≠ 26 → j ≠ 27 → (w1 (gBg b E 3 kk (.inr ((), p)) G) 27 0) j = G j := fun j hj h1 h2 => (w1_ne h2).trans (go j hj)
  have e0 : nIx bq k = (1 - bq) * 700 + k := rfl
  have e3 : nIx bq 700 = (1 - bq) * 700 + 700 := rfl
  have hx : ∀ (e : Nat × Nat) (n : Nat) (A2 : JI) (Gb : JV) (v : Int32), (kpR b E kk (.inr ((), p))) = .inl e → mSt b E (.inl e) Gb → kpP b E bq k kk p (kpR b E kk (.inr ((), p))) (qA A N X) N G n A2 Gb → JJ Γ (jj_E Y_X9_readKeep) (jj_Z Γ (rPv (kpP b E bq k kk p (kpR b E kk (.inr ((), p))) (qA A N X) N G) (fun A' G' => (T, R, S, blk 18 I mo (st A' 0 G'), L, D, z))) 0 0) (jj_rm (d + 40) 0 0) 0 0 29 [some (.ref mo), none] [.int v] (T, R, S, blk 18 I mo (st A2 0 Gb), L, D, z) := by
    intro e n A2 Gb v hr hsx hfin
    have hgt := ne0 hsx.2.2.2
    refine jj_istore_n (q := 30) dX9_readKeep_29 rfl (by decide) rfl ?_
    refine jj_aload_n (q := 31) dX9_readKeep_30 rfl rfl rfl ?_
    refine jj_getIw (v := nI e.1) (q := 34) dX9_readKeep_31 fl_X9_92 hm.t0 (by rw [g_rd]; exact hsx.2.1) rfl rfl ?_
    refine jj_if_le (q := 37) (tgt := 38) dX9_readKeep_34 rfl rfl (fun h34 => absurd h34 (Int32.not_le.mpr hgt)) (fun h34 => ?_)
    refine jj_vret dX9_readKeep_37 rfl (Nat.zero_le _) (Nat.zero_le _) ?_
    exact ⟨n, A2, Gb, hfin, rfl, rfl⟩
  have hok : ∀ (s : Nat) (A2 : JI) (Gb : JV) (y : Tst × Nat) (k2 : Nat), (kpR b E kk (.inr ((), p))) = .inr y → k ≤ k2 → k2 ≤ 621 → Gb 26 = nI k2 → (∀ j, (j < 3 ∨ 9 < j) → j ≠ 26 → j ≠ 27 → Gb j = G j) → mSt b E (.inr ((), y.2)) Gb → aTs (qA A N X) A2 (nIx bq k) (nIx bq 700) → (tN b E p ≤ y.2 ∧ 2 * k2 + 0 ≤ y.2 ∧ nIx bq k ≤ s ∧ s < nIx bq k2 ∧ ∀ X c, vN A2 X c 11 (nIx bq k) s (y.1 (mAs X c))) → JJ Γ (jj_E Y_X9_readKeep) (jj_Z Γ (rPv (kpP b E bq k kk p (kpR b E kk (.inr ((), p))) (qA A N X) N G) (fun A' G' => (T, R, S, blk 18 I mo (st A' 0 G'), L, D, z))) 0 0) (jj_rm (d + 40) 0 0) 0 0 29 [some (.ref mo), none] [.int (nI s)] (T, R, S, blk 18 I mo (st A2 0 Gb), L, D, z) := by
    intro s A2 Gb y k2 hr g1 g2 g3 ggo hsx g4 hv2
    have hN : A2 3 = N := (g4.1 3 (by omega)).trans rfl
    have hXX : A2 5 = X := (g4.1 5 (by omega)).trans rfl
    have hkn : kk ≠ 3 := by
      intro e
      unfold kpR rBg at hr
      rw [if_pos e] at hr
      cases hr
    have hfin : kpP b E bq k kk p (kpR b E kk (.inr ((), p))) (qA A N X) N G s (qA A2 (w1 (w1 N (31 + kk) (nI s)) 14 (nI (kk + 1))) X) Gb := by
      refine ⟨k2, g1, g2, g3, ggo, by rw [hr]; exact hsx, fun c hc hc2 => ?_, fun c j hc hj => ?_, fun x hx => ?_⟩
      · rw [← g4.1 c hc2]
        by_cases e5 : c = 5
        · subst e5; simp [st, hXX]
        · simp [st, e5, hc]
      · rw [← g4.2 c j hj]
        by_cases e5 : c = 5
        · subst e5; simp [st, hXX]
        · simp [st, e5, hc]
      · rw [hr] at hx
        cases hx
        refine ⟨by omega, by omega, hv2.2.2.1, hv2.2.2.2.1, by simp [st], fun X' c => ?_⟩
        rw [vN_cg (A' := A2) (by simp [st]) (by simp [st]) (by simp [st]) (by simp [st])]
        exact hv2.2.2.2.2 X' c
    rw [← qA_self hN hXX]
    refine jj_istore_n (q := 30) dX9_readKeep_29 rfl (by decide) rfl ?_
    refine jj_aload_n (q := 31) dX9_readKeep_30 rfl rfl rfl ?_
    refine jj_getIw (v := 0) (q := 34) dX9_readKeep_31 fl_X9_92 hm.t0 (by rw [g_rd]; exact hsx.2.2.2.1) rfl rfl ?_
    refine jj_if_le (q := 37) (tgt := 38) dX9_readKeep_34 rfl rfl (fun h34 => ?_) (fun h34 => absurd (by decide) h34)
    refine jj_aload_n (q := 39) dX9_readKeep_38 rfl rfl rfl ?_
    refine jj_getS (q := 42) dX9_readKeep_39 fl_X9_20 hm.t0 hm.r0_11 rfl rfl rfl ?_
    refine jj_bipush (v := 31) (q := 44) dX9_readKeep_42 rfl rfl ?_
    refine jj_aload_n (q := 45) dX9_readKeep_44 rfl rfl rfl ?_
    refine jj_getS (q := 48) dX9_readKeep_45 fl_X9_20 hm.t0 hm.r0_11 rfl rfl rfl ?_
    refine jj_bipush (v := 14) (q := 50) dX9_readKeep_48 rfl rfl ?_
    refine jj_ialdW (q := 51) (j := 14) (v := nI kk) dX9_readKeep_50 hm.t3 n3_rd rfl (by omega) h14 rfl ?_
    refine jj_iaddN (q := 52) (a := 31) (b := kk) dX9_readKeep_51 rfl rfl rfl ?_
    refine jj_iload_n (q := 53) dX9_readKeep_52 rfl rfl rfl ?_
    refine jj_iastN (q := 54) (j := 31 + kk) dX9_readKeep_53 hm.t3 n3_wr rfl (by omega) rfl ?_
    refine jj_aload_n (q := 55) dX9_readKeep_54 rfl rfl rfl ?_
    refine jj_getS (q := 58) dX9_readKeep_55 fl_X9_20 hm.t0 hm.r0_11 rfl rfl rfl ?_
    refine jj_bipush (v := 14) (q := 60) dX9_readKeep_58 rfl rfl ?_
    refine jj_dup2 (q := 61) dX9_readKeep_60 rfl rfl rfl ?_
    refine jj_ialdW (q := 62) (j := 14) (v := nI kk) dX9_readKeep_61 hm.t3 n3_rd rfl (by omega) (by rw [w1_ne (by omega)]; exact h14) rfl ?_
    refine jj_iconst (v := 1) (q := 63) dX9_readKeep_62 rfl rfl ?_
    refine jj_iaddN (q := 64) (a := kk) (b := 1) dX9_readKeep_63 rfl rfl rfl ?_
    refine jj_iastN (q := 65) (j := 14) dX9_readKeep_64 hm.t3 n3_wr rfl (by omega) rfl ?_
    refine jj_vret dX9_readKeep_65 rfl (Nat.zero_le _) (Nat.zero_le _) ?_
    exact ⟨s, _, _, hfin, rfl, rfl⟩
  have hrest : JJ Γ (jj_E Y_X9_readKeep) (jj_Z Γ (rPv (kpP b E bq k kk p (kpR b E kk (.inr ((), p))) (qA A N X) N G) (fun A' G' => (T, R, S, blk 18 I mo (st A' 0 G'), L, D, z))) 0 0) (jj_rm (d + 40) 0 0) 0 0 16 [some (.ref mo), none] [] (T, R, S, blk 18 I mo (st (qA A N X) 0 (if kk = 3 then gF b E 4 (.inr ((), p)) G else G)), L, D, z) := by
    cases hr : rBg b E 3 kk (.inr ((), p)) with
    | inl e =>
      have ep : (kpR b E kk (.inr ((), p))) = .inl e := by unfold kpR; rw [hr]; rfl
      rw [hr] at hsd
      refine jj_aload_n (q := 17) dX9_readKeep_16 rfl rfl rfl ?_
      refine jj_cV0v (q := 20) dX9_readKeep_17 yk_X9_nextToken ml_X9_134 hm.t0 (exM_next hm hb.q (hs.b0 (most := 3) (n := kk))) rfl rfl rfl ⟨Nat.zero_le _, Nat.zero_le _⟩ ?_
      refine jj_aload_n (q := 21) dX9_readKeep_20 rfl rfl rfl ?_
      refine jj_iconst (v := 0) (q := 22) dX9_readKeep_21 rfl rfl ?_
      refine jj_putIv (q := 25) dX9_readKeep_22 fl_X9_197 hm.t0 g_wr rfl rfl rfl rfl rfl ?_
      refine jj_aload_n (q := 26) dX9_readKeep_25 rfl rfl rfl ?_
      refine jj_cV0i (q := 29) dX9_readKeep_26 yk_X9_test ml_X9_206 hm.t0 (exM_testX hm hv hb.q hsd) rfl rfl rfl ⟨Nat.zero_le _, Nat.zero_le _⟩ ?_
      exact hx e 0 _ _ _ ep hsd ⟨k, Nat.le_refl _, by omega, hd26, dgo, by rw [ep]; exact hsd, fun c _ _ => rfl, fun c j _ _ => rfl, fun x hx => by rw [ep] at hx; cases hx⟩
    | inr y =>
      have hkn := rBg_n hr
      have hy : y = ((), tN b E p) := by
        unfold rBg at hr
        rw [if_neg hkn] at hr
        cases hr; rfl
      subst hy
      have ep : (kpR b E kk (.inr ((), p))) = pT b E (pU b E 10) (tN b E p) := by unfold kpR; rw [hr]; rfl
      rw [hr] at hsd
      have hT := exM_test (Γ := Γ) (T := T) (R := R) (S := S) (I := I) (L := L) (D := D) (z := z) (b := b) hm hE (by omega) (exM_unit hm hE hv 10 (by omega)) d bq k (tN b E p) 0 0 (qA A N X) _ hb.q hsd hd25 hbq hd26 (by omega) w1_eq rfl
      refine jj_aload_n (q := 17) dX9_readKeep_16 rfl rfl rfl ?_
      refine jj_cV0v (q := 20) dX9_readKeep_17 yk_X9_nextToken ml_X9_134 hm.t0 (exM_next hm hb.q (hs.b0 (most := 3) (n := kk))) rfl rfl rfl ⟨Nat.zero_le _, Nat.zero_le _⟩ ?_
      refine jj_aload_n (q := 21) dX9_readKeep_20 rfl rfl rfl ?_
      refine jj_iconst (v := 0) (q := 22) dX9_readKeep_21 rfl rfl ?_
      refine jj_putIv (q := 25) dX9_readKeep_22 fl_X9_197 hm.t0 g_wr rfl rfl rfl rfl rfl ?_
      refine jj_aload_n (q := 26) dX9_readKeep_25 rfl rfl rfl ?_
      refine jj_pV0i (q := 29) dX9_readKeep_26 yk_X9_test ml_X9_206 hm.t0 hT rfl rfl rfl ⟨Nat.zero_le _, Nat.zero_le _⟩ (fun s A2 Gb hu2 => ?_)
      obtain ⟨k2, g1, g2, g3, g4, hg5, g6⟩ := hu2
      have ggo : ∀ j, (j < 3 ∨ 9 < j) → j ≠ 26 → j ≠ 27 → Gb j = G j := fun j hj h1 h2 => (g3.2 j hj h1).trans (dgo j hj h1 h2)
      cases hr2 : pT b E (pU b E 10) (tN b E p) with
      | inl e =>
        rw [hr2] at hg5
        exact hx e s A2 Gb _ (ep.trans hr2) hg5 ⟨k2, g1, by omega, g3.1, ggo, by rw [ep, hr2]; exact hg5, fun c _ hc => g4.1 c hc, fun c j _ hj => g4.2 c j hj, fun x hx => by rw [ep, hr2] at hx; cases hx⟩
      | inr y =>
        rw [hr2] at hg5
        exact hok s A2 Gb y k2 (ep.trans hr2) g1 (by omega) g3.1 ggo hg5 g4 (g6 y hr2)
  refine Ex.of (by decide) (by simp [Value.category]) (Nat.le_of_ble_eq_true rfl) rfl ?_
  refine jj_aload_n (q := 1) dX9_readKeep_0 rfl rfl rfl ?_
  refine jj_getS (q := 4) dX9_readKeep_1 fl_X9_20 hm.t0 hm.r0_11 rfl rfl rfl ?_
  refine jj_bipush (v := 14) (q := 6) dX9_readKeep_4 rfl rfl ?_
  refine jj_ialdW (q := 7) (j := 14) (v := nI kk) dX9_readKeep_6 hm.t3 n3_rd rfl (by omega) h14 rfl ?_
  refine jj_iconst (v := 3) (q := 8) dX9_readKeep_7 rfl rfl ?_
  refine jj_icmp_ne (q := 11) (tgt := 16) dX9_readKeep_8 rfl rfl (fun h8 => ?_) (fun h8 => ?_)
  · rw [if_neg (fun w => h8 (by rw [w]; rfl))] at hrest
    exact hrest
  · refine jj_aload_n (q := 12) dX9_readKeep_11 rfl rfl rfl ?_
    refine jj_iconst (v := 4) (q := 13) dX9_readKeep_12 rfl rfl ?_
    refine jj_cV1v (q := 16) dX9_readKeep_13 yk_X9_faults ml_X9_140 hm.t0 (exM_faults (c := 4) hm hb.q hs) rfl rfl rfl ⟨Nat.zero_le _, Nat.zero_le _⟩ ?_
    rw [if_pos (nI_inj' (a := kk) (b := 3) (by omega) (by omega) h8)] at hrest
    exact hrest
end M87
