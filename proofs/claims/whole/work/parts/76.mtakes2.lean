/-! takes, keyword, look, number, measure of the model -/
def gNu (b : Nat → Nat) (E lo hx : Nat) (r : Res Unit) (G : JV) : JV := gN b E (rLk b E lo hx r) (gLk b E lo hx r G)
def vU (lo : Nat) (r : Res Nat) : Nat := match r with
  | .inl _ => lo
  | .inr x => x.1
theorem rU_Nu {b : Nat → Nat} {E lo hx : Nat} {r : Res Unit} : rU (rNu b E lo hx r) = rN b E (rLk b E lo hx r) := by
  cases r with
  | inl e => rfl
  | inr x =>
    unfold rNu rLk
    dsimp only [Res.bd]
    cases hn : pNum b E lo hx x.2 with
    | inl e => rfl
    | inr y => rw [(pNum_o hn).2.1]; rfl
theorem mSt.nu {b : Nat → Nat} {E lo hx : Nat} {r : Res Unit} {G : JV} (h : mSt b E r G) : mSt b E (rU (rNu b E lo hx r)) (gNu b E lo hx r G) := by
  rw [rU_Nu]
  exact h.lk.n
theorem gLk_o {b : Nat → Nat} {E lo hx j : Nat} {r : Res Unit} {G : JV} (h : j < 4 ∨ 9 < j) : gLk b E lo hx r G j = G j := by
  cases r with
  | inl e => rfl
  | inr x =>
    unfold gLk
    dsimp only
    cases hn : pNum b E lo hx x.2 with
    | inl e => show fG G _ _ j = _; unfold fG; rw [w1_ne (by omega), w1_ne (by omega)]
    | inr y => rfl
theorem gNu_o {b : Nat → Nat} {E lo hx j : Nat} {r : Res Unit} {G : JV} (h : j < 4 ∨ 9 < j) : gNu b E lo hx r G j = G j := (gN_o h).trans (gLk_o h)
theorem gKw_o {b : Nat → Nat} {E j : Nat} {l : List Nat} {r : Res Unit} {G : JV} (h : j < 4 ∨ 9 < j) : gKw b E l r G j = G j := by
  unfold gKw
  split
  · exact gN_o h
  · exact gF_o (by omega)
/-- a word taken if it is here -/
def gTk (b : Nat → Nat) (E : Nat) (l : List Nat) (r : Res Unit) (G : JV) : JV := if rW b E r l = true then gN b E r G else G
def rTk (b : Nat → Nat) (E : Nat) (l : List Nat) (r : Res Unit) : Res Unit := if rW b E r l = true then rN b E r else r
theorem mSt.tk {b : Nat → Nat} {E : Nat} {l : List Nat} {r : Res Unit} {G : JV} (h : mSt b E r G) : mSt b E (rTk b E l r) (gTk b E l r G) := by
  unfold rTk gTk
  split
  · exact h.n
  · exact h
theorem inN {v lo hx : Nat} {h : Int32} (hh : h = nI hx - 1) (hv : v < 2 ^ 30) (hl : lo < 2 ^ 30) (hx2 : hx < 2 ^ 30) : inI (nI v) (nI lo) h = if lo ≤ v ∧ v < hx then 1 else 0 := by
  unfold inI
  by_cases h1 : v < lo
  · rw [if_pos (nI_lt h1 (by omega)), if_neg (by omega)]
  · rw [if_neg (nI_nlt (by omega) (by omega))]
    by_cases h2 : hx ≤ v
    · rw [if_pos (by rw [hh]; exact (pred_lt (by omega) (nI_ltz (by omega))).mpr (nI_le (by omega) (by omega))), if_neg (by omega)]
    · rw [if_neg (fun w => by rw [hh] at w; exact nI_ge (show v < hx by omega) (by omega) ((pred_lt (by omega) (nI_ltz (by omega))).mp w)), if_pos (by omega)]
section M76
variable {Γ : Gam} {d : Nat} {T : JT} {R S : JR} {I A : JI} {L : JL} {D : JD} {z : Option Nat} {mo E : Nat} {G : JV} {b : Nat → Nat} {r : Res Unit}
theorem exM_takes (hm : hMo T S mo) (hb : mB_ A b E) (hs : mSt b E r G) {own tx : String} {i2 : Nat} (hst : Cond.stringRef own i2 tx ∈ lw_tbl) {l : List Nat} (hl : sTx tx = l.map nI) (h128 : ∀ i, i < l.length → l.getD i 0 < 128) (hl8 : l.length ≤ 8) : Ex Γ (d + 5) Y_X9_takes [.ref mo, .ref (Γ.ss own i2)] (T, R, S, blk 18 I mo (st A 0 G), L, D, z) 0 0 (rI (if rW b E r l = true then 1 else 0) (T, R, S, blk 18 I mo (st A 0 (gTk b E l r G)), L, D, z)) := by
  unfold gTk
  by_cases hw : rW b E r l = true
  · have e1 : (if rW b E r l = true then (1 : Int32) else 0) = 1 := if_pos hw
    rw [e1, if_pos hw]
    refine Ex.of (by decide) (by simp [Value.category]) (Nat.le_of_ble_eq_true rfl) rfl ?_
    refine jj_aload_n (q := 1) dX9_takes_0 rfl rfl rfl ?_
    refine jj_aload_n (q := 2) dX9_takes_1 rfl rfl rfl ?_
    refine jj_cV1i (q := 5) dX9_takes_2 yk_X9_isWord ml_X9_130 hm.t0 (exM_word hm hb hs hst hl h128 hl8) rfl rfl rfl ⟨Nat.zero_le _, Nat.zero_le _⟩ ?_
    rw [e1]
    refine jj_istore_n (q := 6) dX9_takes_5 rfl (by decide) rfl ?_
    refine jj_iload_n (q := 7) dX9_takes_6 rfl rfl rfl ?_
    refine jj_if_eq (q := 10) (tgt := 14) dX9_takes_7 rfl rfl (fun h7 => by exfalso; exact absurd h7 (by decide)) (fun h7 => ?_)
    refine jj_aload_n (q := 11) dX9_takes_10 rfl rfl rfl ?_
    refine jj_cV0v (q := 14) dX9_takes_11 yk_X9_nextToken ml_X9_134 hm.t0 (exM_next hm hb hs) rfl rfl rfl ⟨Nat.zero_le _, Nat.zero_le _⟩ ?_
    refine jj_iload_n (q := 15) dX9_takes_14 rfl rfl rfl ?_
    refine jj_zret dX9_takes_15 rfl (by first | rfl | assumption) (Nat.zero_le _) (Nat.zero_le _) ?_
    exact ⟨rfl, rfl⟩
  · have e0 : (if rW b E r l = true then (1 : Int32) else 0) = 0 := if_neg hw
    rw [e0, if_neg hw]
    refine Ex.of (by decide) (by simp [Value.category]) (Nat.le_of_ble_eq_true rfl) rfl ?_
    refine jj_aload_n (q := 1) dX9_takes_0 rfl rfl rfl ?_
    refine jj_aload_n (q := 2) dX9_takes_1 rfl rfl rfl ?_
    refine jj_cV1i (q := 5) dX9_takes_2 yk_X9_isWord ml_X9_130 hm.t0 (exM_word hm hb hs hst hl h128 hl8) rfl rfl rfl ⟨Nat.zero_le _, Nat.zero_le _⟩ ?_
    rw [e0]
    refine jj_istore_n (q := 6) dX9_takes_5 rfl (by decide) rfl ?_
    refine jj_iload_n (q := 7) dX9_takes_6 rfl rfl rfl ?_
    refine jj_if_eq (q := 10) (tgt := 14) dX9_takes_7 rfl rfl (fun h7 => ?_) (fun h7 => absurd (rfl) h7)
    refine jj_iload_n (q := 15) dX9_takes_14 rfl rfl rfl ?_
    refine jj_zret dX9_takes_15 rfl (by first | rfl | assumption) (Nat.zero_le _) (Nat.zero_le _) ?_
    exact ⟨rfl, rfl⟩
theorem exM_keyword (hm : hMo T S mo) (hb : mB_ A b E) (hs : mSt b E r G) {own tx : String} {i2 : Nat} (hst : Cond.stringRef own i2 tx ∈ lw_tbl) {l : List Nat} (hl : sTx tx = l.map nI) (h128 : ∀ i, i < l.length → l.getD i 0 < 128) (hl8 : l.length ≤ 8) : Ex Γ (d + 6) Y_X9_keyword [.ref mo, .ref (Γ.ss own i2)] (T, R, S, blk 18 I mo (st A 0 G), L, D, z) 0 0 (rV (T, R, S, blk 18 I mo (st A 0 (gKw b E l r G)), L, D, z)) := by
  unfold gKw
  by_cases hw : rW b E r l = true
  · have e1 : (if rW b E r l = true then (1 : Int32) else 0) = 1 := if_pos hw
    have e2 : gTk b E l r G = gN b E r G := if_pos hw
    rw [if_pos hw]
    refine Ex.of (by decide) (by simp [Value.category]) (Nat.le_of_ble_eq_true rfl) rfl ?_
    refine jj_aload_n (q := 1) dX9_keyword_0 rfl rfl rfl ?_
    refine jj_aload_n (q := 2) dX9_keyword_1 rfl rfl rfl ?_
    refine jj_cV1i (q := 5) dX9_keyword_2 yk_X9_takes ml_X9_137 hm.t0 (exM_takes hm hb hs hst hl h128 hl8) rfl rfl rfl ⟨Nat.zero_le _, Nat.zero_le _⟩ ?_
    refine jj_if_ne (q := 8) (tgt := 13) dX9_keyword_5 rfl rfl (fun h5 => ?_) (fun h5 => by exfalso; rw [e1] at h5; exact absurd h5 (by decide))
    refine jj_vret dX9_keyword_13 rfl (Nat.zero_le _) (Nat.zero_le _) ?_
    exact ⟨rfl, by rw [e2]⟩
  · rw [if_neg hw]
    have e0 : (if rW b E r l = true then (1 : Int32) else 0) = 0 := if_neg hw
    have e2 : gTk b E l r G = G := if_neg hw
    refine Ex.of (by decide) (by simp [Value.category]) (Nat.le_of_ble_eq_true rfl) rfl ?_
    refine jj_aload_n (q := 1) dX9_keyword_0 rfl rfl rfl ?_
    refine jj_aload_n (q := 2) dX9_keyword_1 rfl rfl rfl ?_
    refine jj_cV1i (q := 5) dX9_keyword_2 yk_X9_takes ml_X9_137 hm.t0 (exM_takes hm hb hs hst hl h128 hl8) rfl rfl rfl ⟨Nat.zero_le _, Nat.zero_le _⟩ ?_
    refine jj_if_ne (q := 8) (tgt := 13) dX9_keyword_5 rfl rfl (fun h5 => by exfalso; exact h5 e0) (fun h5 => ?_)
    rw [e2]
    refine jj_aload_n (q := 9) dX9_keyword_8 rfl rfl rfl ?_
    refine jj_iconst (v := 1) (q := 10) dX9_keyword_9 rfl rfl ?_
    refine jj_cV1v (q := 13) dX9_keyword_10 yk_X9_faults ml_X9_140 hm.t0 (exM_faults (c := 1) hm hb hs) rfl rfl rfl ⟨Nat.zero_le _, Nat.zero_le _⟩ ?_
    refine jj_vret dX9_keyword_13 rfl (Nat.zero_le _) (Nat.zero_le _) ?_
    exact ⟨rfl, rfl⟩
theorem exM_look (hm : hMo T S mo) (hb : mB_ A b E) (hs : mSt b E r G) {lo hx : Nat} {h : Int32} (hh : h = nI hx - 1) (hlb : lo < 2 ^ 30) (hxb : hx < 2 ^ 30) : Ex Γ (d + 1) Y_X9_look [.ref mo, .int (nI lo), .int h] (T, R, S, blk 18 I mo (st A 0 G), L, D, z) 0 0 (rI (nI (vU lo (rNu b E lo hx r))) (T, R, S, blk 18 I mo (st A 0 (gLk b E lo hx r G)), L, D, z)) := by
  cases r with
  | inl e =>
    have hgt := ne0 hs.2.2.2
    show Ex Γ (d + 1) _ _ _ 0 0 (rI (nI lo) (T, R, S, blk 18 I mo (st A 0 G), L, D, z))
    refine Ex.of (by decide) (by simp [Value.category]) (Nat.le_of_ble_eq_true rfl) rfl ?_
    refine jj_aload_n (q := 1) dX9_look_0 rfl rfl rfl ?_
    refine jj_getIw (v := nI e.1) (q := 4) dX9_look_1 fl_X9_92 hm.t0 (by rw [g_rd]; exact hs.2.1) rfl rfl ?_
    refine jj_if_le (q := 7) (tgt := 9) dX9_look_4 rfl rfl (fun h4 => absurd h4 (Int32.not_le.mpr hgt)) (fun h4 => ?_)
    refine jj_iload_n (q := 8) dX9_look_7 rfl rfl rfl ?_
    refine jj_iret dX9_look_8 rfl (Nat.zero_le _) (Nat.zero_le _) ?_
    exact ⟨rfl, rfl⟩
  | inr x =>
    have hk4 := tK_le b E x.2
    have ha := hs.2.2
    have hpn : pNum b E lo hx x.2 = if tK b E x.2 = 2 then (if tV b E x.2 < lo then .inl (2, tS b E x.2) else if tV b E x.2 < hx then .inr (tV b E x.2, tN b E x.2) else .inl (2, tS b E x.2)) else .inl (1, tS b E x.2) := rfl
    unfold rNu gLk
    dsimp only [Res.bd]
    by_cases hk : tK b E x.2 = 2
    · have hkk : mKd (tK b E x.2) = 3 := by rw [hk]; rfl
      have h9 := ha.2.2.2.2.1 hk
      have hv := tV_lt hs.2.1 hk
      rw [if_pos hk] at hpn
      have hin := inN (v := tV b E x.2) hh (by omega) hlb hxb
      by_cases hr : lo ≤ tV b E x.2 ∧ tV b E x.2 < hx
      · rw [if_neg (by omega), if_pos hr.2] at hpn
        rw [if_pos hr] at hin
        rw [hpn]
        refine Ex.of (by decide) (by simp [Value.category]) (Nat.le_of_ble_eq_true rfl) rfl ?_
        refine jj_aload_n (q := 1) dX9_look_0 rfl rfl rfl ?_
        refine jj_getIw (v := 0) (q := 4) dX9_look_1 fl_X9_92 hm.t0 (by rw [g_rd]; exact ha.2.1) rfl rfl ?_
        refine jj_if_le (q := 7) (tgt := 9) dX9_look_4 rfl rfl (fun h4 => ?_) (fun h4 => absurd (by decide) h4)
        refine jj_aload_n (q := 10) dX9_look_9 rfl rfl rfl ?_
        refine jj_getIw (v := nI (mKd (tK b E x.2))) (q := 13) dX9_look_10 fl_X9_108 hm.t0 (by rw [g_rd]; exact ha.2.2.1) rfl rfl ?_
        refine jj_iconst (v := 3) (q := 14) dX9_look_13 rfl rfl ?_
        refine jj_icmp_eq (q := 17) (tgt := 25) dX9_look_14 rfl rfl (fun h14 => ?_) (fun h14 => absurd (by rw [hkk]; rfl) h14)
        refine jj_aload_n (q := 26) dX9_look_25 rfl rfl rfl ?_
        refine jj_getIw (v := nI (tV b E x.2)) (q := 29) dX9_look_26 fl_X9_115 hm.t0 (by rw [g_rd]; exact h9) rfl rfl ?_
        refine jj_iload_n (q := 30) dX9_look_29 rfl rfl rfl ?_
        refine jj_iload_n (q := 31) dX9_look_30 rfl rfl rfl ?_
        refine jj_cS3i (q := 34) dX9_look_31 yk_X9_in ml_X9_111 ex_inI rfl rfl rfl ⟨Nat.zero_le _, Nat.zero_le _⟩ ?_
        refine jj_if_ne (q := 37) (tgt := 42) dX9_look_34 rfl rfl (fun h34 => ?_) (fun h34 => by exfalso; rw [hin] at h34; exact absurd h34 (by decide))
        refine jj_aload_n (q := 43) dX9_look_42 rfl rfl rfl ?_
        refine jj_getIw (v := 0) (q := 46) dX9_look_43 fl_X9_92 hm.t0 (by rw [g_rd]; exact ha.2.1) rfl rfl ?_
        refine jj_if_le (q := 49) (tgt := 53) dX9_look_46 rfl rfl (fun h46 => ?_) (fun h46 => absurd (by decide) h46)
        refine jj_aload_n (q := 54) dX9_look_53 rfl rfl rfl ?_
        refine jj_getIw (v := nI (tV b E x.2)) (q := 57) dX9_look_54 fl_X9_115 hm.t0 (by rw [g_rd]; exact h9) rfl rfl ?_
        refine jj_iret dX9_look_57 rfl (Nat.zero_le _) (Nat.zero_le _) ?_
        exact ⟨rfl, rfl⟩
      · have hpn2 : pNum b E lo hx x.2 = .inl (2, tS b E x.2) := by
          rw [hpn]
          by_cases h1 : tV b E x.2 < lo
          · rw [if_pos h1]
          · rw [if_neg h1, if_neg (by omega)]
        rw [if_neg hr] at hin
        rw [hpn2]
        have hg5 : gF b E 2 (.inr x) G 5 = 2 := by show fG G 2 _ 5 = _; unfold fG; rw [w1_ne (by omega), w1_eq]; rfl
        refine Ex.of (by decide) (by simp [Value.category]) (Nat.le_of_ble_eq_true rfl) rfl ?_
        refine jj_aload_n (q := 1) dX9_look_0 rfl rfl rfl ?_
        refine jj_getIw (v := 0) (q := 4) dX9_look_1 fl_X9_92 hm.t0 (by rw [g_rd]; exact ha.2.1) rfl rfl ?_
        refine jj_if_le (q := 7) (tgt := 9) dX9_look_4 rfl rfl (fun h4 => ?_) (fun h4 => absurd (by decide) h4)
        refine jj_aload_n (q := 10) dX9_look_9 rfl rfl rfl ?_
        refine jj_getIw (v := nI (mKd (tK b E x.2))) (q := 13) dX9_look_10 fl_X9_108 hm.t0 (by rw [g_rd]; exact ha.2.2.1) rfl rfl ?_
        refine jj_iconst (v := 3) (q := 14) dX9_look_13 rfl rfl ?_
        refine jj_icmp_eq (q := 17) (tgt := 25) dX9_look_14 rfl rfl (fun h14 => ?_) (fun h14 => absurd (by rw [hkk]; rfl) h14)
        refine jj_aload_n (q := 26) dX9_look_25 rfl rfl rfl ?_
        refine jj_getIw (v := nI (tV b E x.2)) (q := 29) dX9_look_26 fl_X9_115 hm.t0 (by rw [g_rd]; exact h9) rfl rfl ?_
        refine jj_iload_n (q := 30) dX9_look_29 rfl rfl rfl ?_
        refine jj_iload_n (q := 31) dX9_look_30 rfl rfl rfl ?_
        refine jj_cS3i (q := 34) dX9_look_31 yk_X9_in ml_X9_111 ex_inI rfl rfl rfl ⟨Nat.zero_le _, Nat.zero_le _⟩ ?_
        refine jj_if_ne (q := 37) (tgt := 42) dX9_look_34 rfl rfl (fun h34 => by exfalso; exact h34 hin) (fun h34 => ?_)
        refine jj_aload_n (q := 38) dX9_look_37 rfl rfl rfl ?_
        refine jj_iconst (v := 2) (q := 39) dX9_look_38 rfl rfl ?_
        refine jj_cV1v (q := 42) dX9_look_39 yk_X9_faults ml_X9_140 hm.t0 (exM_faults (c := 2) hm hb hs) rfl rfl rfl ⟨Nat.zero_le _, Nat.zero_le _⟩ ?_
        refine jj_aload_n (q := 43) dX9_look_42 rfl rfl rfl ?_
        refine jj_getIw (v := 2) (q := 46) dX9_look_43 fl_X9_92 hm.t0 (by rw [g_rd]; exact hg5) rfl rfl ?_
        refine jj_if_le (q := 49) (tgt := 53) dX9_look_46 rfl rfl (fun h46 => absurd h46 (by decide)) (fun h46 => ?_)
        refine jj_iload_n (q := 50) dX9_look_49 rfl rfl rfl ?_
        refine jj_goto (tgt := 57) dX9_look_50 rfl ?_
        refine jj_iret dX9_look_57 rfl (Nat.zero_le _) (Nat.zero_le _) ?_
        exact ⟨rfl, rfl⟩
    · have hkk : mKd (tK b E x.2) ≠ 3 ∧ mKd (tK b E x.2) ≤ 5 := by unfold mKd; split <;> omega
      rw [if_neg hk] at hpn
      rw [hpn]
      have hg5 : gF b E 1 (.inr x) G 5 = 1 := by show fG G 1 _ 5 = _; unfold fG; rw [w1_ne (by omega), w1_eq]; rfl
      refine Ex.of (by decide) (by simp [Value.category]) (Nat.le_of_ble_eq_true rfl) rfl ?_
      refine jj_aload_n (q := 1) dX9_look_0 rfl rfl rfl ?_
      refine jj_getIw (v := 0) (q := 4) dX9_look_1 fl_X9_92 hm.t0 (by rw [g_rd]; exact ha.2.1) rfl rfl ?_
      refine jj_if_le (q := 7) (tgt := 9) dX9_look_4 rfl rfl (fun h4 => ?_) (fun h4 => absurd (by decide) h4)
      refine jj_aload_n (q := 10) dX9_look_9 rfl rfl rfl ?_
      refine jj_getIw (v := nI (mKd (tK b E x.2))) (q := 13) dX9_look_10 fl_X9_108 hm.t0 (by rw [g_rd]; exact ha.2.2.1) rfl rfl ?_
      refine jj_iconst (v := 3) (q := 14) dX9_look_13 rfl rfl ?_
      refine jj_icmp_eq (q := 17) (tgt := 25) dX9_look_14 rfl rfl (fun h14 => by exfalso; exact hkk.1 (nI_inj' (by omega) (by omega) h14)) (fun h14 => ?_)
      refine jj_aload_n (q := 18) dX9_look_17 rfl rfl rfl ?_
      refine jj_iconst (v := 1) (q := 19) dX9_look_18 rfl rfl ?_
      refine jj_cV1v (q := 22) dX9_look_19 yk_X9_faults ml_X9_140 hm.t0 (exM_faults (c := 1) hm hb hs) rfl rfl rfl ⟨Nat.zero_le _, Nat.zero_le _⟩ ?_
      refine jj_goto (tgt := 42) dX9_look_22 rfl ?_
      refine jj_aload_n (q := 43) dX9_look_42 rfl rfl rfl ?_
      refine jj_getIw (v := 1) (q := 46) dX9_look_43 fl_X9_92 hm.t0 (by rw [g_rd]; exact hg5) rfl rfl ?_
      refine jj_if_le (q := 49) (tgt := 53) dX9_look_46 rfl rfl (fun h46 => absurd h46 (by decide)) (fun h46 => ?_)
      refine jj_iload_n (q := 50) dX9_look_49 rfl rfl rfl ?_
      refine jj_goto (tgt := 57) dX9_look_50 rfl ?_
      refine jj_iret dX9_look_57 rfl (Nat.zero_le _) (Nat.zero_le _) ?_
      exact ⟨rfl, rfl⟩
theorem exM_number (hm : hMo T S mo) (hb : mB_ A b E) (hs : mSt b E r G) {lo hx : Nat} {h : Int32} (hh : h = nI hx - 1) (hlb : lo < 2 ^ 30) (hxb : hx < 2 ^ 30) : Ex Γ (d + 2) Y_X9_number [.ref mo, .int (nI lo), .int h] (T, R, S, blk 18 I mo (st A 0 G), L, D, z) 0 0 (rI (nI (vU lo (rNu b E lo hx r))) (T, R, S, blk 18 I mo (st A 0 (gNu b E lo hx r G)), L, D, z)) := by
  refine Ex.of (by decide) (by simp [Value.category]) (Nat.le_of_ble_eq_true rfl) rfl ?_
  refine jj_aload_n (q := 1) dX9_number_0 rfl rfl rfl ?_
  refine jj_iload_n (q := 2) dX9_number_1 rfl rfl rfl ?_
  refine jj_iload_n (q := 3) dX9_number_2 rfl rfl rfl ?_
  refine jj_cV2i (q := 6) dX9_number_3 yk_X9_look ml_X9_143 hm.t0 (exM_look hm hb hs hh hlb hxb) rfl rfl rfl ⟨Nat.zero_le _, Nat.zero_le _⟩ ?_
  refine jj_istore_n (q := 7) dX9_number_6 rfl (by decide) rfl ?_
  refine jj_aload_n (q := 8) dX9_number_7 rfl rfl rfl ?_
  refine jj_cV0v (q := 11) dX9_number_8 yk_X9_nextToken ml_X9_134 hm.t0 (exM_next hm hb hs.lk) rfl rfl rfl ⟨Nat.zero_le _, Nat.zero_le _⟩ ?_
  refine jj_iload_n (q := 12) dX9_number_11 rfl rfl rfl ?_
  refine jj_iret dX9_number_12 rfl (Nat.zero_le _) (Nat.zero_le _) ?_
  exact ⟨rfl, rfl⟩
theorem exM_measure (hm : hMo T S mo) (hb : mB_ A b E) (hs : mSt b E r G) {own tx : String} {i2 : Nat} (hst : Cond.stringRef own i2 tx ∈ lw_tbl) {l : List Nat} (hl : sTx tx = l.map nI) (h128 : ∀ i, i < l.length → l.getD i 0 < 128) (hl8 : l.length ≤ 8) {lo hx : Nat} {h : Int32} (hh : h = nI hx - 1) (hlb : lo < 2 ^ 30) (hxb : hx < 2 ^ 30) : Ex Γ (d + 7) Y_X9_measure [.ref mo, .ref (Γ.ss own i2), .int (nI lo), .int h] (T, R, S, blk 18 I mo (st A 0 G), L, D, z) 0 0 (rI (nI (vU lo (rNu b E lo hx (rKw b E l r)))) (T, R, S, blk 18 I mo (st A 0 (gNu b E lo hx (rKw b E l r) (gKw b E l r G))), L, D, z)) := by
  refine Ex.of (by decide) (by simp [Value.category]) (Nat.le_of_ble_eq_true rfl) rfl ?_
  refine jj_aload_n (q := 1) dX9_measure_0 rfl rfl rfl ?_
  refine jj_aload_n (q := 2) dX9_measure_1 rfl rfl rfl ?_
  refine jj_cV1v (q := 5) dX9_measure_2 yk_X9_keyword ml_X9_147 hm.t0 (exM_keyword (d := d) hm hb hs hst hl h128 hl8) rfl rfl rfl ⟨Nat.zero_le _, Nat.zero_le _⟩ ?_
  refine jj_aload_n (q := 6) dX9_measure_5 rfl rfl rfl ?_
  refine jj_iload_n (q := 7) dX9_measure_6 rfl rfl rfl ?_
  refine jj_iload_n (q := 8) dX9_measure_7 rfl rfl rfl ?_
  refine jj_cV2i (q := 11) dX9_measure_8 yk_X9_number ml_X9_151 hm.t0 (exM_number hm hb hs.kw hh hlb hxb) rfl rfl rfl ⟨Nat.zero_le _, Nat.zero_le _⟩ ?_
  refine jj_iret dX9_measure_11 rfl (Nat.zero_le _) (Nat.zero_le _) ?_
  exact ⟨rfl, rfl⟩
end M76
